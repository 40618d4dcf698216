/-! THE LAW: its cases, its loop (by gen44.py) -/
theorem sc_at {x : Int32} {j : Int} {ln : Nat} (h0 : 0 ≤ x.toInt) (h1 : x.toInt + 7 ≤ (ln : Int)) (hl : ln ≤ 3584) (hj0 : 0 ≤ j) (hj : j ≤ 6) : 0 ≤ (x + Int32.ofInt j).toInt ∧ (x + Int32.ofInt j).toInt < (ln : Int) := by
  have e : (Int32.ofInt j).toInt = j := by
    rcases (by omega : j = 0 ∨ j = 1 ∨ j = 2 ∨ j = 3 ∨ j = 4 ∨ j = 5 ∨ j = 6) with rfl | rfl | rfl | rfl | rfl | rfl | rfl <;> decide
  rw [yadd (by rw [e]; omega) (by rw [e]; omega), e]; omega
theorem x7_of {x : Int32} (h0 : 0 ≤ x.toInt) (h1 : x.toInt ≤ 4000) : (x + Int32.ofInt 7).toInt = x.toInt + 7 := by rw [yadd (by rw [yz_7]; omega) (by rw [yz_7]; omega), yz_7]
theorem x7_k {x : Int32} {K : Nat} (hx : x.toInt = 7 * (K : Int)) (hK : K ≤ 512) : (x + Int32.ofInt 7).toInt = 7 * ((K + 1 : Nat) : Int) := by
  rw [x7_of (by omega) (by omega), hx]; omega
theorem lar1 {K ln : Nat} {x : Int} (hx : x = 7 * (K : Int)) (h1 : x + 7 ≤ (ln : Int)) (hl : ln ≤ 3584) : K + 1 ≤ 512 := by omega
theorem lar2 {K c c1 : Nat} (hc : c ≤ 60 + 790 * K) (h : c1 ≤ c + 790) : c1 ≤ 60 + 790 * (K + 1) := Nat.le_trans h (Nat.le_trans (Nat.add_le_add_right hc 790) (Nat.le_of_eq (by rw [Nat.mul_add, Nat.mul_one, Nat.add_assoc])))
theorem lar3 {K c c1 : Nat} (hc : c ≤ 6754 + 15250 * K) (h : c1 ≤ c + 15250) : c1 ≤ 6754 + 15250 * (K + 1) := Nat.le_trans h (Nat.le_trans (Nat.add_le_add_right hc 15250) (Nat.le_of_eq (by rw [Nat.mul_add, Nat.mul_one, Nat.add_assoc])))
theorem lar4 {K m : Nat} (h : 512 - K < m + 1) (hk : K + 1 ≤ 512) : 512 - (K + 1) < m := by omega
theorem lgc_self (x : Int64) : lg_cmp x x = Int32.ofInt 0 := by
  have h : ¬ x < x := Int64.lt_irrefl
  unfold lg_cmp
  simp only [h, if_false]
  first | rfl | decide | simp
theorem yCI.h36 {I : Nat → Nat → Int32} (h : yCI I) {k : Nat} {x : Int32} : yCI (upd2 I 36 k x) := ⟨h.1, h.2.1, h.2.2.1, h.2.2.2.1, h.2.2.2.2.1, h.2.2.2.2.2.1, h.2.2.2.2.2.2.1, fun j => h.2.2.2.2.2.2.2 j⟩
section YUH
variable {K n ln : Nat} {tg : Nat → yT} {I : Nat → Nat → Int32} {R : Nat → Nat → Value} {c s : Nat} {Q : yQ}
theorem w_hold (hS : ySh n tg R) {x1 x2 x3 : Int32} (hE : ¬ ((0 ≤ x1.toInt ∧ x1.toInt ≤ 4) ∧ (0 ≤ x2.toInt ∧ x2.toInt ≤ 4)) → Q (.inl (some (.int (Int32.ofInt 1)))) (n, tg, I, R) (c + 1) (s + 6)) (hQ : (0 ≤ x1.toInt ∧ x1.toInt ≤ 4) → (0 ≤ x2.toInt ∧ x2.toInt ≤ 4) → ∀ I1 R1, I1 = upd2 I 36 x2.toInt.toNat (yVo (I 36 x2.toInt.toNat) x1 x3) → R1 = upd2 R 93 0 (.long (yBC (I1 36 x2.toInt.toNat)).toInt64) → Q (.inl (some (.int (Int32.ofInt 0)))) (n, tg, I1, R1) c s) : yC 1 [.ref 34, .int x1, .int x2, .int x3, .ref 93] (n, tg, I, R) c s Q := by
  refine y_in (M := xm_L_hold) (ls := [some _, some _, some _, some _, some _, none]) rfl rfl rfl ?_
  refine y_aload rfl rfl ?_
  refine y_aload_n rfl rfl ?_
  refine y_iload_n rfl rfl ?_
  refine y_iload_n rfl rfl ?_
  refine y_iload_n rfl rfl ?_
  refine y_virt rfl rfl rfl rfl rfl (ySh.t hS rfl) (ySh.n hS rfl) ?_
  refine m_hold hS (fun hr_ => ?_) (fun hr1_ hr2_ I_a eI => ?_)
  · refine y_thr rfl j_L_hold_16 ?_
    refine y_astoreR (ls' := [some _, some _, some _, some _, some _, some _]) rfl rfl rfl ?_
    refine y_iconst rfl ?_
    refine y_ireturn rfl rfl rfl ?_
    exact hE hr_
  · refine y_ret1 ?_
    refine y_i2l rfl ?_
    refine y_putR rfl (ySh.t hS rfl) (ySh.n hS rfl) rfl (Nat.le_of_ble_eq_true rfl) rfl rfl ?_
    refine y_goto rfl j_L_hold_20 ?_
    refine y_iconst rfl ?_
    refine y_ireturn rfl rfl rfl ?_
    exact hQ hr1_ hr2_ _ _ eI rfl
theorem lc_0 (hV : yInv K n tg I R ln) (hk6 : K < 600) {x4 : Int32} (hx0 : 0 ≤ x4.toInt) (hx1 : x4.toInt + 7 ≤ (ln : Int)) (hl : ln ≤ 3584) (hN : ∀ n1 tg1 I1 R1 c1 s1, yInv (K + 1) n1 tg1 I1 R1 ln → c1 ≤ c + 790 → s1 ≤ s + 15250 → yW xm_L_law xc_L_law_1673 [some (.ref 33), some (.ref 34), some (.ref 83), some (.ref 93), some (.int x4), none, none] [] (n1, tg1, I1, R1) c1 s1 Q) : yW xm_L_law xc_L_law_200 [some (.ref 33), some (.ref 34), some (.ref 83), some (.ref 93), some (.int x4), none, none] [] (n, tg, I, R) c s Q := by
  have hS := hV.1
  refine y_aload_n rfl rfl ?_
  refine y_aload_n rfl rfl ?_
  refine y_iload rfl rfl ?_
  refine y_iconst rfl ?_
  refine y_iadd rfl ?_
  refine y_iaload rfl hV.2.2.2.2.2 (ySh.n hV.1 rfl) (sc_at hx0 hx1 hl (by decide) (by decide)).1 (sc_at hx0 hx1 hl (by decide) (by decide)).2 ?_
  refine y_aload_n rfl rfl ?_
  refine y_iload rfl rfl ?_
  refine y_iconst rfl ?_
  refine y_iadd rfl ?_
  refine y_iaload rfl hV.2.2.2.2.2 (ySh.n hV.1 rfl) (sc_at hx0 hx1 hl (by decide) (by decide)).1 (sc_at hx0 hx1 hl (by decide) (by decide)).2 ?_
  refine y_aload_n rfl rfl ?_
  refine y_iload rfl rfl ?_
  refine y_iconst rfl ?_
  refine y_iadd rfl ?_
  refine y_iaload rfl hV.2.2.2.2.2 (ySh.n hV.1 rfl) (sc_at hx0 hx1 hl (by decide) (by decide)).1 (sc_at hx0 hx1 hl (by decide) (by decide)).2 ?_
  refine y_if_eq rfl j_L_law_226 (fun h_1 => ?_) (fun h_2 => ?_)
  · refine y_iconst rfl ?_
    refine y_aload_n rfl rfl ?_
    refine y_static rfl rfl rfl rfl rfl ?_
    refine w_hold hS (fun hr_ => ?_) (fun hr1_ hr2_ I_a R_a eI eR => ?_)
    · have e33 : I 33 = I 33 := rfl
      refine y_ret1 ?_
      refine y_istore (ls' := [some _, some _, some _, some _, some _, some _, _]) rfl rfl rfl ?_
      refine y_aload_n rfl rfl ?_
      refine y_aload_n rfl rfl ?_
      refine y_iload rfl rfl ?_
      refine y_iconst rfl ?_
      refine y_iadd rfl ?_
      refine y_iaload rfl hV.2.2.2.2.2 (ySh.n hV.1 rfl) (sc_at hx0 hx1 hl (by decide) (by decide)).1 (sc_at hx0 hx1 hl (by decide) (by decide)).2 ?_
      rw [e33]
      refine y_aload_n rfl rfl ?_
      refine y_iload rfl rfl ?_
      refine y_iconst rfl ?_
      refine y_iadd rfl ?_
      refine y_iaload rfl hV.2.2.2.2.2 (ySh.n hV.1 rfl) (sc_at hx0 hx1 hl (by decide) (by decide)).1 (sc_at hx0 hx1 hl (by decide) (by decide)).2 ?_
      rw [e33]
      refine y_aload_n rfl rfl ?_
      refine y_iload rfl rfl ?_
      refine y_iconst rfl ?_
      refine y_iadd rfl ?_
      refine y_iaload rfl hV.2.2.2.2.2 (ySh.n hV.1 rfl) (sc_at hx0 hx1 hl (by decide) (by decide)).1 (sc_at hx0 hx1 hl (by decide) (by decide)).2 ?_
      rw [e33]
      refine y_if_eq rfl j_L_law_259 (fun h_3 => ?_) (fun h_4 => ?_)
      · refine y_iconst rfl ?_
        refine y_virt rfl rfl rfl rfl rfl (ySh.t hS rfl) (ySh.n hS rfl) ?_
        obtain ⟨r1, r2, r3, r4, r5, r6, r7, r8⟩ := hV.2.2.2.1.1.1.1.1.1.1
        refine yC.keepO [(18, 4, 83), (18, 1, 83), (18, 8, 83)] yLO6 rfl rfl rfl hS ?_
        refine h_hold9 hS hV.2.2.1 hk6 (fun hn_ v n1 tg1 I1 R1 c1 s1 a1 a2 a3 hth hzb hLk_ prf_ hc_b hs_b => ⟨a1, a3.2.1, fun hB_ _ hO_ => ?_⟩) (fun hm1_ hm2_ v n1 tg1 I1 R1 c1 s1 a1 a2 b0 b1 b2 b3 hth b5 b6 hzb hLk_ hHf_ hNw_ hc_b hs_b => ⟨a1, b1, fun hB_ _ hO_ => ?_⟩)
        · have kc34_9 := congrArg Int32.toInt (congrFun (a3.2.2.1 34 (by decide)) 9)
          have kc34_8 := congrArg Int32.toInt (congrFun (a3.2.2.1 34 (by decide)) 8)
          have kc38_0 := congrArg Int32.toInt (congrFun (a3.2.2.1 38 (by decide)) 0)
          have kc40_0 := congrArg Int32.toInt (congrFun (a3.2.2.1 40 (by decide)) 0)
          have kc69_0 := congrArg Int32.toInt (congrFun (a3.2.2.1 69 (by decide)) 0)
          have kc77_0 := congrArg Int32.toInt (congrFun (a3.2.2.1 77 (by decide)) 0)
          have kc48_0 := congrArg Int32.toInt (congrFun (a3.2.2.1 48 (by decide)) 0)
          have kc59_0 := congrArg Int32.toInt (congrFun (a3.2.2.1 59 (by decide)) 0)
          have hB_ : yKeep _ _ I1 := hB_
          obtain ⟨mb0, mb1, mb2, -⟩ := hB_
          have mb0 := congrArg Int32.toInt mb0
          have mb1 := congrArg Int32.toInt mb1
          have mb2 := congrArg Int32.toInt mb2
          obtain ⟨z88, z89, z90, z91, z92⟩ := hzb
          have hrel : yRl I1 := ⟨by omega, by omega, by omega, by omega, by omega, by omega, by omega, by omega⟩
          have hV := hV.kpR a1 a2 a3 (hV.2.2.2.1.rf ⟨yR6.two hV.2.2.2.1.1.1.1 yFu.rf hV.2.2.1 hV.2.2.2.1.1.1.1.1.1.2.1 yLk.rf a3 (hO_.o5.ob45 hV.2.2.1) (hO_.o5.ob5 hV.2.2.1) (hO_.ob6 hV.2.2.1) hLk_ hrel (by omega) (by omega) (by omega) (by omega), hV.2.2.2.1.1.1.2.rf hV.2.2.1 prf_⟩ hV.2.2.1 prf_ (Nat.le_succ K))
          have hS := hV.1
          refine y_ret1 ?_
          refine y_istore (ls' := [some _, some _, some _, some _, some _, some _, some _]) rfl rfl rfl ?_
          refine y_goto rfl j_L_law_1673 ?_
          refine y_fgt (ls := [some _, some _, some _, some _, some _, none, none]) ⟨rfl, rfl, rfl, rfl, rfl, trivial⟩ ?_
          exact hN _ _ _ _ _ _ hV (by omega) (by omega)
        · exact absurd ⟨hm1_, hm2_⟩ hr_
      · refine y_iconst rfl ?_
        refine y_goto rfl j_L_law_260 ?_
        refine y_virt rfl rfl rfl rfl rfl (ySh.t hS rfl) (ySh.n hS rfl) ?_
        obtain ⟨r1, r2, r3, r4, r5, r6, r7, r8⟩ := hV.2.2.2.1.1.1.1.1.1.1
        refine yC.keepO [(18, 4, 83), (18, 1, 83), (18, 8, 83)] yLO6 rfl rfl rfl hS ?_
        refine h_hold9 hS hV.2.2.1 hk6 (fun hn_ v n1 tg1 I1 R1 c1 s1 a1 a2 a3 hth hzb hLk_ prf_ hc_b hs_b => ⟨a1, a3.2.1, fun hB_ _ hO_ => ?_⟩) (fun hm1_ hm2_ v n1 tg1 I1 R1 c1 s1 a1 a2 b0 b1 b2 b3 hth b5 b6 hzb hLk_ hHf_ hNw_ hc_b hs_b => ⟨a1, b1, fun hB_ _ hO_ => ?_⟩)
        · have kc34_9 := congrArg Int32.toInt (congrFun (a3.2.2.1 34 (by decide)) 9)
          have kc34_8 := congrArg Int32.toInt (congrFun (a3.2.2.1 34 (by decide)) 8)
          have kc38_0 := congrArg Int32.toInt (congrFun (a3.2.2.1 38 (by decide)) 0)
          have kc40_0 := congrArg Int32.toInt (congrFun (a3.2.2.1 40 (by decide)) 0)
          have kc69_0 := congrArg Int32.toInt (congrFun (a3.2.2.1 69 (by decide)) 0)
          have kc77_0 := congrArg Int32.toInt (congrFun (a3.2.2.1 77 (by decide)) 0)
          have kc48_0 := congrArg Int32.toInt (congrFun (a3.2.2.1 48 (by decide)) 0)
          have kc59_0 := congrArg Int32.toInt (congrFun (a3.2.2.1 59 (by decide)) 0)
          have hB_ : yKeep _ _ I1 := hB_
          obtain ⟨mb0, mb1, mb2, -⟩ := hB_
          have mb0 := congrArg Int32.toInt mb0
          have mb1 := congrArg Int32.toInt mb1
          have mb2 := congrArg Int32.toInt mb2
          obtain ⟨z88, z89, z90, z91, z92⟩ := hzb
          have hrel : yRl I1 := ⟨by omega, by omega, by omega, by omega, by omega, by omega, by omega, by omega⟩
          have hV := hV.kpR a1 a2 a3 (hV.2.2.2.1.rf ⟨yR6.two hV.2.2.2.1.1.1.1 yFu.rf hV.2.2.1 hV.2.2.2.1.1.1.1.1.1.2.1 yLk.rf a3 (hO_.o5.ob45 hV.2.2.1) (hO_.o5.ob5 hV.2.2.1) (hO_.ob6 hV.2.2.1) hLk_ hrel (by omega) (by omega) (by omega) (by omega), hV.2.2.2.1.1.1.2.rf hV.2.2.1 prf_⟩ hV.2.2.1 prf_ (Nat.le_succ K))
          have hS := hV.1
          refine y_ret1 ?_
          refine y_istore (ls' := [some _, some _, some _, some _, some _, some _, some _]) rfl rfl rfl ?_
          refine y_goto rfl j_L_law_1673 ?_
          refine y_fgt (ls := [some _, some _, some _, some _, some _, none, none]) ⟨rfl, rfl, rfl, rfl, rfl, trivial⟩ ?_
          exact hN _ _ _ _ _ _ hV (by omega) (by omega)
        · exact absurd ⟨hm1_, hm2_⟩ hr_
    · have e33 : I_a 33 = I 33 := by rw [eI]; exact upd2_row (by decide)
      have hS : ySh n tg R_a := by rw [eR]; exact hS.out
      have hRa : yRI K n tg I_a R_a := (hV.2.2.1.cong (I' := I_a) (fun a ha => by rw [eI]; exact upd2_row (by omega))).outR (fun a ha => by rw [eR]; exact upd2_row ha)
      refine y_ret1 ?_
      refine y_istore (ls' := [some _, some _, some _, some _, some _, some _, _]) rfl rfl rfl ?_
      refine y_aload_n rfl rfl ?_
      refine y_aload_n rfl rfl ?_
      refine y_iload rfl rfl ?_
      refine y_iconst rfl ?_
      refine y_iadd rfl ?_
      refine y_iaload rfl hV.2.2.2.2.2 (ySh.n hV.1 rfl) (sc_at hx0 hx1 hl (by decide) (by decide)).1 (sc_at hx0 hx1 hl (by decide) (by decide)).2 ?_
      rw [e33]
      refine y_aload_n rfl rfl ?_
      refine y_iload rfl rfl ?_
      refine y_iconst rfl ?_
      refine y_iadd rfl ?_
      refine y_iaload rfl hV.2.2.2.2.2 (ySh.n hV.1 rfl) (sc_at hx0 hx1 hl (by decide) (by decide)).1 (sc_at hx0 hx1 hl (by decide) (by decide)).2 ?_
      rw [e33]
      refine y_aload_n rfl rfl ?_
      refine y_iload rfl rfl ?_
      refine y_iconst rfl ?_
      refine y_iadd rfl ?_
      refine y_iaload rfl hV.2.2.2.2.2 (ySh.n hV.1 rfl) (sc_at hx0 hx1 hl (by decide) (by decide)).1 (sc_at hx0 hx1 hl (by decide) (by decide)).2 ?_
      rw [e33]
      refine y_if_eq rfl j_L_law_259 (fun h_5 => ?_) (fun h_6 => ?_)
      · refine y_iconst rfl ?_
        refine y_virt rfl rfl rfl rfl rfl (ySh.t hS rfl) (ySh.n hS rfl) ?_
        obtain ⟨r1, r2, r3, r4, r5, r6, r7, r8⟩ := hV.2.2.2.1.1.1.1.1.1.1
        refine yC.keepO [(18, 4, 83), (18, 1, 83), (18, 8, 83)] yLO6 rfl rfl rfl hS ?_
        refine h_hold9 hS hRa hk6 (fun hn_ v n1 tg1 I1 R1 c1 s1 a1 a2 a3 hth hzb hLk_ prf_ hc_b hs_b => ⟨a1, a3.2.1, fun hB_ _ hO_ => ?_⟩) (fun hm1_ hm2_ v n1 tg1 I1 R1 c1 s1 a1 a2 b0 b1 b2 b3 hth b5 b6 hzb hLk_ hHf_ hNw_ hc_b hs_b => ⟨a1, b1, fun hB_ _ hO_ => ?_⟩)
        · exact absurd ⟨hr1_, hr2_⟩ hn_
        · have hz := hV.2.2.1.zl 87 (by decide) (by decide)
          have hHa : ∀ (q : Int) (j : Nat), yHv I_a R_a q j (I_a 87 2).toInt.toNat = yHv I_a R q j (I_a 87 2).toInt.toNat := fun q j => yHv_eq fun i _ => ⟨by rw [eR]; exact yAd_eq (upd2_row (by decide)) (upd2_row (by omega)), rfl⟩
          obtain ⟨hrelH, hbv⟩ := hold_rel hV.2.2.2.1.1.1.1.1.1.2.1 hV.2.2.1 hr1_ hr2_ eI b2 (fun q j => (b5 q j).trans (by first | (rw [hHa]; done) | (exfalso; omega))) b6
          have h94 : 94 ≤ n := hV.1.1
          have hIn : ∀ a, a ≠ 36 → I_a a = I a := fun a ha => by rw [eI]; exact upd2_row ha
          have h3 : True ∧ True ∧ (∀ a, a < 83 → I1 a = I_a a) ∧ True := ⟨trivial, trivial, b2, trivial⟩
          have kc34_9 := congrArg Int32.toInt (congrFun (h3.2.2.1 34 (by decide)) 9)
          have kc34_8 := congrArg Int32.toInt (congrFun (h3.2.2.1 34 (by decide)) 8)
          have kc38_0 := congrArg Int32.toInt (congrFun (h3.2.2.1 38 (by decide)) 0)
          have kc40_0 := congrArg Int32.toInt (congrFun (h3.2.2.1 40 (by decide)) 0)
          have kc69_0 := congrArg Int32.toInt (congrFun (h3.2.2.1 69 (by decide)) 0)
          have kc77_0 := congrArg Int32.toInt (congrFun (h3.2.2.1 77 (by decide)) 0)
          have kc48_0 := congrArg Int32.toInt (congrFun (h3.2.2.1 48 (by decide)) 0)
          have kc59_0 := congrArg Int32.toInt (congrFun (h3.2.2.1 59 (by decide)) 0)
          have hB_ : yKeep _ _ I1 := hB_
          obtain ⟨mb0, mb1, mb2, -⟩ := hB_
          have mb0 := congrArg Int32.toInt mb0
          have mb1 := congrArg Int32.toInt mb1
          have mb2 := congrArg Int32.toInt mb2
          obtain ⟨z88, z89, z90, z91, z92⟩ := hzb
          have ia34_9 := congrArg Int32.toInt (congrFun (hIn 34 (by decide)) 9)
          have ia34_8 := congrArg Int32.toInt (congrFun (hIn 34 (by decide)) 8)
          have ia38_0 := congrArg Int32.toInt (congrFun (hIn 38 (by decide)) 0)
          have ia40_0 := congrArg Int32.toInt (congrFun (hIn 40 (by decide)) 0)
          have ia69_0 := congrArg Int32.toInt (congrFun (hIn 69 (by decide)) 0)
          have ia77_0 := congrArg Int32.toInt (congrFun (hIn 77 (by decide)) 0)
          have ia48_0 := congrArg Int32.toInt (congrFun (hIn 48 (by decide)) 0)
          have ia59_0 := congrArg Int32.toInt (congrFun (hIn 59 (by decide)) 0)
          have ia83_4 := congrArg Int32.toInt (congrFun (hIn 83 (by decide)) 4)
          have ia83_1 := congrArg Int32.toInt (congrFun (hIn 83 (by decide)) 1)
          have ia83_8 := congrArg Int32.toInt (congrFun (hIn 83 (by decide)) 8)
          have ia88_2 := congrArg Int32.toInt (congrFun (hIn 88 (by decide)) 2)
          have ia91_2 := congrArg Int32.toInt (congrFun (hIn 91 (by decide)) 2)
          have ia92_2 := congrArg Int32.toInt (congrFun (hIn 92 (by decide)) 2)
          have ia89_2 := congrArg Int32.toInt (congrFun (hIn 89 (by decide)) 2)
          have ia90_2 := congrArg Int32.toInt (congrFun (hIn 90 (by decide)) 2)
          have hrel : yRl I1 := ⟨by omega, by omega, by omega, by omega, by omega, by omega, by omega, by omega⟩
          have hr4 : yR6 I1 R1 := yR6.hold hV.2.2.2.1.1.1.1 hV.2.2.1 hIn eR b2 (hO_.o5.ob45 hRa) (hO_.o5.ob5 hRa) (hO_.ob6 hRa) hLk_ hrel hrelH (by omega) (by omega) (by omega) (by omega)
          have hf7 : yF7 I1 R1 := hV.2.2.2.1.1.1.2.st hV.2.2.1 (by omega) ((hHf_.2 7 (by decide)).trans (congrFun (hIn 83 (by decide)) 7)) (fun a h1 h2 => (b2 a (by omega)).trans (hIn a (by omega))) (fun l h1 h2 i hi => (hLk_ l h1 h2 i (by rw [hIn l (by omega)]; exact hi)).trans (by rw [eR]; exact yLk.out hV.2.2.1 l h1 h2 i hi)) (fun a h1 h2 h3 => (hHf_.1 a h2 (by omega) (by omega)).trans (hIn a (by omega)))
          have hr8 : yR8 (K + 1) I1 R1 := hV.2.2.2.1.1.hold ⟨hr4, hf7⟩ hV.2.2.1 hIn b2 hHf_ (fun l h1 h2 i hi => (hLk_ l h1 h2 i (by rw [hIn l (by omega)]; exact hi)).trans (by rw [eR]; exact yLk.out hV.2.2.1 l h1 h2 i hi)) (by omega)
          have hp9_ : yP9 I1 R1 := hV.2.2.2.1.2.1.hold ((b2 37 (by decide)).trans (hIn 37 (by decide))) (by rw [b2 34 (by decide), hIn 34 (by decide)]) (fun q d j hd => (hNw_ q d j (by rw [hIn 83 (by decide)]; omega)).trans (yHw_eq9 (fun i hi => ⟨by rw [eR]; exact yLk.out hV.2.2.1 87 (by decide) (by decide) i (by omega), hIn _ (by have hq_ := (hV.2.2.1.l87.2.2.2.2 i (by omega)).2.1; omega)⟩) (by rw [hIn 87 (by decide)])))
          have hpd_ : yPdd I1 := hV.2.2.2.1.2.2.st (by rw [b2 48 (by decide), hIn 48 (by decide)]) ((b2 54 (by decide)).trans (hIn 54 (by decide))) ((b2 55 (by decide)).trans (hIn 55 (by decide)))
          have hV : yInv (K + 1) n1 tg1 I1 R1 ln := ⟨a1, ((by rw [eI]; exact hV.2.1.h36 : yCI I_a)).cong b2, a2, ⟨hr8, hp9_, hpd_⟩, hV.2.2.2.2.1.cong fun a ha => (b2 a (by omega)).trans (hIn a (by omega)), (b1 33 (by omega)).trans hV.2.2.2.2.2⟩
          have hS := hV.1
          refine y_ret1 ?_
          refine y_istore (ls' := [some _, some _, some _, some _, some _, some _, some _]) rfl rfl rfl ?_
          refine y_goto rfl j_L_law_1673 ?_
          refine y_fgt (ls := [some _, some _, some _, some _, some _, none, none]) ⟨rfl, rfl, rfl, rfl, rfl, trivial⟩ ?_
          exact hN _ _ _ _ _ _ hV (by omega) (by omega)
      · refine y_iconst rfl ?_
        refine y_goto rfl j_L_law_260 ?_
        refine y_virt rfl rfl rfl rfl rfl (ySh.t hS rfl) (ySh.n hS rfl) ?_
        obtain ⟨r1, r2, r3, r4, r5, r6, r7, r8⟩ := hV.2.2.2.1.1.1.1.1.1.1
        refine yC.keepO [(18, 4, 83), (18, 1, 83), (18, 8, 83)] yLO6 rfl rfl rfl hS ?_
        refine h_hold9 hS hRa hk6 (fun hn_ v n1 tg1 I1 R1 c1 s1 a1 a2 a3 hth hzb hLk_ prf_ hc_b hs_b => ⟨a1, a3.2.1, fun hB_ _ hO_ => ?_⟩) (fun hm1_ hm2_ v n1 tg1 I1 R1 c1 s1 a1 a2 b0 b1 b2 b3 hth b5 b6 hzb hLk_ hHf_ hNw_ hc_b hs_b => ⟨a1, b1, fun hB_ _ hO_ => ?_⟩)
        · exact absurd ⟨hr1_, hr2_⟩ hn_
        · have hz := hV.2.2.1.zl 87 (by decide) (by decide)
          have hHa : ∀ (q : Int) (j : Nat), yHv I_a R_a q j (I_a 87 2).toInt.toNat = yHv I_a R q j (I_a 87 2).toInt.toNat := fun q j => yHv_eq fun i _ => ⟨by rw [eR]; exact yAd_eq (upd2_row (by decide)) (upd2_row (by omega)), rfl⟩
          obtain ⟨hrelH, hbv⟩ := hold_rel hV.2.2.2.1.1.1.1.1.1.2.1 hV.2.2.1 hr1_ hr2_ eI b2 (fun q j => (b5 q j).trans (by first | (rw [hHa]; done) | (exfalso; omega))) b6
          have h94 : 94 ≤ n := hV.1.1
          have hIn : ∀ a, a ≠ 36 → I_a a = I a := fun a ha => by rw [eI]; exact upd2_row ha
          have h3 : True ∧ True ∧ (∀ a, a < 83 → I1 a = I_a a) ∧ True := ⟨trivial, trivial, b2, trivial⟩
          have kc34_9 := congrArg Int32.toInt (congrFun (h3.2.2.1 34 (by decide)) 9)
          have kc34_8 := congrArg Int32.toInt (congrFun (h3.2.2.1 34 (by decide)) 8)
          have kc38_0 := congrArg Int32.toInt (congrFun (h3.2.2.1 38 (by decide)) 0)
          have kc40_0 := congrArg Int32.toInt (congrFun (h3.2.2.1 40 (by decide)) 0)
          have kc69_0 := congrArg Int32.toInt (congrFun (h3.2.2.1 69 (by decide)) 0)
          have kc77_0 := congrArg Int32.toInt (congrFun (h3.2.2.1 77 (by decide)) 0)
          have kc48_0 := congrArg Int32.toInt (congrFun (h3.2.2.1 48 (by decide)) 0)
          have kc59_0 := congrArg Int32.toInt (congrFun (h3.2.2.1 59 (by decide)) 0)
          have hB_ : yKeep _ _ I1 := hB_
          obtain ⟨mb0, mb1, mb2, -⟩ := hB_
          have mb0 := congrArg Int32.toInt mb0
          have mb1 := congrArg Int32.toInt mb1
          have mb2 := congrArg Int32.toInt mb2
          obtain ⟨z88, z89, z90, z91, z92⟩ := hzb
          have ia34_9 := congrArg Int32.toInt (congrFun (hIn 34 (by decide)) 9)
          have ia34_8 := congrArg Int32.toInt (congrFun (hIn 34 (by decide)) 8)
          have ia38_0 := congrArg Int32.toInt (congrFun (hIn 38 (by decide)) 0)
          have ia40_0 := congrArg Int32.toInt (congrFun (hIn 40 (by decide)) 0)
          have ia69_0 := congrArg Int32.toInt (congrFun (hIn 69 (by decide)) 0)
          have ia77_0 := congrArg Int32.toInt (congrFun (hIn 77 (by decide)) 0)
          have ia48_0 := congrArg Int32.toInt (congrFun (hIn 48 (by decide)) 0)
          have ia59_0 := congrArg Int32.toInt (congrFun (hIn 59 (by decide)) 0)
          have ia83_4 := congrArg Int32.toInt (congrFun (hIn 83 (by decide)) 4)
          have ia83_1 := congrArg Int32.toInt (congrFun (hIn 83 (by decide)) 1)
          have ia83_8 := congrArg Int32.toInt (congrFun (hIn 83 (by decide)) 8)
          have ia88_2 := congrArg Int32.toInt (congrFun (hIn 88 (by decide)) 2)
          have ia91_2 := congrArg Int32.toInt (congrFun (hIn 91 (by decide)) 2)
          have ia92_2 := congrArg Int32.toInt (congrFun (hIn 92 (by decide)) 2)
          have ia89_2 := congrArg Int32.toInt (congrFun (hIn 89 (by decide)) 2)
          have ia90_2 := congrArg Int32.toInt (congrFun (hIn 90 (by decide)) 2)
          have hrel : yRl I1 := ⟨by omega, by omega, by omega, by omega, by omega, by omega, by omega, by omega⟩
          have hr4 : yR6 I1 R1 := yR6.hold hV.2.2.2.1.1.1.1 hV.2.2.1 hIn eR b2 (hO_.o5.ob45 hRa) (hO_.o5.ob5 hRa) (hO_.ob6 hRa) hLk_ hrel hrelH (by omega) (by omega) (by omega) (by omega)
          have hf7 : yF7 I1 R1 := hV.2.2.2.1.1.1.2.st hV.2.2.1 (by omega) ((hHf_.2 7 (by decide)).trans (congrFun (hIn 83 (by decide)) 7)) (fun a h1 h2 => (b2 a (by omega)).trans (hIn a (by omega))) (fun l h1 h2 i hi => (hLk_ l h1 h2 i (by rw [hIn l (by omega)]; exact hi)).trans (by rw [eR]; exact yLk.out hV.2.2.1 l h1 h2 i hi)) (fun a h1 h2 h3 => (hHf_.1 a h2 (by omega) (by omega)).trans (hIn a (by omega)))
          have hr8 : yR8 (K + 1) I1 R1 := hV.2.2.2.1.1.hold ⟨hr4, hf7⟩ hV.2.2.1 hIn b2 hHf_ (fun l h1 h2 i hi => (hLk_ l h1 h2 i (by rw [hIn l (by omega)]; exact hi)).trans (by rw [eR]; exact yLk.out hV.2.2.1 l h1 h2 i hi)) (by omega)
          have hp9_ : yP9 I1 R1 := hV.2.2.2.1.2.1.hold ((b2 37 (by decide)).trans (hIn 37 (by decide))) (by rw [b2 34 (by decide), hIn 34 (by decide)]) (fun q d j hd => (hNw_ q d j (by rw [hIn 83 (by decide)]; omega)).trans (yHw_eq9 (fun i hi => ⟨by rw [eR]; exact yLk.out hV.2.2.1 87 (by decide) (by decide) i (by omega), hIn _ (by have hq_ := (hV.2.2.1.l87.2.2.2.2 i (by omega)).2.1; omega)⟩) (by rw [hIn 87 (by decide)])))
          have hpd_ : yPdd I1 := hV.2.2.2.1.2.2.st (by rw [b2 48 (by decide), hIn 48 (by decide)]) ((b2 54 (by decide)).trans (hIn 54 (by decide))) ((b2 55 (by decide)).trans (hIn 55 (by decide)))
          have hV : yInv (K + 1) n1 tg1 I1 R1 ln := ⟨a1, ((by rw [eI]; exact hV.2.1.h36 : yCI I_a)).cong b2, a2, ⟨hr8, hp9_, hpd_⟩, hV.2.2.2.2.1.cong fun a ha => (b2 a (by omega)).trans (hIn a (by omega)), (b1 33 (by omega)).trans hV.2.2.2.2.2⟩
          have hS := hV.1
          refine y_ret1 ?_
          refine y_istore (ls' := [some _, some _, some _, some _, some _, some _, some _]) rfl rfl rfl ?_
          refine y_goto rfl j_L_law_1673 ?_
          refine y_fgt (ls := [some _, some _, some _, some _, some _, none, none]) ⟨rfl, rfl, rfl, rfl, rfl, trivial⟩ ?_
          exact hN _ _ _ _ _ _ hV (by omega) (by omega)
  · refine y_iconst rfl ?_
    refine y_goto rfl j_L_law_227 ?_
    refine y_aload_n rfl rfl ?_
    refine y_static rfl rfl rfl rfl rfl ?_
    refine w_hold hS (fun hr_ => ?_) (fun hr1_ hr2_ I_a R_a eI eR => ?_)
    · have e33 : I 33 = I 33 := rfl
      refine y_ret1 ?_
      refine y_istore (ls' := [some _, some _, some _, some _, some _, some _, _]) rfl rfl rfl ?_
      refine y_aload_n rfl rfl ?_
      refine y_aload_n rfl rfl ?_
      refine y_iload rfl rfl ?_
      refine y_iconst rfl ?_
      refine y_iadd rfl ?_
      refine y_iaload rfl hV.2.2.2.2.2 (ySh.n hV.1 rfl) (sc_at hx0 hx1 hl (by decide) (by decide)).1 (sc_at hx0 hx1 hl (by decide) (by decide)).2 ?_
      rw [e33]
      refine y_aload_n rfl rfl ?_
      refine y_iload rfl rfl ?_
      refine y_iconst rfl ?_
      refine y_iadd rfl ?_
      refine y_iaload rfl hV.2.2.2.2.2 (ySh.n hV.1 rfl) (sc_at hx0 hx1 hl (by decide) (by decide)).1 (sc_at hx0 hx1 hl (by decide) (by decide)).2 ?_
      rw [e33]
      refine y_aload_n rfl rfl ?_
      refine y_iload rfl rfl ?_
      refine y_iconst rfl ?_
      refine y_iadd rfl ?_
      refine y_iaload rfl hV.2.2.2.2.2 (ySh.n hV.1 rfl) (sc_at hx0 hx1 hl (by decide) (by decide)).1 (sc_at hx0 hx1 hl (by decide) (by decide)).2 ?_
      rw [e33]
      refine y_if_eq rfl j_L_law_259 (fun h_7 => ?_) (fun h_8 => ?_)
      · refine y_iconst rfl ?_
        refine y_virt rfl rfl rfl rfl rfl (ySh.t hS rfl) (ySh.n hS rfl) ?_
        obtain ⟨r1, r2, r3, r4, r5, r6, r7, r8⟩ := hV.2.2.2.1.1.1.1.1.1.1
        refine yC.keepO [(18, 4, 83), (18, 1, 83), (18, 8, 83)] yLO6 rfl rfl rfl hS ?_
        refine h_hold9 hS hV.2.2.1 hk6 (fun hn_ v n1 tg1 I1 R1 c1 s1 a1 a2 a3 hth hzb hLk_ prf_ hc_b hs_b => ⟨a1, a3.2.1, fun hB_ _ hO_ => ?_⟩) (fun hm1_ hm2_ v n1 tg1 I1 R1 c1 s1 a1 a2 b0 b1 b2 b3 hth b5 b6 hzb hLk_ hHf_ hNw_ hc_b hs_b => ⟨a1, b1, fun hB_ _ hO_ => ?_⟩)
        · have kc34_9 := congrArg Int32.toInt (congrFun (a3.2.2.1 34 (by decide)) 9)
          have kc34_8 := congrArg Int32.toInt (congrFun (a3.2.2.1 34 (by decide)) 8)
          have kc38_0 := congrArg Int32.toInt (congrFun (a3.2.2.1 38 (by decide)) 0)
          have kc40_0 := congrArg Int32.toInt (congrFun (a3.2.2.1 40 (by decide)) 0)
          have kc69_0 := congrArg Int32.toInt (congrFun (a3.2.2.1 69 (by decide)) 0)
          have kc77_0 := congrArg Int32.toInt (congrFun (a3.2.2.1 77 (by decide)) 0)
          have kc48_0 := congrArg Int32.toInt (congrFun (a3.2.2.1 48 (by decide)) 0)
          have kc59_0 := congrArg Int32.toInt (congrFun (a3.2.2.1 59 (by decide)) 0)
          have hB_ : yKeep _ _ I1 := hB_
          obtain ⟨mb0, mb1, mb2, -⟩ := hB_
          have mb0 := congrArg Int32.toInt mb0
          have mb1 := congrArg Int32.toInt mb1
          have mb2 := congrArg Int32.toInt mb2
          obtain ⟨z88, z89, z90, z91, z92⟩ := hzb
          have hrel : yRl I1 := ⟨by omega, by omega, by omega, by omega, by omega, by omega, by omega, by omega⟩
          have hV := hV.kpR a1 a2 a3 (hV.2.2.2.1.rf ⟨yR6.two hV.2.2.2.1.1.1.1 yFu.rf hV.2.2.1 hV.2.2.2.1.1.1.1.1.1.2.1 yLk.rf a3 (hO_.o5.ob45 hV.2.2.1) (hO_.o5.ob5 hV.2.2.1) (hO_.ob6 hV.2.2.1) hLk_ hrel (by omega) (by omega) (by omega) (by omega), hV.2.2.2.1.1.1.2.rf hV.2.2.1 prf_⟩ hV.2.2.1 prf_ (Nat.le_succ K))
          have hS := hV.1
          refine y_ret1 ?_
          refine y_istore (ls' := [some _, some _, some _, some _, some _, some _, some _]) rfl rfl rfl ?_
          refine y_goto rfl j_L_law_1673 ?_
          refine y_fgt (ls := [some _, some _, some _, some _, some _, none, none]) ⟨rfl, rfl, rfl, rfl, rfl, trivial⟩ ?_
          exact hN _ _ _ _ _ _ hV (by omega) (by omega)
        · exact absurd ⟨hm1_, hm2_⟩ hr_
      · refine y_iconst rfl ?_
        refine y_goto rfl j_L_law_260 ?_
        refine y_virt rfl rfl rfl rfl rfl (ySh.t hS rfl) (ySh.n hS rfl) ?_
        obtain ⟨r1, r2, r3, r4, r5, r6, r7, r8⟩ := hV.2.2.2.1.1.1.1.1.1.1
        refine yC.keepO [(18, 4, 83), (18, 1, 83), (18, 8, 83)] yLO6 rfl rfl rfl hS ?_
        refine h_hold9 hS hV.2.2.1 hk6 (fun hn_ v n1 tg1 I1 R1 c1 s1 a1 a2 a3 hth hzb hLk_ prf_ hc_b hs_b => ⟨a1, a3.2.1, fun hB_ _ hO_ => ?_⟩) (fun hm1_ hm2_ v n1 tg1 I1 R1 c1 s1 a1 a2 b0 b1 b2 b3 hth b5 b6 hzb hLk_ hHf_ hNw_ hc_b hs_b => ⟨a1, b1, fun hB_ _ hO_ => ?_⟩)
        · have kc34_9 := congrArg Int32.toInt (congrFun (a3.2.2.1 34 (by decide)) 9)
          have kc34_8 := congrArg Int32.toInt (congrFun (a3.2.2.1 34 (by decide)) 8)
          have kc38_0 := congrArg Int32.toInt (congrFun (a3.2.2.1 38 (by decide)) 0)
          have kc40_0 := congrArg Int32.toInt (congrFun (a3.2.2.1 40 (by decide)) 0)
          have kc69_0 := congrArg Int32.toInt (congrFun (a3.2.2.1 69 (by decide)) 0)
          have kc77_0 := congrArg Int32.toInt (congrFun (a3.2.2.1 77 (by decide)) 0)
          have kc48_0 := congrArg Int32.toInt (congrFun (a3.2.2.1 48 (by decide)) 0)
          have kc59_0 := congrArg Int32.toInt (congrFun (a3.2.2.1 59 (by decide)) 0)
          have hB_ : yKeep _ _ I1 := hB_
          obtain ⟨mb0, mb1, mb2, -⟩ := hB_
          have mb0 := congrArg Int32.toInt mb0
          have mb1 := congrArg Int32.toInt mb1
          have mb2 := congrArg Int32.toInt mb2
          obtain ⟨z88, z89, z90, z91, z92⟩ := hzb
          have hrel : yRl I1 := ⟨by omega, by omega, by omega, by omega, by omega, by omega, by omega, by omega⟩
          have hV := hV.kpR a1 a2 a3 (hV.2.2.2.1.rf ⟨yR6.two hV.2.2.2.1.1.1.1 yFu.rf hV.2.2.1 hV.2.2.2.1.1.1.1.1.1.2.1 yLk.rf a3 (hO_.o5.ob45 hV.2.2.1) (hO_.o5.ob5 hV.2.2.1) (hO_.ob6 hV.2.2.1) hLk_ hrel (by omega) (by omega) (by omega) (by omega), hV.2.2.2.1.1.1.2.rf hV.2.2.1 prf_⟩ hV.2.2.1 prf_ (Nat.le_succ K))
          have hS := hV.1
          refine y_ret1 ?_
          refine y_istore (ls' := [some _, some _, some _, some _, some _, some _, some _]) rfl rfl rfl ?_
          refine y_goto rfl j_L_law_1673 ?_
          refine y_fgt (ls := [some _, some _, some _, some _, some _, none, none]) ⟨rfl, rfl, rfl, rfl, rfl, trivial⟩ ?_
          exact hN _ _ _ _ _ _ hV (by omega) (by omega)
        · exact absurd ⟨hm1_, hm2_⟩ hr_
    · have e33 : I_a 33 = I 33 := by rw [eI]; exact upd2_row (by decide)
      have hS : ySh n tg R_a := by rw [eR]; exact hS.out
      have hRa : yRI K n tg I_a R_a := (hV.2.2.1.cong (I' := I_a) (fun a ha => by rw [eI]; exact upd2_row (by omega))).outR (fun a ha => by rw [eR]; exact upd2_row ha)
      refine y_ret1 ?_
      refine y_istore (ls' := [some _, some _, some _, some _, some _, some _, _]) rfl rfl rfl ?_
      refine y_aload_n rfl rfl ?_
      refine y_aload_n rfl rfl ?_
      refine y_iload rfl rfl ?_
      refine y_iconst rfl ?_
      refine y_iadd rfl ?_
      refine y_iaload rfl hV.2.2.2.2.2 (ySh.n hV.1 rfl) (sc_at hx0 hx1 hl (by decide) (by decide)).1 (sc_at hx0 hx1 hl (by decide) (by decide)).2 ?_
      rw [e33]
      refine y_aload_n rfl rfl ?_
      refine y_iload rfl rfl ?_
      refine y_iconst rfl ?_
      refine y_iadd rfl ?_
      refine y_iaload rfl hV.2.2.2.2.2 (ySh.n hV.1 rfl) (sc_at hx0 hx1 hl (by decide) (by decide)).1 (sc_at hx0 hx1 hl (by decide) (by decide)).2 ?_
      rw [e33]
      refine y_aload_n rfl rfl ?_
      refine y_iload rfl rfl ?_
      refine y_iconst rfl ?_
      refine y_iadd rfl ?_
      refine y_iaload rfl hV.2.2.2.2.2 (ySh.n hV.1 rfl) (sc_at hx0 hx1 hl (by decide) (by decide)).1 (sc_at hx0 hx1 hl (by decide) (by decide)).2 ?_
      rw [e33]
      refine y_if_eq rfl j_L_law_259 (fun h_9 => ?_) (fun h_10 => ?_)
      · refine y_iconst rfl ?_
        refine y_virt rfl rfl rfl rfl rfl (ySh.t hS rfl) (ySh.n hS rfl) ?_
        obtain ⟨r1, r2, r3, r4, r5, r6, r7, r8⟩ := hV.2.2.2.1.1.1.1.1.1.1
        refine yC.keepO [(18, 4, 83), (18, 1, 83), (18, 8, 83)] yLO6 rfl rfl rfl hS ?_
        refine h_hold9 hS hRa hk6 (fun hn_ v n1 tg1 I1 R1 c1 s1 a1 a2 a3 hth hzb hLk_ prf_ hc_b hs_b => ⟨a1, a3.2.1, fun hB_ _ hO_ => ?_⟩) (fun hm1_ hm2_ v n1 tg1 I1 R1 c1 s1 a1 a2 b0 b1 b2 b3 hth b5 b6 hzb hLk_ hHf_ hNw_ hc_b hs_b => ⟨a1, b1, fun hB_ _ hO_ => ?_⟩)
        · exact absurd ⟨hr1_, hr2_⟩ hn_
        · have hz := hV.2.2.1.zl 87 (by decide) (by decide)
          have hHa : ∀ (q : Int) (j : Nat), yHv I_a R_a q j (I_a 87 2).toInt.toNat = yHv I_a R q j (I_a 87 2).toInt.toNat := fun q j => yHv_eq fun i _ => ⟨by rw [eR]; exact yAd_eq (upd2_row (by decide)) (upd2_row (by omega)), rfl⟩
          obtain ⟨hrelH, hbv⟩ := hold_rel hV.2.2.2.1.1.1.1.1.1.2.1 hV.2.2.1 hr1_ hr2_ eI b2 (fun q j => (b5 q j).trans (by first | (rw [hHa]; done) | (exfalso; omega))) b6
          have h94 : 94 ≤ n := hV.1.1
          have hIn : ∀ a, a ≠ 36 → I_a a = I a := fun a ha => by rw [eI]; exact upd2_row ha
          have h3 : True ∧ True ∧ (∀ a, a < 83 → I1 a = I_a a) ∧ True := ⟨trivial, trivial, b2, trivial⟩
          have kc34_9 := congrArg Int32.toInt (congrFun (h3.2.2.1 34 (by decide)) 9)
          have kc34_8 := congrArg Int32.toInt (congrFun (h3.2.2.1 34 (by decide)) 8)
          have kc38_0 := congrArg Int32.toInt (congrFun (h3.2.2.1 38 (by decide)) 0)
          have kc40_0 := congrArg Int32.toInt (congrFun (h3.2.2.1 40 (by decide)) 0)
          have kc69_0 := congrArg Int32.toInt (congrFun (h3.2.2.1 69 (by decide)) 0)
          have kc77_0 := congrArg Int32.toInt (congrFun (h3.2.2.1 77 (by decide)) 0)
          have kc48_0 := congrArg Int32.toInt (congrFun (h3.2.2.1 48 (by decide)) 0)
          have kc59_0 := congrArg Int32.toInt (congrFun (h3.2.2.1 59 (by decide)) 0)
          have hB_ : yKeep _ _ I1 := hB_
          obtain ⟨mb0, mb1, mb2, -⟩ := hB_
          have mb0 := congrArg Int32.toInt mb0
          have mb1 := congrArg Int32.toInt mb1
          have mb2 := congrArg Int32.toInt mb2
          obtain ⟨z88, z89, z90, z91, z92⟩ := hzb
          have ia34_9 := congrArg Int32.toInt (congrFun (hIn 34 (by decide)) 9)
          have ia34_8 := congrArg Int32.toInt (congrFun (hIn 34 (by decide)) 8)
          have ia38_0 := congrArg Int32.toInt (congrFun (hIn 38 (by decide)) 0)
          have ia40_0 := congrArg Int32.toInt (congrFun (hIn 40 (by decide)) 0)
          have ia69_0 := congrArg Int32.toInt (congrFun (hIn 69 (by decide)) 0)
          have ia77_0 := congrArg Int32.toInt (congrFun (hIn 77 (by decide)) 0)
          have ia48_0 := congrArg Int32.toInt (congrFun (hIn 48 (by decide)) 0)
          have ia59_0 := congrArg Int32.toInt (congrFun (hIn 59 (by decide)) 0)
          have ia83_4 := congrArg Int32.toInt (congrFun (hIn 83 (by decide)) 4)
          have ia83_1 := congrArg Int32.toInt (congrFun (hIn 83 (by decide)) 1)
          have ia83_8 := congrArg Int32.toInt (congrFun (hIn 83 (by decide)) 8)
          have ia88_2 := congrArg Int32.toInt (congrFun (hIn 88 (by decide)) 2)
          have ia91_2 := congrArg Int32.toInt (congrFun (hIn 91 (by decide)) 2)
          have ia92_2 := congrArg Int32.toInt (congrFun (hIn 92 (by decide)) 2)
          have ia89_2 := congrArg Int32.toInt (congrFun (hIn 89 (by decide)) 2)
          have ia90_2 := congrArg Int32.toInt (congrFun (hIn 90 (by decide)) 2)
          have hrel : yRl I1 := ⟨by omega, by omega, by omega, by omega, by omega, by omega, by omega, by omega⟩
          have hr4 : yR6 I1 R1 := yR6.hold hV.2.2.2.1.1.1.1 hV.2.2.1 hIn eR b2 (hO_.o5.ob45 hRa) (hO_.o5.ob5 hRa) (hO_.ob6 hRa) hLk_ hrel hrelH (by omega) (by omega) (by omega) (by omega)
          have hf7 : yF7 I1 R1 := hV.2.2.2.1.1.1.2.st hV.2.2.1 (by omega) ((hHf_.2 7 (by decide)).trans (congrFun (hIn 83 (by decide)) 7)) (fun a h1 h2 => (b2 a (by omega)).trans (hIn a (by omega))) (fun l h1 h2 i hi => (hLk_ l h1 h2 i (by rw [hIn l (by omega)]; exact hi)).trans (by rw [eR]; exact yLk.out hV.2.2.1 l h1 h2 i hi)) (fun a h1 h2 h3 => (hHf_.1 a h2 (by omega) (by omega)).trans (hIn a (by omega)))
          have hr8 : yR8 (K + 1) I1 R1 := hV.2.2.2.1.1.hold ⟨hr4, hf7⟩ hV.2.2.1 hIn b2 hHf_ (fun l h1 h2 i hi => (hLk_ l h1 h2 i (by rw [hIn l (by omega)]; exact hi)).trans (by rw [eR]; exact yLk.out hV.2.2.1 l h1 h2 i hi)) (by omega)
          have hp9_ : yP9 I1 R1 := hV.2.2.2.1.2.1.hold ((b2 37 (by decide)).trans (hIn 37 (by decide))) (by rw [b2 34 (by decide), hIn 34 (by decide)]) (fun q d j hd => (hNw_ q d j (by rw [hIn 83 (by decide)]; omega)).trans (yHw_eq9 (fun i hi => ⟨by rw [eR]; exact yLk.out hV.2.2.1 87 (by decide) (by decide) i (by omega), hIn _ (by have hq_ := (hV.2.2.1.l87.2.2.2.2 i (by omega)).2.1; omega)⟩) (by rw [hIn 87 (by decide)])))
          have hpd_ : yPdd I1 := hV.2.2.2.1.2.2.st (by rw [b2 48 (by decide), hIn 48 (by decide)]) ((b2 54 (by decide)).trans (hIn 54 (by decide))) ((b2 55 (by decide)).trans (hIn 55 (by decide)))
          have hV : yInv (K + 1) n1 tg1 I1 R1 ln := ⟨a1, ((by rw [eI]; exact hV.2.1.h36 : yCI I_a)).cong b2, a2, ⟨hr8, hp9_, hpd_⟩, hV.2.2.2.2.1.cong fun a ha => (b2 a (by omega)).trans (hIn a (by omega)), (b1 33 (by omega)).trans hV.2.2.2.2.2⟩
          have hS := hV.1
          refine y_ret1 ?_
          refine y_istore (ls' := [some _, some _, some _, some _, some _, some _, some _]) rfl rfl rfl ?_
          refine y_goto rfl j_L_law_1673 ?_
          refine y_fgt (ls := [some _, some _, some _, some _, some _, none, none]) ⟨rfl, rfl, rfl, rfl, rfl, trivial⟩ ?_
          exact hN _ _ _ _ _ _ hV (by omega) (by omega)
      · refine y_iconst rfl ?_
        refine y_goto rfl j_L_law_260 ?_
        refine y_virt rfl rfl rfl rfl rfl (ySh.t hS rfl) (ySh.n hS rfl) ?_
        obtain ⟨r1, r2, r3, r4, r5, r6, r7, r8⟩ := hV.2.2.2.1.1.1.1.1.1.1
        refine yC.keepO [(18, 4, 83), (18, 1, 83), (18, 8, 83)] yLO6 rfl rfl rfl hS ?_
        refine h_hold9 hS hRa hk6 (fun hn_ v n1 tg1 I1 R1 c1 s1 a1 a2 a3 hth hzb hLk_ prf_ hc_b hs_b => ⟨a1, a3.2.1, fun hB_ _ hO_ => ?_⟩) (fun hm1_ hm2_ v n1 tg1 I1 R1 c1 s1 a1 a2 b0 b1 b2 b3 hth b5 b6 hzb hLk_ hHf_ hNw_ hc_b hs_b => ⟨a1, b1, fun hB_ _ hO_ => ?_⟩)
        · exact absurd ⟨hr1_, hr2_⟩ hn_
        · have hz := hV.2.2.1.zl 87 (by decide) (by decide)
          have hHa : ∀ (q : Int) (j : Nat), yHv I_a R_a q j (I_a 87 2).toInt.toNat = yHv I_a R q j (I_a 87 2).toInt.toNat := fun q j => yHv_eq fun i _ => ⟨by rw [eR]; exact yAd_eq (upd2_row (by decide)) (upd2_row (by omega)), rfl⟩
          obtain ⟨hrelH, hbv⟩ := hold_rel hV.2.2.2.1.1.1.1.1.1.2.1 hV.2.2.1 hr1_ hr2_ eI b2 (fun q j => (b5 q j).trans (by first | (rw [hHa]; done) | (exfalso; omega))) b6
          have h94 : 94 ≤ n := hV.1.1
          have hIn : ∀ a, a ≠ 36 → I_a a = I a := fun a ha => by rw [eI]; exact upd2_row ha
          have h3 : True ∧ True ∧ (∀ a, a < 83 → I1 a = I_a a) ∧ True := ⟨trivial, trivial, b2, trivial⟩
          have kc34_9 := congrArg Int32.toInt (congrFun (h3.2.2.1 34 (by decide)) 9)
          have kc34_8 := congrArg Int32.toInt (congrFun (h3.2.2.1 34 (by decide)) 8)
          have kc38_0 := congrArg Int32.toInt (congrFun (h3.2.2.1 38 (by decide)) 0)
          have kc40_0 := congrArg Int32.toInt (congrFun (h3.2.2.1 40 (by decide)) 0)
          have kc69_0 := congrArg Int32.toInt (congrFun (h3.2.2.1 69 (by decide)) 0)
          have kc77_0 := congrArg Int32.toInt (congrFun (h3.2.2.1 77 (by decide)) 0)
          have kc48_0 := congrArg Int32.toInt (congrFun (h3.2.2.1 48 (by decide)) 0)
          have kc59_0 := congrArg Int32.toInt (congrFun (h3.2.2.1 59 (by decide)) 0)
          have hB_ : yKeep _ _ I1 := hB_
          obtain ⟨mb0, mb1, mb2, -⟩ := hB_
          have mb0 := congrArg Int32.toInt mb0
          have mb1 := congrArg Int32.toInt mb1
          have mb2 := congrArg Int32.toInt mb2
          obtain ⟨z88, z89, z90, z91, z92⟩ := hzb
          have ia34_9 := congrArg Int32.toInt (congrFun (hIn 34 (by decide)) 9)
          have ia34_8 := congrArg Int32.toInt (congrFun (hIn 34 (by decide)) 8)
          have ia38_0 := congrArg Int32.toInt (congrFun (hIn 38 (by decide)) 0)
          have ia40_0 := congrArg Int32.toInt (congrFun (hIn 40 (by decide)) 0)
          have ia69_0 := congrArg Int32.toInt (congrFun (hIn 69 (by decide)) 0)
          have ia77_0 := congrArg Int32.toInt (congrFun (hIn 77 (by decide)) 0)
          have ia48_0 := congrArg Int32.toInt (congrFun (hIn 48 (by decide)) 0)
          have ia59_0 := congrArg Int32.toInt (congrFun (hIn 59 (by decide)) 0)
          have ia83_4 := congrArg Int32.toInt (congrFun (hIn 83 (by decide)) 4)
          have ia83_1 := congrArg Int32.toInt (congrFun (hIn 83 (by decide)) 1)
          have ia83_8 := congrArg Int32.toInt (congrFun (hIn 83 (by decide)) 8)
          have ia88_2 := congrArg Int32.toInt (congrFun (hIn 88 (by decide)) 2)
          have ia91_2 := congrArg Int32.toInt (congrFun (hIn 91 (by decide)) 2)
          have ia92_2 := congrArg Int32.toInt (congrFun (hIn 92 (by decide)) 2)
          have ia89_2 := congrArg Int32.toInt (congrFun (hIn 89 (by decide)) 2)
          have ia90_2 := congrArg Int32.toInt (congrFun (hIn 90 (by decide)) 2)
          have hrel : yRl I1 := ⟨by omega, by omega, by omega, by omega, by omega, by omega, by omega, by omega⟩
          have hr4 : yR6 I1 R1 := yR6.hold hV.2.2.2.1.1.1.1 hV.2.2.1 hIn eR b2 (hO_.o5.ob45 hRa) (hO_.o5.ob5 hRa) (hO_.ob6 hRa) hLk_ hrel hrelH (by omega) (by omega) (by omega) (by omega)
          have hf7 : yF7 I1 R1 := hV.2.2.2.1.1.1.2.st hV.2.2.1 (by omega) ((hHf_.2 7 (by decide)).trans (congrFun (hIn 83 (by decide)) 7)) (fun a h1 h2 => (b2 a (by omega)).trans (hIn a (by omega))) (fun l h1 h2 i hi => (hLk_ l h1 h2 i (by rw [hIn l (by omega)]; exact hi)).trans (by rw [eR]; exact yLk.out hV.2.2.1 l h1 h2 i hi)) (fun a h1 h2 h3 => (hHf_.1 a h2 (by omega) (by omega)).trans (hIn a (by omega)))
          have hr8 : yR8 (K + 1) I1 R1 := hV.2.2.2.1.1.hold ⟨hr4, hf7⟩ hV.2.2.1 hIn b2 hHf_ (fun l h1 h2 i hi => (hLk_ l h1 h2 i (by rw [hIn l (by omega)]; exact hi)).trans (by rw [eR]; exact yLk.out hV.2.2.1 l h1 h2 i hi)) (by omega)
          have hp9_ : yP9 I1 R1 := hV.2.2.2.1.2.1.hold ((b2 37 (by decide)).trans (hIn 37 (by decide))) (by rw [b2 34 (by decide), hIn 34 (by decide)]) (fun q d j hd => (hNw_ q d j (by rw [hIn 83 (by decide)]; omega)).trans (yHw_eq9 (fun i hi => ⟨by rw [eR]; exact yLk.out hV.2.2.1 87 (by decide) (by decide) i (by omega), hIn _ (by have hq_ := (hV.2.2.1.l87.2.2.2.2 i (by omega)).2.1; omega)⟩) (by rw [hIn 87 (by decide)])))
          have hpd_ : yPdd I1 := hV.2.2.2.1.2.2.st (by rw [b2 48 (by decide), hIn 48 (by decide)]) ((b2 54 (by decide)).trans (hIn 54 (by decide))) ((b2 55 (by decide)).trans (hIn 55 (by decide)))
          have hV : yInv (K + 1) n1 tg1 I1 R1 ln := ⟨a1, ((by rw [eI]; exact hV.2.1.h36 : yCI I_a)).cong b2, a2, ⟨hr8, hp9_, hpd_⟩, hV.2.2.2.2.1.cong fun a ha => (b2 a (by omega)).trans (hIn a (by omega)), (b1 33 (by omega)).trans hV.2.2.2.2.2⟩
          have hS := hV.1
          refine y_ret1 ?_
          refine y_istore (ls' := [some _, some _, some _, some _, some _, some _, some _]) rfl rfl rfl ?_
          refine y_goto rfl j_L_law_1673 ?_
          refine y_fgt (ls := [some _, some _, some _, some _, some _, none, none]) ⟨rfl, rfl, rfl, rfl, rfl, trivial⟩ ?_
          exact hN _ _ _ _ _ _ hV (by omega) (by omega)
theorem lc_1 (hV : yInv K n tg I R ln) (hk6 : K < 600) {x4 : Int32} (hx0 : 0 ≤ x4.toInt) (hx1 : x4.toInt + 7 ≤ (ln : Int)) (hl : ln ≤ 3584) (hN : ∀ n1 tg1 I1 R1 c1 s1, yInv (K + 1) n1 tg1 I1 R1 ln → c1 ≤ c + 790 → s1 ≤ s + 15250 → yW xm_L_law xc_L_law_1673 [some (.ref 33), some (.ref 34), some (.ref 83), some (.ref 93), some (.int x4), none, none] [] (n1, tg1, I1, R1) c1 s1 Q) : yW xm_L_law xc_L_law_268 [some (.ref 33), some (.ref 34), some (.ref 83), some (.ref 93), some (.int x4), none, none] [] (n, tg, I, R) c s Q := by
  have hS := hV.1
  refine y_aload_n rfl rfl ?_
  refine y_aload_n rfl rfl ?_
  refine y_iload rfl rfl ?_
  refine y_iconst rfl ?_
  refine y_iadd rfl ?_
  refine y_iaload rfl hV.2.2.2.2.2 (ySh.n hV.1 rfl) (sc_at hx0 hx1 hl (by decide) (by decide)).1 (sc_at hx0 hx1 hl (by decide) (by decide)).2 ?_
  refine y_aload_n rfl rfl ?_
  refine y_static rfl rfl rfl rfl rfl ?_
  refine v_person hS hV.2.1 (fun hc_ => ?_) (fun hc_ => ?_) (fun hc_ v_a I_a pa_0 pa_1 pa_2 pa_3 pa_4 hBa R_a eR => ?_)
  · have e33 : I 33 = I 33 := rfl
    refine y_ret1 ?_
    refine y_istore (ls' := [some _, some _, some _, some _, some _, some _, _]) rfl rfl rfl ?_
    refine y_aload_n rfl rfl ?_
    refine y_aload_n rfl rfl ?_
    refine y_iload rfl rfl ?_
    refine y_iconst rfl ?_
    refine y_iadd rfl ?_
    refine y_iaload rfl hV.2.2.2.2.2 (ySh.n hV.1 rfl) (sc_at hx0 hx1 hl (by decide) (by decide)).1 (sc_at hx0 hx1 hl (by decide) (by decide)).2 ?_
    rw [e33]
    refine y_virt rfl rfl rfl rfl rfl (ySh.t hS rfl) (ySh.n hS rfl) ?_
    obtain ⟨r1, r2, r3, r4, r5, r6, r7, r8⟩ := hV.2.2.2.1.1.1.1.1.1.1
    refine yC.keep3 [(18, 4, 83), (18, 1, 83), (3, 2, 88), (3, 2, 91), (3, 2, 92), (3, 2, 89), (3, 2, 90)] yLO6 rfl rfl rfl hS hV.2.2.1 ?_
    refine h_person hS hV.2.2.1 hk6  (fun hm_ v_b n1 tg1 I1 R1 c1 s1 a1 a2 a3 hth prf_ hc_b hs_b => ⟨a1, a3.2.1, fun hB_ h93_ hO_ hL_ => ?_⟩) (fun hm_ v_b n1 tg1 I1 R1 c1 s1 a1 a2 a3 hth prf_ hc_b hs_b => ⟨a1, a3.2.1, fun hB_ h93_ hO_ hL_ => ?_⟩) (fun hm_ v_b n1 tg1 I1 R1 c1 s1 a1 a2 a3 hth pv_ px_ hc_b hs_b => ⟨a1, a3.2.1, fun hB_ h93_ hO_ hL_ => ?_⟩)
    · have kc34_9 := congrArg Int32.toInt (congrFun (a3.2.2.1 34 (by decide)) 9)
      have kc34_8 := congrArg Int32.toInt (congrFun (a3.2.2.1 34 (by decide)) 8)
      have kc38_0 := congrArg Int32.toInt (congrFun (a3.2.2.1 38 (by decide)) 0)
      have kc40_0 := congrArg Int32.toInt (congrFun (a3.2.2.1 40 (by decide)) 0)
      have kc69_0 := congrArg Int32.toInt (congrFun (a3.2.2.1 69 (by decide)) 0)
      have kc77_0 := congrArg Int32.toInt (congrFun (a3.2.2.1 77 (by decide)) 0)
      have kc48_0 := congrArg Int32.toInt (congrFun (a3.2.2.1 48 (by decide)) 0)
      have kc59_0 := congrArg Int32.toInt (congrFun (a3.2.2.1 59 (by decide)) 0)
      have hB_ : yKeep _ _ I1 := hB_
      obtain ⟨mb0, mb1, mb2, mb3, mb4, mb5, mb6, -⟩ := hB_
      have mb0 := congrArg Int32.toInt mb0
      have mb1 := congrArg Int32.toInt mb1
      have mb2 := congrArg Int32.toInt mb2
      have mb3 := congrArg Int32.toInt mb3
      have mb4 := congrArg Int32.toInt mb4
      have mb5 := congrArg Int32.toInt mb5
      have mb6 := congrArg Int32.toInt mb6
      have mbx_ := congrArg Int32.toInt (prf_.2.1 8 (by decide))
      have hrel : yRl I1 := ⟨by omega, by omega, by omega, by omega, by omega, by omega, by omega, by omega⟩
      have hr4 : yR6 I1 R1 := yR6.two hV.2.2.2.1.1.1.1 yFu.rf hV.2.2.1 hV.2.2.2.1.1.1.1.1.1.2.1 yLk.rf a3 (hO_.o5.ob45 hV.2.2.1) (hO_.o5.ob5 hV.2.2.1) (hO_.ob6 hV.2.2.1) hL_ hrel (by omega) (by omega) (by omega) (by omega)
      have hf7 : yF7 I1 R1 := hV.2.2.2.1.1.1.2.rf hV.2.2.1 prf_
      have hr7 : yR7 I1 R1 := ⟨hr4, hf7⟩
      have hr9 : yR9 (K + 1) I1 R1 := hV.2.2.2.1.rf hr7 hV.2.2.1 prf_ (Nat.le_succ K)
      have hV := hV.two hV.2.1 (fun _ _ => rfl) a1 a2 a3 hr9
      have hS := hV.1
      refine y_ret1 ?_
      refine y_istore (ls' := [some _, some _, some _, some _, some _, some _, some _]) rfl rfl rfl ?_
      refine y_goto rfl j_L_law_1673 ?_
      refine y_fgt (ls := [some _, some _, some _, some _, some _, none, none]) ⟨rfl, rfl, rfl, rfl, rfl, trivial⟩ ?_
      exact hN _ _ _ _ _ _ hV (by omega) (by omega)
    · exfalso; omega
    · exfalso; omega
  · have e33 : I 33 = I 33 := rfl
    refine y_ret1 ?_
    refine y_istore (ls' := [some _, some _, some _, some _, some _, some _, _]) rfl rfl rfl ?_
    refine y_aload_n rfl rfl ?_
    refine y_aload_n rfl rfl ?_
    refine y_iload rfl rfl ?_
    refine y_iconst rfl ?_
    refine y_iadd rfl ?_
    refine y_iaload rfl hV.2.2.2.2.2 (ySh.n hV.1 rfl) (sc_at hx0 hx1 hl (by decide) (by decide)).1 (sc_at hx0 hx1 hl (by decide) (by decide)).2 ?_
    rw [e33]
    refine y_virt rfl rfl rfl rfl rfl (ySh.t hS rfl) (ySh.n hS rfl) ?_
    obtain ⟨r1, r2, r3, r4, r5, r6, r7, r8⟩ := hV.2.2.2.1.1.1.1.1.1.1
    refine yC.keep3 [(18, 4, 83), (18, 1, 83), (3, 2, 88), (3, 2, 91), (3, 2, 92), (3, 2, 89), (3, 2, 90)] yLO6 rfl rfl rfl hS hV.2.2.1 ?_
    refine h_person hS hV.2.2.1 hk6  (fun hm_ v_b n1 tg1 I1 R1 c1 s1 a1 a2 a3 hth prf_ hc_b hs_b => ⟨a1, a3.2.1, fun hB_ h93_ hO_ hL_ => ?_⟩) (fun hm_ v_b n1 tg1 I1 R1 c1 s1 a1 a2 a3 hth prf_ hc_b hs_b => ⟨a1, a3.2.1, fun hB_ h93_ hO_ hL_ => ?_⟩) (fun hm_ v_b n1 tg1 I1 R1 c1 s1 a1 a2 a3 hth pv_ px_ hc_b hs_b => ⟨a1, a3.2.1, fun hB_ h93_ hO_ hL_ => ?_⟩)
    · exfalso; omega
    · have kc34_9 := congrArg Int32.toInt (congrFun (a3.2.2.1 34 (by decide)) 9)
      have kc34_8 := congrArg Int32.toInt (congrFun (a3.2.2.1 34 (by decide)) 8)
      have kc38_0 := congrArg Int32.toInt (congrFun (a3.2.2.1 38 (by decide)) 0)
      have kc40_0 := congrArg Int32.toInt (congrFun (a3.2.2.1 40 (by decide)) 0)
      have kc69_0 := congrArg Int32.toInt (congrFun (a3.2.2.1 69 (by decide)) 0)
      have kc77_0 := congrArg Int32.toInt (congrFun (a3.2.2.1 77 (by decide)) 0)
      have kc48_0 := congrArg Int32.toInt (congrFun (a3.2.2.1 48 (by decide)) 0)
      have kc59_0 := congrArg Int32.toInt (congrFun (a3.2.2.1 59 (by decide)) 0)
      have hB_ : yKeep _ _ I1 := hB_
      obtain ⟨mb0, mb1, mb2, mb3, mb4, mb5, mb6, -⟩ := hB_
      have mb0 := congrArg Int32.toInt mb0
      have mb1 := congrArg Int32.toInt mb1
      have mb2 := congrArg Int32.toInt mb2
      have mb3 := congrArg Int32.toInt mb3
      have mb4 := congrArg Int32.toInt mb4
      have mb5 := congrArg Int32.toInt mb5
      have mb6 := congrArg Int32.toInt mb6
      have mbx_ := congrArg Int32.toInt (prf_.2.1 8 (by decide))
      have hrel : yRl I1 := ⟨by omega, by omega, by omega, by omega, by omega, by omega, by omega, by omega⟩
      have hr4 : yR6 I1 R1 := yR6.two hV.2.2.2.1.1.1.1 yFu.rf hV.2.2.1 hV.2.2.2.1.1.1.1.1.1.2.1 yLk.rf a3 (hO_.o5.ob45 hV.2.2.1) (hO_.o5.ob5 hV.2.2.1) (hO_.ob6 hV.2.2.1) hL_ hrel (by omega) (by omega) (by omega) (by omega)
      have hf7 : yF7 I1 R1 := hV.2.2.2.1.1.1.2.rf hV.2.2.1 prf_
      have hr7 : yR7 I1 R1 := ⟨hr4, hf7⟩
      have hr9 : yR9 (K + 1) I1 R1 := hV.2.2.2.1.rf hr7 hV.2.2.1 prf_ (Nat.le_succ K)
      have hV := hV.two hV.2.1 (fun _ _ => rfl) a1 a2 a3 hr9
      have hS := hV.1
      refine y_ret1 ?_
      refine y_istore (ls' := [some _, some _, some _, some _, some _, some _, some _]) rfl rfl rfl ?_
      refine y_goto rfl j_L_law_1673 ?_
      refine y_fgt (ls := [some _, some _, some _, some _, some _, none, none]) ⟨rfl, rfl, rfl, rfl, rfl, trivial⟩ ?_
      exact hN _ _ _ _ _ _ hV (by omega) (by omega)
    · exfalso; omega
  · have hFa : yFt I I_a := pa_1
    have e33 : I_a 33 = I 33 := funext fun k => hFa 33 k (.inl (by decide))
    have hS : ySh n tg R_a := by rw [eR]; exact hS.out
    have hRa : yRI K n tg I_a R_a := (hV.2.2.1.ft hFa).outR (fun a ha => by rw [eR]; exact upd2_row ha)
    refine y_ret1 ?_
    refine y_istore (ls' := [some _, some _, some _, some _, some _, some _, _]) rfl rfl rfl ?_
    refine y_aload_n rfl rfl ?_
    refine y_aload_n rfl rfl ?_
    refine y_iload rfl rfl ?_
    refine y_iconst rfl ?_
    refine y_iadd rfl ?_
    refine y_iaload rfl hV.2.2.2.2.2 (ySh.n hV.1 rfl) (sc_at hx0 hx1 hl (by decide) (by decide)).1 (sc_at hx0 hx1 hl (by decide) (by decide)).2 ?_
    rw [e33]
    refine y_virt rfl rfl rfl rfl rfl (ySh.t hS rfl) (ySh.n hS rfl) ?_
    obtain ⟨r1, r2, r3, r4, r5, r6, r7, r8⟩ := hV.2.2.2.1.1.1.1.1.1.1
    have eM : ∀ l k, 83 ≤ l → (I_a l k).toInt = (I l k).toInt := fun l k hl => congrArg Int32.toInt (hFa l k (.inr (.inl hl)))
    have em83_4 := eM 83 4 (by decide)
    have em83_1 := eM 83 1 (by decide)
    have em83_8 := eM 83 8 (by decide)
    have em88_2 := eM 88 2 (by decide)
    have em91_2 := eM 91 2 (by decide)
    have em92_2 := eM 92 2 (by decide)
    have em89_2 := eM 89 2 (by decide)
    have em90_2 := eM 90 2 (by decide)
    have em83_7 := eM 83 7 (by decide)
    obtain ⟨kb0, kb1, kb2, kb3, kb4, kb5, kb6, -⟩ := hBa
    have kb0 := congrArg Int32.toInt kb0
    have kb1 := congrArg Int32.toInt kb1
    have kb2 := congrArg Int32.toInt kb2
    have kb3 := congrArg Int32.toInt kb3
    have kb4 := congrArg Int32.toInt kb4
    have kb5 := congrArg Int32.toInt kb5
    have kb6 := congrArg Int32.toInt kb6
    refine yC.keep3 [(18, 4, 83), (18, 1, 83), (3, 2, 88), (3, 2, 91), (3, 2, 92), (3, 2, 89), (3, 2, 90)] yLO6 rfl rfl rfl hS hRa ?_
    refine h_person hS hRa hk6  (fun hm_ v_b n1 tg1 I1 R1 c1 s1 a1 a2 a3 hth prf_ hc_b hs_b => ⟨a1, a3.2.1, fun hB_ h93_ hO_ hL_ => ?_⟩) (fun hm_ v_b n1 tg1 I1 R1 c1 s1 a1 a2 a3 hth prf_ hc_b hs_b => ⟨a1, a3.2.1, fun hB_ h93_ hO_ hL_ => ?_⟩) (fun hm_ v_b n1 tg1 I1 R1 c1 s1 a1 a2 a3 hth pv_ px_ hc_b hs_b => ⟨a1, a3.2.1, fun hB_ h93_ hO_ hL_ => ?_⟩)
    · exfalso; omega
    · exfalso; omega
    · have kc34_9 := congrArg Int32.toInt (congrFun (a3.2.2.1 34 (by decide)) 9)
      have kc34_8 := congrArg Int32.toInt (congrFun (a3.2.2.1 34 (by decide)) 8)
      have kc38_0 := congrArg Int32.toInt (congrFun (a3.2.2.1 38 (by decide)) 0)
      have kc40_0 := congrArg Int32.toInt (congrFun (a3.2.2.1 40 (by decide)) 0)
      have kc69_0 := congrArg Int32.toInt (congrFun (a3.2.2.1 69 (by decide)) 0)
      have kc77_0 := congrArg Int32.toInt (congrFun (a3.2.2.1 77 (by decide)) 0)
      have kc48_0 := congrArg Int32.toInt (congrFun (a3.2.2.1 48 (by decide)) 0)
      have kc59_0 := congrArg Int32.toInt (congrFun (a3.2.2.1 59 (by decide)) 0)
      have hB_ : yKeep _ _ I1 := hB_
      obtain ⟨mb0, mb1, mb2, mb3, mb4, mb5, mb6, -⟩ := hB_
      have mb0 := congrArg Int32.toInt mb0
      have mb1 := congrArg Int32.toInt mb1
      have mb2 := congrArg Int32.toInt mb2
      have mb3 := congrArg Int32.toInt mb3
      have mb4 := congrArg Int32.toInt mb4
      have mb5 := congrArg Int32.toInt mb5
      have mb6 := congrArg Int32.toInt mb6
      have mby_ := congrArg Int32.toInt ((congrFun (px_.n (Nat.lt_of_lt_of_le (show 83 < 94 by decide) hV.1.1)) 8).trans upd2_self)
      have mbx_ : (I1 83 8).toInt = (I_a 83 8).toInt + 1 := mby_.trans (yinc (by omega))
      have ky_ := congrArg Int32.toInt ((congrFun (congrFun pa_4 38) 0).trans upd2_self)
      have kx_ : (I_a 38 0).toInt = (I 38 0).toInt + 1 := ky_.trans (yinc (by omega))
      have hrel : yRl I1 := ⟨by omega, by omega, by omega, by omega, by omega, by omega, by omega, by omega⟩
      have hHa : yHr I_a R_a := by rw [eR]; exact yHr.a hV.2.2.2.1.1.1.1.1.1 hV.2.2.1 hFa
      have hLa : yLk I R R_a := by rw [eR]; exact yLk.out hV.2.2.1
      have hw_ : yFu I I_a := yFu.of fun a d1 d2 d3 d4 d5 d6 => by rw [pa_4]; repeat first | rw [upd2_row (by omega)] | rw [yAddC_row (by omega)]
      have hr4 : yR6 I1 R1 := yR6.two hV.2.2.2.1.1.1.1 hw_ hRa hHa hLa a3 (hO_.o5.ob45 hRa) (hO_.o5.ob5 hRa) (hO_.ob6 hRa) hL_ hrel (by omega) (by omega) (by omega) (by omega)
      have hL7_ : yLk I R R1 := fun l h1 h2 i hi => (hL_ l h1 h2 i (by rw [hFa.hi (show 83 ≤ l by omega)]; exact hi)).trans (hLa l h1 h2 i hi)
      have hm7_ : yFm n tg I I1 := yFm.x px_ (by repeat first | exact yFm.ft hFa | exact yFm.rr | refine yFm.addC ?_ | refine yFm.shD ?_ | refine yFm.prD ?_ (by assumption) | refine yFm.lsD ?_ (by assumption) | refine yFm.up ?_ (by first | exact .inl (by decide) | exact .inr (by assumption)))
      have h94_ : 94 ≤ n := hV.1.1
      have h7_ : I1 83 7 = I 83 7 := (congrFun (px_.n (show 83 < n by omega)) 7).trans (by repeat first | exact rfl | exact yext em83_7 | refine k7addC ?_ | refine k7shD ?_ | refine k7prD ?_ (by omega) | refine k7lsD ?_ (by omega) | refine k7up ?_ (by first | exact .inr (by decide) | exact .inl (by decide) | exact .inl (by omega)))
      have hf7 : yF7 I1 R1 := hV.2.2.2.1.1.1.2.st hV.2.2.1 (by omega) h7_ (fun a h1 h2 => (a3.2.2.1 a (by omega)).trans (by rw [pa_4]; repeat first | rw [upd2_row (by omega)] | rw [yAddC_row (by omega)])) hL7_ hm7_
      have hr7 : yR7 I1 R1 := ⟨hr4, hf7⟩
      have hM8_ : yMn I I_a := hV.2.2.2.1.1.2.1.ia hFa
      have hc38_ : 0 ≤ (I 38 0).toInt := hV.2.1.1.1
      have ek_ : (I 38 0).toInt.toNat = (I_a 83 8).toInt.toNat := by omega
      have pC_ := pa_4
      rw [ek_] at pC_
      have hmn_ : yMn I1 I1 := ((m9_person (k := (I_a 83 8).toInt.toNat) hM8_ (by omega) (by omega)).ea pC_).px a3 px_ h94_
      have hvn_ : yVn I1 I1 R1 := hV.2.2.2.1.1.2.2.1.st hV.2.2.1 (by omega) (fun a h1 h2 => (a3.2.2.1 a (by omega)).trans (by rw [pa_4]; repeat first | rw [upd2_row (by omega)] | rw [yAddC_row (by omega)])) hL7_ (yVm.x px_ (by repeat first | exact yVm.ft hFa | exact yVm.rr | refine yVm.addC ?_ | refine yVm.shD ?_ | refine yVm.up ?_ (by first | exact .inl (by decide) | exact .inr (by assumption))))
      have hmb_ : yMb (K + 1) I1 := hV.2.2.2.1.1.2.2.2.cg (Nat.le_succ K) (congrFun ((a3.2.2.1 74 (by decide)).trans (by rw [pa_4]; repeat first | rw [upd2_row (by omega)] | rw [yAddC_row (by omega)])) 2) ((a3.2.2.1 76 (by decide)).trans (by rw [pa_4]; repeat first | rw [upd2_row (by omega)] | rw [yAddC_row (by omega)])) (by omega)
      have hr8 : yR8 (K + 1) I1 R1 := ⟨hr7, hmn_, hvn_, hmb_⟩
      have hp9_ : yP9 I1 R1 := hV.2.2.2.1.2.1.kp hV.2.2.1 hFa hLa (by rw [pa_4]; repeat first | rw [upd2_row (by omega)] | rw [yAddC_row (by omega)]) (by omega) a3
      have hpd_ : yPdd I1 := hV.2.2.2.1.2.2.st (by omega) ((a3.2.2.1 54 (by decide)).trans (by rw [pa_4]; repeat first | rw [upd2_row (by omega)] | rw [yAddC_row (by omega)])) ((a3.2.2.1 55 (by decide)).trans (by rw [pa_4]; repeat first | rw [upd2_row (by omega)] | rw [yAddC_row (by omega)]))
      have hr9 : yR9 (K + 1) I1 R1 := ⟨hr8, hp9_, hpd_⟩
      have hV := hV.two pa_0 (fun a ha => funext fun k => hFa a k (.inl ha)) a1 a2 a3 hr9
      have hS := hV.1
      refine y_ret1 ?_
      refine y_istore (ls' := [some _, some _, some _, some _, some _, some _, some _]) rfl rfl rfl ?_
      refine y_goto rfl j_L_law_1673 ?_
      refine y_fgt (ls := [some _, some _, some _, some _, some _, none, none]) ⟨rfl, rfl, rfl, rfl, rfl, trivial⟩ ?_
      exact hN _ _ _ _ _ _ hV (by omega) (by omega)
theorem lc_2 (hV : yInv K n tg I R ln) (hk6 : K < 600) {x4 : Int32} (hx0 : 0 ≤ x4.toInt) (hx1 : x4.toInt + 7 ≤ (ln : Int)) (hl : ln ≤ 3584) (hN : ∀ n1 tg1 I1 R1 c1 s1, yInv (K + 1) n1 tg1 I1 R1 ln → c1 ≤ c + 790 → s1 ≤ s + 15250 → yW xm_L_law xc_L_law_1673 [some (.ref 33), some (.ref 34), some (.ref 83), some (.ref 93), some (.int x4), none, none] [] (n1, tg1, I1, R1) c1 s1 Q) : yW xm_L_law xc_L_law_296 [some (.ref 33), some (.ref 34), some (.ref 83), some (.ref 93), some (.int x4), none, none] [] (n, tg, I, R) c s Q := by
  have hS := hV.1
  refine y_aload_n rfl rfl ?_
  refine y_aload_n rfl rfl ?_
  refine y_iload rfl rfl ?_
  refine y_iconst rfl ?_
  refine y_iadd rfl ?_
  refine y_iaload rfl hV.2.2.2.2.2 (ySh.n hV.1 rfl) (sc_at hx0 hx1 hl (by decide) (by decide)).1 (sc_at hx0 hx1 hl (by decide) (by decide)).2 ?_
  refine y_aload_n rfl rfl ?_
  refine y_iload rfl rfl ?_
  refine y_iconst rfl ?_
  refine y_iadd rfl ?_
  refine y_iaload rfl hV.2.2.2.2.2 (ySh.n hV.1 rfl) (sc_at hx0 hx1 hl (by decide) (by decide)).1 (sc_at hx0 hx1 hl (by decide) (by decide)).2 ?_
  refine y_aload_n rfl rfl ?_
  refine y_static rfl rfl rfl rfl rfl ?_
  refine v_thing hS hV.2.1 (fun hc_ => ?_) (fun hc_ => ?_) (fun hc_ => ?_) (fun hc_ v_a I_a x_own pa_0 pa_1 pa_2 pa_3 pa_4 pa_5 hBa R_a eR => ?_)
  · have e33 : I 33 = I 33 := rfl
    refine y_ret1 ?_
    refine y_istore (ls' := [some _, some _, some _, some _, some _, some _, _]) rfl rfl rfl ?_
    refine y_aload_n rfl rfl ?_
    refine y_aload_n rfl rfl ?_
    refine y_iload rfl rfl ?_
    refine y_iconst rfl ?_
    refine y_iadd rfl ?_
    refine y_iaload rfl hV.2.2.2.2.2 (ySh.n hV.1 rfl) (sc_at hx0 hx1 hl (by decide) (by decide)).1 (sc_at hx0 hx1 hl (by decide) (by decide)).2 ?_
    rw [e33]
    refine y_aload_n rfl rfl ?_
    refine y_iload rfl rfl ?_
    refine y_iconst rfl ?_
    refine y_iadd rfl ?_
    refine y_iaload rfl hV.2.2.2.2.2 (ySh.n hV.1 rfl) (sc_at hx0 hx1 hl (by decide) (by decide)).1 (sc_at hx0 hx1 hl (by decide) (by decide)).2 ?_
    rw [e33]
    refine y_virt rfl rfl rfl rfl rfl (ySh.t hS rfl) (ySh.n hS rfl) ?_
    obtain ⟨r1, r2, r3, r4, r5, r6, r7, r8⟩ := hV.2.2.2.1.1.1.1.1.1.1
    refine yC.keep [(18, 4, 83), (18, 1, 83), (18, 8, 83)] rfl rfl hS ?_
    refine h_thing hS hV.2.2.1 hk6  (fun hm_ v_b n1 tg1 I1 R1 c1 s1 a1 a2 a3 hth pg_ ps_88 ps_89 ps_90 ps_91 ps_92 pl_ prf_ hc_b hs_b => ⟨a1, fun hB_ h93_ => ?_⟩) (fun hm_ v_b n1 tg1 I1 R1 c1 s1 a1 a2 a3 hth pg_ ps_88 ps_89 ps_90 ps_91 ps_92 pl_ prf_ hc_b hs_b => ⟨a1, fun hB_ h93_ => ?_⟩) (fun hm_ v_b n1 tg1 I1 R1 c1 s1 a1 a2 a3 hth pg_ ps_88 ps_89 ps_90 ps_91 ps_92 pl_ prf_ hc_b hs_b => ⟨a1, fun hB_ h93_ => ?_⟩) (fun q_own e_own0 hm_ v_b n1 tg1 I1 R1 c1 s1 a1 a2 a3 hth pv_ pg_ ps_88 ps_89 ps_90 ps_91 ps_92 pl_ q_x e_x pn_ pf_0 pf_1 pf_2 pf_3 pf_4 pf_5 p8_ hc_b hs_b => ⟨a1, fun hB_ h93_ => ?_⟩)
    · have kc34_9 := congrArg Int32.toInt (congrFun (a3.2.2.1 34 (by decide)) 9)
      have kc34_8 := congrArg Int32.toInt (congrFun (a3.2.2.1 34 (by decide)) 8)
      have kc38_0 := congrArg Int32.toInt (congrFun (a3.2.2.1 38 (by decide)) 0)
      have kc40_0 := congrArg Int32.toInt (congrFun (a3.2.2.1 40 (by decide)) 0)
      have kc69_0 := congrArg Int32.toInt (congrFun (a3.2.2.1 69 (by decide)) 0)
      have kc77_0 := congrArg Int32.toInt (congrFun (a3.2.2.1 77 (by decide)) 0)
      have kc48_0 := congrArg Int32.toInt (congrFun (a3.2.2.1 48 (by decide)) 0)
      have kc59_0 := congrArg Int32.toInt (congrFun (a3.2.2.1 59 (by decide)) 0)
      have hB_ : yKeep _ _ I1 := hB_
      obtain ⟨mb0, mb1, mb2, -⟩ := hB_
      have mb0 := congrArg Int32.toInt mb0
      have mb1 := congrArg Int32.toInt mb1
      have mb2 := congrArg Int32.toInt mb2
      have hrel : yRl I1 := ⟨by omega, by omega, by omega, by omega, by omega, by omega, by omega, by omega⟩
      have hr4 : yR6 I1 R1 := yR6.two hV.2.2.2.1.1.1.1 yFu.rf hV.2.2.1 hV.2.2.2.1.1.1.1.1.1.2.1 yLk.rf a3 (yR4.ob hV.2.2.1 pg_) (yS5.ob hV.2.2.1 pg_) (yL6.ob hV.2.2.1 pg_) pl_ hrel (by omega) (by omega) (by omega) (by omega)
      have hf7 : yF7 I1 R1 := hV.2.2.2.1.1.1.2.rf hV.2.2.1 prf_
      have hr7 : yR7 I1 R1 := ⟨hr4, hf7⟩
      have hr9 : yR9 (K + 1) I1 R1 := hV.2.2.2.1.rf hr7 hV.2.2.1 prf_ (Nat.le_succ K)
      have hV := hV.two hV.2.1 (fun _ _ => rfl) a1 a2 a3 hr9
      have hS := hV.1
      refine y_ret1 ?_
      refine y_istore (ls' := [some _, some _, some _, some _, some _, some _, some _]) rfl rfl rfl ?_
      refine y_goto rfl j_L_law_1673 ?_
      refine y_fgt (ls := [some _, some _, some _, some _, some _, none, none]) ⟨rfl, rfl, rfl, rfl, rfl, trivial⟩ ?_
      exact hN _ _ _ _ _ _ hV (by omega) (by omega)
    · exfalso; omega
    · exfalso; omega
    · exfalso; omega
  · have e33 : I 33 = I 33 := rfl
    refine y_ret1 ?_
    refine y_istore (ls' := [some _, some _, some _, some _, some _, some _, _]) rfl rfl rfl ?_
    refine y_aload_n rfl rfl ?_
    refine y_aload_n rfl rfl ?_
    refine y_iload rfl rfl ?_
    refine y_iconst rfl ?_
    refine y_iadd rfl ?_
    refine y_iaload rfl hV.2.2.2.2.2 (ySh.n hV.1 rfl) (sc_at hx0 hx1 hl (by decide) (by decide)).1 (sc_at hx0 hx1 hl (by decide) (by decide)).2 ?_
    rw [e33]
    refine y_aload_n rfl rfl ?_
    refine y_iload rfl rfl ?_
    refine y_iconst rfl ?_
    refine y_iadd rfl ?_
    refine y_iaload rfl hV.2.2.2.2.2 (ySh.n hV.1 rfl) (sc_at hx0 hx1 hl (by decide) (by decide)).1 (sc_at hx0 hx1 hl (by decide) (by decide)).2 ?_
    rw [e33]
    refine y_virt rfl rfl rfl rfl rfl (ySh.t hS rfl) (ySh.n hS rfl) ?_
    obtain ⟨r1, r2, r3, r4, r5, r6, r7, r8⟩ := hV.2.2.2.1.1.1.1.1.1.1
    refine yC.keep [(18, 4, 83), (18, 1, 83), (18, 8, 83)] rfl rfl hS ?_
    refine h_thing hS hV.2.2.1 hk6  (fun hm_ v_b n1 tg1 I1 R1 c1 s1 a1 a2 a3 hth pg_ ps_88 ps_89 ps_90 ps_91 ps_92 pl_ prf_ hc_b hs_b => ⟨a1, fun hB_ h93_ => ?_⟩) (fun hm_ v_b n1 tg1 I1 R1 c1 s1 a1 a2 a3 hth pg_ ps_88 ps_89 ps_90 ps_91 ps_92 pl_ prf_ hc_b hs_b => ⟨a1, fun hB_ h93_ => ?_⟩) (fun hm_ v_b n1 tg1 I1 R1 c1 s1 a1 a2 a3 hth pg_ ps_88 ps_89 ps_90 ps_91 ps_92 pl_ prf_ hc_b hs_b => ⟨a1, fun hB_ h93_ => ?_⟩) (fun q_own e_own0 hm_ v_b n1 tg1 I1 R1 c1 s1 a1 a2 a3 hth pv_ pg_ ps_88 ps_89 ps_90 ps_91 ps_92 pl_ q_x e_x pn_ pf_0 pf_1 pf_2 pf_3 pf_4 pf_5 p8_ hc_b hs_b => ⟨a1, fun hB_ h93_ => ?_⟩)
    · exfalso; omega
    · have kc34_9 := congrArg Int32.toInt (congrFun (a3.2.2.1 34 (by decide)) 9)
      have kc34_8 := congrArg Int32.toInt (congrFun (a3.2.2.1 34 (by decide)) 8)
      have kc38_0 := congrArg Int32.toInt (congrFun (a3.2.2.1 38 (by decide)) 0)
      have kc40_0 := congrArg Int32.toInt (congrFun (a3.2.2.1 40 (by decide)) 0)
      have kc69_0 := congrArg Int32.toInt (congrFun (a3.2.2.1 69 (by decide)) 0)
      have kc77_0 := congrArg Int32.toInt (congrFun (a3.2.2.1 77 (by decide)) 0)
      have kc48_0 := congrArg Int32.toInt (congrFun (a3.2.2.1 48 (by decide)) 0)
      have kc59_0 := congrArg Int32.toInt (congrFun (a3.2.2.1 59 (by decide)) 0)
      have hB_ : yKeep _ _ I1 := hB_
      obtain ⟨mb0, mb1, mb2, -⟩ := hB_
      have mb0 := congrArg Int32.toInt mb0
      have mb1 := congrArg Int32.toInt mb1
      have mb2 := congrArg Int32.toInt mb2
      have hrel : yRl I1 := ⟨by omega, by omega, by omega, by omega, by omega, by omega, by omega, by omega⟩
      have hr4 : yR6 I1 R1 := yR6.two hV.2.2.2.1.1.1.1 yFu.rf hV.2.2.1 hV.2.2.2.1.1.1.1.1.1.2.1 yLk.rf a3 (yR4.ob hV.2.2.1 pg_) (yS5.ob hV.2.2.1 pg_) (yL6.ob hV.2.2.1 pg_) pl_ hrel (by omega) (by omega) (by omega) (by omega)
      have hf7 : yF7 I1 R1 := hV.2.2.2.1.1.1.2.rf hV.2.2.1 prf_
      have hr7 : yR7 I1 R1 := ⟨hr4, hf7⟩
      have hr9 : yR9 (K + 1) I1 R1 := hV.2.2.2.1.rf hr7 hV.2.2.1 prf_ (Nat.le_succ K)
      have hV := hV.two hV.2.1 (fun _ _ => rfl) a1 a2 a3 hr9
      have hS := hV.1
      refine y_ret1 ?_
      refine y_istore (ls' := [some _, some _, some _, some _, some _, some _, some _]) rfl rfl rfl ?_
      refine y_goto rfl j_L_law_1673 ?_
      refine y_fgt (ls := [some _, some _, some _, some _, some _, none, none]) ⟨rfl, rfl, rfl, rfl, rfl, trivial⟩ ?_
      exact hN _ _ _ _ _ _ hV (by omega) (by omega)
    · exfalso; omega
    · exfalso; omega
  · have e33 : I 33 = I 33 := rfl
    refine y_ret1 ?_
    refine y_istore (ls' := [some _, some _, some _, some _, some _, some _, _]) rfl rfl rfl ?_
    refine y_aload_n rfl rfl ?_
    refine y_aload_n rfl rfl ?_
    refine y_iload rfl rfl ?_
    refine y_iconst rfl ?_
    refine y_iadd rfl ?_
    refine y_iaload rfl hV.2.2.2.2.2 (ySh.n hV.1 rfl) (sc_at hx0 hx1 hl (by decide) (by decide)).1 (sc_at hx0 hx1 hl (by decide) (by decide)).2 ?_
    rw [e33]
    refine y_aload_n rfl rfl ?_
    refine y_iload rfl rfl ?_
    refine y_iconst rfl ?_
    refine y_iadd rfl ?_
    refine y_iaload rfl hV.2.2.2.2.2 (ySh.n hV.1 rfl) (sc_at hx0 hx1 hl (by decide) (by decide)).1 (sc_at hx0 hx1 hl (by decide) (by decide)).2 ?_
    rw [e33]
    refine y_virt rfl rfl rfl rfl rfl (ySh.t hS rfl) (ySh.n hS rfl) ?_
    obtain ⟨r1, r2, r3, r4, r5, r6, r7, r8⟩ := hV.2.2.2.1.1.1.1.1.1.1
    refine yC.keep [(18, 4, 83), (18, 1, 83), (18, 8, 83)] rfl rfl hS ?_
    refine h_thing hS hV.2.2.1 hk6  (fun hm_ v_b n1 tg1 I1 R1 c1 s1 a1 a2 a3 hth pg_ ps_88 ps_89 ps_90 ps_91 ps_92 pl_ prf_ hc_b hs_b => ⟨a1, fun hB_ h93_ => ?_⟩) (fun hm_ v_b n1 tg1 I1 R1 c1 s1 a1 a2 a3 hth pg_ ps_88 ps_89 ps_90 ps_91 ps_92 pl_ prf_ hc_b hs_b => ⟨a1, fun hB_ h93_ => ?_⟩) (fun hm_ v_b n1 tg1 I1 R1 c1 s1 a1 a2 a3 hth pg_ ps_88 ps_89 ps_90 ps_91 ps_92 pl_ prf_ hc_b hs_b => ⟨a1, fun hB_ h93_ => ?_⟩) (fun q_own e_own0 hm_ v_b n1 tg1 I1 R1 c1 s1 a1 a2 a3 hth pv_ pg_ ps_88 ps_89 ps_90 ps_91 ps_92 pl_ q_x e_x pn_ pf_0 pf_1 pf_2 pf_3 pf_4 pf_5 p8_ hc_b hs_b => ⟨a1, fun hB_ h93_ => ?_⟩)
    · exfalso; omega
    · exfalso; omega
    · have kc34_9 := congrArg Int32.toInt (congrFun (a3.2.2.1 34 (by decide)) 9)
      have kc34_8 := congrArg Int32.toInt (congrFun (a3.2.2.1 34 (by decide)) 8)
      have kc38_0 := congrArg Int32.toInt (congrFun (a3.2.2.1 38 (by decide)) 0)
      have kc40_0 := congrArg Int32.toInt (congrFun (a3.2.2.1 40 (by decide)) 0)
      have kc69_0 := congrArg Int32.toInt (congrFun (a3.2.2.1 69 (by decide)) 0)
      have kc77_0 := congrArg Int32.toInt (congrFun (a3.2.2.1 77 (by decide)) 0)
      have kc48_0 := congrArg Int32.toInt (congrFun (a3.2.2.1 48 (by decide)) 0)
      have kc59_0 := congrArg Int32.toInt (congrFun (a3.2.2.1 59 (by decide)) 0)
      have hB_ : yKeep _ _ I1 := hB_
      obtain ⟨mb0, mb1, mb2, -⟩ := hB_
      have mb0 := congrArg Int32.toInt mb0
      have mb1 := congrArg Int32.toInt mb1
      have mb2 := congrArg Int32.toInt mb2
      have hrel : yRl I1 := ⟨by omega, by omega, by omega, by omega, by omega, by omega, by omega, by omega⟩
      have hr4 : yR6 I1 R1 := yR6.two hV.2.2.2.1.1.1.1 yFu.rf hV.2.2.1 hV.2.2.2.1.1.1.1.1.1.2.1 yLk.rf a3 (yR4.ob hV.2.2.1 pg_) (yS5.ob hV.2.2.1 pg_) (yL6.ob hV.2.2.1 pg_) pl_ hrel (by omega) (by omega) (by omega) (by omega)
      have hf7 : yF7 I1 R1 := hV.2.2.2.1.1.1.2.rf hV.2.2.1 prf_
      have hr7 : yR7 I1 R1 := ⟨hr4, hf7⟩
      have hr9 : yR9 (K + 1) I1 R1 := hV.2.2.2.1.rf hr7 hV.2.2.1 prf_ (Nat.le_succ K)
      have hV := hV.two hV.2.1 (fun _ _ => rfl) a1 a2 a3 hr9
      have hS := hV.1
      refine y_ret1 ?_
      refine y_istore (ls' := [some _, some _, some _, some _, some _, some _, some _]) rfl rfl rfl ?_
      refine y_goto rfl j_L_law_1673 ?_
      refine y_fgt (ls := [some _, some _, some _, some _, some _, none, none]) ⟨rfl, rfl, rfl, rfl, rfl, trivial⟩ ?_
      exact hN _ _ _ _ _ _ hV (by omega) (by omega)
    · exfalso; omega
  · have hFa : yFt I I_a := pa_1
    have e33 : I_a 33 = I 33 := funext fun k => hFa 33 k (.inl (by decide))
    have hS : ySh n tg R_a := by rw [eR]; exact hS.out
    have hRa : yRI K n tg I_a R_a := (hV.2.2.1.ft hFa).outR (fun a ha => by rw [eR]; exact upd2_row ha)
    refine y_ret1 ?_
    refine y_istore (ls' := [some _, some _, some _, some _, some _, some _, _]) rfl rfl rfl ?_
    refine y_aload_n rfl rfl ?_
    refine y_aload_n rfl rfl ?_
    refine y_iload rfl rfl ?_
    refine y_iconst rfl ?_
    refine y_iadd rfl ?_
    refine y_iaload rfl hV.2.2.2.2.2 (ySh.n hV.1 rfl) (sc_at hx0 hx1 hl (by decide) (by decide)).1 (sc_at hx0 hx1 hl (by decide) (by decide)).2 ?_
    rw [e33]
    refine y_aload_n rfl rfl ?_
    refine y_iload rfl rfl ?_
    refine y_iconst rfl ?_
    refine y_iadd rfl ?_
    refine y_iaload rfl hV.2.2.2.2.2 (ySh.n hV.1 rfl) (sc_at hx0 hx1 hl (by decide) (by decide)).1 (sc_at hx0 hx1 hl (by decide) (by decide)).2 ?_
    rw [e33]
    refine y_virt rfl rfl rfl rfl rfl (ySh.t hS rfl) (ySh.n hS rfl) ?_
    obtain ⟨r1, r2, r3, r4, r5, r6, r7, r8⟩ := hV.2.2.2.1.1.1.1.1.1.1
    have eM : ∀ l k, 83 ≤ l → (I_a l k).toInt = (I l k).toInt := fun l k hl => congrArg Int32.toInt (hFa l k (.inr (.inl hl)))
    have em83_4 := eM 83 4 (by decide)
    have em83_1 := eM 83 1 (by decide)
    have em83_8 := eM 83 8 (by decide)
    have em88_2 := eM 88 2 (by decide)
    have em91_2 := eM 91 2 (by decide)
    have em92_2 := eM 92 2 (by decide)
    have em89_2 := eM 89 2 (by decide)
    have em90_2 := eM 90 2 (by decide)
    have em83_7 := eM 83 7 (by decide)
    obtain ⟨kb0, kb1, kb2, kb3, kb4, kb5, kb6, -⟩ := hBa
    have kb0 := congrArg Int32.toInt kb0
    have kb1 := congrArg Int32.toInt kb1
    have kb2 := congrArg Int32.toInt kb2
    have kb3 := congrArg Int32.toInt kb3
    have kb4 := congrArg Int32.toInt kb4
    have kb5 := congrArg Int32.toInt kb5
    have kb6 := congrArg Int32.toInt kb6
    refine yC.keep [(18, 4, 83), (18, 1, 83), (18, 8, 83)] rfl rfl hS ?_
    refine h_thing hS hRa hk6  (fun hm_ v_b n1 tg1 I1 R1 c1 s1 a1 a2 a3 hth pg_ ps_88 ps_89 ps_90 ps_91 ps_92 pl_ prf_ hc_b hs_b => ⟨a1, fun hB_ h93_ => ?_⟩) (fun hm_ v_b n1 tg1 I1 R1 c1 s1 a1 a2 a3 hth pg_ ps_88 ps_89 ps_90 ps_91 ps_92 pl_ prf_ hc_b hs_b => ⟨a1, fun hB_ h93_ => ?_⟩) (fun hm_ v_b n1 tg1 I1 R1 c1 s1 a1 a2 a3 hth pg_ ps_88 ps_89 ps_90 ps_91 ps_92 pl_ prf_ hc_b hs_b => ⟨a1, fun hB_ h93_ => ?_⟩) (fun q_own e_own0 hm_ v_b n1 tg1 I1 R1 c1 s1 a1 a2 a3 hth pv_ pg_ ps_88 ps_89 ps_90 ps_91 ps_92 pl_ q_x e_x pn_ pf_0 pf_1 pf_2 pf_3 pf_4 pf_5 p8_ hc_b hs_b => ⟨a1, fun hB_ h93_ => ?_⟩)
    · subst eR
      exfalso; omega
    · subst eR
      exfalso; omega
    · subst eR
      exfalso; omega
    · have kc34_9 := congrArg Int32.toInt (congrFun (a3.2.2.1 34 (by decide)) 9)
      have kc34_8 := congrArg Int32.toInt (congrFun (a3.2.2.1 34 (by decide)) 8)
      have kc38_0 := congrArg Int32.toInt (congrFun (a3.2.2.1 38 (by decide)) 0)
      have kc40_0 := congrArg Int32.toInt (congrFun (a3.2.2.1 40 (by decide)) 0)
      have kc69_0 := congrArg Int32.toInt (congrFun (a3.2.2.1 69 (by decide)) 0)
      have kc77_0 := congrArg Int32.toInt (congrFun (a3.2.2.1 77 (by decide)) 0)
      have kc48_0 := congrArg Int32.toInt (congrFun (a3.2.2.1 48 (by decide)) 0)
      have kc59_0 := congrArg Int32.toInt (congrFun (a3.2.2.1 59 (by decide)) 0)
      have hB_ : yKeep _ _ I1 := hB_
      obtain ⟨mb0, mb1, mb2, -⟩ := hB_
      have mb0 := congrArg Int32.toInt mb0
      have mb1 := congrArg Int32.toInt mb1
      have mb2 := congrArg Int32.toInt mb2
      have kx_ : (I_a 40 0).toInt = (I 40 0).toInt + 1 := (congrArg Int32.toInt ((congrFun (pa_4 40 rfl) 0).trans (by simp [upd2] : _ = I 40 0 + Int32.ofInt 1))).trans (yinc (by omega))
      subst eR
      have hrel : yRl I1 := ⟨by omega, by omega, by omega, by omega, by omega, by omega, by omega, by omega⟩
      have hc40_ := hV.2.1.2.1
      have hc48_ := hV.2.1.2.2.1
      have hc59_ := hV.2.1.2.2.2.1
      have S_ := yStp.mk hV.2.2.2.1.1.1.1.1.1 hV.2.2.1 hFa pa_4 a3 pg_ (by first | exact yGm.ft hFa | exact yGm.bothR (yGm.ft hFa) | exact yGm.bothR (yGm.bothR (yGm.ft hFa)) | exact yGm.bothR (yGm.bothR (yGm.bothR (yGm.ft hFa))) | exact yGm.bothR (yGm.bothR (yGm.bothR (yGm.bothR (yGm.ft hFa)))) | exact yGm.bothR (yGm.bothR (yGm.bothR (yGm.bothR (yGm.bothR (yGm.ft hFa)))))) pl_ hrel
      have hx_ : q_x = yAd R1 88 (I 88 2).toInt.toNat := by rw [← em88_2]; exact e_x
      have eo_ : q_own = x_own := own_eq pa_2 e_own0
      have hr4 : yR6 I1 R1 := ⟨rel5_thing (by omega) (by omega) hx_ pn_ pf_0 (pf_1.trans eo_) pf_2 pf_3 pf_4 pf_5 hV.2.2.2.1.1.1.1.1.2 (by omega) (by omega) S_, rel6_thing (by omega) (by omega) hx_ pn_ pf_0 (pf_1.trans eo_) pf_2 pf_3 pf_4 pf_5 (by omega) hV.2.2.2.1.1.1.1.2 (by omega) S_⟩
      have hL7_ : yLk I R R1 := fun l h1 h2 i hi => (pl_ l h1 h2 i (by rw [hFa.hi (show 83 ≤ l by omega)]; exact hi)).trans (yLk.out hV.2.2.1 l h1 h2 i hi)
      have hm7_ : yFm n tg I I1 := yFm.gm pg_ (by repeat first | exact yFm.ft hFa | exact yFm.rr | refine yFm.addC ?_ | refine yFm.shD ?_ | refine yFm.prD ?_ (by assumption) | refine yFm.lsD ?_ (by assumption) | refine yFm.up ?_ (by first | exact .inl (by decide) | exact .inr (by assumption)))
      have h94_ : 94 ≤ n := hV.1.1
      have h7_ : I1 83 7 = I 83 7 := (p8_.2 7 (by decide)).trans (yext em83_7)
      have hf7 : yF7 I1 R1 := hV.2.2.2.1.1.1.2.st hV.2.2.1 (by omega) h7_ (fun a h1 h2 => (a3.2.2.1 a (by omega)).trans (by rw [pa_5]; repeat first | rw [upd2_row (by omega)] | rw [yAddC_row (by omega)])) hL7_ hm7_
      have hr7 : yR7 I1 R1 := ⟨hr4, hf7⟩
      have hM8_ : yMn I I_a := hV.2.2.2.1.1.2.1.ia hFa
      have hmn_ : yMn I1 I1 := hV.2.2.2.1.1.2.1.p8 hFa (fun a ha => by rw [pa_5]; repeat first | rw [upd2_row (by omega)] | rw [yAddC_row (by omega)]) a3 p8_
      have hvn_ : yVn I1 I1 R1 := hV.2.2.2.1.1.2.2.1.st hV.2.2.1 (by omega) (fun a h1 h2 => (a3.2.2.1 a (by omega)).trans (by rw [pa_5]; repeat first | rw [upd2_row (by omega)] | rw [yAddC_row (by omega)])) hL7_ (yVm.gm pg_ (by repeat first | exact yVm.ft hFa | exact yVm.rr | refine yVm.addC ?_ | refine yVm.shD ?_ | refine yVm.up ?_ (by first | exact .inl (by decide) | exact .inr (by assumption))))
      have hmb_ : yMb (K + 1) I1 := hV.2.2.2.1.1.2.2.2.cg (Nat.le_succ K) (congrFun ((a3.2.2.1 74 (by decide)).trans (by rw [pa_5]; repeat first | rw [upd2_row (by omega)] | rw [yAddC_row (by omega)])) 2) ((a3.2.2.1 76 (by decide)).trans (by rw [pa_5]; repeat first | rw [upd2_row (by omega)] | rw [yAddC_row (by omega)])) (by omega)
      have hr8 : yR8 (K + 1) I1 R1 := ⟨hr7, hmn_, hvn_, hmb_⟩
      have hp9_ : yP9 I1 R1 := hV.2.2.2.1.2.1.kp hV.2.2.1 hFa (yLk.out hV.2.2.1) (by rw [pa_5]; repeat first | rw [upd2_row (by omega)] | rw [yAddC_row (by omega)]) (by omega) a3
      have hpd_ : yPdd I1 := hV.2.2.2.1.2.2.st (by omega) ((a3.2.2.1 54 (by decide)).trans (by rw [pa_5]; repeat first | rw [upd2_row (by omega)] | rw [yAddC_row (by omega)])) ((a3.2.2.1 55 (by decide)).trans (by rw [pa_5]; repeat first | rw [upd2_row (by omega)] | rw [yAddC_row (by omega)]))
      have hr9 : yR9 (K + 1) I1 R1 := ⟨hr8, hp9_, hpd_⟩
      have hV := hV.two pa_0 (fun a ha => funext fun k => hFa a k (.inl ha)) a1 a2 a3 hr9
      have hS := hV.1
      refine y_ret1 ?_
      refine y_istore (ls' := [some _, some _, some _, some _, some _, some _, some _]) rfl rfl rfl ?_
      refine y_goto rfl j_L_law_1673 ?_
      refine y_fgt (ls := [some _, some _, some _, some _, some _, none, none]) ⟨rfl, rfl, rfl, rfl, rfl, trivial⟩ ?_
      exact hN _ _ _ _ _ _ hV (by omega) (by omega)
theorem lc_3 (hV : yInv K n tg I R ln) (hk6 : K < 600) {x4 : Int32} (hx0 : 0 ≤ x4.toInt) (hx1 : x4.toInt + 7 ≤ (ln : Int)) (hl : ln ≤ 3584) (hN : ∀ n1 tg1 I1 R1 c1 s1, yInv (K + 1) n1 tg1 I1 R1 ln → c1 ≤ c + 790 → s1 ≤ s + 15250 → yW xm_L_law xc_L_law_1673 [some (.ref 33), some (.ref 34), some (.ref 83), some (.ref 93), some (.int x4), none, none] [] (n1, tg1, I1, R1) c1 s1 Q) : yW xm_L_law xc_L_law_336 [some (.ref 33), some (.ref 34), some (.ref 83), some (.ref 93), some (.int x4), none, none] [] (n, tg, I, R) c s Q := by
  have hS := hV.1
  refine y_aload_n rfl rfl ?_
  refine y_aload_n rfl rfl ?_
  refine y_iload rfl rfl ?_
  refine y_iconst rfl ?_
  refine y_iadd rfl ?_
  refine y_iaload rfl hV.2.2.2.2.2 (ySh.n hV.1 rfl) (sc_at hx0 hx1 hl (by decide) (by decide)).1 (sc_at hx0 hx1 hl (by decide) (by decide)).2 ?_
  refine y_aload_n rfl rfl ?_
  refine y_static rfl rfl rfl rfl rfl ?_
  refine v_buy hS hV.2.1 (fun hc_ => ?_) (fun hc_ => ?_) (fun hc_ v_a I_a pa_0 pa_1 pa_2 pa_3 pa_4 hBa R_a eR => ?_)
  · have e33 : I 33 = I 33 := rfl
    refine y_ret1 ?_
    refine y_istore (ls' := [some _, some _, some _, some _, some _, some _, _]) rfl rfl rfl ?_
    refine y_aload_n rfl rfl ?_
    refine y_aload_n rfl rfl ?_
    refine y_iload rfl rfl ?_
    refine y_iconst rfl ?_
    refine y_iadd rfl ?_
    refine y_iaload rfl hV.2.2.2.2.2 (ySh.n hV.1 rfl) (sc_at hx0 hx1 hl (by decide) (by decide)).1 (sc_at hx0 hx1 hl (by decide) (by decide)).2 ?_
    rw [e33]
    refine y_virt rfl rfl rfl rfl rfl (ySh.t hS rfl) (ySh.n hS rfl) ?_
    obtain ⟨r1, r2, r3, r4, r5, r6, r7, r8⟩ := hV.2.2.2.1.1.1.1.1.1.1
    refine yC.keep3 [(18, 4, 83), (18, 1, 83), (18, 8, 83), (3, 2, 88), (3, 2, 91), (3, 2, 92), (3, 2, 89), (3, 2, 90)] [] rfl rfl rfl hS hV.2.2.1 ?_
    refine h_buy hS hV.2.2.1 hk6 (hV.2.2.2.1.1.1.1.1.1.lf _) (fun hm_ v_b n1 tg1 I1 R1 c1 s1 a1 a2 a3 hth pg_ prf_ hc_b hs_b => ⟨a1, a3.2.1, fun hB_ h93_ hO_ hL_ => ?_⟩) (fun q_b e_b0 hm_ v_b n1 tg1 I1 R1 c1 s1 a1 a2 a3 hth pg_ prf_ hc_b hs_b => ⟨a1, a3.2.1, fun hB_ h93_ hO_ hL_ => ?_⟩) (fun q_b e_b0 hm_ v_b n1 tg1 I1 R1 c1 s1 a1 a2 a3 hth pv_ pg_ px_ hc_b hs_b => ⟨a1, a3.2.1, fun hB_ h93_ hO_ hL_ => ?_⟩)
    · have kc34_9 := congrArg Int32.toInt (congrFun (a3.2.2.1 34 (by decide)) 9)
      have kc34_8 := congrArg Int32.toInt (congrFun (a3.2.2.1 34 (by decide)) 8)
      have kc38_0 := congrArg Int32.toInt (congrFun (a3.2.2.1 38 (by decide)) 0)
      have kc40_0 := congrArg Int32.toInt (congrFun (a3.2.2.1 40 (by decide)) 0)
      have kc69_0 := congrArg Int32.toInt (congrFun (a3.2.2.1 69 (by decide)) 0)
      have kc77_0 := congrArg Int32.toInt (congrFun (a3.2.2.1 77 (by decide)) 0)
      have kc48_0 := congrArg Int32.toInt (congrFun (a3.2.2.1 48 (by decide)) 0)
      have kc59_0 := congrArg Int32.toInt (congrFun (a3.2.2.1 59 (by decide)) 0)
      have hB_ : yKeep _ _ I1 := hB_
      obtain ⟨mb0, mb1, mb2, mb3, mb4, mb5, mb6, mb7, -⟩ := hB_
      have mb0 := congrArg Int32.toInt mb0
      have mb1 := congrArg Int32.toInt mb1
      have mb2 := congrArg Int32.toInt mb2
      have mb3 := congrArg Int32.toInt mb3
      have mb4 := congrArg Int32.toInt mb4
      have mb5 := congrArg Int32.toInt mb5
      have mb6 := congrArg Int32.toInt mb6
      have mb7 := congrArg Int32.toInt mb7
      have hlv_ := fun q => @yLv_in I (I 33 (x4 + Int32.ofInt 1).toInt.toNat) q
      first | (have hlv_ := hlv_ ⟨by omega, by omega⟩) | skip
      have hrel : yRl I1 := ⟨by omega, by omega, by omega, by omega, by omega, by omega, by omega, by omega⟩
      have hr4 : yR6 I1 R1 := yR6.two hV.2.2.2.1.1.1.1 yFu.rf hV.2.2.1 hV.2.2.2.1.1.1.1.1.1.2.1 yLk.rf a3 (yR4.ob hV.2.2.1 pg_) (yS5.ob hV.2.2.1 pg_) (yL6.ob hV.2.2.1 pg_) hL_ hrel (by omega) (by omega) (by omega) (by omega)
      have hf7 : yF7 I1 R1 := hV.2.2.2.1.1.1.2.rf hV.2.2.1 prf_
      have hr7 : yR7 I1 R1 := ⟨hr4, hf7⟩
      have hr9 : yR9 (K + 1) I1 R1 := hV.2.2.2.1.rf hr7 hV.2.2.1 prf_ (Nat.le_succ K)
      have hV := hV.two hV.2.1 (fun _ _ => rfl) a1 a2 a3 hr9
      have hS := hV.1
      refine y_ret1 ?_
      refine y_istore (ls' := [some _, some _, some _, some _, some _, some _, some _]) rfl rfl rfl ?_
      refine y_goto rfl j_L_law_1673 ?_
      refine y_fgt (ls := [some _, some _, some _, some _, some _, none, none]) ⟨rfl, rfl, rfl, rfl, rfl, trivial⟩ ?_
      exact hN _ _ _ _ _ _ hV (by omega) (by omega)
    · have hlv_ := fun q => @yLv_in I (I 33 (x4 + Int32.ofInt 1).toInt.toNat) q
      obtain ⟨h94b, t0, t1, t2, t3, t4, t5⟩ := tie_th0 hV.2.2.2.1.1.1.1.1.1 hV.2.2.1 (by omega) e_b0
      try simp only [t0, t1, t2, t3, t4, t5] at hm_
      first | (have hlv_ := hlv_ ⟨by omega, by omega⟩) | skip
      exfalso; omega
    · have hlv_ := fun q => @yLv_in I (I 33 (x4 + Int32.ofInt 1).toInt.toNat) q
      obtain ⟨h94b, t0, t1, t2, t3, t4, t5⟩ := tie_th0 hV.2.2.2.1.1.1.1.1.1 hV.2.2.1 (by omega) e_b0
      try simp only [t0, t1, t2, t3, t4, t5] at hm_
      first | (have hlv_ := hlv_ ⟨by omega, by omega⟩) | skip
      exfalso; omega
  · have e33 : I 33 = I 33 := rfl
    refine y_ret1 ?_
    refine y_istore (ls' := [some _, some _, some _, some _, some _, some _, _]) rfl rfl rfl ?_
    refine y_aload_n rfl rfl ?_
    refine y_aload_n rfl rfl ?_
    refine y_iload rfl rfl ?_
    refine y_iconst rfl ?_
    refine y_iadd rfl ?_
    refine y_iaload rfl hV.2.2.2.2.2 (ySh.n hV.1 rfl) (sc_at hx0 hx1 hl (by decide) (by decide)).1 (sc_at hx0 hx1 hl (by decide) (by decide)).2 ?_
    rw [e33]
    refine y_virt rfl rfl rfl rfl rfl (ySh.t hS rfl) (ySh.n hS rfl) ?_
    obtain ⟨r1, r2, r3, r4, r5, r6, r7, r8⟩ := hV.2.2.2.1.1.1.1.1.1.1
    refine yC.keep3 [(18, 4, 83), (18, 1, 83), (18, 8, 83), (3, 2, 88), (3, 2, 91), (3, 2, 92), (3, 2, 89), (3, 2, 90)] [] rfl rfl rfl hS hV.2.2.1 ?_
    refine h_buy hS hV.2.2.1 hk6 (hV.2.2.2.1.1.1.1.1.1.lf _) (fun hm_ v_b n1 tg1 I1 R1 c1 s1 a1 a2 a3 hth pg_ prf_ hc_b hs_b => ⟨a1, a3.2.1, fun hB_ h93_ hO_ hL_ => ?_⟩) (fun q_b e_b0 hm_ v_b n1 tg1 I1 R1 c1 s1 a1 a2 a3 hth pg_ prf_ hc_b hs_b => ⟨a1, a3.2.1, fun hB_ h93_ hO_ hL_ => ?_⟩) (fun q_b e_b0 hm_ v_b n1 tg1 I1 R1 c1 s1 a1 a2 a3 hth pv_ pg_ px_ hc_b hs_b => ⟨a1, a3.2.1, fun hB_ h93_ hO_ hL_ => ?_⟩)
    · have hlv_ := fun q => @yLv_in I (I 33 (x4 + Int32.ofInt 1).toInt.toNat) q
      first | (have hlv_ := hlv_ ⟨by omega, by omega⟩) | skip
      exfalso; omega
    · have kc34_9 := congrArg Int32.toInt (congrFun (a3.2.2.1 34 (by decide)) 9)
      have kc34_8 := congrArg Int32.toInt (congrFun (a3.2.2.1 34 (by decide)) 8)
      have kc38_0 := congrArg Int32.toInt (congrFun (a3.2.2.1 38 (by decide)) 0)
      have kc40_0 := congrArg Int32.toInt (congrFun (a3.2.2.1 40 (by decide)) 0)
      have kc69_0 := congrArg Int32.toInt (congrFun (a3.2.2.1 69 (by decide)) 0)
      have kc77_0 := congrArg Int32.toInt (congrFun (a3.2.2.1 77 (by decide)) 0)
      have kc48_0 := congrArg Int32.toInt (congrFun (a3.2.2.1 48 (by decide)) 0)
      have kc59_0 := congrArg Int32.toInt (congrFun (a3.2.2.1 59 (by decide)) 0)
      have hB_ : yKeep _ _ I1 := hB_
      obtain ⟨mb0, mb1, mb2, mb3, mb4, mb5, mb6, mb7, -⟩ := hB_
      have mb0 := congrArg Int32.toInt mb0
      have mb1 := congrArg Int32.toInt mb1
      have mb2 := congrArg Int32.toInt mb2
      have mb3 := congrArg Int32.toInt mb3
      have mb4 := congrArg Int32.toInt mb4
      have mb5 := congrArg Int32.toInt mb5
      have mb6 := congrArg Int32.toInt mb6
      have mb7 := congrArg Int32.toInt mb7
      have hlv_ := fun q => @yLv_in I (I 33 (x4 + Int32.ofInt 1).toInt.toNat) q
      obtain ⟨h94b, t0, t1, t2, t3, t4, t5⟩ := tie_th0 hV.2.2.2.1.1.1.1.1.1 hV.2.2.1 (by omega) e_b0
      try simp only [t0, t1, t2, t3, t4, t5] at hm_
      first | (have hlv_ := hlv_ ⟨by omega, by omega⟩) | skip
      have hrel : yRl I1 := ⟨by omega, by omega, by omega, by omega, by omega, by omega, by omega, by omega⟩
      have hr4 : yR6 I1 R1 := yR6.two hV.2.2.2.1.1.1.1 yFu.rf hV.2.2.1 hV.2.2.2.1.1.1.1.1.1.2.1 yLk.rf a3 (yR4.ob hV.2.2.1 pg_) (yS5.ob hV.2.2.1 pg_) (yL6.ob hV.2.2.1 pg_) hL_ hrel (by omega) (by omega) (by omega) (by omega)
      have hf7 : yF7 I1 R1 := hV.2.2.2.1.1.1.2.rf hV.2.2.1 prf_
      have hr7 : yR7 I1 R1 := ⟨hr4, hf7⟩
      have hr9 : yR9 (K + 1) I1 R1 := hV.2.2.2.1.rf hr7 hV.2.2.1 prf_ (Nat.le_succ K)
      have hV := hV.two hV.2.1 (fun _ _ => rfl) a1 a2 a3 hr9
      have hS := hV.1
      refine y_ret1 ?_
      refine y_istore (ls' := [some _, some _, some _, some _, some _, some _, some _]) rfl rfl rfl ?_
      refine y_goto rfl j_L_law_1673 ?_
      refine y_fgt (ls := [some _, some _, some _, some _, some _, none, none]) ⟨rfl, rfl, rfl, rfl, rfl, trivial⟩ ?_
      exact hN _ _ _ _ _ _ hV (by omega) (by omega)
    · have hlv_ := fun q => @yLv_in I (I 33 (x4 + Int32.ofInt 1).toInt.toNat) q
      obtain ⟨h94b, t0, t1, t2, t3, t4, t5⟩ := tie_th0 hV.2.2.2.1.1.1.1.1.1 hV.2.2.1 (by omega) e_b0
      try simp only [t0, t1, t2, t3, t4, t5] at hm_
      first | (have hlv_ := hlv_ ⟨by omega, by omega⟩) | skip
      exfalso; omega
  · have hFa : yFt I I_a := pa_1
    have e33 : I_a 33 = I 33 := funext fun k => hFa 33 k (.inl (by decide))
    have hS : ySh n tg R_a := by rw [eR]; exact hS.out
    have hRa : yRI K n tg I_a R_a := (hV.2.2.1.ft hFa).outR (fun a ha => by rw [eR]; exact upd2_row ha)
    refine y_ret1 ?_
    refine y_istore (ls' := [some _, some _, some _, some _, some _, some _, _]) rfl rfl rfl ?_
    refine y_aload_n rfl rfl ?_
    refine y_aload_n rfl rfl ?_
    refine y_iload rfl rfl ?_
    refine y_iconst rfl ?_
    refine y_iadd rfl ?_
    refine y_iaload rfl hV.2.2.2.2.2 (ySh.n hV.1 rfl) (sc_at hx0 hx1 hl (by decide) (by decide)).1 (sc_at hx0 hx1 hl (by decide) (by decide)).2 ?_
    rw [e33]
    refine y_virt rfl rfl rfl rfl rfl (ySh.t hS rfl) (ySh.n hS rfl) ?_
    obtain ⟨r1, r2, r3, r4, r5, r6, r7, r8⟩ := hV.2.2.2.1.1.1.1.1.1.1
    have eM : ∀ l k, 83 ≤ l → (I_a l k).toInt = (I l k).toInt := fun l k hl => congrArg Int32.toInt (hFa l k (.inr (.inl hl)))
    have em83_4 := eM 83 4 (by decide)
    have em83_1 := eM 83 1 (by decide)
    have em83_8 := eM 83 8 (by decide)
    have em88_2 := eM 88 2 (by decide)
    have em91_2 := eM 91 2 (by decide)
    have em92_2 := eM 92 2 (by decide)
    have em89_2 := eM 89 2 (by decide)
    have em90_2 := eM 90 2 (by decide)
    have em83_7 := eM 83 7 (by decide)
    obtain ⟨kb0, kb1, kb2, kb3, kb4, kb5, kb6, kb7, -⟩ := hBa
    have kb0 := congrArg Int32.toInt kb0
    have kb1 := congrArg Int32.toInt kb1
    have kb2 := congrArg Int32.toInt kb2
    have kb3 := congrArg Int32.toInt kb3
    have kb4 := congrArg Int32.toInt kb4
    have kb5 := congrArg Int32.toInt kb5
    have kb6 := congrArg Int32.toInt kb6
    have kb7 := congrArg Int32.toInt kb7
    refine yC.keep3 [(18, 4, 83), (18, 1, 83), (18, 8, 83), (3, 2, 88), (3, 2, 91), (3, 2, 92), (3, 2, 89), (3, 2, 90)] [] rfl rfl rfl hS hRa ?_
    refine h_buy hS hRa hk6 (by rw [eR]; exact (hV.2.2.2.1.1.1.1.1.1.lf _).ft hV.2.2.1 hFa) (fun hm_ v_b n1 tg1 I1 R1 c1 s1 a1 a2 a3 hth pg_ prf_ hc_b hs_b => ⟨a1, a3.2.1, fun hB_ h93_ hO_ hL_ => ?_⟩) (fun q_b e_b0 hm_ v_b n1 tg1 I1 R1 c1 s1 a1 a2 a3 hth pg_ prf_ hc_b hs_b => ⟨a1, a3.2.1, fun hB_ h93_ hO_ hL_ => ?_⟩) (fun q_b e_b0 hm_ v_b n1 tg1 I1 R1 c1 s1 a1 a2 a3 hth pv_ pg_ px_ hc_b hs_b => ⟨a1, a3.2.1, fun hB_ h93_ hO_ hL_ => ?_⟩)
    · subst eR
      have hlv_ := fun q => @yLv_in I (I 33 (x4 + Int32.ofInt 1).toInt.toNat) q
      first | (have hlv_ := hlv_ ⟨by omega, by omega⟩) | skip
      exfalso; omega
    · subst eR
      have hlv_ := fun q => @yLv_in I (I 33 (x4 + Int32.ofInt 1).toInt.toNat) q
      obtain ⟨⟨hb_, eb_⟩, h94b, t0, t1, t2, t3, t4, t5⟩ := tie_th1 hV.2.2.2.1.1.1.1.1.1 hV.2.2.1 hFa (by omega) e_b0
      try simp only [eb_, t0, t1, t2, t3, t4, t5] at hm_
      first | (have hlv_ := hlv_ ⟨by omega, by omega⟩) | skip
      exfalso; omega
    · have kc34_9 := congrArg Int32.toInt (congrFun (a3.2.2.1 34 (by decide)) 9)
      have kc34_8 := congrArg Int32.toInt (congrFun (a3.2.2.1 34 (by decide)) 8)
      have kc38_0 := congrArg Int32.toInt (congrFun (a3.2.2.1 38 (by decide)) 0)
      have kc40_0 := congrArg Int32.toInt (congrFun (a3.2.2.1 40 (by decide)) 0)
      have kc69_0 := congrArg Int32.toInt (congrFun (a3.2.2.1 69 (by decide)) 0)
      have kc77_0 := congrArg Int32.toInt (congrFun (a3.2.2.1 77 (by decide)) 0)
      have kc48_0 := congrArg Int32.toInt (congrFun (a3.2.2.1 48 (by decide)) 0)
      have kc59_0 := congrArg Int32.toInt (congrFun (a3.2.2.1 59 (by decide)) 0)
      have hB_ : yKeep _ _ I1 := hB_
      obtain ⟨mb0, mb1, mb2, mb3, mb4, mb5, mb6, mb7, -⟩ := hB_
      have mb0 := congrArg Int32.toInt mb0
      have mb1 := congrArg Int32.toInt mb1
      have mb2 := congrArg Int32.toInt mb2
      have mb3 := congrArg Int32.toInt mb3
      have mb4 := congrArg Int32.toInt mb4
      have mb5 := congrArg Int32.toInt mb5
      have mb6 := congrArg Int32.toInt mb6
      have mb7 := congrArg Int32.toInt mb7
      subst eR
      have hlv_ := fun q => @yLv_in I (I 33 (x4 + Int32.ofInt 1).toInt.toNat) q
      obtain ⟨⟨hb_, eb_⟩, h94b, t0, t1, t2, t3, t4, t5⟩ := tie_th1 hV.2.2.2.1.1.1.1.1.1 hV.2.2.1 hFa (by omega) e_b0
      try simp only [eb_, t0, t1, t2, t3, t4, t5] at hm_
      first | (have hlv_ := hlv_ ⟨by omega, by omega⟩) | skip
      have hrel : yRl I1 := ⟨by omega, by omega, by omega, by omega, by omega, by omega, by omega, by omega⟩
      try simp only [eb_] at pg_
      have hc40_ := hV.2.1.2.1
      have hc48_ := hV.2.1.2.2.1
      have hc59_ := hV.2.1.2.2.2.1
      have S_ := yStp.mk hV.2.2.2.1.1.1.1.1.1 hV.2.2.1 hFa pa_3 a3 pg_ (by first | exact yGm.ft hFa | exact yGm.bothR (yGm.ft hFa) | exact yGm.bothR (yGm.bothR (yGm.ft hFa)) | exact yGm.bothR (yGm.bothR (yGm.bothR (yGm.ft hFa))) | exact yGm.bothR (yGm.bothR (yGm.bothR (yGm.bothR (yGm.ft hFa)))) | exact yGm.bothR (yGm.bothR (yGm.bothR (yGm.bothR (yGm.bothR (yGm.ft hFa)))))) hL_ hrel
      have hr4 : yR6 I1 R1 := ⟨rel5_buy (by omega) hb_ hV.2.2.2.1.1.1.1.1.2 (by omega) S_, rel6_buy (by omega) hb_ (by omega) hV.2.2.2.1.1.1.1.2 (by omega) S_⟩
      have hL7_ : yLk I R R1 := fun l h1 h2 i hi => (hL_ l h1 h2 i (by rw [hFa.hi (show 83 ≤ l by omega)]; exact hi)).trans (yLk.out hV.2.2.1 l h1 h2 i hi)
      have tb_ := hV.2.2.1.g88 (by omega) hb_
      have hm7_ : yFm n tg I I1 := yFm.gm pg_ (by repeat first | exact yFm.ft hFa | exact yFm.rr | refine yFm.addC ?_ | refine yFm.shD ?_ | refine yFm.prD ?_ (by assumption) | refine yFm.lsD ?_ (by assumption) | refine yFm.up ?_ (by first | exact .inl (by decide) | exact .inr (by assumption)))
      have h94_ : 94 ≤ n := hV.1.1
      have h7_ : I1 83 7 = I 83 7 := (congrFun (px_.n (show 83 < n by omega)) 7).trans (by repeat first | exact rfl | exact yext em83_7 | refine k7addC ?_ | refine k7shD ?_ | refine k7prD ?_ (by omega) | refine k7lsD ?_ (by omega) | refine k7up ?_ (by first | exact .inr (by decide) | exact .inl (by decide) | exact .inl (by omega)))
      have hf7 : yF7 I1 R1 := hV.2.2.2.1.1.1.2.st hV.2.2.1 (by omega) h7_ (fun a h1 h2 => (a3.2.2.1 a (by omega)).trans (by rw [pa_4]; repeat first | rw [upd2_row (by omega)] | rw [yAddC_row (by omega)])) hL7_ hm7_
      have hr7 : yR7 I1 R1 := ⟨hr4, hf7⟩
      have hM8_ : yMn I I_a := hV.2.2.2.1.1.2.1.ia hFa
      have ho_ := hV.2.2.1.own (by omega) hb_
      rw [t1] at ho_
      have px8_ := px_
      simp only [eb_, t0, t1] at px8_
      have hmn_ : yMn I1 I1 := ((m9_buy hM8_ ho_.2.1 ho_.2.2 (by omega) ho_.1).ea pa_4).px a3 px8_ h94_
      have n9b_ := hV.2.2.1.n9 (l := 88) (by decide) (by decide) (by omega) hb_
      have hvn_ : yVn I1 I1 R1 := hV.2.2.2.1.1.2.2.1.st hV.2.2.1 (by omega) (fun a h1 h2 => (a3.2.2.1 a (by omega)).trans (by rw [pa_4]; repeat first | rw [upd2_row (by omega)] | rw [yAddC_row (by omega)])) hL7_ (yVm.x px_ (by repeat first | exact yVm.ft hFa | exact yVm.rr | refine yVm.addC ?_ | refine yVm.shD ?_ | refine yVm.up ?_ (by first | exact .inl (by decide) | exact .inr (by assumption))))
      have hmb_ : yMb (K + 1) I1 := hV.2.2.2.1.1.2.2.2.cg (Nat.le_succ K) (congrFun ((a3.2.2.1 74 (by decide)).trans (by rw [pa_4]; repeat first | rw [upd2_row (by omega)] | rw [yAddC_row (by omega)])) 2) ((a3.2.2.1 76 (by decide)).trans (by rw [pa_4]; repeat first | rw [upd2_row (by omega)] | rw [yAddC_row (by omega)])) (by omega)
      have hr8 : yR8 (K + 1) I1 R1 := ⟨hr7, hmn_, hvn_, hmb_⟩
      have hp9_ : yP9 I1 R1 := hV.2.2.2.1.2.1.kp hV.2.2.1 hFa (yLk.out hV.2.2.1) (by rw [pa_4]; repeat first | rw [upd2_row (by omega)] | rw [yAddC_row (by omega)]) (by omega) a3
      have hpd_ : yPdd I1 := hV.2.2.2.1.2.2.st (by omega) ((a3.2.2.1 54 (by decide)).trans (by rw [pa_4]; repeat first | rw [upd2_row (by omega)] | rw [yAddC_row (by omega)])) ((a3.2.2.1 55 (by decide)).trans (by rw [pa_4]; repeat first | rw [upd2_row (by omega)] | rw [yAddC_row (by omega)]))
      have hr9 : yR9 (K + 1) I1 R1 := ⟨hr8, hp9_, hpd_⟩
      have hV := hV.two pa_0 (fun a ha => funext fun k => hFa a k (.inl ha)) a1 a2 a3 hr9
      have hS := hV.1
      refine y_ret1 ?_
      refine y_istore (ls' := [some _, some _, some _, some _, some _, some _, some _]) rfl rfl rfl ?_
      refine y_goto rfl j_L_law_1673 ?_
      refine y_fgt (ls := [some _, some _, some _, some _, some _, none, none]) ⟨rfl, rfl, rfl, rfl, rfl, trivial⟩ ?_
      exact hN _ _ _ _ _ _ hV (by omega) (by omega)
theorem lc_4 (hV : yInv K n tg I R ln) (hk6 : K < 600) {x4 : Int32} (hx0 : 0 ≤ x4.toInt) (hx1 : x4.toInt + 7 ≤ (ln : Int)) (hl : ln ≤ 3584) (hN : ∀ n1 tg1 I1 R1 c1 s1, yInv (K + 1) n1 tg1 I1 R1 ln → c1 ≤ c + 790 → s1 ≤ s + 15250 → yW xm_L_law xc_L_law_1673 [some (.ref 33), some (.ref 34), some (.ref 83), some (.ref 93), some (.int x4), none, none] [] (n1, tg1, I1, R1) c1 s1 Q) : yW xm_L_law xc_L_law_364 [some (.ref 33), some (.ref 34), some (.ref 83), some (.ref 93), some (.int x4), none, none] [] (n, tg, I, R) c s Q := by
  have hS := hV.1
  refine y_aload_n rfl rfl ?_
  refine y_aload_n rfl rfl ?_
  refine y_iload rfl rfl ?_
  refine y_iconst rfl ?_
  refine y_iadd rfl ?_
  refine y_iaload rfl hV.2.2.2.2.2 (ySh.n hV.1 rfl) (sc_at hx0 hx1 hl (by decide) (by decide)).1 (sc_at hx0 hx1 hl (by decide) (by decide)).2 ?_
  refine y_aload_n rfl rfl ?_
  refine y_static rfl rfl rfl rfl rfl ?_
  refine v_take hS hV.2.1 (fun hc_ => ?_) (fun hc_ => ?_) (fun hc_ v_a I_a pa_0 pa_1 pa_2 pa_3 pa_4 hBa R_a eR => ?_)
  · have e33 : I 33 = I 33 := rfl
    refine y_ret1 ?_
    refine y_istore (ls' := [some _, some _, some _, some _, some _, some _, _]) rfl rfl rfl ?_
    refine y_aload_n rfl rfl ?_
    refine y_aload_n rfl rfl ?_
    refine y_iload rfl rfl ?_
    refine y_iconst rfl ?_
    refine y_iadd rfl ?_
    refine y_iaload rfl hV.2.2.2.2.2 (ySh.n hV.1 rfl) (sc_at hx0 hx1 hl (by decide) (by decide)).1 (sc_at hx0 hx1 hl (by decide) (by decide)).2 ?_
    rw [e33]
    refine y_virt rfl rfl rfl rfl rfl (ySh.t hS rfl) (ySh.n hS rfl) ?_
    obtain ⟨r1, r2, r3, r4, r5, r6, r7, r8⟩ := hV.2.2.2.1.1.1.1.1.1.1
    refine yC.keep3 [(18, 4, 83), (18, 1, 83), (18, 8, 83), (3, 2, 88), (3, 2, 91), (3, 2, 92), (3, 2, 89), (3, 2, 90)] [] rfl rfl rfl hS hV.2.2.1 ?_
    refine h_take hS hV.2.2.1 hk6  (fun hm_ v_b n1 tg1 I1 R1 c1 s1 a1 a2 a3 hth pg_ prf_ hc_b hs_b => ⟨a1, a3.2.1, fun hB_ h93_ hO_ hL_ => ?_⟩) (fun q_b e_b0 hm_ v_b n1 tg1 I1 R1 c1 s1 a1 a2 a3 hth pg_ prf_ hc_b hs_b => ⟨a1, a3.2.1, fun hB_ h93_ hO_ hL_ => ?_⟩) (fun q_b e_b0 hm_ v_b n1 tg1 I1 R1 c1 s1 a1 a2 a3 hth pv_ pg_ px_ hc_b hs_b => ⟨a1, a3.2.1, fun hB_ h93_ hO_ hL_ => ?_⟩)
    · have kc34_9 := congrArg Int32.toInt (congrFun (a3.2.2.1 34 (by decide)) 9)
      have kc34_8 := congrArg Int32.toInt (congrFun (a3.2.2.1 34 (by decide)) 8)
      have kc38_0 := congrArg Int32.toInt (congrFun (a3.2.2.1 38 (by decide)) 0)
      have kc40_0 := congrArg Int32.toInt (congrFun (a3.2.2.1 40 (by decide)) 0)
      have kc69_0 := congrArg Int32.toInt (congrFun (a3.2.2.1 69 (by decide)) 0)
      have kc77_0 := congrArg Int32.toInt (congrFun (a3.2.2.1 77 (by decide)) 0)
      have kc48_0 := congrArg Int32.toInt (congrFun (a3.2.2.1 48 (by decide)) 0)
      have kc59_0 := congrArg Int32.toInt (congrFun (a3.2.2.1 59 (by decide)) 0)
      have hB_ : yKeep _ _ I1 := hB_
      obtain ⟨mb0, mb1, mb2, mb3, mb4, mb5, mb6, mb7, -⟩ := hB_
      have mb0 := congrArg Int32.toInt mb0
      have mb1 := congrArg Int32.toInt mb1
      have mb2 := congrArg Int32.toInt mb2
      have mb3 := congrArg Int32.toInt mb3
      have mb4 := congrArg Int32.toInt mb4
      have mb5 := congrArg Int32.toInt mb5
      have mb6 := congrArg Int32.toInt mb6
      have mb7 := congrArg Int32.toInt mb7
      have hrel : yRl I1 := ⟨by omega, by omega, by omega, by omega, by omega, by omega, by omega, by omega⟩
      have hr4 : yR6 I1 R1 := yR6.two hV.2.2.2.1.1.1.1 yFu.rf hV.2.2.1 hV.2.2.2.1.1.1.1.1.1.2.1 yLk.rf a3 (yR4.ob hV.2.2.1 pg_) (yS5.ob hV.2.2.1 pg_) (yL6.ob hV.2.2.1 pg_) hL_ hrel (by omega) (by omega) (by omega) (by omega)
      have hf7 : yF7 I1 R1 := hV.2.2.2.1.1.1.2.rf hV.2.2.1 prf_
      have hr7 : yR7 I1 R1 := ⟨hr4, hf7⟩
      have hr9 : yR9 (K + 1) I1 R1 := hV.2.2.2.1.rf hr7 hV.2.2.1 prf_ (Nat.le_succ K)
      have hV := hV.two hV.2.1 (fun _ _ => rfl) a1 a2 a3 hr9
      have hS := hV.1
      refine y_ret1 ?_
      refine y_istore (ls' := [some _, some _, some _, some _, some _, some _, some _]) rfl rfl rfl ?_
      refine y_goto rfl j_L_law_1673 ?_
      refine y_fgt (ls := [some _, some _, some _, some _, some _, none, none]) ⟨rfl, rfl, rfl, rfl, rfl, trivial⟩ ?_
      exact hN _ _ _ _ _ _ hV (by omega) (by omega)
    · obtain ⟨h94b, t0, t1, t2, t3, t4, t5⟩ := tie_th0 hV.2.2.2.1.1.1.1.1.1 hV.2.2.1 (by omega) e_b0
      try simp only [t0, t1, t2, t3, t4, t5] at hm_
      exfalso; omega
    · obtain ⟨h94b, t0, t1, t2, t3, t4, t5⟩ := tie_th0 hV.2.2.2.1.1.1.1.1.1 hV.2.2.1 (by omega) e_b0
      try simp only [t0, t1, t2, t3, t4, t5] at hm_
      exfalso; omega
  · have e33 : I 33 = I 33 := rfl
    refine y_ret1 ?_
    refine y_istore (ls' := [some _, some _, some _, some _, some _, some _, _]) rfl rfl rfl ?_
    refine y_aload_n rfl rfl ?_
    refine y_aload_n rfl rfl ?_
    refine y_iload rfl rfl ?_
    refine y_iconst rfl ?_
    refine y_iadd rfl ?_
    refine y_iaload rfl hV.2.2.2.2.2 (ySh.n hV.1 rfl) (sc_at hx0 hx1 hl (by decide) (by decide)).1 (sc_at hx0 hx1 hl (by decide) (by decide)).2 ?_
    rw [e33]
    refine y_virt rfl rfl rfl rfl rfl (ySh.t hS rfl) (ySh.n hS rfl) ?_
    obtain ⟨r1, r2, r3, r4, r5, r6, r7, r8⟩ := hV.2.2.2.1.1.1.1.1.1.1
    refine yC.keep3 [(18, 4, 83), (18, 1, 83), (18, 8, 83), (3, 2, 88), (3, 2, 91), (3, 2, 92), (3, 2, 89), (3, 2, 90)] [] rfl rfl rfl hS hV.2.2.1 ?_
    refine h_take hS hV.2.2.1 hk6  (fun hm_ v_b n1 tg1 I1 R1 c1 s1 a1 a2 a3 hth pg_ prf_ hc_b hs_b => ⟨a1, a3.2.1, fun hB_ h93_ hO_ hL_ => ?_⟩) (fun q_b e_b0 hm_ v_b n1 tg1 I1 R1 c1 s1 a1 a2 a3 hth pg_ prf_ hc_b hs_b => ⟨a1, a3.2.1, fun hB_ h93_ hO_ hL_ => ?_⟩) (fun q_b e_b0 hm_ v_b n1 tg1 I1 R1 c1 s1 a1 a2 a3 hth pv_ pg_ px_ hc_b hs_b => ⟨a1, a3.2.1, fun hB_ h93_ hO_ hL_ => ?_⟩)
    · exfalso; omega
    · have kc34_9 := congrArg Int32.toInt (congrFun (a3.2.2.1 34 (by decide)) 9)
      have kc34_8 := congrArg Int32.toInt (congrFun (a3.2.2.1 34 (by decide)) 8)
      have kc38_0 := congrArg Int32.toInt (congrFun (a3.2.2.1 38 (by decide)) 0)
      have kc40_0 := congrArg Int32.toInt (congrFun (a3.2.2.1 40 (by decide)) 0)
      have kc69_0 := congrArg Int32.toInt (congrFun (a3.2.2.1 69 (by decide)) 0)
      have kc77_0 := congrArg Int32.toInt (congrFun (a3.2.2.1 77 (by decide)) 0)
      have kc48_0 := congrArg Int32.toInt (congrFun (a3.2.2.1 48 (by decide)) 0)
      have kc59_0 := congrArg Int32.toInt (congrFun (a3.2.2.1 59 (by decide)) 0)
      have hB_ : yKeep _ _ I1 := hB_
      obtain ⟨mb0, mb1, mb2, mb3, mb4, mb5, mb6, mb7, -⟩ := hB_
      have mb0 := congrArg Int32.toInt mb0
      have mb1 := congrArg Int32.toInt mb1
      have mb2 := congrArg Int32.toInt mb2
      have mb3 := congrArg Int32.toInt mb3
      have mb4 := congrArg Int32.toInt mb4
      have mb5 := congrArg Int32.toInt mb5
      have mb6 := congrArg Int32.toInt mb6
      have mb7 := congrArg Int32.toInt mb7
      obtain ⟨h94b, t0, t1, t2, t3, t4, t5⟩ := tie_th0 hV.2.2.2.1.1.1.1.1.1 hV.2.2.1 (by omega) e_b0
      try simp only [t0, t1, t2, t3, t4, t5] at hm_
      have hrel : yRl I1 := ⟨by omega, by omega, by omega, by omega, by omega, by omega, by omega, by omega⟩
      have hr4 : yR6 I1 R1 := yR6.two hV.2.2.2.1.1.1.1 yFu.rf hV.2.2.1 hV.2.2.2.1.1.1.1.1.1.2.1 yLk.rf a3 (yR4.ob hV.2.2.1 pg_) (yS5.ob hV.2.2.1 pg_) (yL6.ob hV.2.2.1 pg_) hL_ hrel (by omega) (by omega) (by omega) (by omega)
      have hf7 : yF7 I1 R1 := hV.2.2.2.1.1.1.2.rf hV.2.2.1 prf_
      have hr7 : yR7 I1 R1 := ⟨hr4, hf7⟩
      have hr9 : yR9 (K + 1) I1 R1 := hV.2.2.2.1.rf hr7 hV.2.2.1 prf_ (Nat.le_succ K)
      have hV := hV.two hV.2.1 (fun _ _ => rfl) a1 a2 a3 hr9
      have hS := hV.1
      refine y_ret1 ?_
      refine y_istore (ls' := [some _, some _, some _, some _, some _, some _, some _]) rfl rfl rfl ?_
      refine y_goto rfl j_L_law_1673 ?_
      refine y_fgt (ls := [some _, some _, some _, some _, some _, none, none]) ⟨rfl, rfl, rfl, rfl, rfl, trivial⟩ ?_
      exact hN _ _ _ _ _ _ hV (by omega) (by omega)
    · obtain ⟨h94b, t0, t1, t2, t3, t4, t5⟩ := tie_th0 hV.2.2.2.1.1.1.1.1.1 hV.2.2.1 (by omega) e_b0
      try simp only [t0, t1, t2, t3, t4, t5] at hm_
      exfalso; omega
  · have hFa : yFt I I_a := pa_1
    have e33 : I_a 33 = I 33 := funext fun k => hFa 33 k (.inl (by decide))
    have hS : ySh n tg R_a := by rw [eR]; exact hS.out
    have hRa : yRI K n tg I_a R_a := (hV.2.2.1.ft hFa).outR (fun a ha => by rw [eR]; exact upd2_row ha)
    refine y_ret1 ?_
    refine y_istore (ls' := [some _, some _, some _, some _, some _, some _, _]) rfl rfl rfl ?_
    refine y_aload_n rfl rfl ?_
    refine y_aload_n rfl rfl ?_
    refine y_iload rfl rfl ?_
    refine y_iconst rfl ?_
    refine y_iadd rfl ?_
    refine y_iaload rfl hV.2.2.2.2.2 (ySh.n hV.1 rfl) (sc_at hx0 hx1 hl (by decide) (by decide)).1 (sc_at hx0 hx1 hl (by decide) (by decide)).2 ?_
    rw [e33]
    refine y_virt rfl rfl rfl rfl rfl (ySh.t hS rfl) (ySh.n hS rfl) ?_
    obtain ⟨r1, r2, r3, r4, r5, r6, r7, r8⟩ := hV.2.2.2.1.1.1.1.1.1.1
    have eM : ∀ l k, 83 ≤ l → (I_a l k).toInt = (I l k).toInt := fun l k hl => congrArg Int32.toInt (hFa l k (.inr (.inl hl)))
    have em83_4 := eM 83 4 (by decide)
    have em83_1 := eM 83 1 (by decide)
    have em83_8 := eM 83 8 (by decide)
    have em88_2 := eM 88 2 (by decide)
    have em91_2 := eM 91 2 (by decide)
    have em92_2 := eM 92 2 (by decide)
    have em89_2 := eM 89 2 (by decide)
    have em90_2 := eM 90 2 (by decide)
    have em83_7 := eM 83 7 (by decide)
    obtain ⟨kb0, kb1, kb2, kb3, kb4, kb5, kb6, kb7, -⟩ := hBa
    have kb0 := congrArg Int32.toInt kb0
    have kb1 := congrArg Int32.toInt kb1
    have kb2 := congrArg Int32.toInt kb2
    have kb3 := congrArg Int32.toInt kb3
    have kb4 := congrArg Int32.toInt kb4
    have kb5 := congrArg Int32.toInt kb5
    have kb6 := congrArg Int32.toInt kb6
    have kb7 := congrArg Int32.toInt kb7
    refine yC.keep3 [(18, 4, 83), (18, 1, 83), (18, 8, 83), (3, 2, 88), (3, 2, 91), (3, 2, 92), (3, 2, 89), (3, 2, 90)] [] rfl rfl rfl hS hRa ?_
    refine h_take hS hRa hk6  (fun hm_ v_b n1 tg1 I1 R1 c1 s1 a1 a2 a3 hth pg_ prf_ hc_b hs_b => ⟨a1, a3.2.1, fun hB_ h93_ hO_ hL_ => ?_⟩) (fun q_b e_b0 hm_ v_b n1 tg1 I1 R1 c1 s1 a1 a2 a3 hth pg_ prf_ hc_b hs_b => ⟨a1, a3.2.1, fun hB_ h93_ hO_ hL_ => ?_⟩) (fun q_b e_b0 hm_ v_b n1 tg1 I1 R1 c1 s1 a1 a2 a3 hth pv_ pg_ px_ hc_b hs_b => ⟨a1, a3.2.1, fun hB_ h93_ hO_ hL_ => ?_⟩)
    · subst eR
      exfalso; omega
    · subst eR
      obtain ⟨⟨hb_, eb_⟩, h94b, t0, t1, t2, t3, t4, t5⟩ := tie_th1 hV.2.2.2.1.1.1.1.1.1 hV.2.2.1 hFa (by omega) e_b0
      try simp only [eb_, t0, t1, t2, t3, t4, t5] at hm_
      exfalso; omega
    · have kc34_9 := congrArg Int32.toInt (congrFun (a3.2.2.1 34 (by decide)) 9)
      have kc34_8 := congrArg Int32.toInt (congrFun (a3.2.2.1 34 (by decide)) 8)
      have kc38_0 := congrArg Int32.toInt (congrFun (a3.2.2.1 38 (by decide)) 0)
      have kc40_0 := congrArg Int32.toInt (congrFun (a3.2.2.1 40 (by decide)) 0)
      have kc69_0 := congrArg Int32.toInt (congrFun (a3.2.2.1 69 (by decide)) 0)
      have kc77_0 := congrArg Int32.toInt (congrFun (a3.2.2.1 77 (by decide)) 0)
      have kc48_0 := congrArg Int32.toInt (congrFun (a3.2.2.1 48 (by decide)) 0)
      have kc59_0 := congrArg Int32.toInt (congrFun (a3.2.2.1 59 (by decide)) 0)
      have hB_ : yKeep _ _ I1 := hB_
      obtain ⟨mb0, mb1, mb2, mb3, mb4, mb5, mb6, mb7, -⟩ := hB_
      have mb0 := congrArg Int32.toInt mb0
      have mb1 := congrArg Int32.toInt mb1
      have mb2 := congrArg Int32.toInt mb2
      have mb3 := congrArg Int32.toInt mb3
      have mb4 := congrArg Int32.toInt mb4
      have mb5 := congrArg Int32.toInt mb5
      have mb6 := congrArg Int32.toInt mb6
      have mb7 := congrArg Int32.toInt mb7
      subst eR
      obtain ⟨⟨hb_, eb_⟩, h94b, t0, t1, t2, t3, t4, t5⟩ := tie_th1 hV.2.2.2.1.1.1.1.1.1 hV.2.2.1 hFa (by omega) e_b0
      try simp only [eb_, t0, t1, t2, t3, t4, t5] at hm_
      have hrel : yRl I1 := ⟨by omega, by omega, by omega, by omega, by omega, by omega, by omega, by omega⟩
      have hc40_ := hV.2.1.2.1
      have hc48_ := hV.2.1.2.2.1
      have hc59_ := hV.2.1.2.2.2.1
      have S_ := yStp.mk hV.2.2.2.1.1.1.1.1.1 hV.2.2.1 hFa pa_3 a3 pg_ (by first | exact yGm.ft hFa | exact yGm.bothR (yGm.ft hFa) | exact yGm.bothR (yGm.bothR (yGm.ft hFa)) | exact yGm.bothR (yGm.bothR (yGm.bothR (yGm.ft hFa))) | exact yGm.bothR (yGm.bothR (yGm.bothR (yGm.bothR (yGm.ft hFa)))) | exact yGm.bothR (yGm.bothR (yGm.bothR (yGm.bothR (yGm.bothR (yGm.ft hFa)))))) hL_ hrel
      have hr4 : yR6 I1 R1 := ⟨rel5_take (by omega) hb_ hV.2.2.2.1.1.1.1.1.2 (by omega) S_, rel6_take (by omega) hb_ (by omega) hV.2.2.2.1.1.1.1.2 (by omega) S_⟩
      have hL7_ : yLk I R R1 := fun l h1 h2 i hi => (hL_ l h1 h2 i (by rw [hFa.hi (show 83 ≤ l by omega)]; exact hi)).trans (yLk.out hV.2.2.1 l h1 h2 i hi)
      have tb_ := hV.2.2.1.g88 (by omega) hb_
      have hm7_ : yFm n tg I I1 := yFm.gm pg_ (by repeat first | exact yFm.ft hFa | exact yFm.rr | refine yFm.addC ?_ | refine yFm.shD ?_ | refine yFm.prD ?_ (by assumption) | refine yFm.lsD ?_ (by assumption) | refine yFm.up ?_ (by first | exact .inl (by decide) | exact .inr (by assumption)))
      have h94_ : 94 ≤ n := hV.1.1
      have h7_ : I1 83 7 = I 83 7 := (congrFun (px_.n (show 83 < n by omega)) 7).trans (by repeat first | exact rfl | exact yext em83_7 | refine k7addC ?_ | refine k7shD ?_ | refine k7prD ?_ (by omega) | refine k7lsD ?_ (by omega) | refine k7up ?_ (by first | exact .inr (by decide) | exact .inl (by decide) | exact .inl (by omega)))
      have hf7 : yF7 I1 R1 := hV.2.2.2.1.1.1.2.st hV.2.2.1 (by omega) h7_ (fun a h1 h2 => (a3.2.2.1 a (by omega)).trans (by rw [pa_4]; repeat first | rw [upd2_row (by omega)] | rw [yAddC_row (by omega)])) hL7_ hm7_
      have hr7 : yR7 I1 R1 := ⟨hr4, hf7⟩
      have hM8_ : yMn I I_a := hV.2.2.2.1.1.2.1.ia hFa
      have hQ8_ : yMn I_a I_a := hM8_.cC (fun a ha => by rw [pa_4]; repeat first | rw [upd2_row (by omega)] | rw [yAddC_row (by omega)])
      have hmn_ : yMn I1 I1 := yMn.px (by repeat first | exact hQ8_ | refine yMn.upM ?_ (by first | exact .inr (by decide) | exact .inl (by omega))) a3 px_ h94_
      have n9b_ := hV.2.2.1.n9 (l := 88) (by decide) (by decide) (by omega) hb_
      have hvn_ : yVn I1 I1 R1 := hV.2.2.2.1.1.2.2.1.st hV.2.2.1 (by omega) (fun a h1 h2 => (a3.2.2.1 a (by omega)).trans (by rw [pa_4]; repeat first | rw [upd2_row (by omega)] | rw [yAddC_row (by omega)])) hL7_ (yVm.x px_ (by repeat first | exact yVm.ft hFa | exact yVm.rr | refine yVm.addC ?_ | refine yVm.shD ?_ | refine yVm.up ?_ (by first | exact .inl (by decide) | exact .inr (by assumption))))
      have hmb_ : yMb (K + 1) I1 := hV.2.2.2.1.1.2.2.2.cg (Nat.le_succ K) (congrFun ((a3.2.2.1 74 (by decide)).trans (by rw [pa_4]; repeat first | rw [upd2_row (by omega)] | rw [yAddC_row (by omega)])) 2) ((a3.2.2.1 76 (by decide)).trans (by rw [pa_4]; repeat first | rw [upd2_row (by omega)] | rw [yAddC_row (by omega)])) (by omega)
      have hr8 : yR8 (K + 1) I1 R1 := ⟨hr7, hmn_, hvn_, hmb_⟩
      have hp9_ : yP9 I1 R1 := hV.2.2.2.1.2.1.kp hV.2.2.1 hFa (yLk.out hV.2.2.1) (by rw [pa_4]; repeat first | rw [upd2_row (by omega)] | rw [yAddC_row (by omega)]) (by omega) a3
      have hpd_ : yPdd I1 := hV.2.2.2.1.2.2.st (by omega) ((a3.2.2.1 54 (by decide)).trans (by rw [pa_4]; repeat first | rw [upd2_row (by omega)] | rw [yAddC_row (by omega)])) ((a3.2.2.1 55 (by decide)).trans (by rw [pa_4]; repeat first | rw [upd2_row (by omega)] | rw [yAddC_row (by omega)]))
      have hr9 : yR9 (K + 1) I1 R1 := ⟨hr8, hp9_, hpd_⟩
      have hV := hV.two pa_0 (fun a ha => funext fun k => hFa a k (.inl ha)) a1 a2 a3 hr9
      have hS := hV.1
      refine y_ret1 ?_
      refine y_istore (ls' := [some _, some _, some _, some _, some _, some _, some _]) rfl rfl rfl ?_
      refine y_goto rfl j_L_law_1673 ?_
      refine y_fgt (ls := [some _, some _, some _, some _, some _, none, none]) ⟨rfl, rfl, rfl, rfl, rfl, trivial⟩ ?_
      exact hN _ _ _ _ _ _ hV (by omega) (by omega)
theorem lc_5 (hV : yInv K n tg I R ln) (hk6 : K < 600) {x4 : Int32} (hx0 : 0 ≤ x4.toInt) (hx1 : x4.toInt + 7 ≤ (ln : Int)) (hl : ln ≤ 3584) (hN : ∀ n1 tg1 I1 R1 c1 s1, yInv (K + 1) n1 tg1 I1 R1 ln → c1 ≤ c + 790 → s1 ≤ s + 15250 → yW xm_L_law xc_L_law_1673 [some (.ref 33), some (.ref 34), some (.ref 83), some (.ref 93), some (.int x4), none, none] [] (n1, tg1, I1, R1) c1 s1 Q) : yW xm_L_law xc_L_law_392 [some (.ref 33), some (.ref 34), some (.ref 83), some (.ref 93), some (.int x4), none, none] [] (n, tg, I, R) c s Q := by
  have hS := hV.1
  refine y_aload_n rfl rfl ?_
  refine y_aload_n rfl rfl ?_
  refine y_iload rfl rfl ?_
  refine y_iconst rfl ?_
  refine y_iadd rfl ?_
  refine y_iaload rfl hV.2.2.2.2.2 (ySh.n hV.1 rfl) (sc_at hx0 hx1 hl (by decide) (by decide)).1 (sc_at hx0 hx1 hl (by decide) (by decide)).2 ?_
  refine y_aload_n rfl rfl ?_
  refine y_static rfl rfl rfl rfl rfl ?_
  refine v_ruin hS hV.2.1 (fun hc_ => ?_) (fun hc_ => ?_) (fun hc_ v_a I_a pa_0 pa_1 pa_2 pa_3 pa_4 hBa R_a eR => ?_) (fun hc_ v_a I_a pa_0 pa_1 pa_2 pa_3 pa_4 hBa R_a eR => ?_)
  · have e33 : I 33 = I 33 := rfl
    refine y_ret1 ?_
    refine y_istore (ls' := [some _, some _, some _, some _, some _, some _, _]) rfl rfl rfl ?_
    refine y_aload_n rfl rfl ?_
    refine y_aload_n rfl rfl ?_
    refine y_iload rfl rfl ?_
    refine y_iconst rfl ?_
    refine y_iadd rfl ?_
    refine y_iaload rfl hV.2.2.2.2.2 (ySh.n hV.1 rfl) (sc_at hx0 hx1 hl (by decide) (by decide)).1 (sc_at hx0 hx1 hl (by decide) (by decide)).2 ?_
    rw [e33]
    refine y_virt rfl rfl rfl rfl rfl (ySh.t hS rfl) (ySh.n hS rfl) ?_
    obtain ⟨r1, r2, r3, r4, r5, r6, r7, r8⟩ := hV.2.2.2.1.1.1.1.1.1.1
    refine yC.keep3 [(18, 4, 83), (18, 1, 83), (18, 8, 83), (3, 2, 88), (3, 2, 91), (3, 2, 92), (3, 2, 89), (3, 2, 90)] [] rfl rfl rfl hS hV.2.2.1 ?_
    refine h_ruin hS hV.2.2.1 hk6 (hV.2.2.2.1.1.1.1.1.1.lf _) (fun hm_ v_b n1 tg1 I1 R1 c1 s1 a1 a2 a3 hth pg_ prf_ hc_b hs_b => ⟨a1, a3.2.1, fun hB_ h93_ hO_ hL_ => ?_⟩) (fun q_b e_b0 hm_ v_b n1 tg1 I1 R1 c1 s1 a1 a2 a3 hth pg_ prf_ hc_b hs_b => ⟨a1, a3.2.1, fun hB_ h93_ hO_ hL_ => ?_⟩) (fun q_b e_b0 hm_ v_b n1 tg1 I1 R1 c1 s1 a1 a2 a3 hth pv_ pg_ px_ hc_b hs_b => ⟨a1, a3.2.1, fun hB_ h93_ hO_ hL_ => ?_⟩) (fun q_b e_b0 q_d e_d1 hm_ v_b n1 tg1 I1 R1 c1 s1 a1 a2 a3 hth pv_ pg_ px_ hc_b hs_b => ⟨a1, a3.2.1, fun hB_ h93_ hO_ hL_ => ?_⟩)
    · have kc34_9 := congrArg Int32.toInt (congrFun (a3.2.2.1 34 (by decide)) 9)
      have kc34_8 := congrArg Int32.toInt (congrFun (a3.2.2.1 34 (by decide)) 8)
      have kc38_0 := congrArg Int32.toInt (congrFun (a3.2.2.1 38 (by decide)) 0)
      have kc40_0 := congrArg Int32.toInt (congrFun (a3.2.2.1 40 (by decide)) 0)
      have kc69_0 := congrArg Int32.toInt (congrFun (a3.2.2.1 69 (by decide)) 0)
      have kc77_0 := congrArg Int32.toInt (congrFun (a3.2.2.1 77 (by decide)) 0)
      have kc48_0 := congrArg Int32.toInt (congrFun (a3.2.2.1 48 (by decide)) 0)
      have kc59_0 := congrArg Int32.toInt (congrFun (a3.2.2.1 59 (by decide)) 0)
      have hB_ : yKeep _ _ I1 := hB_
      obtain ⟨mb0, mb1, mb2, mb3, mb4, mb5, mb6, mb7, -⟩ := hB_
      have mb0 := congrArg Int32.toInt mb0
      have mb1 := congrArg Int32.toInt mb1
      have mb2 := congrArg Int32.toInt mb2
      have mb3 := congrArg Int32.toInt mb3
      have mb4 := congrArg Int32.toInt mb4
      have mb5 := congrArg Int32.toInt mb5
      have mb6 := congrArg Int32.toInt mb6
      have mb7 := congrArg Int32.toInt mb7
      have hlv_ := fun q => @yLv_in I (I 33 (x4 + Int32.ofInt 1).toInt.toNat) q
      first | (have hlv_ := hlv_ ⟨by omega, by omega⟩) | skip
      have hrel : yRl I1 := ⟨by omega, by omega, by omega, by omega, by omega, by omega, by omega, by omega⟩
      have hr4 : yR6 I1 R1 := yR6.two hV.2.2.2.1.1.1.1 yFu.rf hV.2.2.1 hV.2.2.2.1.1.1.1.1.1.2.1 yLk.rf a3 (yR4.ob hV.2.2.1 pg_) (yS5.ob hV.2.2.1 pg_) (yL6.ob hV.2.2.1 pg_) hL_ hrel (by omega) (by omega) (by omega) (by omega)
      have hf7 : yF7 I1 R1 := hV.2.2.2.1.1.1.2.rf hV.2.2.1 prf_
      have hr7 : yR7 I1 R1 := ⟨hr4, hf7⟩
      have hr9 : yR9 (K + 1) I1 R1 := hV.2.2.2.1.rf hr7 hV.2.2.1 prf_ (Nat.le_succ K)
      have hV := hV.two hV.2.1 (fun _ _ => rfl) a1 a2 a3 hr9
      have hS := hV.1
      refine y_ret1 ?_
      refine y_istore (ls' := [some _, some _, some _, some _, some _, some _, some _]) rfl rfl rfl ?_
      refine y_goto rfl j_L_law_1673 ?_
      refine y_fgt (ls := [some _, some _, some _, some _, some _, none, none]) ⟨rfl, rfl, rfl, rfl, rfl, trivial⟩ ?_
      exact hN _ _ _ _ _ _ hV (by omega) (by omega)
    · have hlv_ := fun q => @yLv_in I (I 33 (x4 + Int32.ofInt 1).toInt.toNat) q
      obtain ⟨h94b, t0, t1, t2, t3, t4, t5⟩ := tie_th0 hV.2.2.2.1.1.1.1.1.1 hV.2.2.1 (by omega) e_b0
      try simp only [t0, t1, t2, t3, t4, t5] at hm_
      first | (have hlv_ := hlv_ ⟨by omega, by omega⟩) | skip
      exfalso; omega
    · have hlv_ := fun q => @yLv_in I (I 33 (x4 + Int32.ofInt 1).toInt.toNat) q
      obtain ⟨h94b, t0, t1, t2, t3, t4, t5⟩ := tie_th0 hV.2.2.2.1.1.1.1.1.1 hV.2.2.1 (by omega) e_b0
      try simp only [t0, t1, t2, t3, t4, t5] at hm_
      first | (have hlv_ := hlv_ ⟨by omega, by omega⟩) | skip
      exfalso; omega
    · have hlv_ := fun q => @yLv_in I (I 33 (x4 + Int32.ofInt 1).toInt.toNat) q
      obtain ⟨h94b, t0, t1, t2, t3, t4, t5⟩ := tie_th0 hV.2.2.2.1.1.1.1.1.1 hV.2.2.1 (by omega) e_b0
      try simp only [t0, t1, t2, t3, t4, t5] at hm_
      try simp only [t0, t1, t2, t3, t4, t5] at e_d1
      first | (have hlv_ := hlv_ ⟨by omega, by omega⟩) | skip
      exfalso; omega
  · have e33 : I 33 = I 33 := rfl
    refine y_ret1 ?_
    refine y_istore (ls' := [some _, some _, some _, some _, some _, some _, _]) rfl rfl rfl ?_
    refine y_aload_n rfl rfl ?_
    refine y_aload_n rfl rfl ?_
    refine y_iload rfl rfl ?_
    refine y_iconst rfl ?_
    refine y_iadd rfl ?_
    refine y_iaload rfl hV.2.2.2.2.2 (ySh.n hV.1 rfl) (sc_at hx0 hx1 hl (by decide) (by decide)).1 (sc_at hx0 hx1 hl (by decide) (by decide)).2 ?_
    rw [e33]
    refine y_virt rfl rfl rfl rfl rfl (ySh.t hS rfl) (ySh.n hS rfl) ?_
    obtain ⟨r1, r2, r3, r4, r5, r6, r7, r8⟩ := hV.2.2.2.1.1.1.1.1.1.1
    refine yC.keep3 [(18, 4, 83), (18, 1, 83), (18, 8, 83), (3, 2, 88), (3, 2, 91), (3, 2, 92), (3, 2, 89), (3, 2, 90)] [] rfl rfl rfl hS hV.2.2.1 ?_
    refine h_ruin hS hV.2.2.1 hk6 (hV.2.2.2.1.1.1.1.1.1.lf _) (fun hm_ v_b n1 tg1 I1 R1 c1 s1 a1 a2 a3 hth pg_ prf_ hc_b hs_b => ⟨a1, a3.2.1, fun hB_ h93_ hO_ hL_ => ?_⟩) (fun q_b e_b0 hm_ v_b n1 tg1 I1 R1 c1 s1 a1 a2 a3 hth pg_ prf_ hc_b hs_b => ⟨a1, a3.2.1, fun hB_ h93_ hO_ hL_ => ?_⟩) (fun q_b e_b0 hm_ v_b n1 tg1 I1 R1 c1 s1 a1 a2 a3 hth pv_ pg_ px_ hc_b hs_b => ⟨a1, a3.2.1, fun hB_ h93_ hO_ hL_ => ?_⟩) (fun q_b e_b0 q_d e_d1 hm_ v_b n1 tg1 I1 R1 c1 s1 a1 a2 a3 hth pv_ pg_ px_ hc_b hs_b => ⟨a1, a3.2.1, fun hB_ h93_ hO_ hL_ => ?_⟩)
    · have hlv_ := fun q => @yLv_in I (I 33 (x4 + Int32.ofInt 1).toInt.toNat) q
      first | (have hlv_ := hlv_ ⟨by omega, by omega⟩) | skip
      exfalso; omega
    · have kc34_9 := congrArg Int32.toInt (congrFun (a3.2.2.1 34 (by decide)) 9)
      have kc34_8 := congrArg Int32.toInt (congrFun (a3.2.2.1 34 (by decide)) 8)
      have kc38_0 := congrArg Int32.toInt (congrFun (a3.2.2.1 38 (by decide)) 0)
      have kc40_0 := congrArg Int32.toInt (congrFun (a3.2.2.1 40 (by decide)) 0)
      have kc69_0 := congrArg Int32.toInt (congrFun (a3.2.2.1 69 (by decide)) 0)
      have kc77_0 := congrArg Int32.toInt (congrFun (a3.2.2.1 77 (by decide)) 0)
      have kc48_0 := congrArg Int32.toInt (congrFun (a3.2.2.1 48 (by decide)) 0)
      have kc59_0 := congrArg Int32.toInt (congrFun (a3.2.2.1 59 (by decide)) 0)
      have hB_ : yKeep _ _ I1 := hB_
      obtain ⟨mb0, mb1, mb2, mb3, mb4, mb5, mb6, mb7, -⟩ := hB_
      have mb0 := congrArg Int32.toInt mb0
      have mb1 := congrArg Int32.toInt mb1
      have mb2 := congrArg Int32.toInt mb2
      have mb3 := congrArg Int32.toInt mb3
      have mb4 := congrArg Int32.toInt mb4
      have mb5 := congrArg Int32.toInt mb5
      have mb6 := congrArg Int32.toInt mb6
      have mb7 := congrArg Int32.toInt mb7
      have hlv_ := fun q => @yLv_in I (I 33 (x4 + Int32.ofInt 1).toInt.toNat) q
      obtain ⟨h94b, t0, t1, t2, t3, t4, t5⟩ := tie_th0 hV.2.2.2.1.1.1.1.1.1 hV.2.2.1 (by omega) e_b0
      try simp only [t0, t1, t2, t3, t4, t5] at hm_
      first | (have hlv_ := hlv_ ⟨by omega, by omega⟩) | skip
      have hrel : yRl I1 := ⟨by omega, by omega, by omega, by omega, by omega, by omega, by omega, by omega⟩
      have hr4 : yR6 I1 R1 := yR6.two hV.2.2.2.1.1.1.1 yFu.rf hV.2.2.1 hV.2.2.2.1.1.1.1.1.1.2.1 yLk.rf a3 (yR4.ob hV.2.2.1 pg_) (yS5.ob hV.2.2.1 pg_) (yL6.ob hV.2.2.1 pg_) hL_ hrel (by omega) (by omega) (by omega) (by omega)
      have hf7 : yF7 I1 R1 := hV.2.2.2.1.1.1.2.rf hV.2.2.1 prf_
      have hr7 : yR7 I1 R1 := ⟨hr4, hf7⟩
      have hr9 : yR9 (K + 1) I1 R1 := hV.2.2.2.1.rf hr7 hV.2.2.1 prf_ (Nat.le_succ K)
      have hV := hV.two hV.2.1 (fun _ _ => rfl) a1 a2 a3 hr9
      have hS := hV.1
      refine y_ret1 ?_
      refine y_istore (ls' := [some _, some _, some _, some _, some _, some _, some _]) rfl rfl rfl ?_
      refine y_goto rfl j_L_law_1673 ?_
      refine y_fgt (ls := [some _, some _, some _, some _, some _, none, none]) ⟨rfl, rfl, rfl, rfl, rfl, trivial⟩ ?_
      exact hN _ _ _ _ _ _ hV (by omega) (by omega)
    · have hlv_ := fun q => @yLv_in I (I 33 (x4 + Int32.ofInt 1).toInt.toNat) q
      obtain ⟨h94b, t0, t1, t2, t3, t4, t5⟩ := tie_th0 hV.2.2.2.1.1.1.1.1.1 hV.2.2.1 (by omega) e_b0
      try simp only [t0, t1, t2, t3, t4, t5] at hm_
      first | (have hlv_ := hlv_ ⟨by omega, by omega⟩) | skip
      exfalso; omega
    · have hlv_ := fun q => @yLv_in I (I 33 (x4 + Int32.ofInt 1).toInt.toNat) q
      obtain ⟨h94b, t0, t1, t2, t3, t4, t5⟩ := tie_th0 hV.2.2.2.1.1.1.1.1.1 hV.2.2.1 (by omega) e_b0
      try simp only [t0, t1, t2, t3, t4, t5] at hm_
      try simp only [t0, t1, t2, t3, t4, t5] at e_d1
      first | (have hlv_ := hlv_ ⟨by omega, by omega⟩) | skip
      exfalso; omega
  · have hFa : yFt I I_a := pa_1
    have e33 : I_a 33 = I 33 := funext fun k => hFa 33 k (.inl (by decide))
    have hS : ySh n tg R_a := by rw [eR]; exact hS.out
    have hRa : yRI K n tg I_a R_a := (hV.2.2.1.ft hFa).outR (fun a ha => by rw [eR]; exact upd2_row ha)
    refine y_ret1 ?_
    refine y_istore (ls' := [some _, some _, some _, some _, some _, some _, _]) rfl rfl rfl ?_
    refine y_aload_n rfl rfl ?_
    refine y_aload_n rfl rfl ?_
    refine y_iload rfl rfl ?_
    refine y_iconst rfl ?_
    refine y_iadd rfl ?_
    refine y_iaload rfl hV.2.2.2.2.2 (ySh.n hV.1 rfl) (sc_at hx0 hx1 hl (by decide) (by decide)).1 (sc_at hx0 hx1 hl (by decide) (by decide)).2 ?_
    rw [e33]
    refine y_virt rfl rfl rfl rfl rfl (ySh.t hS rfl) (ySh.n hS rfl) ?_
    obtain ⟨r1, r2, r3, r4, r5, r6, r7, r8⟩ := hV.2.2.2.1.1.1.1.1.1.1
    have eM : ∀ l k, 83 ≤ l → (I_a l k).toInt = (I l k).toInt := fun l k hl => congrArg Int32.toInt (hFa l k (.inr (.inl hl)))
    have em83_4 := eM 83 4 (by decide)
    have em83_1 := eM 83 1 (by decide)
    have em83_8 := eM 83 8 (by decide)
    have em88_2 := eM 88 2 (by decide)
    have em91_2 := eM 91 2 (by decide)
    have em92_2 := eM 92 2 (by decide)
    have em89_2 := eM 89 2 (by decide)
    have em90_2 := eM 90 2 (by decide)
    have em83_7 := eM 83 7 (by decide)
    obtain ⟨kb0, kb1, kb2, kb3, kb4, kb5, kb6, kb7, -⟩ := hBa
    have kb0 := congrArg Int32.toInt kb0
    have kb1 := congrArg Int32.toInt kb1
    have kb2 := congrArg Int32.toInt kb2
    have kb3 := congrArg Int32.toInt kb3
    have kb4 := congrArg Int32.toInt kb4
    have kb5 := congrArg Int32.toInt kb5
    have kb6 := congrArg Int32.toInt kb6
    have kb7 := congrArg Int32.toInt kb7
    refine yC.keep3 [(18, 4, 83), (18, 1, 83), (18, 8, 83), (3, 2, 88), (3, 2, 91), (3, 2, 92), (3, 2, 89), (3, 2, 90)] [] rfl rfl rfl hS hRa ?_
    refine h_ruin hS hRa hk6 (by rw [eR]; exact (hV.2.2.2.1.1.1.1.1.1.lf _).ft hV.2.2.1 hFa) (fun hm_ v_b n1 tg1 I1 R1 c1 s1 a1 a2 a3 hth pg_ prf_ hc_b hs_b => ⟨a1, a3.2.1, fun hB_ h93_ hO_ hL_ => ?_⟩) (fun q_b e_b0 hm_ v_b n1 tg1 I1 R1 c1 s1 a1 a2 a3 hth pg_ prf_ hc_b hs_b => ⟨a1, a3.2.1, fun hB_ h93_ hO_ hL_ => ?_⟩) (fun q_b e_b0 hm_ v_b n1 tg1 I1 R1 c1 s1 a1 a2 a3 hth pv_ pg_ px_ hc_b hs_b => ⟨a1, a3.2.1, fun hB_ h93_ hO_ hL_ => ?_⟩) (fun q_b e_b0 q_d e_d1 hm_ v_b n1 tg1 I1 R1 c1 s1 a1 a2 a3 hth pv_ pg_ px_ hc_b hs_b => ⟨a1, a3.2.1, fun hB_ h93_ hO_ hL_ => ?_⟩)
    · subst eR
      have hlv_ := fun q => @yLv_in I (I 33 (x4 + Int32.ofInt 1).toInt.toNat) q
      first | (have hlv_ := hlv_ ⟨by omega, by omega⟩) | skip
      exfalso; omega
    · subst eR
      have hlv_ := fun q => @yLv_in I (I 33 (x4 + Int32.ofInt 1).toInt.toNat) q
      obtain ⟨⟨hb_, eb_⟩, h94b, t0, t1, t2, t3, t4, t5⟩ := tie_th1 hV.2.2.2.1.1.1.1.1.1 hV.2.2.1 hFa (by omega) e_b0
      try simp only [eb_, t0, t1, t2, t3, t4, t5] at hm_
      first | (have hlv_ := hlv_ ⟨by omega, by omega⟩) | skip
      exfalso; omega
    · have kc34_9 := congrArg Int32.toInt (congrFun (a3.2.2.1 34 (by decide)) 9)
      have kc34_8 := congrArg Int32.toInt (congrFun (a3.2.2.1 34 (by decide)) 8)
      have kc38_0 := congrArg Int32.toInt (congrFun (a3.2.2.1 38 (by decide)) 0)
      have kc40_0 := congrArg Int32.toInt (congrFun (a3.2.2.1 40 (by decide)) 0)
      have kc69_0 := congrArg Int32.toInt (congrFun (a3.2.2.1 69 (by decide)) 0)
      have kc77_0 := congrArg Int32.toInt (congrFun (a3.2.2.1 77 (by decide)) 0)
      have kc48_0 := congrArg Int32.toInt (congrFun (a3.2.2.1 48 (by decide)) 0)
      have kc59_0 := congrArg Int32.toInt (congrFun (a3.2.2.1 59 (by decide)) 0)
      have hB_ : yKeep _ _ I1 := hB_
      obtain ⟨mb0, mb1, mb2, mb3, mb4, mb5, mb6, mb7, -⟩ := hB_
      have mb0 := congrArg Int32.toInt mb0
      have mb1 := congrArg Int32.toInt mb1
      have mb2 := congrArg Int32.toInt mb2
      have mb3 := congrArg Int32.toInt mb3
      have mb4 := congrArg Int32.toInt mb4
      have mb5 := congrArg Int32.toInt mb5
      have mb6 := congrArg Int32.toInt mb6
      have mb7 := congrArg Int32.toInt mb7
      subst eR
      have hlv_ := fun q => @yLv_in I (I 33 (x4 + Int32.ofInt 1).toInt.toNat) q
      obtain ⟨⟨hb_, eb_⟩, h94b, t0, t1, t2, t3, t4, t5⟩ := tie_th1 hV.2.2.2.1.1.1.1.1.1 hV.2.2.1 hFa (by omega) e_b0
      try simp only [eb_, t0, t1, t2, t3, t4, t5] at hm_
      first | (have hlv_ := hlv_ ⟨by omega, by omega⟩) | skip
      have hrel : yRl I1 := ⟨by omega, by omega, by omega, by omega, by omega, by omega, by omega, by omega⟩
      have hc40_ := hV.2.1.2.1
      have hc48_ := hV.2.1.2.2.1
      have hc59_ := hV.2.1.2.2.2.1
      have S_ := yStp.mk hV.2.2.2.1.1.1.1.1.1 hV.2.2.1 hFa pa_3 a3 pg_ (by first | exact yGm.ft hFa | exact yGm.bothR (yGm.ft hFa) | exact yGm.bothR (yGm.bothR (yGm.ft hFa)) | exact yGm.bothR (yGm.bothR (yGm.bothR (yGm.ft hFa))) | exact yGm.bothR (yGm.bothR (yGm.bothR (yGm.bothR (yGm.ft hFa)))) | exact yGm.bothR (yGm.bothR (yGm.bothR (yGm.bothR (yGm.bothR (yGm.ft hFa)))))) hL_ hrel
      have hr4 : yR6 I1 R1 := ⟨rel5_ruinA (by omega) hb_ (by omega) hV.2.2.2.1.1.1.1.1.2 (by omega) S_, rel6_ruinA (by omega) hb_ (by omega) (by omega) hV.2.2.2.1.1.1.1.2 (by omega) S_⟩
      have hL7_ : yLk I R R1 := fun l h1 h2 i hi => (hL_ l h1 h2 i (by rw [hFa.hi (show 83 ≤ l by omega)]; exact hi)).trans (yLk.out hV.2.2.1 l h1 h2 i hi)
      have tb_ := hV.2.2.1.g88 (by omega) hb_
      have hm7_ : yFm n tg I I1 := yFm.gm pg_ (by repeat first | exact yFm.ft hFa | exact yFm.rr | refine yFm.addC ?_ | refine yFm.shD ?_ | refine yFm.prD ?_ (by assumption) | refine yFm.lsD ?_ (by assumption) | refine yFm.up ?_ (by first | exact .inl (by decide) | exact .inr (by assumption)))
      have h94_ : 94 ≤ n := hV.1.1
      have h7_ : I1 83 7 = I 83 7 := (congrFun (px_.n (show 83 < n by omega)) 7).trans (by repeat first | exact rfl | exact yext em83_7 | refine k7addC ?_ | refine k7shD ?_ | refine k7prD ?_ (by omega) | refine k7lsD ?_ (by omega) | refine k7up ?_ (by first | exact .inr (by decide) | exact .inl (by decide) | exact .inl (by omega)))
      have hf7 : yF7 I1 R1 := hV.2.2.2.1.1.1.2.st hV.2.2.1 (by omega) h7_ (fun a h1 h2 => (a3.2.2.1 a (by omega)).trans (by rw [pa_4]; repeat first | rw [upd2_row (by omega)] | rw [yAddC_row (by omega)])) hL7_ hm7_
      have hr7 : yR7 I1 R1 := ⟨hr4, hf7⟩
      have hM8_ : yMn I I_a := hV.2.2.2.1.1.2.1.ia hFa
      have hQ8_ : yMn I_a I_a := hM8_.cC (fun a ha => by rw [pa_4]; repeat first | rw [upd2_row (by omega)] | rw [yAddC_row (by omega)])
      have hmn_ : yMn I1 I1 := yMn.px (by repeat first | exact hQ8_ | refine yMn.upM ?_ (by first | exact .inr (by decide) | exact .inl (by omega))) a3 px_ h94_
      have n9b_ := hV.2.2.1.n9 (l := 88) (by decide) (by decide) (by omega) hb_
      have hvn_ : yVn I1 I1 R1 := hV.2.2.2.1.1.2.2.1.st hV.2.2.1 (by omega) (fun a h1 h2 => (a3.2.2.1 a (by omega)).trans (by rw [pa_4]; repeat first | rw [upd2_row (by omega)] | rw [yAddC_row (by omega)])) hL7_ (yVm.x px_ (by repeat first | exact yVm.ft hFa | exact yVm.rr | refine yVm.addC ?_ | refine yVm.shD ?_ | refine yVm.up ?_ (by first | exact .inl (by decide) | exact .inr (by assumption))))
      have hmb_ : yMb (K + 1) I1 := hV.2.2.2.1.1.2.2.2.cg (Nat.le_succ K) (congrFun ((a3.2.2.1 74 (by decide)).trans (by rw [pa_4]; repeat first | rw [upd2_row (by omega)] | rw [yAddC_row (by omega)])) 2) ((a3.2.2.1 76 (by decide)).trans (by rw [pa_4]; repeat first | rw [upd2_row (by omega)] | rw [yAddC_row (by omega)])) (by omega)
      have hr8 : yR8 (K + 1) I1 R1 := ⟨hr7, hmn_, hvn_, hmb_⟩
      have hp9_ : yP9 I1 R1 := hV.2.2.2.1.2.1.kp hV.2.2.1 hFa (yLk.out hV.2.2.1) (by rw [pa_4]; repeat first | rw [upd2_row (by omega)] | rw [yAddC_row (by omega)]) (by omega) a3
      have hpd_ : yPdd I1 := hV.2.2.2.1.2.2.st (by omega) ((a3.2.2.1 54 (by decide)).trans (by rw [pa_4]; repeat first | rw [upd2_row (by omega)] | rw [yAddC_row (by omega)])) ((a3.2.2.1 55 (by decide)).trans (by rw [pa_4]; repeat first | rw [upd2_row (by omega)] | rw [yAddC_row (by omega)]))
      have hr9 : yR9 (K + 1) I1 R1 := ⟨hr8, hp9_, hpd_⟩
      have hV := hV.two pa_0 (fun a ha => funext fun k => hFa a k (.inl ha)) a1 a2 a3 hr9
      have hS := hV.1
      refine y_ret1 ?_
      refine y_istore (ls' := [some _, some _, some _, some _, some _, some _, some _]) rfl rfl rfl ?_
      refine y_goto rfl j_L_law_1673 ?_
      refine y_fgt (ls := [some _, some _, some _, some _, some _, none, none]) ⟨rfl, rfl, rfl, rfl, rfl, trivial⟩ ?_
      exact hN _ _ _ _ _ _ hV (by omega) (by omega)
    · subst eR
      have hlv_ := fun q => @yLv_in I (I 33 (x4 + Int32.ofInt 1).toInt.toNat) q
      obtain ⟨⟨hb_, eb_⟩, h94b, t0, t1, t2, t3, t4, t5⟩ := tie_th1 hV.2.2.2.1.1.1.1.1.1 hV.2.2.1 hFa (by omega) e_b0
      try simp only [eb_, t0, t1, t2, t3, t4, t5] at hm_
      try simp only [eb_, t0, t1, t2, t3, t4, t5] at e_d1
      first | (have hlv_ := hlv_ ⟨by omega, by omega⟩) | skip
      exfalso; omega
  · have hFa : yFt I I_a := pa_1
    have e33 : I_a 33 = I 33 := funext fun k => hFa 33 k (.inl (by decide))
    have hS : ySh n tg R_a := by rw [eR]; exact hS.out
    have hRa : yRI K n tg I_a R_a := (hV.2.2.1.ft hFa).outR (fun a ha => by rw [eR]; exact upd2_row ha)
    refine y_ret1 ?_
    refine y_istore (ls' := [some _, some _, some _, some _, some _, some _, _]) rfl rfl rfl ?_
    refine y_aload_n rfl rfl ?_
    refine y_aload_n rfl rfl ?_
    refine y_iload rfl rfl ?_
    refine y_iconst rfl ?_
    refine y_iadd rfl ?_
    refine y_iaload rfl hV.2.2.2.2.2 (ySh.n hV.1 rfl) (sc_at hx0 hx1 hl (by decide) (by decide)).1 (sc_at hx0 hx1 hl (by decide) (by decide)).2 ?_
    rw [e33]
    refine y_virt rfl rfl rfl rfl rfl (ySh.t hS rfl) (ySh.n hS rfl) ?_
    obtain ⟨r1, r2, r3, r4, r5, r6, r7, r8⟩ := hV.2.2.2.1.1.1.1.1.1.1
    have eM : ∀ l k, 83 ≤ l → (I_a l k).toInt = (I l k).toInt := fun l k hl => congrArg Int32.toInt (hFa l k (.inr (.inl hl)))
    have em83_4 := eM 83 4 (by decide)
    have em83_1 := eM 83 1 (by decide)
    have em83_8 := eM 83 8 (by decide)
    have em88_2 := eM 88 2 (by decide)
    have em91_2 := eM 91 2 (by decide)
    have em92_2 := eM 92 2 (by decide)
    have em89_2 := eM 89 2 (by decide)
    have em90_2 := eM 90 2 (by decide)
    have em83_7 := eM 83 7 (by decide)
    obtain ⟨kb0, kb1, kb2, kb3, kb4, kb5, kb6, kb7, -⟩ := hBa
    have kb0 := congrArg Int32.toInt kb0
    have kb1 := congrArg Int32.toInt kb1
    have kb2 := congrArg Int32.toInt kb2
    have kb3 := congrArg Int32.toInt kb3
    have kb4 := congrArg Int32.toInt kb4
    have kb5 := congrArg Int32.toInt kb5
    have kb6 := congrArg Int32.toInt kb6
    have kb7 := congrArg Int32.toInt kb7
    refine yC.keep3 [(18, 4, 83), (18, 1, 83), (18, 8, 83), (3, 2, 88), (3, 2, 91), (3, 2, 92), (3, 2, 89), (3, 2, 90)] [] rfl rfl rfl hS hRa ?_
    refine h_ruin hS hRa hk6 (by rw [eR]; exact (hV.2.2.2.1.1.1.1.1.1.lf _).ft hV.2.2.1 hFa) (fun hm_ v_b n1 tg1 I1 R1 c1 s1 a1 a2 a3 hth pg_ prf_ hc_b hs_b => ⟨a1, a3.2.1, fun hB_ h93_ hO_ hL_ => ?_⟩) (fun q_b e_b0 hm_ v_b n1 tg1 I1 R1 c1 s1 a1 a2 a3 hth pg_ prf_ hc_b hs_b => ⟨a1, a3.2.1, fun hB_ h93_ hO_ hL_ => ?_⟩) (fun q_b e_b0 hm_ v_b n1 tg1 I1 R1 c1 s1 a1 a2 a3 hth pv_ pg_ px_ hc_b hs_b => ⟨a1, a3.2.1, fun hB_ h93_ hO_ hL_ => ?_⟩) (fun q_b e_b0 q_d e_d1 hm_ v_b n1 tg1 I1 R1 c1 s1 a1 a2 a3 hth pv_ pg_ px_ hc_b hs_b => ⟨a1, a3.2.1, fun hB_ h93_ hO_ hL_ => ?_⟩)
    · subst eR
      have hlv_ := fun q => @yLv_in I (I 33 (x4 + Int32.ofInt 1).toInt.toNat) q
      first | (have hlv_ := hlv_ ⟨by omega, by omega⟩) | skip
      exfalso; omega
    · subst eR
      have hlv_ := fun q => @yLv_in I (I 33 (x4 + Int32.ofInt 1).toInt.toNat) q
      obtain ⟨⟨hb_, eb_⟩, h94b, t0, t1, t2, t3, t4, t5⟩ := tie_th1 hV.2.2.2.1.1.1.1.1.1 hV.2.2.1 hFa (by omega) e_b0
      try simp only [eb_, t0, t1, t2, t3, t4, t5] at hm_
      first | (have hlv_ := hlv_ ⟨by omega, by omega⟩) | skip
      exfalso; omega
    · subst eR
      have hlv_ := fun q => @yLv_in I (I 33 (x4 + Int32.ofInt 1).toInt.toNat) q
      obtain ⟨⟨hb_, eb_⟩, h94b, t0, t1, t2, t3, t4, t5⟩ := tie_th1 hV.2.2.2.1.1.1.1.1.1 hV.2.2.1 hFa (by omega) e_b0
      try simp only [eb_, t0, t1, t2, t3, t4, t5] at hm_
      first | (have hlv_ := hlv_ ⟨by omega, by omega⟩) | skip
      exfalso; omega
    · have kc34_9 := congrArg Int32.toInt (congrFun (a3.2.2.1 34 (by decide)) 9)
      have kc34_8 := congrArg Int32.toInt (congrFun (a3.2.2.1 34 (by decide)) 8)
      have kc38_0 := congrArg Int32.toInt (congrFun (a3.2.2.1 38 (by decide)) 0)
      have kc40_0 := congrArg Int32.toInt (congrFun (a3.2.2.1 40 (by decide)) 0)
      have kc69_0 := congrArg Int32.toInt (congrFun (a3.2.2.1 69 (by decide)) 0)
      have kc77_0 := congrArg Int32.toInt (congrFun (a3.2.2.1 77 (by decide)) 0)
      have kc48_0 := congrArg Int32.toInt (congrFun (a3.2.2.1 48 (by decide)) 0)
      have kc59_0 := congrArg Int32.toInt (congrFun (a3.2.2.1 59 (by decide)) 0)
      have hB_ : yKeep _ _ I1 := hB_
      obtain ⟨mb0, mb1, mb2, mb3, mb4, mb5, mb6, mb7, -⟩ := hB_
      have mb0 := congrArg Int32.toInt mb0
      have mb1 := congrArg Int32.toInt mb1
      have mb2 := congrArg Int32.toInt mb2
      have mb3 := congrArg Int32.toInt mb3
      have mb4 := congrArg Int32.toInt mb4
      have mb5 := congrArg Int32.toInt mb5
      have mb6 := congrArg Int32.toInt mb6
      have mb7 := congrArg Int32.toInt mb7
      subst eR
      have hlv_ := fun q => @yLv_in I (I 33 (x4 + Int32.ofInt 1).toInt.toNat) q
      obtain ⟨⟨hb_, eb_⟩, h94b, t0, t1, t2, t3, t4, t5⟩ := tie_th1 hV.2.2.2.1.1.1.1.1.1 hV.2.2.1 hFa (by omega) e_b0
      try simp only [eb_, t0, t1, t2, t3, t4, t5] at hm_
      try simp only [eb_, t0, t1, t2, t3, t4, t5] at e_d1
      first | (have hlv_ := hlv_ ⟨by omega, by omega⟩) | skip
      have hrel : yRl I1 := ⟨by omega, by omega, by omega, by omega, by omega, by omega, by omega, by omega⟩
      have hc40_ := hV.2.1.2.1
      have hc48_ := hV.2.1.2.2.1
      have hc59_ := hV.2.1.2.2.2.1
      have S_ := yStp.mk hV.2.2.2.1.1.1.1.1.1 hV.2.2.1 hFa pa_3 a3 pg_ (by first | exact yGm.ft hFa | exact yGm.bothR (yGm.ft hFa) | exact yGm.bothR (yGm.bothR (yGm.ft hFa)) | exact yGm.bothR (yGm.bothR (yGm.bothR (yGm.ft hFa))) | exact yGm.bothR (yGm.bothR (yGm.bothR (yGm.bothR (yGm.ft hFa)))) | exact yGm.bothR (yGm.bothR (yGm.bothR (yGm.bothR (yGm.bothR (yGm.ft hFa)))))) hL_ hrel
      have hd_ : q_d = yAd R 90 (I 47 (I 33 (x4 + Int32.ofInt 1).toInt.toNat).toInt.toNat).toInt.toNat := e_d1.trans (by rw [hlv_]; exact yLk.out hV.2.2.1 90 (by decide) (by decide) _ (by omega))
      have hr4 : yR6 I1 R1 := ⟨rel5_ruinB (by omega) hb_ (by omega) (by omega) hd_ hV.2.2.2.1.1.1.1.1.2 (by omega) S_, rel6_ruinB (by omega) hb_ (by omega) (by omega) hd_ (by omega) hV.2.2.2.1.1.1.1.2 (by omega) S_⟩
      have hL7_ : yLk I R R1 := fun l h1 h2 i hi => (hL_ l h1 h2 i (by rw [hFa.hi (show 83 ≤ l by omega)]; exact hi)).trans (yLk.out hV.2.2.1 l h1 h2 i hi)
      have tb_ := hV.2.2.1.g88 (by omega) hb_
      have td_ := hV.2.2.1.g90 (by omega) hd_
      have hm7_ : yFm n tg I I1 := yFm.gm pg_ (by repeat first | exact yFm.ft hFa | exact yFm.rr | refine yFm.addC ?_ | refine yFm.shD ?_ | refine yFm.prD ?_ (by assumption) | refine yFm.lsD ?_ (by assumption) | refine yFm.up ?_ (by first | exact .inl (by decide) | exact .inr (by assumption)))
      have ld_ := hV.2.2.1.lo (l := 90) (by decide) (by decide) (by omega) hd_
      have h94_ : 94 ≤ n := hV.1.1
      have h7_ : I1 83 7 = I 83 7 := (congrFun (px_.n (show 83 < n by omega)) 7).trans (by repeat first | exact rfl | exact yext em83_7 | refine k7addC ?_ | refine k7shD ?_ | refine k7prD ?_ (by omega) | refine k7lsD ?_ (by omega) | refine k7up ?_ (by first | exact .inr (by decide) | exact .inl (by decide) | exact .inl (by omega)))
      have hf7 : yF7 I1 R1 := hV.2.2.2.1.1.1.2.st hV.2.2.1 (by omega) h7_ (fun a h1 h2 => (a3.2.2.1 a (by omega)).trans (by rw [pa_4]; repeat first | rw [upd2_row (by omega)] | rw [yAddC_row (by omega)])) hL7_ hm7_
      have hr7 : yR7 I1 R1 := ⟨hr4, hf7⟩
      have hM8_ : yMn I I_a := hV.2.2.2.1.1.2.1.ia hFa
      have hQ8_ : yMn I_a I_a := hM8_.cC (fun a ha => by rw [pa_4]; repeat first | rw [upd2_row (by omega)] | rw [yAddC_row (by omega)])
      have hmn_ : yMn I1 I1 := yMn.px (by repeat first | exact hQ8_ | refine yMn.upM ?_ (by first | exact .inr (by decide) | exact .inl (by omega))) a3 px_ h94_
      have n9b_ := hV.2.2.1.n9 (l := 88) (by decide) (by decide) (by omega) hb_
      have n9d_ := hV.2.2.1.n9 (l := 90) (by decide) (by decide) (by omega) hd_
      have hvn_ : yVn I1 I1 R1 := hV.2.2.2.1.1.2.2.1.st hV.2.2.1 (by omega) (fun a h1 h2 => (a3.2.2.1 a (by omega)).trans (by rw [pa_4]; repeat first | rw [upd2_row (by omega)] | rw [yAddC_row (by omega)])) hL7_ (yVm.x px_ (by repeat first | exact yVm.ft hFa | exact yVm.rr | refine yVm.addC ?_ | refine yVm.shD ?_ | refine yVm.up ?_ (by first | exact .inl (by decide) | exact .inr (by assumption))))
      have hmb_ : yMb (K + 1) I1 := hV.2.2.2.1.1.2.2.2.cg (Nat.le_succ K) (congrFun ((a3.2.2.1 74 (by decide)).trans (by rw [pa_4]; repeat first | rw [upd2_row (by omega)] | rw [yAddC_row (by omega)])) 2) ((a3.2.2.1 76 (by decide)).trans (by rw [pa_4]; repeat first | rw [upd2_row (by omega)] | rw [yAddC_row (by omega)])) (by omega)
      have hr8 : yR8 (K + 1) I1 R1 := ⟨hr7, hmn_, hvn_, hmb_⟩
      have hp9_ : yP9 I1 R1 := hV.2.2.2.1.2.1.kp hV.2.2.1 hFa (yLk.out hV.2.2.1) (by rw [pa_4]; repeat first | rw [upd2_row (by omega)] | rw [yAddC_row (by omega)]) (by omega) a3
      have hpd_ : yPdd I1 := hV.2.2.2.1.2.2.st (by omega) ((a3.2.2.1 54 (by decide)).trans (by rw [pa_4]; repeat first | rw [upd2_row (by omega)] | rw [yAddC_row (by omega)])) ((a3.2.2.1 55 (by decide)).trans (by rw [pa_4]; repeat first | rw [upd2_row (by omega)] | rw [yAddC_row (by omega)]))
      have hr9 : yR9 (K + 1) I1 R1 := ⟨hr8, hp9_, hpd_⟩
      have hV := hV.two pa_0 (fun a ha => funext fun k => hFa a k (.inl ha)) a1 a2 a3 hr9
      have hS := hV.1
      refine y_ret1 ?_
      refine y_istore (ls' := [some _, some _, some _, some _, some _, some _, some _]) rfl rfl rfl ?_
      refine y_goto rfl j_L_law_1673 ?_
      refine y_fgt (ls := [some _, some _, some _, some _, some _, none, none]) ⟨rfl, rfl, rfl, rfl, rfl, trivial⟩ ?_
      exact hN _ _ _ _ _ _ hV (by omega) (by omega)
theorem lc_6 (hV : yInv K n tg I R ln) (hk6 : K < 600) {x4 : Int32} (hx0 : 0 ≤ x4.toInt) (hx1 : x4.toInt + 7 ≤ (ln : Int)) (hl : ln ≤ 3584) (hN : ∀ n1 tg1 I1 R1 c1 s1, yInv (K + 1) n1 tg1 I1 R1 ln → c1 ≤ c + 790 → s1 ≤ s + 15250 → yW xm_L_law xc_L_law_1673 [some (.ref 33), some (.ref 34), some (.ref 83), some (.ref 93), some (.int x4), none, none] [] (n1, tg1, I1, R1) c1 s1 Q) : yW xm_L_law xc_L_law_420 [some (.ref 33), some (.ref 34), some (.ref 83), some (.ref 93), some (.int x4), none, none] [] (n, tg, I, R) c s Q := by
  have hS := hV.1
  refine y_aload_n rfl rfl ?_
  refine y_aload_n rfl rfl ?_
  refine y_iload rfl rfl ?_
  refine y_iconst rfl ?_
  refine y_iadd rfl ?_
  refine y_iaload rfl hV.2.2.2.2.2 (ySh.n hV.1 rfl) (sc_at hx0 hx1 hl (by decide) (by decide)).1 (sc_at hx0 hx1 hl (by decide) (by decide)).2 ?_
  refine y_aload_n rfl rfl ?_
  refine y_iload rfl rfl ?_
  refine y_iconst rfl ?_
  refine y_iadd rfl ?_
  refine y_iaload rfl hV.2.2.2.2.2 (ySh.n hV.1 rfl) (sc_at hx0 hx1 hl (by decide) (by decide)).1 (sc_at hx0 hx1 hl (by decide) (by decide)).2 ?_
  refine y_aload_n rfl rfl ?_
  refine y_iload rfl rfl ?_
  refine y_iconst rfl ?_
  refine y_iadd rfl ?_
  refine y_iaload rfl hV.2.2.2.2.2 (ySh.n hV.1 rfl) (sc_at hx0 hx1 hl (by decide) (by decide)).1 (sc_at hx0 hx1 hl (by decide) (by decide)).2 ?_
  refine y_aload_n rfl rfl ?_
  refine y_iload rfl rfl ?_
  refine y_iconst rfl ?_
  refine y_iadd rfl ?_
  refine y_iaload rfl hV.2.2.2.2.2 (ySh.n hV.1 rfl) (sc_at hx0 hx1 hl (by decide) (by decide)).1 (sc_at hx0 hx1 hl (by decide) (by decide)).2 ?_
  refine y_aload_n rfl rfl ?_
  refine y_static rfl rfl rfl rfl rfl ?_
  refine v_sell hS hV.2.1 (fun hc_ => ?_) (fun hc_ => ?_) (fun hc_ => ?_) (fun hc_ v_a I_a x_ms pa_0 pa_1 pa_2 pa_3 pa_4 pa_5 pa_6 hBa R_a eR => ?_) (fun hc_ v_a I_a x_ms pa_0 pa_1 pa_2 pa_3 pa_4 pa_5 pa_6 hBa R_a eR => ?_)
  · have e33 : I 33 = I 33 := rfl
    refine y_ret1 ?_
    refine y_istore (ls' := [some _, some _, some _, some _, some _, some _, _]) rfl rfl rfl ?_
    refine y_aload_n rfl rfl ?_
    refine y_aload_n rfl rfl ?_
    refine y_iload rfl rfl ?_
    refine y_iconst rfl ?_
    refine y_iadd rfl ?_
    refine y_iaload rfl hV.2.2.2.2.2 (ySh.n hV.1 rfl) (sc_at hx0 hx1 hl (by decide) (by decide)).1 (sc_at hx0 hx1 hl (by decide) (by decide)).2 ?_
    rw [e33]
    refine y_aload_n rfl rfl ?_
    refine y_iload rfl rfl ?_
    refine y_iconst rfl ?_
    refine y_iadd rfl ?_
    refine y_iaload rfl hV.2.2.2.2.2 (ySh.n hV.1 rfl) (sc_at hx0 hx1 hl (by decide) (by decide)).1 (sc_at hx0 hx1 hl (by decide) (by decide)).2 ?_
    rw [e33]
    refine y_aload_n rfl rfl ?_
    refine y_iload rfl rfl ?_
    refine y_iconst rfl ?_
    refine y_iadd rfl ?_
    refine y_iaload rfl hV.2.2.2.2.2 (ySh.n hV.1 rfl) (sc_at hx0 hx1 hl (by decide) (by decide)).1 (sc_at hx0 hx1 hl (by decide) (by decide)).2 ?_
    rw [e33]
    refine y_aload_n rfl rfl ?_
    refine y_iload rfl rfl ?_
    refine y_iconst rfl ?_
    refine y_iadd rfl ?_
    refine y_iaload rfl hV.2.2.2.2.2 (ySh.n hV.1 rfl) (sc_at hx0 hx1 hl (by decide) (by decide)).1 (sc_at hx0 hx1 hl (by decide) (by decide)).2 ?_
    rw [e33]
    refine y_virt rfl rfl rfl rfl rfl (ySh.t hS rfl) (ySh.n hS rfl) ?_
    obtain ⟨r1, r2, r3, r4, r5, r6, r7, r8⟩ := hV.2.2.2.1.1.1.1.1.1.1
    refine yC.keep [(18, 4, 83), (18, 1, 83), (18, 8, 83)] rfl rfl hS ?_
    refine h_sell (al := (yBC (I 36 0)).toInt) hS hV.2.2.1 hk6 (hV.2.2.2.1.1.1.1.1.1.lf _) (hV.2.2.2.1.1.1.1.1.1.2.1.al hV.2.2.1 (q := 0) (by decide)) (fun hm_ v_b n1 tg1 I1 R1 c1 s1 a1 a2 a3 hth pg_ ps_88 ps_89 ps_90 ps_91 ps_92 pl_ prf_ hc_b hs_b => ⟨a1, fun hB_ h93_ => ?_⟩) (fun hm_ v_b n1 tg1 I1 R1 c1 s1 a1 a2 a3 hth pg_ ps_88 ps_89 ps_90 ps_91 ps_92 pl_ prf_ hc_b hs_b => ⟨a1, fun hB_ h93_ => ?_⟩) (fun hm_ v_b n1 tg1 I1 R1 c1 s1 a1 a2 a3 hth pg_ ps_88 ps_89 ps_90 ps_91 ps_92 pl_ prf_ hc_b hs_b => ⟨a1, fun hB_ h93_ => ?_⟩) (fun q_b e_b0 q_ms e_ms1 e_ms2 hm_ v_b n1 tg1 I1 R1 c1 s1 a1 a2 a3 hth pv_ pg_ ps_88 ps_89 ps_90 ps_91 ps_92 pl_ q_x e_x pn_ pf_0 pf_1 pf_2 pf_3 pf_4 pf_5 pf_6 pf_7 pf_8 pf_9 p8_ hc_b hs_b => ⟨a1, fun hB_ h93_ => ?_⟩) (fun q_b e_b0 q_ms e_ms1 e_ms2 hm_ v_b n1 tg1 I1 R1 c1 s1 a1 a2 a3 hth pv_ pg_ ps_88 ps_89 ps_90 ps_91 ps_92 pl_ q_x e_x pn_ pf_0 pf_1 pf_2 pf_3 pf_4 pf_5 pf_6 pf_7 pf_8 pf_9 p8_ hc_b hs_b => ⟨a1, fun hB_ h93_ => ?_⟩)
    · have kc34_9 := congrArg Int32.toInt (congrFun (a3.2.2.1 34 (by decide)) 9)
      have kc34_8 := congrArg Int32.toInt (congrFun (a3.2.2.1 34 (by decide)) 8)
      have kc38_0 := congrArg Int32.toInt (congrFun (a3.2.2.1 38 (by decide)) 0)
      have kc40_0 := congrArg Int32.toInt (congrFun (a3.2.2.1 40 (by decide)) 0)
      have kc69_0 := congrArg Int32.toInt (congrFun (a3.2.2.1 69 (by decide)) 0)
      have kc77_0 := congrArg Int32.toInt (congrFun (a3.2.2.1 77 (by decide)) 0)
      have kc48_0 := congrArg Int32.toInt (congrFun (a3.2.2.1 48 (by decide)) 0)
      have kc59_0 := congrArg Int32.toInt (congrFun (a3.2.2.1 59 (by decide)) 0)
      have hB_ : yKeep _ _ I1 := hB_
      obtain ⟨mb0, mb1, mb2, -⟩ := hB_
      have mb0 := congrArg Int32.toInt mb0
      have mb1 := congrArg Int32.toInt mb1
      have mb2 := congrArg Int32.toInt mb2
      have hlv_ := fun q => @yLv_in I (I 33 (x4 + Int32.ofInt 1).toInt.toNat) q
      first | (have hlv_ := hlv_ ⟨by omega, by omega⟩) | skip
      have hrel : yRl I1 := ⟨by omega, by omega, by omega, by omega, by omega, by omega, by omega, by omega⟩
      have hr4 : yR6 I1 R1 := yR6.two hV.2.2.2.1.1.1.1 yFu.rf hV.2.2.1 hV.2.2.2.1.1.1.1.1.1.2.1 yLk.rf a3 (yR4.ob hV.2.2.1 pg_) (yS5.ob hV.2.2.1 pg_) (yL6.ob hV.2.2.1 pg_) pl_ hrel (by omega) (by omega) (by omega) (by omega)
      have hf7 : yF7 I1 R1 := hV.2.2.2.1.1.1.2.rf hV.2.2.1 prf_
      have hr7 : yR7 I1 R1 := ⟨hr4, hf7⟩
      have hr9 : yR9 (K + 1) I1 R1 := hV.2.2.2.1.rf hr7 hV.2.2.1 prf_ (Nat.le_succ K)
      have hV := hV.two hV.2.1 (fun _ _ => rfl) a1 a2 a3 hr9
      have hS := hV.1
      refine y_ret1 ?_
      refine y_istore (ls' := [some _, some _, some _, some _, some _, some _, some _]) rfl rfl rfl ?_
      refine y_goto rfl j_L_law_1673 ?_
      refine y_fgt (ls := [some _, some _, some _, some _, some _, none, none]) ⟨rfl, rfl, rfl, rfl, rfl, trivial⟩ ?_
      exact hN _ _ _ _ _ _ hV (by omega) (by omega)
    · have hlv_ := fun q => @yLv_in I (I 33 (x4 + Int32.ofInt 1).toInt.toNat) q
      first | (have hlv_ := hlv_ ⟨by omega, by omega⟩) | skip
      exfalso; omega
    · have hlv_ := fun q => @yLv_in I (I 33 (x4 + Int32.ofInt 1).toInt.toNat) q
      first | (have hlv_ := hlv_ ⟨by omega, by omega⟩) | skip
      exfalso; omega
    · have hlv_ := fun q => @yLv_in I (I 33 (x4 + Int32.ofInt 1).toInt.toNat) q
      obtain ⟨h94b, t0, t1, t2, t3, t4, t5⟩ := tie_th0 hV.2.2.2.1.1.1.1.1.1 hV.2.2.1 (by omega) e_b0
      try simp only [t0, t1, t2, t3, t4, t5] at hm_
      try simp only [t0, t1, t2, t3, t4, t5] at e_ms1
      try simp only [t0, t1, t2, t3, t4, t5] at e_ms2
      first | (have hlv_ := hlv_ ⟨by omega, by omega⟩) | skip
      exfalso; omega
    · have hlv_ := fun q => @yLv_in I (I 33 (x4 + Int32.ofInt 1).toInt.toNat) q
      obtain ⟨h94b, t0, t1, t2, t3, t4, t5⟩ := tie_th0 hV.2.2.2.1.1.1.1.1.1 hV.2.2.1 (by omega) e_b0
      try simp only [t0, t1, t2, t3, t4, t5] at hm_
      try simp only [t0, t1, t2, t3, t4, t5] at e_ms1
      try simp only [t0, t1, t2, t3, t4, t5] at e_ms2
      first | (have hlv_ := hlv_ ⟨by omega, by omega⟩) | skip
      exfalso; omega
  · have e33 : I 33 = I 33 := rfl
    refine y_ret1 ?_
    refine y_istore (ls' := [some _, some _, some _, some _, some _, some _, _]) rfl rfl rfl ?_
    refine y_aload_n rfl rfl ?_
    refine y_aload_n rfl rfl ?_
    refine y_iload rfl rfl ?_
    refine y_iconst rfl ?_
    refine y_iadd rfl ?_
    refine y_iaload rfl hV.2.2.2.2.2 (ySh.n hV.1 rfl) (sc_at hx0 hx1 hl (by decide) (by decide)).1 (sc_at hx0 hx1 hl (by decide) (by decide)).2 ?_
    rw [e33]
    refine y_aload_n rfl rfl ?_
    refine y_iload rfl rfl ?_
    refine y_iconst rfl ?_
    refine y_iadd rfl ?_
    refine y_iaload rfl hV.2.2.2.2.2 (ySh.n hV.1 rfl) (sc_at hx0 hx1 hl (by decide) (by decide)).1 (sc_at hx0 hx1 hl (by decide) (by decide)).2 ?_
    rw [e33]
    refine y_aload_n rfl rfl ?_
    refine y_iload rfl rfl ?_
    refine y_iconst rfl ?_
    refine y_iadd rfl ?_
    refine y_iaload rfl hV.2.2.2.2.2 (ySh.n hV.1 rfl) (sc_at hx0 hx1 hl (by decide) (by decide)).1 (sc_at hx0 hx1 hl (by decide) (by decide)).2 ?_
    rw [e33]
    refine y_aload_n rfl rfl ?_
    refine y_iload rfl rfl ?_
    refine y_iconst rfl ?_
    refine y_iadd rfl ?_
    refine y_iaload rfl hV.2.2.2.2.2 (ySh.n hV.1 rfl) (sc_at hx0 hx1 hl (by decide) (by decide)).1 (sc_at hx0 hx1 hl (by decide) (by decide)).2 ?_
    rw [e33]
    refine y_virt rfl rfl rfl rfl rfl (ySh.t hS rfl) (ySh.n hS rfl) ?_
    obtain ⟨r1, r2, r3, r4, r5, r6, r7, r8⟩ := hV.2.2.2.1.1.1.1.1.1.1
    refine yC.keep [(18, 4, 83), (18, 1, 83), (18, 8, 83)] rfl rfl hS ?_
    refine h_sell (al := (yBC (I 36 0)).toInt) hS hV.2.2.1 hk6 (hV.2.2.2.1.1.1.1.1.1.lf _) (hV.2.2.2.1.1.1.1.1.1.2.1.al hV.2.2.1 (q := 0) (by decide)) (fun hm_ v_b n1 tg1 I1 R1 c1 s1 a1 a2 a3 hth pg_ ps_88 ps_89 ps_90 ps_91 ps_92 pl_ prf_ hc_b hs_b => ⟨a1, fun hB_ h93_ => ?_⟩) (fun hm_ v_b n1 tg1 I1 R1 c1 s1 a1 a2 a3 hth pg_ ps_88 ps_89 ps_90 ps_91 ps_92 pl_ prf_ hc_b hs_b => ⟨a1, fun hB_ h93_ => ?_⟩) (fun hm_ v_b n1 tg1 I1 R1 c1 s1 a1 a2 a3 hth pg_ ps_88 ps_89 ps_90 ps_91 ps_92 pl_ prf_ hc_b hs_b => ⟨a1, fun hB_ h93_ => ?_⟩) (fun q_b e_b0 q_ms e_ms1 e_ms2 hm_ v_b n1 tg1 I1 R1 c1 s1 a1 a2 a3 hth pv_ pg_ ps_88 ps_89 ps_90 ps_91 ps_92 pl_ q_x e_x pn_ pf_0 pf_1 pf_2 pf_3 pf_4 pf_5 pf_6 pf_7 pf_8 pf_9 p8_ hc_b hs_b => ⟨a1, fun hB_ h93_ => ?_⟩) (fun q_b e_b0 q_ms e_ms1 e_ms2 hm_ v_b n1 tg1 I1 R1 c1 s1 a1 a2 a3 hth pv_ pg_ ps_88 ps_89 ps_90 ps_91 ps_92 pl_ q_x e_x pn_ pf_0 pf_1 pf_2 pf_3 pf_4 pf_5 pf_6 pf_7 pf_8 pf_9 p8_ hc_b hs_b => ⟨a1, fun hB_ h93_ => ?_⟩)
    · have hlv_ := fun q => @yLv_in I (I 33 (x4 + Int32.ofInt 1).toInt.toNat) q
      first | (have hlv_ := hlv_ ⟨by omega, by omega⟩) | skip
      exfalso; omega
    · have kc34_9 := congrArg Int32.toInt (congrFun (a3.2.2.1 34 (by decide)) 9)
      have kc34_8 := congrArg Int32.toInt (congrFun (a3.2.2.1 34 (by decide)) 8)
      have kc38_0 := congrArg Int32.toInt (congrFun (a3.2.2.1 38 (by decide)) 0)
      have kc40_0 := congrArg Int32.toInt (congrFun (a3.2.2.1 40 (by decide)) 0)
      have kc69_0 := congrArg Int32.toInt (congrFun (a3.2.2.1 69 (by decide)) 0)
      have kc77_0 := congrArg Int32.toInt (congrFun (a3.2.2.1 77 (by decide)) 0)
      have kc48_0 := congrArg Int32.toInt (congrFun (a3.2.2.1 48 (by decide)) 0)
      have kc59_0 := congrArg Int32.toInt (congrFun (a3.2.2.1 59 (by decide)) 0)
      have hB_ : yKeep _ _ I1 := hB_
      obtain ⟨mb0, mb1, mb2, -⟩ := hB_
      have mb0 := congrArg Int32.toInt mb0
      have mb1 := congrArg Int32.toInt mb1
      have mb2 := congrArg Int32.toInt mb2
      have hlv_ := fun q => @yLv_in I (I 33 (x4 + Int32.ofInt 1).toInt.toNat) q
      first | (have hlv_ := hlv_ ⟨by omega, by omega⟩) | skip
      have hrel : yRl I1 := ⟨by omega, by omega, by omega, by omega, by omega, by omega, by omega, by omega⟩
      have hr4 : yR6 I1 R1 := yR6.two hV.2.2.2.1.1.1.1 yFu.rf hV.2.2.1 hV.2.2.2.1.1.1.1.1.1.2.1 yLk.rf a3 (yR4.ob hV.2.2.1 pg_) (yS5.ob hV.2.2.1 pg_) (yL6.ob hV.2.2.1 pg_) pl_ hrel (by omega) (by omega) (by omega) (by omega)
      have hf7 : yF7 I1 R1 := hV.2.2.2.1.1.1.2.rf hV.2.2.1 prf_
      have hr7 : yR7 I1 R1 := ⟨hr4, hf7⟩
      have hr9 : yR9 (K + 1) I1 R1 := hV.2.2.2.1.rf hr7 hV.2.2.1 prf_ (Nat.le_succ K)
      have hV := hV.two hV.2.1 (fun _ _ => rfl) a1 a2 a3 hr9
      have hS := hV.1
      refine y_ret1 ?_
      refine y_istore (ls' := [some _, some _, some _, some _, some _, some _, some _]) rfl rfl rfl ?_
      refine y_goto rfl j_L_law_1673 ?_
      refine y_fgt (ls := [some _, some _, some _, some _, some _, none, none]) ⟨rfl, rfl, rfl, rfl, rfl, trivial⟩ ?_
      exact hN _ _ _ _ _ _ hV (by omega) (by omega)
    · have hlv_ := fun q => @yLv_in I (I 33 (x4 + Int32.ofInt 1).toInt.toNat) q
      first | (have hlv_ := hlv_ ⟨by omega, by omega⟩) | skip
      exfalso; omega
    · have hlv_ := fun q => @yLv_in I (I 33 (x4 + Int32.ofInt 1).toInt.toNat) q
      obtain ⟨h94b, t0, t1, t2, t3, t4, t5⟩ := tie_th0 hV.2.2.2.1.1.1.1.1.1 hV.2.2.1 (by omega) e_b0
      try simp only [t0, t1, t2, t3, t4, t5] at hm_
      try simp only [t0, t1, t2, t3, t4, t5] at e_ms1
      try simp only [t0, t1, t2, t3, t4, t5] at e_ms2
      first | (have hlv_ := hlv_ ⟨by omega, by omega⟩) | skip
      exfalso; omega
    · have hlv_ := fun q => @yLv_in I (I 33 (x4 + Int32.ofInt 1).toInt.toNat) q
      obtain ⟨h94b, t0, t1, t2, t3, t4, t5⟩ := tie_th0 hV.2.2.2.1.1.1.1.1.1 hV.2.2.1 (by omega) e_b0
      try simp only [t0, t1, t2, t3, t4, t5] at hm_
      try simp only [t0, t1, t2, t3, t4, t5] at e_ms1
      try simp only [t0, t1, t2, t3, t4, t5] at e_ms2
      first | (have hlv_ := hlv_ ⟨by omega, by omega⟩) | skip
      exfalso; omega
  · have e33 : I 33 = I 33 := rfl
    refine y_ret1 ?_
    refine y_istore (ls' := [some _, some _, some _, some _, some _, some _, _]) rfl rfl rfl ?_
    refine y_aload_n rfl rfl ?_
    refine y_aload_n rfl rfl ?_
    refine y_iload rfl rfl ?_
    refine y_iconst rfl ?_
    refine y_iadd rfl ?_
    refine y_iaload rfl hV.2.2.2.2.2 (ySh.n hV.1 rfl) (sc_at hx0 hx1 hl (by decide) (by decide)).1 (sc_at hx0 hx1 hl (by decide) (by decide)).2 ?_
    rw [e33]
    refine y_aload_n rfl rfl ?_
    refine y_iload rfl rfl ?_
    refine y_iconst rfl ?_
    refine y_iadd rfl ?_
    refine y_iaload rfl hV.2.2.2.2.2 (ySh.n hV.1 rfl) (sc_at hx0 hx1 hl (by decide) (by decide)).1 (sc_at hx0 hx1 hl (by decide) (by decide)).2 ?_
    rw [e33]
    refine y_aload_n rfl rfl ?_
    refine y_iload rfl rfl ?_
    refine y_iconst rfl ?_
    refine y_iadd rfl ?_
    refine y_iaload rfl hV.2.2.2.2.2 (ySh.n hV.1 rfl) (sc_at hx0 hx1 hl (by decide) (by decide)).1 (sc_at hx0 hx1 hl (by decide) (by decide)).2 ?_
    rw [e33]
    refine y_aload_n rfl rfl ?_
    refine y_iload rfl rfl ?_
    refine y_iconst rfl ?_
    refine y_iadd rfl ?_
    refine y_iaload rfl hV.2.2.2.2.2 (ySh.n hV.1 rfl) (sc_at hx0 hx1 hl (by decide) (by decide)).1 (sc_at hx0 hx1 hl (by decide) (by decide)).2 ?_
    rw [e33]
    refine y_virt rfl rfl rfl rfl rfl (ySh.t hS rfl) (ySh.n hS rfl) ?_
    obtain ⟨r1, r2, r3, r4, r5, r6, r7, r8⟩ := hV.2.2.2.1.1.1.1.1.1.1
    refine yC.keep [(18, 4, 83), (18, 1, 83), (18, 8, 83)] rfl rfl hS ?_
    refine h_sell (al := (yBC (I 36 0)).toInt) hS hV.2.2.1 hk6 (hV.2.2.2.1.1.1.1.1.1.lf _) (hV.2.2.2.1.1.1.1.1.1.2.1.al hV.2.2.1 (q := 0) (by decide)) (fun hm_ v_b n1 tg1 I1 R1 c1 s1 a1 a2 a3 hth pg_ ps_88 ps_89 ps_90 ps_91 ps_92 pl_ prf_ hc_b hs_b => ⟨a1, fun hB_ h93_ => ?_⟩) (fun hm_ v_b n1 tg1 I1 R1 c1 s1 a1 a2 a3 hth pg_ ps_88 ps_89 ps_90 ps_91 ps_92 pl_ prf_ hc_b hs_b => ⟨a1, fun hB_ h93_ => ?_⟩) (fun hm_ v_b n1 tg1 I1 R1 c1 s1 a1 a2 a3 hth pg_ ps_88 ps_89 ps_90 ps_91 ps_92 pl_ prf_ hc_b hs_b => ⟨a1, fun hB_ h93_ => ?_⟩) (fun q_b e_b0 q_ms e_ms1 e_ms2 hm_ v_b n1 tg1 I1 R1 c1 s1 a1 a2 a3 hth pv_ pg_ ps_88 ps_89 ps_90 ps_91 ps_92 pl_ q_x e_x pn_ pf_0 pf_1 pf_2 pf_3 pf_4 pf_5 pf_6 pf_7 pf_8 pf_9 p8_ hc_b hs_b => ⟨a1, fun hB_ h93_ => ?_⟩) (fun q_b e_b0 q_ms e_ms1 e_ms2 hm_ v_b n1 tg1 I1 R1 c1 s1 a1 a2 a3 hth pv_ pg_ ps_88 ps_89 ps_90 ps_91 ps_92 pl_ q_x e_x pn_ pf_0 pf_1 pf_2 pf_3 pf_4 pf_5 pf_6 pf_7 pf_8 pf_9 p8_ hc_b hs_b => ⟨a1, fun hB_ h93_ => ?_⟩)
    · have hlv_ := fun q => @yLv_in I (I 33 (x4 + Int32.ofInt 1).toInt.toNat) q
      first | (have hlv_ := hlv_ ⟨by omega, by omega⟩) | skip
      exfalso; omega
    · have hlv_ := fun q => @yLv_in I (I 33 (x4 + Int32.ofInt 1).toInt.toNat) q
      first | (have hlv_ := hlv_ ⟨by omega, by omega⟩) | skip
      exfalso; omega
    · have kc34_9 := congrArg Int32.toInt (congrFun (a3.2.2.1 34 (by decide)) 9)
      have kc34_8 := congrArg Int32.toInt (congrFun (a3.2.2.1 34 (by decide)) 8)
      have kc38_0 := congrArg Int32.toInt (congrFun (a3.2.2.1 38 (by decide)) 0)
      have kc40_0 := congrArg Int32.toInt (congrFun (a3.2.2.1 40 (by decide)) 0)
      have kc69_0 := congrArg Int32.toInt (congrFun (a3.2.2.1 69 (by decide)) 0)
      have kc77_0 := congrArg Int32.toInt (congrFun (a3.2.2.1 77 (by decide)) 0)
      have kc48_0 := congrArg Int32.toInt (congrFun (a3.2.2.1 48 (by decide)) 0)
      have kc59_0 := congrArg Int32.toInt (congrFun (a3.2.2.1 59 (by decide)) 0)
      have hB_ : yKeep _ _ I1 := hB_
      obtain ⟨mb0, mb1, mb2, -⟩ := hB_
      have mb0 := congrArg Int32.toInt mb0
      have mb1 := congrArg Int32.toInt mb1
      have mb2 := congrArg Int32.toInt mb2
      have hlv_ := fun q => @yLv_in I (I 33 (x4 + Int32.ofInt 1).toInt.toNat) q
      first | (have hlv_ := hlv_ ⟨by omega, by omega⟩) | skip
      have hrel : yRl I1 := ⟨by omega, by omega, by omega, by omega, by omega, by omega, by omega, by omega⟩
      have hr4 : yR6 I1 R1 := yR6.two hV.2.2.2.1.1.1.1 yFu.rf hV.2.2.1 hV.2.2.2.1.1.1.1.1.1.2.1 yLk.rf a3 (yR4.ob hV.2.2.1 pg_) (yS5.ob hV.2.2.1 pg_) (yL6.ob hV.2.2.1 pg_) pl_ hrel (by omega) (by omega) (by omega) (by omega)
      have hf7 : yF7 I1 R1 := hV.2.2.2.1.1.1.2.rf hV.2.2.1 prf_
      have hr7 : yR7 I1 R1 := ⟨hr4, hf7⟩
      have hr9 : yR9 (K + 1) I1 R1 := hV.2.2.2.1.rf hr7 hV.2.2.1 prf_ (Nat.le_succ K)
      have hV := hV.two hV.2.1 (fun _ _ => rfl) a1 a2 a3 hr9
      have hS := hV.1
      refine y_ret1 ?_
      refine y_istore (ls' := [some _, some _, some _, some _, some _, some _, some _]) rfl rfl rfl ?_
      refine y_goto rfl j_L_law_1673 ?_
      refine y_fgt (ls := [some _, some _, some _, some _, some _, none, none]) ⟨rfl, rfl, rfl, rfl, rfl, trivial⟩ ?_
      exact hN _ _ _ _ _ _ hV (by omega) (by omega)
    · have hlv_ := fun q => @yLv_in I (I 33 (x4 + Int32.ofInt 1).toInt.toNat) q
      obtain ⟨h94b, t0, t1, t2, t3, t4, t5⟩ := tie_th0 hV.2.2.2.1.1.1.1.1.1 hV.2.2.1 (by omega) e_b0
      try simp only [t0, t1, t2, t3, t4, t5] at hm_
      try simp only [t0, t1, t2, t3, t4, t5] at e_ms1
      try simp only [t0, t1, t2, t3, t4, t5] at e_ms2
      first | (have hlv_ := hlv_ ⟨by omega, by omega⟩) | skip
      exfalso; omega
    · have hlv_ := fun q => @yLv_in I (I 33 (x4 + Int32.ofInt 1).toInt.toNat) q
      obtain ⟨h94b, t0, t1, t2, t3, t4, t5⟩ := tie_th0 hV.2.2.2.1.1.1.1.1.1 hV.2.2.1 (by omega) e_b0
      try simp only [t0, t1, t2, t3, t4, t5] at hm_
      try simp only [t0, t1, t2, t3, t4, t5] at e_ms1
      try simp only [t0, t1, t2, t3, t4, t5] at e_ms2
      first | (have hlv_ := hlv_ ⟨by omega, by omega⟩) | skip
      exfalso; omega
  · have hFa : yFt I I_a := pa_1
    have e33 : I_a 33 = I 33 := funext fun k => hFa 33 k (.inl (by decide))
    have hS : ySh n tg R_a := by rw [eR]; exact hS.out
    have hRa : yRI K n tg I_a R_a := (hV.2.2.1.ft hFa).outR (fun a ha => by rw [eR]; exact upd2_row ha)
    refine y_ret1 ?_
    refine y_istore (ls' := [some _, some _, some _, some _, some _, some _, _]) rfl rfl rfl ?_
    refine y_aload_n rfl rfl ?_
    refine y_aload_n rfl rfl ?_
    refine y_iload rfl rfl ?_
    refine y_iconst rfl ?_
    refine y_iadd rfl ?_
    refine y_iaload rfl hV.2.2.2.2.2 (ySh.n hV.1 rfl) (sc_at hx0 hx1 hl (by decide) (by decide)).1 (sc_at hx0 hx1 hl (by decide) (by decide)).2 ?_
    rw [e33]
    refine y_aload_n rfl rfl ?_
    refine y_iload rfl rfl ?_
    refine y_iconst rfl ?_
    refine y_iadd rfl ?_
    refine y_iaload rfl hV.2.2.2.2.2 (ySh.n hV.1 rfl) (sc_at hx0 hx1 hl (by decide) (by decide)).1 (sc_at hx0 hx1 hl (by decide) (by decide)).2 ?_
    rw [e33]
    refine y_aload_n rfl rfl ?_
    refine y_iload rfl rfl ?_
    refine y_iconst rfl ?_
    refine y_iadd rfl ?_
    refine y_iaload rfl hV.2.2.2.2.2 (ySh.n hV.1 rfl) (sc_at hx0 hx1 hl (by decide) (by decide)).1 (sc_at hx0 hx1 hl (by decide) (by decide)).2 ?_
    rw [e33]
    refine y_aload_n rfl rfl ?_
    refine y_iload rfl rfl ?_
    refine y_iconst rfl ?_
    refine y_iadd rfl ?_
    refine y_iaload rfl hV.2.2.2.2.2 (ySh.n hV.1 rfl) (sc_at hx0 hx1 hl (by decide) (by decide)).1 (sc_at hx0 hx1 hl (by decide) (by decide)).2 ?_
    rw [e33]
    refine y_virt rfl rfl rfl rfl rfl (ySh.t hS rfl) (ySh.n hS rfl) ?_
    obtain ⟨r1, r2, r3, r4, r5, r6, r7, r8⟩ := hV.2.2.2.1.1.1.1.1.1.1
    have eM : ∀ l k, 83 ≤ l → (I_a l k).toInt = (I l k).toInt := fun l k hl => congrArg Int32.toInt (hFa l k (.inr (.inl hl)))
    have em83_4 := eM 83 4 (by decide)
    have em83_1 := eM 83 1 (by decide)
    have em83_8 := eM 83 8 (by decide)
    have em88_2 := eM 88 2 (by decide)
    have em91_2 := eM 91 2 (by decide)
    have em92_2 := eM 92 2 (by decide)
    have em89_2 := eM 89 2 (by decide)
    have em90_2 := eM 90 2 (by decide)
    have em83_7 := eM 83 7 (by decide)
    obtain ⟨kb0, kb1, kb2, kb3, kb4, kb5, kb6, -⟩ := hBa
    have kb0 := congrArg Int32.toInt kb0
    have kb1 := congrArg Int32.toInt kb1
    have kb2 := congrArg Int32.toInt kb2
    have kb3 := congrArg Int32.toInt kb3
    have kb4 := congrArg Int32.toInt kb4
    have kb5 := congrArg Int32.toInt kb5
    have kb6 := congrArg Int32.toInt kb6
    refine yC.keep [(18, 4, 83), (18, 1, 83), (18, 8, 83)] rfl rfl hS ?_
    refine h_sell (al := (yBC (I 36 0)).toInt) hS hRa hk6 (by rw [eR]; exact (hV.2.2.2.1.1.1.1.1.1.lf _).ft hV.2.2.1 hFa) (by rw [eR]; exact yHr.ala hV.2.2.2.1.1.1.1.1.1 hV.2.2.1 hFa (q := 0) (by decide)) (fun hm_ v_b n1 tg1 I1 R1 c1 s1 a1 a2 a3 hth pg_ ps_88 ps_89 ps_90 ps_91 ps_92 pl_ prf_ hc_b hs_b => ⟨a1, fun hB_ h93_ => ?_⟩) (fun hm_ v_b n1 tg1 I1 R1 c1 s1 a1 a2 a3 hth pg_ ps_88 ps_89 ps_90 ps_91 ps_92 pl_ prf_ hc_b hs_b => ⟨a1, fun hB_ h93_ => ?_⟩) (fun hm_ v_b n1 tg1 I1 R1 c1 s1 a1 a2 a3 hth pg_ ps_88 ps_89 ps_90 ps_91 ps_92 pl_ prf_ hc_b hs_b => ⟨a1, fun hB_ h93_ => ?_⟩) (fun q_b e_b0 q_ms e_ms1 e_ms2 hm_ v_b n1 tg1 I1 R1 c1 s1 a1 a2 a3 hth pv_ pg_ ps_88 ps_89 ps_90 ps_91 ps_92 pl_ q_x e_x pn_ pf_0 pf_1 pf_2 pf_3 pf_4 pf_5 pf_6 pf_7 pf_8 pf_9 p8_ hc_b hs_b => ⟨a1, fun hB_ h93_ => ?_⟩) (fun q_b e_b0 q_ms e_ms1 e_ms2 hm_ v_b n1 tg1 I1 R1 c1 s1 a1 a2 a3 hth pv_ pg_ ps_88 ps_89 ps_90 ps_91 ps_92 pl_ q_x e_x pn_ pf_0 pf_1 pf_2 pf_3 pf_4 pf_5 pf_6 pf_7 pf_8 pf_9 p8_ hc_b hs_b => ⟨a1, fun hB_ h93_ => ?_⟩)
    · subst eR
      have hlv_ := fun q => @yLv_in I (I 33 (x4 + Int32.ofInt 1).toInt.toNat) q
      first | (have hlv_ := hlv_ ⟨by omega, by omega⟩) | skip
      exfalso; omega
    · subst eR
      have hlv_ := fun q => @yLv_in I (I 33 (x4 + Int32.ofInt 1).toInt.toNat) q
      first | (have hlv_ := hlv_ ⟨by omega, by omega⟩) | skip
      exfalso; omega
    · subst eR
      have hlv_ := fun q => @yLv_in I (I 33 (x4 + Int32.ofInt 1).toInt.toNat) q
      first | (have hlv_ := hlv_ ⟨by omega, by omega⟩) | skip
      exfalso; omega
    · have kc34_9 := congrArg Int32.toInt (congrFun (a3.2.2.1 34 (by decide)) 9)
      have kc34_8 := congrArg Int32.toInt (congrFun (a3.2.2.1 34 (by decide)) 8)
      have kc38_0 := congrArg Int32.toInt (congrFun (a3.2.2.1 38 (by decide)) 0)
      have kc40_0 := congrArg Int32.toInt (congrFun (a3.2.2.1 40 (by decide)) 0)
      have kc69_0 := congrArg Int32.toInt (congrFun (a3.2.2.1 69 (by decide)) 0)
      have kc77_0 := congrArg Int32.toInt (congrFun (a3.2.2.1 77 (by decide)) 0)
      have kc48_0 := congrArg Int32.toInt (congrFun (a3.2.2.1 48 (by decide)) 0)
      have kc59_0 := congrArg Int32.toInt (congrFun (a3.2.2.1 59 (by decide)) 0)
      have hB_ : yKeep _ _ I1 := hB_
      obtain ⟨mb0, mb1, mb2, -⟩ := hB_
      have mb0 := congrArg Int32.toInt mb0
      have mb1 := congrArg Int32.toInt mb1
      have mb2 := congrArg Int32.toInt mb2
      have kx_ : (I_a 48 0).toInt = (I 48 0).toInt + 1 := (congrArg Int32.toInt ((congrFun (pa_5 48 rfl) 0).trans (by simp [upd2] : _ = I 48 0 + Int32.ofInt 1))).trans (yinc (by omega))
      subst eR
      have hlv_ := fun q => @yLv_in I (I 33 (x4 + Int32.ofInt 1).toInt.toNat) q
      obtain ⟨⟨hb_, eb_⟩, h94b, t0, t1, t2, t3, t4, t5⟩ := tie_th1 hV.2.2.2.1.1.1.1.1.1 hV.2.2.1 hFa (by omega) e_b0
      try simp only [eb_, t0, t1, t2, t3, t4, t5] at hm_
      try simp only [eb_, t0, t1, t2, t3, t4, t5] at e_ms1
      try simp only [eb_, t0, t1, t2, t3, t4, t5] at e_ms2
      first | (have hlv_ := hlv_ ⟨by omega, by omega⟩) | skip
      have hrel : yRl I1 := ⟨by omega, by omega, by omega, by omega, by omega, by omega, by omega, by omega⟩
      have hc40_ := hV.2.1.2.1
      have hc48_ := hV.2.1.2.2.1
      have hc59_ := hV.2.1.2.2.2.1
      have S_ := yStp.mk hV.2.2.2.1.1.1.1.1.1 hV.2.2.1 hFa pa_5 a3 pg_ (by first | exact yGm.ft hFa | exact yGm.bothR (yGm.ft hFa) | exact yGm.bothR (yGm.bothR (yGm.ft hFa)) | exact yGm.bothR (yGm.bothR (yGm.bothR (yGm.ft hFa))) | exact yGm.bothR (yGm.bothR (yGm.bothR (yGm.bothR (yGm.ft hFa)))) | exact yGm.bothR (yGm.bothR (yGm.bothR (yGm.bothR (yGm.bothR (yGm.ft hFa)))))) pl_ hrel
      have hx_ : q_x = yAd R1 89 (I 89 2).toInt.toNat := by rw [← em89_2]; exact e_x
      have hday_ : I_a 83 1 = I 34 8 := yext (by omega)
      have ems_ : q_ms = x_ms := yext (e_ms1.trans pa_2.symm)
      have hcb_ := hV.2.2.2.1.1.1.1.1.2.2.2.2.2 (I 33 (x4 + Int32.ofInt 1).toInt.toNat).toInt.toNat (by omega)
      have hr4 : yR6 I1 R1 := ⟨rel5_sellA (by omega) hb_ hV.2.2.2.1.1.1.1.1.2 (by omega)  (by omega) (yinc (by omega)) hx_ pn_ pf_0 pf_1 (pf_2.trans (by rw [eb_, t4])) pf_3 pf_4 (pf_5.trans ems_) (pf_6.trans hday_) pf_7 pf_8 pf_9 (by omega) (by omega) (yPr_bd (by omega) (by omega) (by omega) (by omega)) S_, rel6_sellA (by omega) hb_ (by omega) hV.2.2.2.1.1.1.1.2 (by omega) S_⟩
      have hL7_ : yLk I R R1 := fun l h1 h2 i hi => (pl_ l h1 h2 i (by rw [hFa.hi (show 83 ≤ l by omega)]; exact hi)).trans (yLk.out hV.2.2.1 l h1 h2 i hi)
      have tb_ := hV.2.2.1.g88 (by omega) hb_
      have hm7_ : yFm n tg I I1 := yFm.gm pg_ (by repeat first | exact yFm.ft hFa | exact yFm.rr | refine yFm.addC ?_ | refine yFm.shD ?_ | refine yFm.prD ?_ (by assumption) | refine yFm.lsD ?_ (by assumption) | refine yFm.up ?_ (by first | exact .inl (by decide) | exact .inr (by assumption)))
      have h94_ : 94 ≤ n := hV.1.1
      have h7_ : I1 83 7 = I 83 7 := (p8_.2 7 (by decide)).trans (yext em83_7)
      have hf7 : yF7 I1 R1 := hV.2.2.2.1.1.1.2.st hV.2.2.1 (by omega) h7_ (fun a h1 h2 => (a3.2.2.1 a (by omega)).trans (by rw [pa_6]; repeat first | rw [upd2_row (by omega)] | rw [yAddC_row (by omega)])) hL7_ hm7_
      have hr7 : yR7 I1 R1 := ⟨hr4, hf7⟩
      have hM8_ : yMn I I_a := hV.2.2.2.1.1.2.1.ia hFa
      have hmn_ : yMn I1 I1 := hV.2.2.2.1.1.2.1.p8 hFa (fun a ha => by rw [pa_6]; repeat first | rw [upd2_row (by omega)] | rw [yAddC_row (by omega)]) a3 p8_
      have n9b_ := hV.2.2.1.n9 (l := 88) (by decide) (by decide) (by omega) hb_
      have hvn_ : yVn I1 I1 R1 := hV.2.2.2.1.1.2.2.1.st hV.2.2.1 (by omega) (fun a h1 h2 => (a3.2.2.1 a (by omega)).trans (by rw [pa_6]; repeat first | rw [upd2_row (by omega)] | rw [yAddC_row (by omega)])) hL7_ (yVm.gm pg_ (by repeat first | exact yVm.ft hFa | exact yVm.rr | refine yVm.addC ?_ | refine yVm.shD ?_ | refine yVm.up ?_ (by first | exact .inl (by decide) | exact .inr (by assumption))))
      have hmb_ : yMb (K + 1) I1 := hV.2.2.2.1.1.2.2.2.cg (Nat.le_succ K) (congrFun ((a3.2.2.1 74 (by decide)).trans (by rw [pa_6]; repeat first | rw [upd2_row (by omega)] | rw [yAddC_row (by omega)])) 2) ((a3.2.2.1 76 (by decide)).trans (by rw [pa_6]; repeat first | rw [upd2_row (by omega)] | rw [yAddC_row (by omega)])) (by omega)
      have hr8 : yR8 (K + 1) I1 R1 := ⟨hr7, hmn_, hvn_, hmb_⟩
      have hp9_ : yP9 I1 R1 := hV.2.2.2.1.2.1.kp hV.2.2.1 hFa (yLk.out hV.2.2.1) (by rw [pa_6]; repeat first | rw [upd2_row (by omega)] | rw [yAddC_row (by omega)]) (by omega) a3
      have hpd_ : yPdd I1 := hV.2.2.2.1.2.2.sell (k := (I 48 0).toInt.toNat) (x := (I 33 (x4 + Int32.ofInt 4).toInt.toNat)) (by omega) (by omega) (fun j => (congrFun (a3.2.2.1 54 (by decide)) j).trans (by rw [pa_6]; (repeat rw [upd2_row (by decide)]); rw [upd2_ite]; (repeat rw [upd2_row (by decide)]))) ((a3.2.2.1 55 (by decide)).trans (by rw [pa_6]; repeat first | rw [upd2_row (by omega)] | rw [yAddC_row (by omega)])) (by omega) (hV.2.2.2.1.1.1.1.1.2.2.2.2.1 _ (by omega)).1
      have hr9 : yR9 (K + 1) I1 R1 := ⟨hr8, hp9_, hpd_⟩
      have hV := hV.two pa_0 (fun a ha => funext fun k => hFa a k (.inl ha)) a1 a2 a3 hr9
      have hS := hV.1
      refine y_ret1 ?_
      refine y_istore (ls' := [some _, some _, some _, some _, some _, some _, some _]) rfl rfl rfl ?_
      refine y_goto rfl j_L_law_1673 ?_
      refine y_fgt (ls := [some _, some _, some _, some _, some _, none, none]) ⟨rfl, rfl, rfl, rfl, rfl, trivial⟩ ?_
      exact hN _ _ _ _ _ _ hV (by omega) (by omega)
    · subst eR
      have hlv_ := fun q => @yLv_in I (I 33 (x4 + Int32.ofInt 1).toInt.toNat) q
      obtain ⟨⟨hb_, eb_⟩, h94b, t0, t1, t2, t3, t4, t5⟩ := tie_th1 hV.2.2.2.1.1.1.1.1.1 hV.2.2.1 hFa (by omega) e_b0
      try simp only [eb_, t0, t1, t2, t3, t4, t5] at hm_
      try simp only [eb_, t0, t1, t2, t3, t4, t5] at e_ms1
      try simp only [eb_, t0, t1, t2, t3, t4, t5] at e_ms2
      first | (have hlv_ := hlv_ ⟨by omega, by omega⟩) | skip
      exfalso; omega
  · have hFa : yFt I I_a := pa_1
    have e33 : I_a 33 = I 33 := funext fun k => hFa 33 k (.inl (by decide))
    have hS : ySh n tg R_a := by rw [eR]; exact hS.out
    have hRa : yRI K n tg I_a R_a := (hV.2.2.1.ft hFa).outR (fun a ha => by rw [eR]; exact upd2_row ha)
    refine y_ret1 ?_
    refine y_istore (ls' := [some _, some _, some _, some _, some _, some _, _]) rfl rfl rfl ?_
    refine y_aload_n rfl rfl ?_
    refine y_aload_n rfl rfl ?_
    refine y_iload rfl rfl ?_
    refine y_iconst rfl ?_
    refine y_iadd rfl ?_
    refine y_iaload rfl hV.2.2.2.2.2 (ySh.n hV.1 rfl) (sc_at hx0 hx1 hl (by decide) (by decide)).1 (sc_at hx0 hx1 hl (by decide) (by decide)).2 ?_
    rw [e33]
    refine y_aload_n rfl rfl ?_
    refine y_iload rfl rfl ?_
    refine y_iconst rfl ?_
    refine y_iadd rfl ?_
    refine y_iaload rfl hV.2.2.2.2.2 (ySh.n hV.1 rfl) (sc_at hx0 hx1 hl (by decide) (by decide)).1 (sc_at hx0 hx1 hl (by decide) (by decide)).2 ?_
    rw [e33]
    refine y_aload_n rfl rfl ?_
    refine y_iload rfl rfl ?_
    refine y_iconst rfl ?_
    refine y_iadd rfl ?_
    refine y_iaload rfl hV.2.2.2.2.2 (ySh.n hV.1 rfl) (sc_at hx0 hx1 hl (by decide) (by decide)).1 (sc_at hx0 hx1 hl (by decide) (by decide)).2 ?_
    rw [e33]
    refine y_aload_n rfl rfl ?_
    refine y_iload rfl rfl ?_
    refine y_iconst rfl ?_
    refine y_iadd rfl ?_
    refine y_iaload rfl hV.2.2.2.2.2 (ySh.n hV.1 rfl) (sc_at hx0 hx1 hl (by decide) (by decide)).1 (sc_at hx0 hx1 hl (by decide) (by decide)).2 ?_
    rw [e33]
    refine y_virt rfl rfl rfl rfl rfl (ySh.t hS rfl) (ySh.n hS rfl) ?_
    obtain ⟨r1, r2, r3, r4, r5, r6, r7, r8⟩ := hV.2.2.2.1.1.1.1.1.1.1
    have eM : ∀ l k, 83 ≤ l → (I_a l k).toInt = (I l k).toInt := fun l k hl => congrArg Int32.toInt (hFa l k (.inr (.inl hl)))
    have em83_4 := eM 83 4 (by decide)
    have em83_1 := eM 83 1 (by decide)
    have em83_8 := eM 83 8 (by decide)
    have em88_2 := eM 88 2 (by decide)
    have em91_2 := eM 91 2 (by decide)
    have em92_2 := eM 92 2 (by decide)
    have em89_2 := eM 89 2 (by decide)
    have em90_2 := eM 90 2 (by decide)
    have em83_7 := eM 83 7 (by decide)
    obtain ⟨kb0, kb1, kb2, kb3, kb4, kb5, kb6, -⟩ := hBa
    have kb0 := congrArg Int32.toInt kb0
    have kb1 := congrArg Int32.toInt kb1
    have kb2 := congrArg Int32.toInt kb2
    have kb3 := congrArg Int32.toInt kb3
    have kb4 := congrArg Int32.toInt kb4
    have kb5 := congrArg Int32.toInt kb5
    have kb6 := congrArg Int32.toInt kb6
    refine yC.keep [(18, 4, 83), (18, 1, 83), (18, 8, 83)] rfl rfl hS ?_
    refine h_sell (al := (yBC (I 36 0)).toInt) hS hRa hk6 (by rw [eR]; exact (hV.2.2.2.1.1.1.1.1.1.lf _).ft hV.2.2.1 hFa) (by rw [eR]; exact yHr.ala hV.2.2.2.1.1.1.1.1.1 hV.2.2.1 hFa (q := 0) (by decide)) (fun hm_ v_b n1 tg1 I1 R1 c1 s1 a1 a2 a3 hth pg_ ps_88 ps_89 ps_90 ps_91 ps_92 pl_ prf_ hc_b hs_b => ⟨a1, fun hB_ h93_ => ?_⟩) (fun hm_ v_b n1 tg1 I1 R1 c1 s1 a1 a2 a3 hth pg_ ps_88 ps_89 ps_90 ps_91 ps_92 pl_ prf_ hc_b hs_b => ⟨a1, fun hB_ h93_ => ?_⟩) (fun hm_ v_b n1 tg1 I1 R1 c1 s1 a1 a2 a3 hth pg_ ps_88 ps_89 ps_90 ps_91 ps_92 pl_ prf_ hc_b hs_b => ⟨a1, fun hB_ h93_ => ?_⟩) (fun q_b e_b0 q_ms e_ms1 e_ms2 hm_ v_b n1 tg1 I1 R1 c1 s1 a1 a2 a3 hth pv_ pg_ ps_88 ps_89 ps_90 ps_91 ps_92 pl_ q_x e_x pn_ pf_0 pf_1 pf_2 pf_3 pf_4 pf_5 pf_6 pf_7 pf_8 pf_9 p8_ hc_b hs_b => ⟨a1, fun hB_ h93_ => ?_⟩) (fun q_b e_b0 q_ms e_ms1 e_ms2 hm_ v_b n1 tg1 I1 R1 c1 s1 a1 a2 a3 hth pv_ pg_ ps_88 ps_89 ps_90 ps_91 ps_92 pl_ q_x e_x pn_ pf_0 pf_1 pf_2 pf_3 pf_4 pf_5 pf_6 pf_7 pf_8 pf_9 p8_ hc_b hs_b => ⟨a1, fun hB_ h93_ => ?_⟩)
    · subst eR
      have hlv_ := fun q => @yLv_in I (I 33 (x4 + Int32.ofInt 1).toInt.toNat) q
      first | (have hlv_ := hlv_ ⟨by omega, by omega⟩) | skip
      exfalso; omega
    · subst eR
      have hlv_ := fun q => @yLv_in I (I 33 (x4 + Int32.ofInt 1).toInt.toNat) q
      first | (have hlv_ := hlv_ ⟨by omega, by omega⟩) | skip
      exfalso; omega
    · subst eR
      have hlv_ := fun q => @yLv_in I (I 33 (x4 + Int32.ofInt 1).toInt.toNat) q
      first | (have hlv_ := hlv_ ⟨by omega, by omega⟩) | skip
      exfalso; omega
    · subst eR
      have hlv_ := fun q => @yLv_in I (I 33 (x4 + Int32.ofInt 1).toInt.toNat) q
      obtain ⟨⟨hb_, eb_⟩, h94b, t0, t1, t2, t3, t4, t5⟩ := tie_th1 hV.2.2.2.1.1.1.1.1.1 hV.2.2.1 hFa (by omega) e_b0
      try simp only [eb_, t0, t1, t2, t3, t4, t5] at hm_
      try simp only [eb_, t0, t1, t2, t3, t4, t5] at e_ms1
      try simp only [eb_, t0, t1, t2, t3, t4, t5] at e_ms2
      first | (have hlv_ := hlv_ ⟨by omega, by omega⟩) | skip
      exfalso; omega
    · have kc34_9 := congrArg Int32.toInt (congrFun (a3.2.2.1 34 (by decide)) 9)
      have kc34_8 := congrArg Int32.toInt (congrFun (a3.2.2.1 34 (by decide)) 8)
      have kc38_0 := congrArg Int32.toInt (congrFun (a3.2.2.1 38 (by decide)) 0)
      have kc40_0 := congrArg Int32.toInt (congrFun (a3.2.2.1 40 (by decide)) 0)
      have kc69_0 := congrArg Int32.toInt (congrFun (a3.2.2.1 69 (by decide)) 0)
      have kc77_0 := congrArg Int32.toInt (congrFun (a3.2.2.1 77 (by decide)) 0)
      have kc48_0 := congrArg Int32.toInt (congrFun (a3.2.2.1 48 (by decide)) 0)
      have kc59_0 := congrArg Int32.toInt (congrFun (a3.2.2.1 59 (by decide)) 0)
      have hB_ : yKeep _ _ I1 := hB_
      obtain ⟨mb0, mb1, mb2, -⟩ := hB_
      have mb0 := congrArg Int32.toInt mb0
      have mb1 := congrArg Int32.toInt mb1
      have mb2 := congrArg Int32.toInt mb2
      have kx_ : (I_a 48 0).toInt = (I 48 0).toInt + 1 := (congrArg Int32.toInt ((congrFun (pa_5 48 rfl) 0).trans (by simp [upd2] : _ = I 48 0 + Int32.ofInt 1))).trans (yinc (by omega))
      subst eR
      have hlv_ := fun q => @yLv_in I (I 33 (x4 + Int32.ofInt 1).toInt.toNat) q
      obtain ⟨⟨hb_, eb_⟩, h94b, t0, t1, t2, t3, t4, t5⟩ := tie_th1 hV.2.2.2.1.1.1.1.1.1 hV.2.2.1 hFa (by omega) e_b0
      try simp only [eb_, t0, t1, t2, t3, t4, t5] at hm_
      try simp only [eb_, t0, t1, t2, t3, t4, t5] at e_ms1
      try simp only [eb_, t0, t1, t2, t3, t4, t5] at e_ms2
      first | (have hlv_ := hlv_ ⟨by omega, by omega⟩) | skip
      have hrel : yRl I1 := ⟨by omega, by omega, by omega, by omega, by omega, by omega, by omega, by omega⟩
      have hc40_ := hV.2.1.2.1
      have hc48_ := hV.2.1.2.2.1
      have hc59_ := hV.2.1.2.2.2.1
      have S_ := yStp.mk hV.2.2.2.1.1.1.1.1.1 hV.2.2.1 hFa pa_5 a3 pg_ (by first | exact yGm.ft hFa | exact yGm.bothR (yGm.ft hFa) | exact yGm.bothR (yGm.bothR (yGm.ft hFa)) | exact yGm.bothR (yGm.bothR (yGm.bothR (yGm.ft hFa))) | exact yGm.bothR (yGm.bothR (yGm.bothR (yGm.bothR (yGm.ft hFa)))) | exact yGm.bothR (yGm.bothR (yGm.bothR (yGm.bothR (yGm.bothR (yGm.ft hFa)))))) pl_ hrel
      have hx_ : q_x = yAd R1 89 (I 89 2).toInt.toNat := by rw [← em89_2]; exact e_x
      have hday_ : I_a 83 1 = I 34 8 := yext (by omega)
      have ems_ : q_ms = x_ms := yext (e_ms1.trans pa_2.symm)
      have hcb_ := hV.2.2.2.1.1.1.1.1.2.2.2.2.2 (I 33 (x4 + Int32.ofInt 1).toInt.toNat).toInt.toNat (by omega)
      have hr4 : yR6 I1 R1 := ⟨rel5_sellB hV.2.2.2.1.1.1.1.1.2 (by omega)  (by omega) (yinc (by omega)) hx_ pn_ pf_0 pf_1 (pf_2.trans (by rw [eb_, t4])) pf_3 pf_4 (pf_5.trans ems_) (pf_6.trans hday_) pf_7 pf_8 pf_9 (by omega) (by omega) (yPr_bd (by omega) (by omega) (by omega) (by omega)) S_, rel6_sellB (by omega) hV.2.2.2.1.1.1.1.2 (by omega) S_⟩
      have hL7_ : yLk I R R1 := fun l h1 h2 i hi => (pl_ l h1 h2 i (by rw [hFa.hi (show 83 ≤ l by omega)]; exact hi)).trans (yLk.out hV.2.2.1 l h1 h2 i hi)
      have tb_ := hV.2.2.1.g88 (by omega) hb_
      have hm7_ : yFm n tg I I1 := yFm.gm pg_ (by repeat first | exact yFm.ft hFa | exact yFm.rr | refine yFm.addC ?_ | refine yFm.shD ?_ | refine yFm.prD ?_ (by assumption) | refine yFm.lsD ?_ (by assumption) | refine yFm.up ?_ (by first | exact .inl (by decide) | exact .inr (by assumption)))
      have h94_ : 94 ≤ n := hV.1.1
      have h7_ : I1 83 7 = I 83 7 := (p8_.2 7 (by decide)).trans (yext em83_7)
      have hf7 : yF7 I1 R1 := hV.2.2.2.1.1.1.2.st hV.2.2.1 (by omega) h7_ (fun a h1 h2 => (a3.2.2.1 a (by omega)).trans (by rw [pa_6]; repeat first | rw [upd2_row (by omega)] | rw [yAddC_row (by omega)])) hL7_ hm7_
      have hr7 : yR7 I1 R1 := ⟨hr4, hf7⟩
      have hM8_ : yMn I I_a := hV.2.2.2.1.1.2.1.ia hFa
      have hmn_ : yMn I1 I1 := hV.2.2.2.1.1.2.1.p8 hFa (fun a ha => by rw [pa_6]; repeat first | rw [upd2_row (by omega)] | rw [yAddC_row (by omega)]) a3 p8_
      have n9b_ := hV.2.2.1.n9 (l := 88) (by decide) (by decide) (by omega) hb_
      have hvn_ : yVn I1 I1 R1 := hV.2.2.2.1.1.2.2.1.st hV.2.2.1 (by omega) (fun a h1 h2 => (a3.2.2.1 a (by omega)).trans (by rw [pa_6]; repeat first | rw [upd2_row (by omega)] | rw [yAddC_row (by omega)])) hL7_ (yVm.gm pg_ (by repeat first | exact yVm.ft hFa | exact yVm.rr | refine yVm.addC ?_ | refine yVm.shD ?_ | refine yVm.up ?_ (by first | exact .inl (by decide) | exact .inr (by assumption))))
      have hmb_ : yMb (K + 1) I1 := hV.2.2.2.1.1.2.2.2.cg (Nat.le_succ K) (congrFun ((a3.2.2.1 74 (by decide)).trans (by rw [pa_6]; repeat first | rw [upd2_row (by omega)] | rw [yAddC_row (by omega)])) 2) ((a3.2.2.1 76 (by decide)).trans (by rw [pa_6]; repeat first | rw [upd2_row (by omega)] | rw [yAddC_row (by omega)])) (by omega)
      have hr8 : yR8 (K + 1) I1 R1 := ⟨hr7, hmn_, hvn_, hmb_⟩
      have hp9_ : yP9 I1 R1 := hV.2.2.2.1.2.1.kp hV.2.2.1 hFa (yLk.out hV.2.2.1) (by rw [pa_6]; repeat first | rw [upd2_row (by omega)] | rw [yAddC_row (by omega)]) (by omega) a3
      have hpd_ : yPdd I1 := hV.2.2.2.1.2.2.sell (k := (I 48 0).toInt.toNat) (x := (I 33 (x4 + Int32.ofInt 4).toInt.toNat)) (by omega) (by omega) (fun j => (congrFun (a3.2.2.1 54 (by decide)) j).trans (by rw [pa_6]; (repeat rw [upd2_row (by decide)]); rw [upd2_ite]; (repeat rw [upd2_row (by decide)]))) ((a3.2.2.1 55 (by decide)).trans (by rw [pa_6]; repeat first | rw [upd2_row (by omega)] | rw [yAddC_row (by omega)])) (by omega) (hV.2.2.2.1.1.1.1.1.2.2.2.2.1 _ (by omega)).1
      have hr9 : yR9 (K + 1) I1 R1 := ⟨hr8, hp9_, hpd_⟩
      have hV := hV.two pa_0 (fun a ha => funext fun k => hFa a k (.inl ha)) a1 a2 a3 hr9
      have hS := hV.1
      refine y_ret1 ?_
      refine y_istore (ls' := [some _, some _, some _, some _, some _, some _, some _]) rfl rfl rfl ?_
      refine y_goto rfl j_L_law_1673 ?_
      refine y_fgt (ls := [some _, some _, some _, some _, some _, none, none]) ⟨rfl, rfl, rfl, rfl, rfl, trivial⟩ ?_
      exact hN _ _ _ _ _ _ hV (by omega) (by omega)
theorem lc_7 (hV : yInv K n tg I R ln) (hk6 : K < 600) {x4 : Int32} (hx0 : 0 ≤ x4.toInt) (hx1 : x4.toInt + 7 ≤ (ln : Int)) (hl : ln ≤ 3584) (hN : ∀ n1 tg1 I1 R1 c1 s1, yInv (K + 1) n1 tg1 I1 R1 ln → c1 ≤ c + 790 → s1 ≤ s + 15250 → yW xm_L_law xc_L_law_1673 [some (.ref 33), some (.ref 34), some (.ref 83), some (.ref 93), some (.int x4), none, none] [] (n1, tg1, I1, R1) c1 s1 Q) : yW xm_L_law xc_L_law_484 [some (.ref 33), some (.ref 34), some (.ref 83), some (.ref 93), some (.int x4), none, none] [] (n, tg, I, R) c s Q := by
  have hS := hV.1
  refine y_aload_n rfl rfl ?_
  refine y_aload_n rfl rfl ?_
  refine y_iload rfl rfl ?_
  refine y_iconst rfl ?_
  refine y_iadd rfl ?_
  refine y_iaload rfl hV.2.2.2.2.2 (ySh.n hV.1 rfl) (sc_at hx0 hx1 hl (by decide) (by decide)).1 (sc_at hx0 hx1 hl (by decide) (by decide)).2 ?_
  refine y_aload_n rfl rfl ?_
  refine y_static rfl rfl rfl rfl rfl ?_
  refine v_pay hS hV.2.1 (pay_prem hV.2.2.2.1.1.1.1.1.2) (fun hc_ => ?_) (fun hc_ => ?_) (fun hc_ v_a I_a x_pt x_fe x_re pa_0 pa_1 pa_2 pa_3 pa_4 pa_5 pa_6 pa_7 hBa R_a eR => ?_)
  · have e33 : I 33 = I 33 := rfl
    refine y_ret1 ?_
    refine y_istore (ls' := [some _, some _, some _, some _, some _, some _, _]) rfl rfl rfl ?_
    refine y_aload_n rfl rfl ?_
    refine y_aload_n rfl rfl ?_
    refine y_iload rfl rfl ?_
    refine y_iconst rfl ?_
    refine y_iadd rfl ?_
    refine y_iaload rfl hV.2.2.2.2.2 (ySh.n hV.1 rfl) (sc_at hx0 hx1 hl (by decide) (by decide)).1 (sc_at hx0 hx1 hl (by decide) (by decide)).2 ?_
    rw [e33]
    refine y_virt rfl rfl rfl rfl rfl (ySh.t hS rfl) (ySh.n hS rfl) ?_
    obtain ⟨r1, r2, r3, r4, r5, r6, r7, r8⟩ := hV.2.2.2.1.1.1.1.1.1.1
    refine yC.keep3 [(18, 4, 83), (18, 1, 83), (18, 8, 83), (3, 2, 88), (3, 2, 91), (3, 2, 92), (3, 2, 89), (3, 2, 90)] [] rfl rfl rfl hS hV.2.2.1 ?_
    refine h_pay (al1 := (yBC (I 36 1)).toInt) (al2 := (yBC (I 36 2)).toInt) hS hV.2.2.1 hk6 (paym_prem hV.2.2.2.1.1.1.1.1 hV.2.2.1) (hV.2.2.2.1.1.1.1.1.1.2.1.al hV.2.2.1 (q := 1) (by decide)) (hV.2.2.2.1.1.1.1.1.1.2.1.al hV.2.2.1 (q := 2) (by decide)) (fun hm_ v_b n1 tg1 I1 R1 c1 s1 a1 a2 a3 hth pg_ prf_ hc_b hs_b => ⟨a1, a3.2.1, fun hB_ h93_ hO_ hL_ => ?_⟩) (fun q_b e_b0 hm_ v_b n1 tg1 I1 R1 c1 s1 a1 a2 a3 hth pg_ prf_ hc_b hs_b => ⟨a1, a3.2.1, fun hB_ h93_ hO_ hL_ => ?_⟩) (fun q_b e_b0 q_pt e_pt1 q_fe e_fe2 q_re e_re3 hm_ v_b n1 tg1 I1 R1 c1 s1 a1 a2 a3 hth pv_ pg_ px_ hc_b hs_b => ⟨a1, a3.2.1, fun hB_ h93_ hO_ hL_ => ?_⟩)
    · have kc34_9 := congrArg Int32.toInt (congrFun (a3.2.2.1 34 (by decide)) 9)
      have kc34_8 := congrArg Int32.toInt (congrFun (a3.2.2.1 34 (by decide)) 8)
      have kc38_0 := congrArg Int32.toInt (congrFun (a3.2.2.1 38 (by decide)) 0)
      have kc40_0 := congrArg Int32.toInt (congrFun (a3.2.2.1 40 (by decide)) 0)
      have kc69_0 := congrArg Int32.toInt (congrFun (a3.2.2.1 69 (by decide)) 0)
      have kc77_0 := congrArg Int32.toInt (congrFun (a3.2.2.1 77 (by decide)) 0)
      have kc48_0 := congrArg Int32.toInt (congrFun (a3.2.2.1 48 (by decide)) 0)
      have kc59_0 := congrArg Int32.toInt (congrFun (a3.2.2.1 59 (by decide)) 0)
      have hB_ : yKeep _ _ I1 := hB_
      obtain ⟨mb0, mb1, mb2, mb3, mb4, mb5, mb6, mb7, -⟩ := hB_
      have mb0 := congrArg Int32.toInt mb0
      have mb1 := congrArg Int32.toInt mb1
      have mb2 := congrArg Int32.toInt mb2
      have mb3 := congrArg Int32.toInt mb3
      have mb4 := congrArg Int32.toInt mb4
      have mb5 := congrArg Int32.toInt mb5
      have mb6 := congrArg Int32.toInt mb6
      have mb7 := congrArg Int32.toInt mb7
      have hrel : yRl I1 := ⟨by omega, by omega, by omega, by omega, by omega, by omega, by omega, by omega⟩
      have hr4 : yR6 I1 R1 := yR6.two hV.2.2.2.1.1.1.1 yFu.rf hV.2.2.1 hV.2.2.2.1.1.1.1.1.1.2.1 yLk.rf a3 (yR4.ob hV.2.2.1 pg_) (yS5.ob hV.2.2.1 pg_) (yL6.ob hV.2.2.1 pg_) hL_ hrel (by omega) (by omega) (by omega) (by omega)
      have hf7 : yF7 I1 R1 := hV.2.2.2.1.1.1.2.rf hV.2.2.1 prf_
      have hr7 : yR7 I1 R1 := ⟨hr4, hf7⟩
      have hr9 : yR9 (K + 1) I1 R1 := hV.2.2.2.1.rf hr7 hV.2.2.1 prf_ (Nat.le_succ K)
      have hV := hV.two hV.2.1 (fun _ _ => rfl) a1 a2 a3 hr9
      have hS := hV.1
      refine y_ret1 ?_
      refine y_istore (ls' := [some _, some _, some _, some _, some _, some _, some _]) rfl rfl rfl ?_
      refine y_goto rfl j_L_law_1673 ?_
      refine y_fgt (ls := [some _, some _, some _, some _, some _, none, none]) ⟨rfl, rfl, rfl, rfl, rfl, trivial⟩ ?_
      exact hN _ _ _ _ _ _ hV (by omega) (by omega)
    · obtain ⟨h94b, hs_⟩ := tie_sa0 hV.2.2.2.1.1.1.1.1 hV.2.2.1 (by omega) e_b0
      have s0 : I q_b 0 = I 49 (I 33 (x4 + Int32.ofInt 1).toInt.toNat).toInt.toNat := hs_ 0 (by decide)
      have s1 : I q_b 1 = I 50 (I 33 (x4 + Int32.ofInt 1).toInt.toNat).toInt.toNat := hs_ 1 (by decide)
      have s2 : I q_b 2 = I 52 (I 33 (x4 + Int32.ofInt 1).toInt.toNat).toInt.toNat := hs_ 2 (by decide)
      have s3 : I q_b 3 = I 51 (I 33 (x4 + Int32.ofInt 1).toInt.toNat).toInt.toNat := hs_ 3 (by decide)
      have s4 : I q_b 4 = I 54 (I 33 (x4 + Int32.ofInt 1).toInt.toNat).toInt.toNat := hs_ 4 (by decide)
      have s5 : I q_b 5 = I 53 (I 33 (x4 + Int32.ofInt 1).toInt.toNat).toInt.toNat := hs_ 5 (by decide)
      have s6 : I q_b 6 = I 56 (I 33 (x4 + Int32.ofInt 1).toInt.toNat).toInt.toNat := hs_ 6 (by decide)
      have s7 : I q_b 7 = I 55 (I 33 (x4 + Int32.ofInt 1).toInt.toNat).toInt.toNat := hs_ 7 (by decide)
      have s8 : I q_b 8 = I 57 (I 33 (x4 + Int32.ofInt 1).toInt.toNat).toInt.toNat := hs_ 8 (by decide)
      have s9 : I q_b 9 = I 58 (I 33 (x4 + Int32.ofInt 1).toInt.toNat).toInt.toNat := hs_ 9 (by decide)
      try simp only [s0, s1, s2, s3, s4, s5, s6, s7, s8, s9] at hm_
      exfalso; omega
    · obtain ⟨h94b, hs_⟩ := tie_sa0 hV.2.2.2.1.1.1.1.1 hV.2.2.1 (by omega) e_b0
      have s0 : I q_b 0 = I 49 (I 33 (x4 + Int32.ofInt 1).toInt.toNat).toInt.toNat := hs_ 0 (by decide)
      have s1 : I q_b 1 = I 50 (I 33 (x4 + Int32.ofInt 1).toInt.toNat).toInt.toNat := hs_ 1 (by decide)
      have s2 : I q_b 2 = I 52 (I 33 (x4 + Int32.ofInt 1).toInt.toNat).toInt.toNat := hs_ 2 (by decide)
      have s3 : I q_b 3 = I 51 (I 33 (x4 + Int32.ofInt 1).toInt.toNat).toInt.toNat := hs_ 3 (by decide)
      have s4 : I q_b 4 = I 54 (I 33 (x4 + Int32.ofInt 1).toInt.toNat).toInt.toNat := hs_ 4 (by decide)
      have s5 : I q_b 5 = I 53 (I 33 (x4 + Int32.ofInt 1).toInt.toNat).toInt.toNat := hs_ 5 (by decide)
      have s6 : I q_b 6 = I 56 (I 33 (x4 + Int32.ofInt 1).toInt.toNat).toInt.toNat := hs_ 6 (by decide)
      have s7 : I q_b 7 = I 55 (I 33 (x4 + Int32.ofInt 1).toInt.toNat).toInt.toNat := hs_ 7 (by decide)
      have s8 : I q_b 8 = I 57 (I 33 (x4 + Int32.ofInt 1).toInt.toNat).toInt.toNat := hs_ 8 (by decide)
      have s9 : I q_b 9 = I 58 (I 33 (x4 + Int32.ofInt 1).toInt.toNat).toInt.toNat := hs_ 9 (by decide)
      try simp only [s0, s1, s2, s3, s4, s5, s6, s7, s8, s9] at hm_
      try simp only [s0, s1, s2, s3, s4, s5, s6, s7, s8, s9] at e_pt1
      try simp only [s0, s1, s2, s3, s4, s5, s6, s7, s8, s9] at e_fe2
      try simp only [s0, s1, s2, s3, s4, s5, s6, s7, s8, s9] at e_re3
      exfalso; omega
  · have e33 : I 33 = I 33 := rfl
    refine y_ret1 ?_
    refine y_istore (ls' := [some _, some _, some _, some _, some _, some _, _]) rfl rfl rfl ?_
    refine y_aload_n rfl rfl ?_
    refine y_aload_n rfl rfl ?_
    refine y_iload rfl rfl ?_
    refine y_iconst rfl ?_
    refine y_iadd rfl ?_
    refine y_iaload rfl hV.2.2.2.2.2 (ySh.n hV.1 rfl) (sc_at hx0 hx1 hl (by decide) (by decide)).1 (sc_at hx0 hx1 hl (by decide) (by decide)).2 ?_
    rw [e33]
    refine y_virt rfl rfl rfl rfl rfl (ySh.t hS rfl) (ySh.n hS rfl) ?_
    obtain ⟨r1, r2, r3, r4, r5, r6, r7, r8⟩ := hV.2.2.2.1.1.1.1.1.1.1
    refine yC.keep3 [(18, 4, 83), (18, 1, 83), (18, 8, 83), (3, 2, 88), (3, 2, 91), (3, 2, 92), (3, 2, 89), (3, 2, 90)] [] rfl rfl rfl hS hV.2.2.1 ?_
    refine h_pay (al1 := (yBC (I 36 1)).toInt) (al2 := (yBC (I 36 2)).toInt) hS hV.2.2.1 hk6 (paym_prem hV.2.2.2.1.1.1.1.1 hV.2.2.1) (hV.2.2.2.1.1.1.1.1.1.2.1.al hV.2.2.1 (q := 1) (by decide)) (hV.2.2.2.1.1.1.1.1.1.2.1.al hV.2.2.1 (q := 2) (by decide)) (fun hm_ v_b n1 tg1 I1 R1 c1 s1 a1 a2 a3 hth pg_ prf_ hc_b hs_b => ⟨a1, a3.2.1, fun hB_ h93_ hO_ hL_ => ?_⟩) (fun q_b e_b0 hm_ v_b n1 tg1 I1 R1 c1 s1 a1 a2 a3 hth pg_ prf_ hc_b hs_b => ⟨a1, a3.2.1, fun hB_ h93_ hO_ hL_ => ?_⟩) (fun q_b e_b0 q_pt e_pt1 q_fe e_fe2 q_re e_re3 hm_ v_b n1 tg1 I1 R1 c1 s1 a1 a2 a3 hth pv_ pg_ px_ hc_b hs_b => ⟨a1, a3.2.1, fun hB_ h93_ hO_ hL_ => ?_⟩)
    · exfalso; omega
    · have kc34_9 := congrArg Int32.toInt (congrFun (a3.2.2.1 34 (by decide)) 9)
      have kc34_8 := congrArg Int32.toInt (congrFun (a3.2.2.1 34 (by decide)) 8)
      have kc38_0 := congrArg Int32.toInt (congrFun (a3.2.2.1 38 (by decide)) 0)
      have kc40_0 := congrArg Int32.toInt (congrFun (a3.2.2.1 40 (by decide)) 0)
      have kc69_0 := congrArg Int32.toInt (congrFun (a3.2.2.1 69 (by decide)) 0)
      have kc77_0 := congrArg Int32.toInt (congrFun (a3.2.2.1 77 (by decide)) 0)
      have kc48_0 := congrArg Int32.toInt (congrFun (a3.2.2.1 48 (by decide)) 0)
      have kc59_0 := congrArg Int32.toInt (congrFun (a3.2.2.1 59 (by decide)) 0)
      have hB_ : yKeep _ _ I1 := hB_
      obtain ⟨mb0, mb1, mb2, mb3, mb4, mb5, mb6, mb7, -⟩ := hB_
      have mb0 := congrArg Int32.toInt mb0
      have mb1 := congrArg Int32.toInt mb1
      have mb2 := congrArg Int32.toInt mb2
      have mb3 := congrArg Int32.toInt mb3
      have mb4 := congrArg Int32.toInt mb4
      have mb5 := congrArg Int32.toInt mb5
      have mb6 := congrArg Int32.toInt mb6
      have mb7 := congrArg Int32.toInt mb7
      obtain ⟨h94b, hs_⟩ := tie_sa0 hV.2.2.2.1.1.1.1.1 hV.2.2.1 (by omega) e_b0
      have s0 : I q_b 0 = I 49 (I 33 (x4 + Int32.ofInt 1).toInt.toNat).toInt.toNat := hs_ 0 (by decide)
      have s1 : I q_b 1 = I 50 (I 33 (x4 + Int32.ofInt 1).toInt.toNat).toInt.toNat := hs_ 1 (by decide)
      have s2 : I q_b 2 = I 52 (I 33 (x4 + Int32.ofInt 1).toInt.toNat).toInt.toNat := hs_ 2 (by decide)
      have s3 : I q_b 3 = I 51 (I 33 (x4 + Int32.ofInt 1).toInt.toNat).toInt.toNat := hs_ 3 (by decide)
      have s4 : I q_b 4 = I 54 (I 33 (x4 + Int32.ofInt 1).toInt.toNat).toInt.toNat := hs_ 4 (by decide)
      have s5 : I q_b 5 = I 53 (I 33 (x4 + Int32.ofInt 1).toInt.toNat).toInt.toNat := hs_ 5 (by decide)
      have s6 : I q_b 6 = I 56 (I 33 (x4 + Int32.ofInt 1).toInt.toNat).toInt.toNat := hs_ 6 (by decide)
      have s7 : I q_b 7 = I 55 (I 33 (x4 + Int32.ofInt 1).toInt.toNat).toInt.toNat := hs_ 7 (by decide)
      have s8 : I q_b 8 = I 57 (I 33 (x4 + Int32.ofInt 1).toInt.toNat).toInt.toNat := hs_ 8 (by decide)
      have s9 : I q_b 9 = I 58 (I 33 (x4 + Int32.ofInt 1).toInt.toNat).toInt.toNat := hs_ 9 (by decide)
      try simp only [s0, s1, s2, s3, s4, s5, s6, s7, s8, s9] at hm_
      have hrel : yRl I1 := ⟨by omega, by omega, by omega, by omega, by omega, by omega, by omega, by omega⟩
      have hr4 : yR6 I1 R1 := yR6.two hV.2.2.2.1.1.1.1 yFu.rf hV.2.2.1 hV.2.2.2.1.1.1.1.1.1.2.1 yLk.rf a3 (yR4.ob hV.2.2.1 pg_) (yS5.ob hV.2.2.1 pg_) (yL6.ob hV.2.2.1 pg_) hL_ hrel (by omega) (by omega) (by omega) (by omega)
      have hf7 : yF7 I1 R1 := hV.2.2.2.1.1.1.2.rf hV.2.2.1 prf_
      have hr7 : yR7 I1 R1 := ⟨hr4, hf7⟩
      have hr9 : yR9 (K + 1) I1 R1 := hV.2.2.2.1.rf hr7 hV.2.2.1 prf_ (Nat.le_succ K)
      have hV := hV.two hV.2.1 (fun _ _ => rfl) a1 a2 a3 hr9
      have hS := hV.1
      refine y_ret1 ?_
      refine y_istore (ls' := [some _, some _, some _, some _, some _, some _, some _]) rfl rfl rfl ?_
      refine y_goto rfl j_L_law_1673 ?_
      refine y_fgt (ls := [some _, some _, some _, some _, some _, none, none]) ⟨rfl, rfl, rfl, rfl, rfl, trivial⟩ ?_
      exact hN _ _ _ _ _ _ hV (by omega) (by omega)
    · obtain ⟨h94b, hs_⟩ := tie_sa0 hV.2.2.2.1.1.1.1.1 hV.2.2.1 (by omega) e_b0
      have s0 : I q_b 0 = I 49 (I 33 (x4 + Int32.ofInt 1).toInt.toNat).toInt.toNat := hs_ 0 (by decide)
      have s1 : I q_b 1 = I 50 (I 33 (x4 + Int32.ofInt 1).toInt.toNat).toInt.toNat := hs_ 1 (by decide)
      have s2 : I q_b 2 = I 52 (I 33 (x4 + Int32.ofInt 1).toInt.toNat).toInt.toNat := hs_ 2 (by decide)
      have s3 : I q_b 3 = I 51 (I 33 (x4 + Int32.ofInt 1).toInt.toNat).toInt.toNat := hs_ 3 (by decide)
      have s4 : I q_b 4 = I 54 (I 33 (x4 + Int32.ofInt 1).toInt.toNat).toInt.toNat := hs_ 4 (by decide)
      have s5 : I q_b 5 = I 53 (I 33 (x4 + Int32.ofInt 1).toInt.toNat).toInt.toNat := hs_ 5 (by decide)
      have s6 : I q_b 6 = I 56 (I 33 (x4 + Int32.ofInt 1).toInt.toNat).toInt.toNat := hs_ 6 (by decide)
      have s7 : I q_b 7 = I 55 (I 33 (x4 + Int32.ofInt 1).toInt.toNat).toInt.toNat := hs_ 7 (by decide)
      have s8 : I q_b 8 = I 57 (I 33 (x4 + Int32.ofInt 1).toInt.toNat).toInt.toNat := hs_ 8 (by decide)
      have s9 : I q_b 9 = I 58 (I 33 (x4 + Int32.ofInt 1).toInt.toNat).toInt.toNat := hs_ 9 (by decide)
      try simp only [s0, s1, s2, s3, s4, s5, s6, s7, s8, s9] at hm_
      try simp only [s0, s1, s2, s3, s4, s5, s6, s7, s8, s9] at e_pt1
      try simp only [s0, s1, s2, s3, s4, s5, s6, s7, s8, s9] at e_fe2
      try simp only [s0, s1, s2, s3, s4, s5, s6, s7, s8, s9] at e_re3
      exfalso; omega
  · have hFa : yFt I I_a := pa_1
    have e33 : I_a 33 = I 33 := funext fun k => hFa 33 k (.inl (by decide))
    have hS : ySh n tg R_a := by rw [eR]; exact hS.out
    have hRa : yRI K n tg I_a R_a := (hV.2.2.1.ft hFa).outR (fun a ha => by rw [eR]; exact upd2_row ha)
    refine y_ret1 ?_
    refine y_istore (ls' := [some _, some _, some _, some _, some _, some _, _]) rfl rfl rfl ?_
    refine y_aload_n rfl rfl ?_
    refine y_aload_n rfl rfl ?_
    refine y_iload rfl rfl ?_
    refine y_iconst rfl ?_
    refine y_iadd rfl ?_
    refine y_iaload rfl hV.2.2.2.2.2 (ySh.n hV.1 rfl) (sc_at hx0 hx1 hl (by decide) (by decide)).1 (sc_at hx0 hx1 hl (by decide) (by decide)).2 ?_
    rw [e33]
    refine y_virt rfl rfl rfl rfl rfl (ySh.t hS rfl) (ySh.n hS rfl) ?_
    obtain ⟨r1, r2, r3, r4, r5, r6, r7, r8⟩ := hV.2.2.2.1.1.1.1.1.1.1
    have eM : ∀ l k, 83 ≤ l → (I_a l k).toInt = (I l k).toInt := fun l k hl => congrArg Int32.toInt (hFa l k (.inr (.inl hl)))
    have em83_4 := eM 83 4 (by decide)
    have em83_1 := eM 83 1 (by decide)
    have em83_8 := eM 83 8 (by decide)
    have em88_2 := eM 88 2 (by decide)
    have em91_2 := eM 91 2 (by decide)
    have em92_2 := eM 92 2 (by decide)
    have em89_2 := eM 89 2 (by decide)
    have em90_2 := eM 90 2 (by decide)
    have em83_7 := eM 83 7 (by decide)
    obtain ⟨kb0, kb1, kb2, kb3, kb4, kb5, kb6, kb7, -⟩ := hBa
    have kb0 := congrArg Int32.toInt kb0
    have kb1 := congrArg Int32.toInt kb1
    have kb2 := congrArg Int32.toInt kb2
    have kb3 := congrArg Int32.toInt kb3
    have kb4 := congrArg Int32.toInt kb4
    have kb5 := congrArg Int32.toInt kb5
    have kb6 := congrArg Int32.toInt kb6
    have kb7 := congrArg Int32.toInt kb7
    refine yC.keep3 [(18, 4, 83), (18, 1, 83), (18, 8, 83), (3, 2, 88), (3, 2, 91), (3, 2, 92), (3, 2, 89), (3, 2, 90)] [] rfl rfl rfl hS hRa ?_
    refine h_pay (al1 := (yBC (I 36 1)).toInt) (al2 := (yBC (I 36 2)).toInt) hS hRa hk6 (by rw [eR]; exact paym_prem1 hV.2.2.2.1.1.1.1.1 hV.2.2.1 hFa) (by rw [eR]; exact yHr.ala hV.2.2.2.1.1.1.1.1.1 hV.2.2.1 hFa (q := 1) (by decide)) (by rw [eR]; exact yHr.ala hV.2.2.2.1.1.1.1.1.1 hV.2.2.1 hFa (q := 2) (by decide)) (fun hm_ v_b n1 tg1 I1 R1 c1 s1 a1 a2 a3 hth pg_ prf_ hc_b hs_b => ⟨a1, a3.2.1, fun hB_ h93_ hO_ hL_ => ?_⟩) (fun q_b e_b0 hm_ v_b n1 tg1 I1 R1 c1 s1 a1 a2 a3 hth pg_ prf_ hc_b hs_b => ⟨a1, a3.2.1, fun hB_ h93_ hO_ hL_ => ?_⟩) (fun q_b e_b0 q_pt e_pt1 q_fe e_fe2 q_re e_re3 hm_ v_b n1 tg1 I1 R1 c1 s1 a1 a2 a3 hth pv_ pg_ px_ hc_b hs_b => ⟨a1, a3.2.1, fun hB_ h93_ hO_ hL_ => ?_⟩)
    · subst eR
      exfalso; omega
    · subst eR
      obtain ⟨⟨hb_, eb_⟩, h94b, hs_⟩ := tie_sa1 hV.2.2.2.1.1.1.1.1 hV.2.2.1 hFa (by omega) e_b0
      have s0 : I q_b 0 = I 49 (I 33 (x4 + Int32.ofInt 1).toInt.toNat).toInt.toNat := hs_ 0 (by decide)
      have s1 : I q_b 1 = I 50 (I 33 (x4 + Int32.ofInt 1).toInt.toNat).toInt.toNat := hs_ 1 (by decide)
      have s2 : I q_b 2 = I 52 (I 33 (x4 + Int32.ofInt 1).toInt.toNat).toInt.toNat := hs_ 2 (by decide)
      have s3 : I q_b 3 = I 51 (I 33 (x4 + Int32.ofInt 1).toInt.toNat).toInt.toNat := hs_ 3 (by decide)
      have s4 : I q_b 4 = I 54 (I 33 (x4 + Int32.ofInt 1).toInt.toNat).toInt.toNat := hs_ 4 (by decide)
      have s5 : I q_b 5 = I 53 (I 33 (x4 + Int32.ofInt 1).toInt.toNat).toInt.toNat := hs_ 5 (by decide)
      have s6 : I q_b 6 = I 56 (I 33 (x4 + Int32.ofInt 1).toInt.toNat).toInt.toNat := hs_ 6 (by decide)
      have s7 : I q_b 7 = I 55 (I 33 (x4 + Int32.ofInt 1).toInt.toNat).toInt.toNat := hs_ 7 (by decide)
      have s8 : I q_b 8 = I 57 (I 33 (x4 + Int32.ofInt 1).toInt.toNat).toInt.toNat := hs_ 8 (by decide)
      have s9 : I q_b 9 = I 58 (I 33 (x4 + Int32.ofInt 1).toInt.toNat).toInt.toNat := hs_ 9 (by decide)
      try simp only [eb_, s0, s1, s2, s3, s4, s5, s6, s7, s8, s9] at hm_
      exfalso; omega
    · have kc34_9 := congrArg Int32.toInt (congrFun (a3.2.2.1 34 (by decide)) 9)
      have kc34_8 := congrArg Int32.toInt (congrFun (a3.2.2.1 34 (by decide)) 8)
      have kc38_0 := congrArg Int32.toInt (congrFun (a3.2.2.1 38 (by decide)) 0)
      have kc40_0 := congrArg Int32.toInt (congrFun (a3.2.2.1 40 (by decide)) 0)
      have kc69_0 := congrArg Int32.toInt (congrFun (a3.2.2.1 69 (by decide)) 0)
      have kc77_0 := congrArg Int32.toInt (congrFun (a3.2.2.1 77 (by decide)) 0)
      have kc48_0 := congrArg Int32.toInt (congrFun (a3.2.2.1 48 (by decide)) 0)
      have kc59_0 := congrArg Int32.toInt (congrFun (a3.2.2.1 59 (by decide)) 0)
      have hB_ : yKeep _ _ I1 := hB_
      obtain ⟨mb0, mb1, mb2, mb3, mb4, mb5, mb6, mb7, -⟩ := hB_
      have mb0 := congrArg Int32.toInt mb0
      have mb1 := congrArg Int32.toInt mb1
      have mb2 := congrArg Int32.toInt mb2
      have mb3 := congrArg Int32.toInt mb3
      have mb4 := congrArg Int32.toInt mb4
      have mb5 := congrArg Int32.toInt mb5
      have mb6 := congrArg Int32.toInt mb6
      have mb7 := congrArg Int32.toInt mb7
      subst eR
      obtain ⟨⟨hb_, eb_⟩, h94b, hs_⟩ := tie_sa1 hV.2.2.2.1.1.1.1.1 hV.2.2.1 hFa (by omega) e_b0
      have s0 : I q_b 0 = I 49 (I 33 (x4 + Int32.ofInt 1).toInt.toNat).toInt.toNat := hs_ 0 (by decide)
      have s1 : I q_b 1 = I 50 (I 33 (x4 + Int32.ofInt 1).toInt.toNat).toInt.toNat := hs_ 1 (by decide)
      have s2 : I q_b 2 = I 52 (I 33 (x4 + Int32.ofInt 1).toInt.toNat).toInt.toNat := hs_ 2 (by decide)
      have s3 : I q_b 3 = I 51 (I 33 (x4 + Int32.ofInt 1).toInt.toNat).toInt.toNat := hs_ 3 (by decide)
      have s4 : I q_b 4 = I 54 (I 33 (x4 + Int32.ofInt 1).toInt.toNat).toInt.toNat := hs_ 4 (by decide)
      have s5 : I q_b 5 = I 53 (I 33 (x4 + Int32.ofInt 1).toInt.toNat).toInt.toNat := hs_ 5 (by decide)
      have s6 : I q_b 6 = I 56 (I 33 (x4 + Int32.ofInt 1).toInt.toNat).toInt.toNat := hs_ 6 (by decide)
      have s7 : I q_b 7 = I 55 (I 33 (x4 + Int32.ofInt 1).toInt.toNat).toInt.toNat := hs_ 7 (by decide)
      have s8 : I q_b 8 = I 57 (I 33 (x4 + Int32.ofInt 1).toInt.toNat).toInt.toNat := hs_ 8 (by decide)
      have s9 : I q_b 9 = I 58 (I 33 (x4 + Int32.ofInt 1).toInt.toNat).toInt.toNat := hs_ 9 (by decide)
      try simp only [eb_, s0, s1, s2, s3, s4, s5, s6, s7, s8, s9] at hm_
      try simp only [eb_, s0, s1, s2, s3, s4, s5, s6, s7, s8, s9] at e_pt1
      try simp only [eb_, s0, s1, s2, s3, s4, s5, s6, s7, s8, s9] at e_fe2
      try simp only [eb_, s0, s1, s2, s3, s4, s5, s6, s7, s8, s9] at e_re3
      have hrel : yRl I1 := ⟨by omega, by omega, by omega, by omega, by omega, by omega, by omega, by omega⟩
      have hday_ : I_a 83 1 = I 34 8 := yext (by omega)
      have ept_ : q_pt = x_pt := e_pt1.trans pa_2.symm
      rw [hday_, ept_] at e_fe2 e_re3
      have efe_ : q_fe = x_fe := e_fe2.trans pa_3.symm
      have ere_ : q_re = x_re := e_re3.trans pa_4.symm
      rw [efe_, ere_] at pg_
      try simp only [eb_] at pg_
      have hc40_ := hV.2.1.2.1
      have hc48_ := hV.2.1.2.2.1
      have hc59_ := hV.2.1.2.2.2.1
      have S_ := yStp.mk hV.2.2.2.1.1.1.1.1.1 hV.2.2.1 hFa pa_6 a3 pg_ (by first | exact yGm.ft hFa | exact yGm.bothR (yGm.ft hFa) | exact yGm.bothR (yGm.bothR (yGm.ft hFa)) | exact yGm.bothR (yGm.bothR (yGm.bothR (yGm.ft hFa))) | exact yGm.bothR (yGm.bothR (yGm.bothR (yGm.bothR (yGm.ft hFa)))) | exact yGm.bothR (yGm.bothR (yGm.bothR (yGm.bothR (yGm.bothR (yGm.ft hFa)))))) hL_ hrel
      have hr4 : yR6 I1 R1 := ⟨rel5_pay (by omega) hb_ (by omega) hV.2.2.2.1.1.1.1.1.2 (by omega) S_, rel6_pay (by omega) hb_ (by omega) (by omega) hV.2.2.2.1.1.1.1.2 (by omega) S_⟩
      have hL7_ : yLk I R R1 := fun l h1 h2 i hi => (hL_ l h1 h2 i (by rw [hFa.hi (show 83 ≤ l by omega)]; exact hi)).trans (yLk.out hV.2.2.1 l h1 h2 i hi)
      have tb_ := hV.2.2.1.g89 (by omega) hb_
      have hm7_ : yFm n tg I I1 := yFm.gm pg_ (by repeat first | exact yFm.ft hFa | exact yFm.rr | refine yFm.addC ?_ | refine yFm.shD ?_ | refine yFm.prD ?_ (by assumption) | refine yFm.lsD ?_ (by assumption) | refine yFm.up ?_ (by first | exact .inl (by decide) | exact .inr (by assumption)))
      have h94_ : 94 ≤ n := hV.1.1
      have h7_ : I1 83 7 = I 83 7 := (congrFun (px_.n (show 83 < n by omega)) 7).trans (by repeat first | exact rfl | exact yext em83_7 | refine k7addC ?_ | refine k7shD ?_ | refine k7prD ?_ (by omega) | refine k7lsD ?_ (by omega) | refine k7up ?_ (by first | exact .inr (by decide) | exact .inl (by decide) | exact .inl (by omega)))
      have hf7 : yF7 I1 R1 := hV.2.2.2.1.1.1.2.st hV.2.2.1 (by omega) h7_ (fun a h1 h2 => (a3.2.2.1 a (by omega)).trans (by rw [pa_7]; repeat first | rw [upd2_row (by omega)] | rw [yAddC_row (by omega)])) hL7_ hm7_
      have hr7 : yR7 I1 R1 := ⟨hr4, hf7⟩
      have hM8_ : yMn I I_a := hV.2.2.2.1.1.2.1.ia hFa
      have ho_ := hV.2.2.1.byr (by omega) hb_
      rw [s1] at ho_
      have px8_ := px_
      simp only [eb_, s1, ept_, efe_, ere_] at px8_
      have hmn_ : yMn I1 I1 := ((m9_pay hM8_ ho_.2.1 (by omega) ho_.1 _ rfl).ea pa_7).px a3 px8_ h94_
      have n9b_ := hV.2.2.1.n9 (l := 89) (by decide) (by decide) (by omega) hb_
      have hvn_ : yVn I1 I1 R1 := hV.2.2.2.1.1.2.2.1.st hV.2.2.1 (by omega) (fun a h1 h2 => (a3.2.2.1 a (by omega)).trans (by rw [pa_7]; repeat first | rw [upd2_row (by omega)] | rw [yAddC_row (by omega)])) hL7_ (yVm.x px_ (by repeat first | exact yVm.ft hFa | exact yVm.rr | refine yVm.addC ?_ | refine yVm.shD ?_ | refine yVm.up ?_ (by first | exact .inl (by decide) | exact .inr (by assumption))))
      have hmb_ : yMb (K + 1) I1 := hV.2.2.2.1.1.2.2.2.cg (Nat.le_succ K) (congrFun ((a3.2.2.1 74 (by decide)).trans (by rw [pa_7]; repeat first | rw [upd2_row (by omega)] | rw [yAddC_row (by omega)])) 2) ((a3.2.2.1 76 (by decide)).trans (by rw [pa_7]; repeat first | rw [upd2_row (by omega)] | rw [yAddC_row (by omega)])) (by omega)
      have hr8 : yR8 (K + 1) I1 R1 := ⟨hr7, hmn_, hvn_, hmb_⟩
      have hp9_ : yP9 I1 R1 := hV.2.2.2.1.2.1.kp hV.2.2.1 hFa (yLk.out hV.2.2.1) (by rw [pa_7]; repeat first | rw [upd2_row (by omega)] | rw [yAddC_row (by omega)]) (by omega) a3
      have hpd_ : yPdd I1 := hV.2.2.2.1.2.2.pay (x := (I 33 (x4 + Int32.ofInt 1).toInt.toNat).toInt.toNat) (by omega) ((a3.2.2.1 54 (by decide)).trans (by rw [pa_7]; repeat first | rw [upd2_row (by omega)] | rw [yAddC_row (by omega)])) (fun j => (congrFun (a3.2.2.1 55 (by decide)) j).trans (by rw [pa_7, upd2_row (by decide), upd2_row (by decide), upd2_ite, upd2_row (by decide), yAddC_row (by decide), yAddC_row (by decide), yAddC_row (by decide)])) (by omega)
      have hr9 : yR9 (K + 1) I1 R1 := ⟨hr8, hp9_, hpd_⟩
      have hV := hV.two pa_0 (fun a ha => funext fun k => hFa a k (.inl ha)) a1 a2 a3 hr9
      have hS := hV.1
      refine y_ret1 ?_
      refine y_istore (ls' := [some _, some _, some _, some _, some _, some _, some _]) rfl rfl rfl ?_
      refine y_goto rfl j_L_law_1673 ?_
      refine y_fgt (ls := [some _, some _, some _, some _, some _, none, none]) ⟨rfl, rfl, rfl, rfl, rfl, trivial⟩ ?_
      exact hN _ _ _ _ _ _ hV (by omega) (by omega)
theorem lc_8 (hV : yInv K n tg I R ln) (hk6 : K < 600) {x4 : Int32} (hx0 : 0 ≤ x4.toInt) (hx1 : x4.toInt + 7 ≤ (ln : Int)) (hl : ln ≤ 3584) (hN : ∀ n1 tg1 I1 R1 c1 s1, yInv (K + 1) n1 tg1 I1 R1 ln → c1 ≤ c + 790 → s1 ≤ s + 15250 → yW xm_L_law xc_L_law_1673 [some (.ref 33), some (.ref 34), some (.ref 83), some (.ref 93), some (.int x4), none, none] [] (n1, tg1, I1, R1) c1 s1 Q) : yW xm_L_law xc_L_law_512 [some (.ref 33), some (.ref 34), some (.ref 83), some (.ref 93), some (.int x4), none, none] [] (n, tg, I, R) c s Q := by
  have hS := hV.1
  refine y_aload_n rfl rfl ?_
  refine y_aload_n rfl rfl ?_
  refine y_iload rfl rfl ?_
  refine y_iconst rfl ?_
  refine y_iadd rfl ?_
  refine y_iaload rfl hV.2.2.2.2.2 (ySh.n hV.1 rfl) (sc_at hx0 hx1 hl (by decide) (by decide)).1 (sc_at hx0 hx1 hl (by decide) (by decide)).2 ?_
  refine y_aload_n rfl rfl ?_
  refine y_static rfl rfl rfl rfl rfl ?_
  refine v_benchmark hS hV.2.1 (fun hc_ => ?_) (fun hc_ v_a I_a pa_0 pa_1 pa_2 pa_3 pa_4 hBa R_a eR => ?_)
  · have e33 : I 33 = I 33 := rfl
    refine y_ret1 ?_
    refine y_istore (ls' := [some _, some _, some _, some _, some _, some _, _]) rfl rfl rfl ?_
    refine y_aload_n rfl rfl ?_
    refine y_aload_n rfl rfl ?_
    refine y_iload rfl rfl ?_
    refine y_iconst rfl ?_
    refine y_iadd rfl ?_
    refine y_iaload rfl hV.2.2.2.2.2 (ySh.n hV.1 rfl) (sc_at hx0 hx1 hl (by decide) (by decide)).1 (sc_at hx0 hx1 hl (by decide) (by decide)).2 ?_
    rw [e33]
    refine y_virt rfl rfl rfl rfl rfl (ySh.t hS rfl) (ySh.n hS rfl) ?_
    obtain ⟨r1, r2, r3, r4, r5, r6, r7, r8⟩ := hV.2.2.2.1.1.1.1.1.1.1
    refine yC.keep3 [(18, 1, 83), (18, 8, 83), (3, 2, 88), (3, 2, 91), (3, 2, 92), (3, 2, 89), (3, 2, 90)] yLO6 rfl rfl rfl hS hV.2.2.1 ?_
    refine h_benchmark hS hV.2.2.1 hk6  (fun hm_ v_b n1 tg1 I1 R1 c1 s1 a1 a2 a3 hth prf_ hc_b hs_b => ⟨a1, a3.2.1, fun hB_ h93_ hO_ hL_ => ?_⟩) (fun hm_ v_b n1 tg1 I1 R1 c1 s1 a1 a2 a3 hth pv_ px_ hc_b hs_b => ⟨a1, a3.2.1, fun hB_ h93_ hO_ hL_ => ?_⟩)
    · have kc34_9 := congrArg Int32.toInt (congrFun (a3.2.2.1 34 (by decide)) 9)
      have kc34_8 := congrArg Int32.toInt (congrFun (a3.2.2.1 34 (by decide)) 8)
      have kc38_0 := congrArg Int32.toInt (congrFun (a3.2.2.1 38 (by decide)) 0)
      have kc40_0 := congrArg Int32.toInt (congrFun (a3.2.2.1 40 (by decide)) 0)
      have kc69_0 := congrArg Int32.toInt (congrFun (a3.2.2.1 69 (by decide)) 0)
      have kc77_0 := congrArg Int32.toInt (congrFun (a3.2.2.1 77 (by decide)) 0)
      have kc48_0 := congrArg Int32.toInt (congrFun (a3.2.2.1 48 (by decide)) 0)
      have kc59_0 := congrArg Int32.toInt (congrFun (a3.2.2.1 59 (by decide)) 0)
      have hB_ : yKeep _ _ I1 := hB_
      obtain ⟨mb0, mb1, mb2, mb3, mb4, mb5, mb6, -⟩ := hB_
      have mb0 := congrArg Int32.toInt mb0
      have mb1 := congrArg Int32.toInt mb1
      have mb2 := congrArg Int32.toInt mb2
      have mb3 := congrArg Int32.toInt mb3
      have mb4 := congrArg Int32.toInt mb4
      have mb5 := congrArg Int32.toInt mb5
      have mb6 := congrArg Int32.toInt mb6
      have mbx_ := congrArg Int32.toInt (prf_.2.1 4 (by decide))
      have hrel : yRl I1 := ⟨by omega, by omega, by omega, by omega, by omega, by omega, by omega, by omega⟩
      have hr4 : yR6 I1 R1 := yR6.two hV.2.2.2.1.1.1.1 yFu.rf hV.2.2.1 hV.2.2.2.1.1.1.1.1.1.2.1 yLk.rf a3 (hO_.o5.ob45 hV.2.2.1) (hO_.o5.ob5 hV.2.2.1) (hO_.ob6 hV.2.2.1) hL_ hrel (by omega) (by omega) (by omega) (by omega)
      have hf7 : yF7 I1 R1 := hV.2.2.2.1.1.1.2.rf hV.2.2.1 prf_
      have hr7 : yR7 I1 R1 := ⟨hr4, hf7⟩
      have hr9 : yR9 (K + 1) I1 R1 := hV.2.2.2.1.rf hr7 hV.2.2.1 prf_ (Nat.le_succ K)
      have hV := hV.two hV.2.1 (fun _ _ => rfl) a1 a2 a3 hr9
      have hS := hV.1
      refine y_ret1 ?_
      refine y_istore (ls' := [some _, some _, some _, some _, some _, some _, some _]) rfl rfl rfl ?_
      refine y_goto rfl j_L_law_1673 ?_
      refine y_fgt (ls := [some _, some _, some _, some _, some _, none, none]) ⟨rfl, rfl, rfl, rfl, rfl, trivial⟩ ?_
      exact hN _ _ _ _ _ _ hV (by omega) (by omega)
    · exfalso; omega
  · have hFa : yFt I I_a := pa_1
    have e33 : I_a 33 = I 33 := funext fun k => hFa 33 k (.inl (by decide))
    have hS : ySh n tg R_a := by rw [eR]; exact hS.out
    have hRa : yRI K n tg I_a R_a := (hV.2.2.1.ft hFa).outR (fun a ha => by rw [eR]; exact upd2_row ha)
    refine y_ret1 ?_
    refine y_istore (ls' := [some _, some _, some _, some _, some _, some _, _]) rfl rfl rfl ?_
    refine y_aload_n rfl rfl ?_
    refine y_aload_n rfl rfl ?_
    refine y_iload rfl rfl ?_
    refine y_iconst rfl ?_
    refine y_iadd rfl ?_
    refine y_iaload rfl hV.2.2.2.2.2 (ySh.n hV.1 rfl) (sc_at hx0 hx1 hl (by decide) (by decide)).1 (sc_at hx0 hx1 hl (by decide) (by decide)).2 ?_
    rw [e33]
    refine y_virt rfl rfl rfl rfl rfl (ySh.t hS rfl) (ySh.n hS rfl) ?_
    obtain ⟨r1, r2, r3, r4, r5, r6, r7, r8⟩ := hV.2.2.2.1.1.1.1.1.1.1
    have eM : ∀ l k, 83 ≤ l → (I_a l k).toInt = (I l k).toInt := fun l k hl => congrArg Int32.toInt (hFa l k (.inr (.inl hl)))
    have em83_4 := eM 83 4 (by decide)
    have em83_1 := eM 83 1 (by decide)
    have em83_8 := eM 83 8 (by decide)
    have em88_2 := eM 88 2 (by decide)
    have em91_2 := eM 91 2 (by decide)
    have em92_2 := eM 92 2 (by decide)
    have em89_2 := eM 89 2 (by decide)
    have em90_2 := eM 90 2 (by decide)
    have em83_7 := eM 83 7 (by decide)
    obtain ⟨kb0, kb1, kb2, kb3, kb4, kb5, kb6, -⟩ := hBa
    have kb0 := congrArg Int32.toInt kb0
    have kb1 := congrArg Int32.toInt kb1
    have kb2 := congrArg Int32.toInt kb2
    have kb3 := congrArg Int32.toInt kb3
    have kb4 := congrArg Int32.toInt kb4
    have kb5 := congrArg Int32.toInt kb5
    have kb6 := congrArg Int32.toInt kb6
    refine yC.keep3 [(18, 1, 83), (18, 8, 83), (3, 2, 88), (3, 2, 91), (3, 2, 92), (3, 2, 89), (3, 2, 90)] yLO6 rfl rfl rfl hS hRa ?_
    refine h_benchmark hS hRa hk6  (fun hm_ v_b n1 tg1 I1 R1 c1 s1 a1 a2 a3 hth prf_ hc_b hs_b => ⟨a1, a3.2.1, fun hB_ h93_ hO_ hL_ => ?_⟩) (fun hm_ v_b n1 tg1 I1 R1 c1 s1 a1 a2 a3 hth pv_ px_ hc_b hs_b => ⟨a1, a3.2.1, fun hB_ h93_ hO_ hL_ => ?_⟩)
    · exfalso; omega
    · have kc34_9 := congrArg Int32.toInt (congrFun (a3.2.2.1 34 (by decide)) 9)
      have kc34_8 := congrArg Int32.toInt (congrFun (a3.2.2.1 34 (by decide)) 8)
      have kc38_0 := congrArg Int32.toInt (congrFun (a3.2.2.1 38 (by decide)) 0)
      have kc40_0 := congrArg Int32.toInt (congrFun (a3.2.2.1 40 (by decide)) 0)
      have kc69_0 := congrArg Int32.toInt (congrFun (a3.2.2.1 69 (by decide)) 0)
      have kc77_0 := congrArg Int32.toInt (congrFun (a3.2.2.1 77 (by decide)) 0)
      have kc48_0 := congrArg Int32.toInt (congrFun (a3.2.2.1 48 (by decide)) 0)
      have kc59_0 := congrArg Int32.toInt (congrFun (a3.2.2.1 59 (by decide)) 0)
      have hB_ : yKeep _ _ I1 := hB_
      obtain ⟨mb0, mb1, mb2, mb3, mb4, mb5, mb6, -⟩ := hB_
      have mb0 := congrArg Int32.toInt mb0
      have mb1 := congrArg Int32.toInt mb1
      have mb2 := congrArg Int32.toInt mb2
      have mb3 := congrArg Int32.toInt mb3
      have mb4 := congrArg Int32.toInt mb4
      have mb5 := congrArg Int32.toInt mb5
      have mb6 := congrArg Int32.toInt mb6
      have mby_ := congrArg Int32.toInt ((congrFun (px_.n (Nat.lt_of_lt_of_le (show 83 < 94 by decide) hV.1.1)) 4).trans upd2_self)
      have ky_ := congrArg Int32.toInt ((congrFun (congrFun pa_4 34) 9).trans upd2_self)
      have hrel : yRl I1 := ⟨by omega, by omega, by omega, by omega, by omega, by omega, by omega, by omega⟩
      have hHa : yHr I_a R_a := by rw [eR]; exact yHr.a hV.2.2.2.1.1.1.1.1.1 hV.2.2.1 hFa
      have hLa : yLk I R R_a := by rw [eR]; exact yLk.out hV.2.2.1
      have hw_ : yFu I I_a := yFu.of fun a d1 d2 d3 d4 d5 d6 => by rw [pa_4]; repeat first | rw [upd2_row (by omega)] | rw [yAddC_row (by omega)]
      have hr4 : yR6 I1 R1 := yR6.two hV.2.2.2.1.1.1.1 hw_ hRa hHa hLa a3 (hO_.o5.ob45 hRa) (hO_.o5.ob5 hRa) (hO_.ob6 hRa) hL_ hrel (by omega) (by omega) (by omega) (by omega)
      have hL7_ : yLk I R R1 := fun l h1 h2 i hi => (hL_ l h1 h2 i (by rw [hFa.hi (show 83 ≤ l by omega)]; exact hi)).trans (hLa l h1 h2 i hi)
      have hm7_ : yFm n tg I I1 := yFm.x px_ (by repeat first | exact yFm.ft hFa | exact yFm.rr | refine yFm.addC ?_ | refine yFm.shD ?_ | refine yFm.prD ?_ (by assumption) | refine yFm.lsD ?_ (by assumption) | refine yFm.up ?_ (by first | exact .inl (by decide) | exact .inr (by assumption)))
      have h94_ : 94 ≤ n := hV.1.1
      have h7_ : I1 83 7 = I 83 7 := (congrFun (px_.n (show 83 < n by omega)) 7).trans (by repeat first | exact rfl | exact yext em83_7 | refine k7addC ?_ | refine k7shD ?_ | refine k7prD ?_ (by omega) | refine k7lsD ?_ (by omega) | refine k7up ?_ (by first | exact .inr (by decide) | exact .inl (by decide) | exact .inl (by omega)))
      have hf7 : yF7 I1 R1 := hV.2.2.2.1.1.1.2.st hV.2.2.1 (by omega) h7_ (fun a h1 h2 => (a3.2.2.1 a (by omega)).trans (by rw [pa_4]; repeat first | rw [upd2_row (by omega)] | rw [yAddC_row (by omega)])) hL7_ hm7_
      have hr7 : yR7 I1 R1 := ⟨hr4, hf7⟩
      have hM8_ : yMn I I_a := hV.2.2.2.1.1.2.1.ia hFa
      have hQ8_ : yMn I_a I_a := hM8_.cC (fun a ha => by rw [pa_4]; repeat first | rw [upd2_row (by omega)] | rw [yAddC_row (by omega)])
      have hmn_ : yMn I1 I1 := yMn.px (by repeat first | exact hQ8_ | refine yMn.upM ?_ (by first | exact .inr (by decide) | exact .inl (by omega))) a3 px_ h94_
      have hvn_ : yVn I1 I1 R1 := hV.2.2.2.1.1.2.2.1.st hV.2.2.1 (by omega) (fun a h1 h2 => (a3.2.2.1 a (by omega)).trans (by rw [pa_4]; repeat first | rw [upd2_row (by omega)] | rw [yAddC_row (by omega)])) hL7_ (yVm.x px_ (by repeat first | exact yVm.ft hFa | exact yVm.rr | refine yVm.addC ?_ | refine yVm.shD ?_ | refine yVm.up ?_ (by first | exact .inl (by decide) | exact .inr (by assumption))))
      have hmb_ : yMb (K + 1) I1 := hV.2.2.2.1.1.2.2.2.cg (Nat.le_succ K) (congrFun ((a3.2.2.1 74 (by decide)).trans (by rw [pa_4]; repeat first | rw [upd2_row (by omega)] | rw [yAddC_row (by omega)])) 2) ((a3.2.2.1 76 (by decide)).trans (by rw [pa_4]; repeat first | rw [upd2_row (by omega)] | rw [yAddC_row (by omega)])) (by omega)
      have hr8 : yR8 (K + 1) I1 R1 := ⟨hr7, hmn_, hvn_, hmb_⟩
      have hp9_ : yP9 I1 R1 := hV.2.2.2.1.2.1.kp hV.2.2.1 hFa hLa (by rw [pa_4]; repeat first | rw [upd2_row (by omega)] | rw [yAddC_row (by omega)]) (by omega) a3
      have hpd_ : yPdd I1 := hV.2.2.2.1.2.2.st (by omega) ((a3.2.2.1 54 (by decide)).trans (by rw [pa_4]; repeat first | rw [upd2_row (by omega)] | rw [yAddC_row (by omega)])) ((a3.2.2.1 55 (by decide)).trans (by rw [pa_4]; repeat first | rw [upd2_row (by omega)] | rw [yAddC_row (by omega)]))
      have hr9 : yR9 (K + 1) I1 R1 := ⟨hr8, hp9_, hpd_⟩
      have hV := hV.two pa_0 (fun a ha => funext fun k => hFa a k (.inl ha)) a1 a2 a3 hr9
      have hS := hV.1
      refine y_ret1 ?_
      refine y_istore (ls' := [some _, some _, some _, some _, some _, some _, some _]) rfl rfl rfl ?_
      refine y_goto rfl j_L_law_1673 ?_
      refine y_fgt (ls := [some _, some _, some _, some _, some _, none, none]) ⟨rfl, rfl, rfl, rfl, rfl, trivial⟩ ?_
      exact hN _ _ _ _ _ _ hV (by omega) (by omega)
theorem lc_9 (hV : yInv K n tg I R ln) (hk6 : K < 600) {x4 : Int32} (hx0 : 0 ≤ x4.toInt) (hx1 : x4.toInt + 7 ≤ (ln : Int)) (hl : ln ≤ 3584) (hN : ∀ n1 tg1 I1 R1 c1 s1, yInv (K + 1) n1 tg1 I1 R1 ln → c1 ≤ c + 790 → s1 ≤ s + 15250 → yW xm_L_law xc_L_law_1673 [some (.ref 33), some (.ref 34), some (.ref 83), some (.ref 93), some (.int x4), none, none] [] (n1, tg1, I1, R1) c1 s1 Q) : yW xm_L_law xc_L_law_540 [some (.ref 33), some (.ref 34), some (.ref 83), some (.ref 93), some (.int x4), none, none] [] (n, tg, I, R) c s Q := by
  have hS := hV.1
  refine y_aload_n rfl rfl ?_
  refine y_aload_n rfl rfl ?_
  refine y_iload rfl rfl ?_
  refine y_iconst rfl ?_
  refine y_iadd rfl ?_
  refine y_iaload rfl hV.2.2.2.2.2 (ySh.n hV.1 rfl) (sc_at hx0 hx1 hl (by decide) (by decide)).1 (sc_at hx0 hx1 hl (by decide) (by decide)).2 ?_
  refine y_aload_n rfl rfl ?_
  refine y_iload rfl rfl ?_
  refine y_iconst rfl ?_
  refine y_iadd rfl ?_
  refine y_iaload rfl hV.2.2.2.2.2 (ySh.n hV.1 rfl) (sc_at hx0 hx1 hl (by decide) (by decide)).1 (sc_at hx0 hx1 hl (by decide) (by decide)).2 ?_
  refine y_aload_n rfl rfl ?_
  refine y_iload rfl rfl ?_
  refine y_iconst rfl ?_
  refine y_iadd rfl ?_
  refine y_iaload rfl hV.2.2.2.2.2 (ySh.n hV.1 rfl) (sc_at hx0 hx1 hl (by decide) (by decide)).1 (sc_at hx0 hx1 hl (by decide) (by decide)).2 ?_
  refine y_aload_n rfl rfl ?_
  refine y_iload rfl rfl ?_
  refine y_iconst rfl ?_
  refine y_iadd rfl ?_
  refine y_iaload rfl hV.2.2.2.2.2 (ySh.n hV.1 rfl) (sc_at hx0 hx1 hl (by decide) (by decide)).1 (sc_at hx0 hx1 hl (by decide) (by decide)).2 ?_
  refine y_aload_n rfl rfl ?_
  refine y_static rfl rfl rfl rfl rfl ?_
  refine v_lease hS hV.2.1 (fun hc_ => ?_) (fun hc_ => ?_) (fun hc_ => ?_) (fun hc_ v_a I_a pa_0 pa_1 pa_2 pa_3 pa_4 hBa R_a eR => ?_)
  · have e33 : I 33 = I 33 := rfl
    refine y_ret1 ?_
    refine y_istore (ls' := [some _, some _, some _, some _, some _, some _, _]) rfl rfl rfl ?_
    refine y_aload_n rfl rfl ?_
    refine y_aload_n rfl rfl ?_
    refine y_iload rfl rfl ?_
    refine y_iconst rfl ?_
    refine y_iadd rfl ?_
    refine y_iaload rfl hV.2.2.2.2.2 (ySh.n hV.1 rfl) (sc_at hx0 hx1 hl (by decide) (by decide)).1 (sc_at hx0 hx1 hl (by decide) (by decide)).2 ?_
    rw [e33]
    refine y_aload_n rfl rfl ?_
    refine y_iload rfl rfl ?_
    refine y_iconst rfl ?_
    refine y_iadd rfl ?_
    refine y_iaload rfl hV.2.2.2.2.2 (ySh.n hV.1 rfl) (sc_at hx0 hx1 hl (by decide) (by decide)).1 (sc_at hx0 hx1 hl (by decide) (by decide)).2 ?_
    rw [e33]
    refine y_aload_n rfl rfl ?_
    refine y_iload rfl rfl ?_
    refine y_iconst rfl ?_
    refine y_iadd rfl ?_
    refine y_iaload rfl hV.2.2.2.2.2 (ySh.n hV.1 rfl) (sc_at hx0 hx1 hl (by decide) (by decide)).1 (sc_at hx0 hx1 hl (by decide) (by decide)).2 ?_
    rw [e33]
    refine y_aload_n rfl rfl ?_
    refine y_iload rfl rfl ?_
    refine y_iconst rfl ?_
    refine y_iadd rfl ?_
    refine y_iaload rfl hV.2.2.2.2.2 (ySh.n hV.1 rfl) (sc_at hx0 hx1 hl (by decide) (by decide)).1 (sc_at hx0 hx1 hl (by decide) (by decide)).2 ?_
    rw [e33]
    refine y_virt rfl rfl rfl rfl rfl (ySh.t hS rfl) (ySh.n hS rfl) ?_
    obtain ⟨r1, r2, r3, r4, r5, r6, r7, r8⟩ := hV.2.2.2.1.1.1.1.1.1.1
    refine yC.keep [(18, 4, 83), (18, 1, 83), (18, 8, 83)] rfl rfl hS ?_
    refine h_lease (al := (yBC (I 36 3)).toInt) hS hV.2.2.1 hk6 (hV.2.2.2.1.1.1.1.1.1.lf _) (hV.2.2.2.1.1.1.1.1.1.2.1.al hV.2.2.1 (q := 3) (by decide)) (fun hm_ v_b n1 tg1 I1 R1 c1 s1 a1 a2 a3 hth pg_ ps_88 ps_89 ps_90 ps_91 ps_92 pl_ prf_ hc_b hs_b => ⟨a1, fun hB_ h93_ => ?_⟩) (fun hm_ v_b n1 tg1 I1 R1 c1 s1 a1 a2 a3 hth pg_ ps_88 ps_89 ps_90 ps_91 ps_92 pl_ prf_ hc_b hs_b => ⟨a1, fun hB_ h93_ => ?_⟩) (fun q_b e_b0 hm_ v_b n1 tg1 I1 R1 c1 s1 a1 a2 a3 hth pg_ ps_88 ps_89 ps_90 ps_91 ps_92 pl_ prf_ hc_b hs_b => ⟨a1, fun hB_ h93_ => ?_⟩) (fun q_b e_b0 hm_ v_b n1 tg1 I1 R1 c1 s1 a1 a2 a3 hth pv_ pg_ ps_88 ps_89 ps_90 ps_91 ps_92 pl_ q_x e_x pn_ pf_0 pf_1 pf_2 pf_3 pf_4 pf_5 pf_6 pf_7 p8_ hc_b hs_b => ⟨a1, fun hB_ h93_ => ?_⟩)
    · have kc34_9 := congrArg Int32.toInt (congrFun (a3.2.2.1 34 (by decide)) 9)
      have kc34_8 := congrArg Int32.toInt (congrFun (a3.2.2.1 34 (by decide)) 8)
      have kc38_0 := congrArg Int32.toInt (congrFun (a3.2.2.1 38 (by decide)) 0)
      have kc40_0 := congrArg Int32.toInt (congrFun (a3.2.2.1 40 (by decide)) 0)
      have kc69_0 := congrArg Int32.toInt (congrFun (a3.2.2.1 69 (by decide)) 0)
      have kc77_0 := congrArg Int32.toInt (congrFun (a3.2.2.1 77 (by decide)) 0)
      have kc48_0 := congrArg Int32.toInt (congrFun (a3.2.2.1 48 (by decide)) 0)
      have kc59_0 := congrArg Int32.toInt (congrFun (a3.2.2.1 59 (by decide)) 0)
      have hB_ : yKeep _ _ I1 := hB_
      obtain ⟨mb0, mb1, mb2, -⟩ := hB_
      have mb0 := congrArg Int32.toInt mb0
      have mb1 := congrArg Int32.toInt mb1
      have mb2 := congrArg Int32.toInt mb2
      have hlv_ := fun q => @yLv_in I (I 33 (x4 + Int32.ofInt 1).toInt.toNat) q
      first | (have hlv_ := hlv_ ⟨by omega, by omega⟩) | skip
      have hrel : yRl I1 := ⟨by omega, by omega, by omega, by omega, by omega, by omega, by omega, by omega⟩
      have hr4 : yR6 I1 R1 := yR6.two hV.2.2.2.1.1.1.1 yFu.rf hV.2.2.1 hV.2.2.2.1.1.1.1.1.1.2.1 yLk.rf a3 (yR4.ob hV.2.2.1 pg_) (yS5.ob hV.2.2.1 pg_) (yL6.ob hV.2.2.1 pg_) pl_ hrel (by omega) (by omega) (by omega) (by omega)
      have hf7 : yF7 I1 R1 := hV.2.2.2.1.1.1.2.rf hV.2.2.1 prf_
      have hr7 : yR7 I1 R1 := ⟨hr4, hf7⟩
      have hr9 : yR9 (K + 1) I1 R1 := hV.2.2.2.1.rf hr7 hV.2.2.1 prf_ (Nat.le_succ K)
      have hV := hV.two hV.2.1 (fun _ _ => rfl) a1 a2 a3 hr9
      have hS := hV.1
      refine y_ret1 ?_
      refine y_istore (ls' := [some _, some _, some _, some _, some _, some _, some _]) rfl rfl rfl ?_
      refine y_goto rfl j_L_law_1673 ?_
      refine y_fgt (ls := [some _, some _, some _, some _, some _, none, none]) ⟨rfl, rfl, rfl, rfl, rfl, trivial⟩ ?_
      exact hN _ _ _ _ _ _ hV (by omega) (by omega)
    · have hlv_ := fun q => @yLv_in I (I 33 (x4 + Int32.ofInt 1).toInt.toNat) q
      first | (have hlv_ := hlv_ ⟨by omega, by omega⟩) | skip
      exfalso; omega
    · have hlv_ := fun q => @yLv_in I (I 33 (x4 + Int32.ofInt 1).toInt.toNat) q
      obtain ⟨h94b, t0, t1, t2, t3, t4, t5⟩ := tie_th0 hV.2.2.2.1.1.1.1.1.1 hV.2.2.1 (by omega) e_b0
      try simp only [t0, t1, t2, t3, t4, t5] at hm_
      first | (have hlv_ := hlv_ ⟨by omega, by omega⟩) | skip
      exfalso; omega
    · have hlv_ := fun q => @yLv_in I (I 33 (x4 + Int32.ofInt 1).toInt.toNat) q
      obtain ⟨h94b, t0, t1, t2, t3, t4, t5⟩ := tie_th0 hV.2.2.2.1.1.1.1.1.1 hV.2.2.1 (by omega) e_b0
      try simp only [t0, t1, t2, t3, t4, t5] at hm_
      first | (have hlv_ := hlv_ ⟨by omega, by omega⟩) | skip
      exfalso; omega
  · have e33 : I 33 = I 33 := rfl
    refine y_ret1 ?_
    refine y_istore (ls' := [some _, some _, some _, some _, some _, some _, _]) rfl rfl rfl ?_
    refine y_aload_n rfl rfl ?_
    refine y_aload_n rfl rfl ?_
    refine y_iload rfl rfl ?_
    refine y_iconst rfl ?_
    refine y_iadd rfl ?_
    refine y_iaload rfl hV.2.2.2.2.2 (ySh.n hV.1 rfl) (sc_at hx0 hx1 hl (by decide) (by decide)).1 (sc_at hx0 hx1 hl (by decide) (by decide)).2 ?_
    rw [e33]
    refine y_aload_n rfl rfl ?_
    refine y_iload rfl rfl ?_
    refine y_iconst rfl ?_
    refine y_iadd rfl ?_
    refine y_iaload rfl hV.2.2.2.2.2 (ySh.n hV.1 rfl) (sc_at hx0 hx1 hl (by decide) (by decide)).1 (sc_at hx0 hx1 hl (by decide) (by decide)).2 ?_
    rw [e33]
    refine y_aload_n rfl rfl ?_
    refine y_iload rfl rfl ?_
    refine y_iconst rfl ?_
    refine y_iadd rfl ?_
    refine y_iaload rfl hV.2.2.2.2.2 (ySh.n hV.1 rfl) (sc_at hx0 hx1 hl (by decide) (by decide)).1 (sc_at hx0 hx1 hl (by decide) (by decide)).2 ?_
    rw [e33]
    refine y_aload_n rfl rfl ?_
    refine y_iload rfl rfl ?_
    refine y_iconst rfl ?_
    refine y_iadd rfl ?_
    refine y_iaload rfl hV.2.2.2.2.2 (ySh.n hV.1 rfl) (sc_at hx0 hx1 hl (by decide) (by decide)).1 (sc_at hx0 hx1 hl (by decide) (by decide)).2 ?_
    rw [e33]
    refine y_virt rfl rfl rfl rfl rfl (ySh.t hS rfl) (ySh.n hS rfl) ?_
    obtain ⟨r1, r2, r3, r4, r5, r6, r7, r8⟩ := hV.2.2.2.1.1.1.1.1.1.1
    refine yC.keep [(18, 4, 83), (18, 1, 83), (18, 8, 83)] rfl rfl hS ?_
    refine h_lease (al := (yBC (I 36 3)).toInt) hS hV.2.2.1 hk6 (hV.2.2.2.1.1.1.1.1.1.lf _) (hV.2.2.2.1.1.1.1.1.1.2.1.al hV.2.2.1 (q := 3) (by decide)) (fun hm_ v_b n1 tg1 I1 R1 c1 s1 a1 a2 a3 hth pg_ ps_88 ps_89 ps_90 ps_91 ps_92 pl_ prf_ hc_b hs_b => ⟨a1, fun hB_ h93_ => ?_⟩) (fun hm_ v_b n1 tg1 I1 R1 c1 s1 a1 a2 a3 hth pg_ ps_88 ps_89 ps_90 ps_91 ps_92 pl_ prf_ hc_b hs_b => ⟨a1, fun hB_ h93_ => ?_⟩) (fun q_b e_b0 hm_ v_b n1 tg1 I1 R1 c1 s1 a1 a2 a3 hth pg_ ps_88 ps_89 ps_90 ps_91 ps_92 pl_ prf_ hc_b hs_b => ⟨a1, fun hB_ h93_ => ?_⟩) (fun q_b e_b0 hm_ v_b n1 tg1 I1 R1 c1 s1 a1 a2 a3 hth pv_ pg_ ps_88 ps_89 ps_90 ps_91 ps_92 pl_ q_x e_x pn_ pf_0 pf_1 pf_2 pf_3 pf_4 pf_5 pf_6 pf_7 p8_ hc_b hs_b => ⟨a1, fun hB_ h93_ => ?_⟩)
    · have hlv_ := fun q => @yLv_in I (I 33 (x4 + Int32.ofInt 1).toInt.toNat) q
      first | (have hlv_ := hlv_ ⟨by omega, by omega⟩) | skip
      exfalso; omega
    · have kc34_9 := congrArg Int32.toInt (congrFun (a3.2.2.1 34 (by decide)) 9)
      have kc34_8 := congrArg Int32.toInt (congrFun (a3.2.2.1 34 (by decide)) 8)
      have kc38_0 := congrArg Int32.toInt (congrFun (a3.2.2.1 38 (by decide)) 0)
      have kc40_0 := congrArg Int32.toInt (congrFun (a3.2.2.1 40 (by decide)) 0)
      have kc69_0 := congrArg Int32.toInt (congrFun (a3.2.2.1 69 (by decide)) 0)
      have kc77_0 := congrArg Int32.toInt (congrFun (a3.2.2.1 77 (by decide)) 0)
      have kc48_0 := congrArg Int32.toInt (congrFun (a3.2.2.1 48 (by decide)) 0)
      have kc59_0 := congrArg Int32.toInt (congrFun (a3.2.2.1 59 (by decide)) 0)
      have hB_ : yKeep _ _ I1 := hB_
      obtain ⟨mb0, mb1, mb2, -⟩ := hB_
      have mb0 := congrArg Int32.toInt mb0
      have mb1 := congrArg Int32.toInt mb1
      have mb2 := congrArg Int32.toInt mb2
      have hlv_ := fun q => @yLv_in I (I 33 (x4 + Int32.ofInt 1).toInt.toNat) q
      first | (have hlv_ := hlv_ ⟨by omega, by omega⟩) | skip
      have hrel : yRl I1 := ⟨by omega, by omega, by omega, by omega, by omega, by omega, by omega, by omega⟩
      have hr4 : yR6 I1 R1 := yR6.two hV.2.2.2.1.1.1.1 yFu.rf hV.2.2.1 hV.2.2.2.1.1.1.1.1.1.2.1 yLk.rf a3 (yR4.ob hV.2.2.1 pg_) (yS5.ob hV.2.2.1 pg_) (yL6.ob hV.2.2.1 pg_) pl_ hrel (by omega) (by omega) (by omega) (by omega)
      have hf7 : yF7 I1 R1 := hV.2.2.2.1.1.1.2.rf hV.2.2.1 prf_
      have hr7 : yR7 I1 R1 := ⟨hr4, hf7⟩
      have hr9 : yR9 (K + 1) I1 R1 := hV.2.2.2.1.rf hr7 hV.2.2.1 prf_ (Nat.le_succ K)
      have hV := hV.two hV.2.1 (fun _ _ => rfl) a1 a2 a3 hr9
      have hS := hV.1
      refine y_ret1 ?_
      refine y_istore (ls' := [some _, some _, some _, some _, some _, some _, some _]) rfl rfl rfl ?_
      refine y_goto rfl j_L_law_1673 ?_
      refine y_fgt (ls := [some _, some _, some _, some _, some _, none, none]) ⟨rfl, rfl, rfl, rfl, rfl, trivial⟩ ?_
      exact hN _ _ _ _ _ _ hV (by omega) (by omega)
    · have hlv_ := fun q => @yLv_in I (I 33 (x4 + Int32.ofInt 1).toInt.toNat) q
      obtain ⟨h94b, t0, t1, t2, t3, t4, t5⟩ := tie_th0 hV.2.2.2.1.1.1.1.1.1 hV.2.2.1 (by omega) e_b0
      try simp only [t0, t1, t2, t3, t4, t5] at hm_
      first | (have hlv_ := hlv_ ⟨by omega, by omega⟩) | skip
      exfalso; omega
    · have hlv_ := fun q => @yLv_in I (I 33 (x4 + Int32.ofInt 1).toInt.toNat) q
      obtain ⟨h94b, t0, t1, t2, t3, t4, t5⟩ := tie_th0 hV.2.2.2.1.1.1.1.1.1 hV.2.2.1 (by omega) e_b0
      try simp only [t0, t1, t2, t3, t4, t5] at hm_
      first | (have hlv_ := hlv_ ⟨by omega, by omega⟩) | skip
      exfalso; omega
  · have e33 : I 33 = I 33 := rfl
    refine y_ret1 ?_
    refine y_istore (ls' := [some _, some _, some _, some _, some _, some _, _]) rfl rfl rfl ?_
    refine y_aload_n rfl rfl ?_
    refine y_aload_n rfl rfl ?_
    refine y_iload rfl rfl ?_
    refine y_iconst rfl ?_
    refine y_iadd rfl ?_
    refine y_iaload rfl hV.2.2.2.2.2 (ySh.n hV.1 rfl) (sc_at hx0 hx1 hl (by decide) (by decide)).1 (sc_at hx0 hx1 hl (by decide) (by decide)).2 ?_
    rw [e33]
    refine y_aload_n rfl rfl ?_
    refine y_iload rfl rfl ?_
    refine y_iconst rfl ?_
    refine y_iadd rfl ?_
    refine y_iaload rfl hV.2.2.2.2.2 (ySh.n hV.1 rfl) (sc_at hx0 hx1 hl (by decide) (by decide)).1 (sc_at hx0 hx1 hl (by decide) (by decide)).2 ?_
    rw [e33]
    refine y_aload_n rfl rfl ?_
    refine y_iload rfl rfl ?_
    refine y_iconst rfl ?_
    refine y_iadd rfl ?_
    refine y_iaload rfl hV.2.2.2.2.2 (ySh.n hV.1 rfl) (sc_at hx0 hx1 hl (by decide) (by decide)).1 (sc_at hx0 hx1 hl (by decide) (by decide)).2 ?_
    rw [e33]
    refine y_aload_n rfl rfl ?_
    refine y_iload rfl rfl ?_
    refine y_iconst rfl ?_
    refine y_iadd rfl ?_
    refine y_iaload rfl hV.2.2.2.2.2 (ySh.n hV.1 rfl) (sc_at hx0 hx1 hl (by decide) (by decide)).1 (sc_at hx0 hx1 hl (by decide) (by decide)).2 ?_
    rw [e33]
    refine y_virt rfl rfl rfl rfl rfl (ySh.t hS rfl) (ySh.n hS rfl) ?_
    obtain ⟨r1, r2, r3, r4, r5, r6, r7, r8⟩ := hV.2.2.2.1.1.1.1.1.1.1
    refine yC.keep [(18, 4, 83), (18, 1, 83), (18, 8, 83)] rfl rfl hS ?_
    refine h_lease (al := (yBC (I 36 3)).toInt) hS hV.2.2.1 hk6 (hV.2.2.2.1.1.1.1.1.1.lf _) (hV.2.2.2.1.1.1.1.1.1.2.1.al hV.2.2.1 (q := 3) (by decide)) (fun hm_ v_b n1 tg1 I1 R1 c1 s1 a1 a2 a3 hth pg_ ps_88 ps_89 ps_90 ps_91 ps_92 pl_ prf_ hc_b hs_b => ⟨a1, fun hB_ h93_ => ?_⟩) (fun hm_ v_b n1 tg1 I1 R1 c1 s1 a1 a2 a3 hth pg_ ps_88 ps_89 ps_90 ps_91 ps_92 pl_ prf_ hc_b hs_b => ⟨a1, fun hB_ h93_ => ?_⟩) (fun q_b e_b0 hm_ v_b n1 tg1 I1 R1 c1 s1 a1 a2 a3 hth pg_ ps_88 ps_89 ps_90 ps_91 ps_92 pl_ prf_ hc_b hs_b => ⟨a1, fun hB_ h93_ => ?_⟩) (fun q_b e_b0 hm_ v_b n1 tg1 I1 R1 c1 s1 a1 a2 a3 hth pv_ pg_ ps_88 ps_89 ps_90 ps_91 ps_92 pl_ q_x e_x pn_ pf_0 pf_1 pf_2 pf_3 pf_4 pf_5 pf_6 pf_7 p8_ hc_b hs_b => ⟨a1, fun hB_ h93_ => ?_⟩)
    · have hlv_ := fun q => @yLv_in I (I 33 (x4 + Int32.ofInt 1).toInt.toNat) q
      first | (have hlv_ := hlv_ ⟨by omega, by omega⟩) | skip
      exfalso; omega
    · have hlv_ := fun q => @yLv_in I (I 33 (x4 + Int32.ofInt 1).toInt.toNat) q
      first | (have hlv_ := hlv_ ⟨by omega, by omega⟩) | skip
      exfalso; omega
    · have kc34_9 := congrArg Int32.toInt (congrFun (a3.2.2.1 34 (by decide)) 9)
      have kc34_8 := congrArg Int32.toInt (congrFun (a3.2.2.1 34 (by decide)) 8)
      have kc38_0 := congrArg Int32.toInt (congrFun (a3.2.2.1 38 (by decide)) 0)
      have kc40_0 := congrArg Int32.toInt (congrFun (a3.2.2.1 40 (by decide)) 0)
      have kc69_0 := congrArg Int32.toInt (congrFun (a3.2.2.1 69 (by decide)) 0)
      have kc77_0 := congrArg Int32.toInt (congrFun (a3.2.2.1 77 (by decide)) 0)
      have kc48_0 := congrArg Int32.toInt (congrFun (a3.2.2.1 48 (by decide)) 0)
      have kc59_0 := congrArg Int32.toInt (congrFun (a3.2.2.1 59 (by decide)) 0)
      have hB_ : yKeep _ _ I1 := hB_
      obtain ⟨mb0, mb1, mb2, -⟩ := hB_
      have mb0 := congrArg Int32.toInt mb0
      have mb1 := congrArg Int32.toInt mb1
      have mb2 := congrArg Int32.toInt mb2
      have hlv_ := fun q => @yLv_in I (I 33 (x4 + Int32.ofInt 1).toInt.toNat) q
      obtain ⟨h94b, t0, t1, t2, t3, t4, t5⟩ := tie_th0 hV.2.2.2.1.1.1.1.1.1 hV.2.2.1 (by omega) e_b0
      try simp only [t0, t1, t2, t3, t4, t5] at hm_
      first | (have hlv_ := hlv_ ⟨by omega, by omega⟩) | skip
      have hrel : yRl I1 := ⟨by omega, by omega, by omega, by omega, by omega, by omega, by omega, by omega⟩
      have hr4 : yR6 I1 R1 := yR6.two hV.2.2.2.1.1.1.1 yFu.rf hV.2.2.1 hV.2.2.2.1.1.1.1.1.1.2.1 yLk.rf a3 (yR4.ob hV.2.2.1 pg_) (yS5.ob hV.2.2.1 pg_) (yL6.ob hV.2.2.1 pg_) pl_ hrel (by omega) (by omega) (by omega) (by omega)
      have hf7 : yF7 I1 R1 := hV.2.2.2.1.1.1.2.rf hV.2.2.1 prf_
      have hr7 : yR7 I1 R1 := ⟨hr4, hf7⟩
      have hr9 : yR9 (K + 1) I1 R1 := hV.2.2.2.1.rf hr7 hV.2.2.1 prf_ (Nat.le_succ K)
      have hV := hV.two hV.2.1 (fun _ _ => rfl) a1 a2 a3 hr9
      have hS := hV.1
      refine y_ret1 ?_
      refine y_istore (ls' := [some _, some _, some _, some _, some _, some _, some _]) rfl rfl rfl ?_
      refine y_goto rfl j_L_law_1673 ?_
      refine y_fgt (ls := [some _, some _, some _, some _, some _, none, none]) ⟨rfl, rfl, rfl, rfl, rfl, trivial⟩ ?_
      exact hN _ _ _ _ _ _ hV (by omega) (by omega)
    · have hlv_ := fun q => @yLv_in I (I 33 (x4 + Int32.ofInt 1).toInt.toNat) q
      obtain ⟨h94b, t0, t1, t2, t3, t4, t5⟩ := tie_th0 hV.2.2.2.1.1.1.1.1.1 hV.2.2.1 (by omega) e_b0
      try simp only [t0, t1, t2, t3, t4, t5] at hm_
      first | (have hlv_ := hlv_ ⟨by omega, by omega⟩) | skip
      exfalso; omega
  · have hFa : yFt I I_a := pa_1
    have e33 : I_a 33 = I 33 := funext fun k => hFa 33 k (.inl (by decide))
    have hS : ySh n tg R_a := by rw [eR]; exact hS.out
    have hRa : yRI K n tg I_a R_a := (hV.2.2.1.ft hFa).outR (fun a ha => by rw [eR]; exact upd2_row ha)
    refine y_ret1 ?_
    refine y_istore (ls' := [some _, some _, some _, some _, some _, some _, _]) rfl rfl rfl ?_
    refine y_aload_n rfl rfl ?_
    refine y_aload_n rfl rfl ?_
    refine y_iload rfl rfl ?_
    refine y_iconst rfl ?_
    refine y_iadd rfl ?_
    refine y_iaload rfl hV.2.2.2.2.2 (ySh.n hV.1 rfl) (sc_at hx0 hx1 hl (by decide) (by decide)).1 (sc_at hx0 hx1 hl (by decide) (by decide)).2 ?_
    rw [e33]
    refine y_aload_n rfl rfl ?_
    refine y_iload rfl rfl ?_
    refine y_iconst rfl ?_
    refine y_iadd rfl ?_
    refine y_iaload rfl hV.2.2.2.2.2 (ySh.n hV.1 rfl) (sc_at hx0 hx1 hl (by decide) (by decide)).1 (sc_at hx0 hx1 hl (by decide) (by decide)).2 ?_
    rw [e33]
    refine y_aload_n rfl rfl ?_
    refine y_iload rfl rfl ?_
    refine y_iconst rfl ?_
    refine y_iadd rfl ?_
    refine y_iaload rfl hV.2.2.2.2.2 (ySh.n hV.1 rfl) (sc_at hx0 hx1 hl (by decide) (by decide)).1 (sc_at hx0 hx1 hl (by decide) (by decide)).2 ?_
    rw [e33]
    refine y_aload_n rfl rfl ?_
    refine y_iload rfl rfl ?_
    refine y_iconst rfl ?_
    refine y_iadd rfl ?_
    refine y_iaload rfl hV.2.2.2.2.2 (ySh.n hV.1 rfl) (sc_at hx0 hx1 hl (by decide) (by decide)).1 (sc_at hx0 hx1 hl (by decide) (by decide)).2 ?_
    rw [e33]
    refine y_virt rfl rfl rfl rfl rfl (ySh.t hS rfl) (ySh.n hS rfl) ?_
    obtain ⟨r1, r2, r3, r4, r5, r6, r7, r8⟩ := hV.2.2.2.1.1.1.1.1.1.1
    have eM : ∀ l k, 83 ≤ l → (I_a l k).toInt = (I l k).toInt := fun l k hl => congrArg Int32.toInt (hFa l k (.inr (.inl hl)))
    have em83_4 := eM 83 4 (by decide)
    have em83_1 := eM 83 1 (by decide)
    have em83_8 := eM 83 8 (by decide)
    have em88_2 := eM 88 2 (by decide)
    have em91_2 := eM 91 2 (by decide)
    have em92_2 := eM 92 2 (by decide)
    have em89_2 := eM 89 2 (by decide)
    have em90_2 := eM 90 2 (by decide)
    have em83_7 := eM 83 7 (by decide)
    obtain ⟨kb0, kb1, kb2, kb3, kb4, kb5, kb6, -⟩ := hBa
    have kb0 := congrArg Int32.toInt kb0
    have kb1 := congrArg Int32.toInt kb1
    have kb2 := congrArg Int32.toInt kb2
    have kb3 := congrArg Int32.toInt kb3
    have kb4 := congrArg Int32.toInt kb4
    have kb5 := congrArg Int32.toInt kb5
    have kb6 := congrArg Int32.toInt kb6
    refine yC.keep [(18, 4, 83), (18, 1, 83), (18, 8, 83)] rfl rfl hS ?_
    refine h_lease (al := (yBC (I 36 3)).toInt) hS hRa hk6 (by rw [eR]; exact (hV.2.2.2.1.1.1.1.1.1.lf _).ft hV.2.2.1 hFa) (by rw [eR]; exact yHr.ala hV.2.2.2.1.1.1.1.1.1 hV.2.2.1 hFa (q := 3) (by decide)) (fun hm_ v_b n1 tg1 I1 R1 c1 s1 a1 a2 a3 hth pg_ ps_88 ps_89 ps_90 ps_91 ps_92 pl_ prf_ hc_b hs_b => ⟨a1, fun hB_ h93_ => ?_⟩) (fun hm_ v_b n1 tg1 I1 R1 c1 s1 a1 a2 a3 hth pg_ ps_88 ps_89 ps_90 ps_91 ps_92 pl_ prf_ hc_b hs_b => ⟨a1, fun hB_ h93_ => ?_⟩) (fun q_b e_b0 hm_ v_b n1 tg1 I1 R1 c1 s1 a1 a2 a3 hth pg_ ps_88 ps_89 ps_90 ps_91 ps_92 pl_ prf_ hc_b hs_b => ⟨a1, fun hB_ h93_ => ?_⟩) (fun q_b e_b0 hm_ v_b n1 tg1 I1 R1 c1 s1 a1 a2 a3 hth pv_ pg_ ps_88 ps_89 ps_90 ps_91 ps_92 pl_ q_x e_x pn_ pf_0 pf_1 pf_2 pf_3 pf_4 pf_5 pf_6 pf_7 p8_ hc_b hs_b => ⟨a1, fun hB_ h93_ => ?_⟩)
    · subst eR
      have hlv_ := fun q => @yLv_in I (I 33 (x4 + Int32.ofInt 1).toInt.toNat) q
      first | (have hlv_ := hlv_ ⟨by omega, by omega⟩) | skip
      exfalso; omega
    · subst eR
      have hlv_ := fun q => @yLv_in I (I 33 (x4 + Int32.ofInt 1).toInt.toNat) q
      first | (have hlv_ := hlv_ ⟨by omega, by omega⟩) | skip
      exfalso; omega
    · subst eR
      have hlv_ := fun q => @yLv_in I (I 33 (x4 + Int32.ofInt 1).toInt.toNat) q
      obtain ⟨⟨hb_, eb_⟩, h94b, t0, t1, t2, t3, t4, t5⟩ := tie_th1 hV.2.2.2.1.1.1.1.1.1 hV.2.2.1 hFa (by omega) e_b0
      try simp only [eb_, t0, t1, t2, t3, t4, t5] at hm_
      first | (have hlv_ := hlv_ ⟨by omega, by omega⟩) | skip
      exfalso; omega
    · have kc34_9 := congrArg Int32.toInt (congrFun (a3.2.2.1 34 (by decide)) 9)
      have kc34_8 := congrArg Int32.toInt (congrFun (a3.2.2.1 34 (by decide)) 8)
      have kc38_0 := congrArg Int32.toInt (congrFun (a3.2.2.1 38 (by decide)) 0)
      have kc40_0 := congrArg Int32.toInt (congrFun (a3.2.2.1 40 (by decide)) 0)
      have kc69_0 := congrArg Int32.toInt (congrFun (a3.2.2.1 69 (by decide)) 0)
      have kc77_0 := congrArg Int32.toInt (congrFun (a3.2.2.1 77 (by decide)) 0)
      have kc48_0 := congrArg Int32.toInt (congrFun (a3.2.2.1 48 (by decide)) 0)
      have kc59_0 := congrArg Int32.toInt (congrFun (a3.2.2.1 59 (by decide)) 0)
      have hB_ : yKeep _ _ I1 := hB_
      obtain ⟨mb0, mb1, mb2, -⟩ := hB_
      have mb0 := congrArg Int32.toInt mb0
      have mb1 := congrArg Int32.toInt mb1
      have mb2 := congrArg Int32.toInt mb2
      have kx_ : (I_a 59 0).toInt = (I 59 0).toInt + 1 := (congrArg Int32.toInt ((congrFun (pa_3 59 rfl) 0).trans (by simp [upd2] : _ = I 59 0 + Int32.ofInt 1))).trans (yinc (by omega))
      subst eR
      have hlv_ := fun q => @yLv_in I (I 33 (x4 + Int32.ofInt 1).toInt.toNat) q
      obtain ⟨⟨hb_, eb_⟩, h94b, t0, t1, t2, t3, t4, t5⟩ := tie_th1 hV.2.2.2.1.1.1.1.1.1 hV.2.2.1 hFa (by omega) e_b0
      try simp only [eb_, t0, t1, t2, t3, t4, t5] at hm_
      first | (have hlv_ := hlv_ ⟨by omega, by omega⟩) | skip
      have hrel : yRl I1 := ⟨by omega, by omega, by omega, by omega, by omega, by omega, by omega, by omega⟩
      have hc40_ := hV.2.1.2.1
      have hc48_ := hV.2.1.2.2.1
      have hc59_ := hV.2.1.2.2.2.1
      have S_ := yStp.mk hV.2.2.2.1.1.1.1.1.1 hV.2.2.1 hFa pa_3 a3 pg_ (by first | exact yGm.ft hFa | exact yGm.bothR (yGm.ft hFa) | exact yGm.bothR (yGm.bothR (yGm.ft hFa)) | exact yGm.bothR (yGm.bothR (yGm.bothR (yGm.ft hFa))) | exact yGm.bothR (yGm.bothR (yGm.bothR (yGm.bothR (yGm.ft hFa)))) | exact yGm.bothR (yGm.bothR (yGm.bothR (yGm.bothR (yGm.bothR (yGm.ft hFa)))))) pl_ hrel
      have hx_ : q_x = yAd R1 90 (I 90 2).toInt.toNat := by rw [← em90_2]; exact e_x
      have hr4 : yR6 I1 R1 := ⟨rel5_lease (by omega) (by omega) (by omega) (by omega) (by omega) hx_ pn_ pf_0 pf_1 pf_5 hV.2.2.2.1.1.1.1.1.2 (by omega) S_, rel6_lease (by omega) (by omega) (by omega) rfl (by rw [y30p (by omega) (by omega)]; omega) hx_ pf_2 pf_3 (by rw [pf_4]; omega) pf_6 pf_7 (by omega) hV.2.2.2.1.1.1.1.2 (by omega) S_⟩
      have hL7_ : yLk I R R1 := fun l h1 h2 i hi => (pl_ l h1 h2 i (by rw [hFa.hi (show 83 ≤ l by omega)]; exact hi)).trans (yLk.out hV.2.2.1 l h1 h2 i hi)
      have tb_ := hV.2.2.1.g88 (by omega) hb_
      have hm7_ : yFm n tg I I1 := yFm.gm pg_ (by repeat first | exact yFm.ft hFa | exact yFm.rr | refine yFm.addC ?_ | refine yFm.shD ?_ | refine yFm.prD ?_ (by assumption) | refine yFm.lsD ?_ (by assumption) | refine yFm.up ?_ (by first | exact .inl (by decide) | exact .inr (by assumption)))
      have h94_ : 94 ≤ n := hV.1.1
      have h7_ : I1 83 7 = I 83 7 := (p8_.2 7 (by decide)).trans (yext em83_7)
      have hf7 : yF7 I1 R1 := hV.2.2.2.1.1.1.2.st hV.2.2.1 (by omega) h7_ (fun a h1 h2 => (a3.2.2.1 a (by omega)).trans (by rw [pa_4]; repeat first | rw [upd2_row (by omega)] | rw [yAddC_row (by omega)])) hL7_ hm7_
      have hr7 : yR7 I1 R1 := ⟨hr4, hf7⟩
      have hM8_ : yMn I I_a := hV.2.2.2.1.1.2.1.ia hFa
      have hmn_ : yMn I1 I1 := hV.2.2.2.1.1.2.1.p8 hFa (fun a ha => by rw [pa_4]; repeat first | rw [upd2_row (by omega)] | rw [yAddC_row (by omega)]) a3 p8_
      have n9b_ := hV.2.2.1.n9 (l := 88) (by decide) (by decide) (by omega) hb_
      have hvn_ : yVn I1 I1 R1 := hV.2.2.2.1.1.2.2.1.st hV.2.2.1 (by omega) (fun a h1 h2 => (a3.2.2.1 a (by omega)).trans (by rw [pa_4]; repeat first | rw [upd2_row (by omega)] | rw [yAddC_row (by omega)])) hL7_ (yVm.gm pg_ (by repeat first | exact yVm.ft hFa | exact yVm.rr | refine yVm.addC ?_ | refine yVm.shD ?_ | refine yVm.up ?_ (by first | exact .inl (by decide) | exact .inr (by assumption))))
      have hmb_ : yMb (K + 1) I1 := hV.2.2.2.1.1.2.2.2.cg (Nat.le_succ K) (congrFun ((a3.2.2.1 74 (by decide)).trans (by rw [pa_4]; repeat first | rw [upd2_row (by omega)] | rw [yAddC_row (by omega)])) 2) ((a3.2.2.1 76 (by decide)).trans (by rw [pa_4]; repeat first | rw [upd2_row (by omega)] | rw [yAddC_row (by omega)])) (by omega)
      have hr8 : yR8 (K + 1) I1 R1 := ⟨hr7, hmn_, hvn_, hmb_⟩
      have hp9_ : yP9 I1 R1 := hV.2.2.2.1.2.1.kp hV.2.2.1 hFa (yLk.out hV.2.2.1) (by rw [pa_4]; repeat first | rw [upd2_row (by omega)] | rw [yAddC_row (by omega)]) (by omega) a3
      have hpd_ : yPdd I1 := hV.2.2.2.1.2.2.st (by omega) ((a3.2.2.1 54 (by decide)).trans (by rw [pa_4]; repeat first | rw [upd2_row (by omega)] | rw [yAddC_row (by omega)])) ((a3.2.2.1 55 (by decide)).trans (by rw [pa_4]; repeat first | rw [upd2_row (by omega)] | rw [yAddC_row (by omega)]))
      have hr9 : yR9 (K + 1) I1 R1 := ⟨hr8, hp9_, hpd_⟩
      have hV := hV.two pa_0 (fun a ha => funext fun k => hFa a k (.inl ha)) a1 a2 a3 hr9
      have hS := hV.1
      refine y_ret1 ?_
      refine y_istore (ls' := [some _, some _, some _, some _, some _, some _, some _]) rfl rfl rfl ?_
      refine y_goto rfl j_L_law_1673 ?_
      refine y_fgt (ls := [some _, some _, some _, some _, some _, none, none]) ⟨rfl, rfl, rfl, rfl, rfl, trivial⟩ ?_
      exact hN _ _ _ _ _ _ hV (by omega) (by omega)
theorem lc_10 (hV : yInv K n tg I R ln) (hk6 : K < 600) {x4 : Int32} (hx0 : 0 ≤ x4.toInt) (hx1 : x4.toInt + 7 ≤ (ln : Int)) (hl : ln ≤ 3584) (hN : ∀ n1 tg1 I1 R1 c1 s1, yInv (K + 1) n1 tg1 I1 R1 ln → c1 ≤ c + 790 → s1 ≤ s + 15250 → yW xm_L_law xc_L_law_1673 [some (.ref 33), some (.ref 34), some (.ref 83), some (.ref 93), some (.int x4), none, none] [] (n1, tg1, I1, R1) c1 s1 Q) : yW xm_L_law xc_L_law_604 [some (.ref 33), some (.ref 34), some (.ref 83), some (.ref 93), some (.int x4), none, none] [] (n, tg, I, R) c s Q := by
  have hS := hV.1
  refine y_aload_n rfl rfl ?_
  refine y_aload_n rfl rfl ?_
  refine y_iload rfl rfl ?_
  refine y_iconst rfl ?_
  refine y_iadd rfl ?_
  refine y_iaload rfl hV.2.2.2.2.2 (ySh.n hV.1 rfl) (sc_at hx0 hx1 hl (by decide) (by decide)).1 (sc_at hx0 hx1 hl (by decide) (by decide)).2 ?_
  refine y_aload_n rfl rfl ?_
  refine y_iload rfl rfl ?_
  refine y_iconst rfl ?_
  refine y_iadd rfl ?_
  refine y_iaload rfl hV.2.2.2.2.2 (ySh.n hV.1 rfl) (sc_at hx0 hx1 hl (by decide) (by decide)).1 (sc_at hx0 hx1 hl (by decide) (by decide)).2 ?_
  refine y_if_eq rfl j_L_law_624 (fun g1_ => ?_) (fun g1_ => ?_)
  · refine y_iconst rfl ?_
    refine y_aload_n rfl rfl ?_
    refine y_static rfl rfl rfl rfl rfl ?_
    refine v_end hS hV.2.1 (end_prem hV.2.2.2.1.1.1.1.1.1) (fun hc_ => ?_) (fun hc_ => ?_) (fun hc_ v_a I_a pa_0 pa_1 pa_2 pa_3 pa_4 hBa R_a eR => ?_) (fun hc_ v_a I_a pa_0 pa_1 pa_2 pa_3 pa_4 hBa R_a eR => ?_)
    · have e33 : I 33 = I 33 := rfl
      refine y_ret1 ?_
      refine y_istore (ls' := [some _, some _, some _, some _, some _, some _, _]) rfl rfl rfl ?_
      refine y_aload_n rfl rfl ?_
      refine y_aload_n rfl rfl ?_
      refine y_iload rfl rfl ?_
      refine y_iconst rfl ?_
      refine y_iadd rfl ?_
      refine y_iaload rfl hV.2.2.2.2.2 (ySh.n hV.1 rfl) (sc_at hx0 hx1 hl (by decide) (by decide)).1 (sc_at hx0 hx1 hl (by decide) (by decide)).2 ?_
      rw [e33]
      refine y_aload_n rfl rfl ?_
      refine y_iload rfl rfl ?_
      refine y_iconst rfl ?_
      refine y_iadd rfl ?_
      refine y_iaload rfl hV.2.2.2.2.2 (ySh.n hV.1 rfl) (sc_at hx0 hx1 hl (by decide) (by decide)).1 (sc_at hx0 hx1 hl (by decide) (by decide)).2 ?_
      rw [e33]
      refine y_if_eq rfl j_L_law_651 (fun g2_ => ?_) (fun g2_ => ?_)
      · refine y_iconst rfl ?_
        refine y_virt rfl rfl rfl rfl rfl (ySh.t hS rfl) (ySh.n hS rfl) ?_
        obtain ⟨r1, r2, r3, r4, r5, r6, r7, r8⟩ := hV.2.2.2.1.1.1.1.1.1.1
        refine yC.keep3 [(18, 4, 83), (18, 1, 83), (18, 8, 83), (3, 2, 88), (3, 2, 91), (3, 2, 92), (3, 2, 89), (3, 2, 90)] [] rfl rfl rfl hS hV.2.2.1 ?_
        refine h_end hS hV.2.2.1 hk6  (fun hm_ v_b n1 tg1 I1 R1 c1 s1 a1 a2 a3 hth pg_ prf_ hc_b hs_b => ⟨a1, a3.2.1, fun hB_ h93_ hO_ hL_ => ?_⟩) (fun q_b e_b0 hm_ v_b n1 tg1 I1 R1 c1 s1 a1 a2 a3 hth pg_ prf_ hc_b hs_b => ⟨a1, a3.2.1, fun hB_ h93_ hO_ hL_ => ?_⟩) (fun q_b e_b0 hm_ v_b n1 tg1 I1 R1 c1 s1 a1 a2 a3 hth pv_ pg_ px_ hc_b hs_b => ⟨a1, a3.2.1, fun hB_ h93_ hO_ hL_ => ?_⟩) (fun q_b e_b0 q_d e_d1 hm_ v_b n1 tg1 I1 R1 c1 s1 a1 a2 a3 hth pv_ pg_ px_ hc_b hs_b => ⟨a1, a3.2.1, fun hB_ h93_ hO_ hL_ => ?_⟩)
        · have kc34_9 := congrArg Int32.toInt (congrFun (a3.2.2.1 34 (by decide)) 9)
          have kc34_8 := congrArg Int32.toInt (congrFun (a3.2.2.1 34 (by decide)) 8)
          have kc38_0 := congrArg Int32.toInt (congrFun (a3.2.2.1 38 (by decide)) 0)
          have kc40_0 := congrArg Int32.toInt (congrFun (a3.2.2.1 40 (by decide)) 0)
          have kc69_0 := congrArg Int32.toInt (congrFun (a3.2.2.1 69 (by decide)) 0)
          have kc77_0 := congrArg Int32.toInt (congrFun (a3.2.2.1 77 (by decide)) 0)
          have kc48_0 := congrArg Int32.toInt (congrFun (a3.2.2.1 48 (by decide)) 0)
          have kc59_0 := congrArg Int32.toInt (congrFun (a3.2.2.1 59 (by decide)) 0)
          have hB_ : yKeep _ _ I1 := hB_
          obtain ⟨mb0, mb1, mb2, mb3, mb4, mb5, mb6, mb7, -⟩ := hB_
          have mb0 := congrArg Int32.toInt mb0
          have mb1 := congrArg Int32.toInt mb1
          have mb2 := congrArg Int32.toInt mb2
          have mb3 := congrArg Int32.toInt mb3
          have mb4 := congrArg Int32.toInt mb4
          have mb5 := congrArg Int32.toInt mb5
          have mb6 := congrArg Int32.toInt mb6
          have mb7 := congrArg Int32.toInt mb7
          have hrel : yRl I1 := ⟨by omega, by omega, by omega, by omega, by omega, by omega, by omega, by omega⟩
          have hr4 : yR6 I1 R1 := yR6.two hV.2.2.2.1.1.1.1 yFu.rf hV.2.2.1 hV.2.2.2.1.1.1.1.1.1.2.1 yLk.rf a3 (yR4.ob hV.2.2.1 pg_) (yS5.ob hV.2.2.1 pg_) (yL6.ob hV.2.2.1 pg_) hL_ hrel (by omega) (by omega) (by omega) (by omega)
          have hf7 : yF7 I1 R1 := hV.2.2.2.1.1.1.2.rf hV.2.2.1 prf_
          have hr7 : yR7 I1 R1 := ⟨hr4, hf7⟩
          have hr9 : yR9 (K + 1) I1 R1 := hV.2.2.2.1.rf hr7 hV.2.2.1 prf_ (Nat.le_succ K)
          have hV := hV.two hV.2.1 (fun _ _ => rfl) a1 a2 a3 hr9
          have hS := hV.1
          refine y_ret1 ?_
          refine y_istore (ls' := [some _, some _, some _, some _, some _, some _, some _]) rfl rfl rfl ?_
          refine y_goto rfl j_L_law_1673 ?_
          refine y_fgt (ls := [some _, some _, some _, some _, some _, none, none]) ⟨rfl, rfl, rfl, rfl, rfl, trivial⟩ ?_
          exact hN _ _ _ _ _ _ hV (by omega) (by omega)
        · obtain ⟨h94b, t0, t1, t5⟩ := tie_le0 hV.2.2.2.1.1.1.1.1.1 hV.2.2.1 (by omega) e_b0
          try simp only [t0, t1, t5] at hm_
          exfalso; omega
        · obtain ⟨h94b, t0, t1, t5⟩ := tie_le0 hV.2.2.2.1.1.1.1.1.1 hV.2.2.1 (by omega) e_b0
          try simp only [t0, t1, t5] at hm_
          exfalso; omega
        · obtain ⟨h94b, t0, t1, t5⟩ := tie_le0 hV.2.2.2.1.1.1.1.1.1 hV.2.2.1 (by omega) e_b0
          try simp only [t0, t1, t5] at hm_
          try simp only [t0, t1, t5] at e_d1
          exfalso; omega
      · exfalso; omega
    · have e33 : I 33 = I 33 := rfl
      refine y_ret1 ?_
      refine y_istore (ls' := [some _, some _, some _, some _, some _, some _, _]) rfl rfl rfl ?_
      refine y_aload_n rfl rfl ?_
      refine y_aload_n rfl rfl ?_
      refine y_iload rfl rfl ?_
      refine y_iconst rfl ?_
      refine y_iadd rfl ?_
      refine y_iaload rfl hV.2.2.2.2.2 (ySh.n hV.1 rfl) (sc_at hx0 hx1 hl (by decide) (by decide)).1 (sc_at hx0 hx1 hl (by decide) (by decide)).2 ?_
      rw [e33]
      refine y_aload_n rfl rfl ?_
      refine y_iload rfl rfl ?_
      refine y_iconst rfl ?_
      refine y_iadd rfl ?_
      refine y_iaload rfl hV.2.2.2.2.2 (ySh.n hV.1 rfl) (sc_at hx0 hx1 hl (by decide) (by decide)).1 (sc_at hx0 hx1 hl (by decide) (by decide)).2 ?_
      rw [e33]
      refine y_if_eq rfl j_L_law_651 (fun g2_ => ?_) (fun g2_ => ?_)
      · refine y_iconst rfl ?_
        refine y_virt rfl rfl rfl rfl rfl (ySh.t hS rfl) (ySh.n hS rfl) ?_
        obtain ⟨r1, r2, r3, r4, r5, r6, r7, r8⟩ := hV.2.2.2.1.1.1.1.1.1.1
        refine yC.keep3 [(18, 4, 83), (18, 1, 83), (18, 8, 83), (3, 2, 88), (3, 2, 91), (3, 2, 92), (3, 2, 89), (3, 2, 90)] [] rfl rfl rfl hS hV.2.2.1 ?_
        refine h_end hS hV.2.2.1 hk6  (fun hm_ v_b n1 tg1 I1 R1 c1 s1 a1 a2 a3 hth pg_ prf_ hc_b hs_b => ⟨a1, a3.2.1, fun hB_ h93_ hO_ hL_ => ?_⟩) (fun q_b e_b0 hm_ v_b n1 tg1 I1 R1 c1 s1 a1 a2 a3 hth pg_ prf_ hc_b hs_b => ⟨a1, a3.2.1, fun hB_ h93_ hO_ hL_ => ?_⟩) (fun q_b e_b0 hm_ v_b n1 tg1 I1 R1 c1 s1 a1 a2 a3 hth pv_ pg_ px_ hc_b hs_b => ⟨a1, a3.2.1, fun hB_ h93_ hO_ hL_ => ?_⟩) (fun q_b e_b0 q_d e_d1 hm_ v_b n1 tg1 I1 R1 c1 s1 a1 a2 a3 hth pv_ pg_ px_ hc_b hs_b => ⟨a1, a3.2.1, fun hB_ h93_ hO_ hL_ => ?_⟩)
        · exfalso; omega
        · have kc34_9 := congrArg Int32.toInt (congrFun (a3.2.2.1 34 (by decide)) 9)
          have kc34_8 := congrArg Int32.toInt (congrFun (a3.2.2.1 34 (by decide)) 8)
          have kc38_0 := congrArg Int32.toInt (congrFun (a3.2.2.1 38 (by decide)) 0)
          have kc40_0 := congrArg Int32.toInt (congrFun (a3.2.2.1 40 (by decide)) 0)
          have kc69_0 := congrArg Int32.toInt (congrFun (a3.2.2.1 69 (by decide)) 0)
          have kc77_0 := congrArg Int32.toInt (congrFun (a3.2.2.1 77 (by decide)) 0)
          have kc48_0 := congrArg Int32.toInt (congrFun (a3.2.2.1 48 (by decide)) 0)
          have kc59_0 := congrArg Int32.toInt (congrFun (a3.2.2.1 59 (by decide)) 0)
          have hB_ : yKeep _ _ I1 := hB_
          obtain ⟨mb0, mb1, mb2, mb3, mb4, mb5, mb6, mb7, -⟩ := hB_
          have mb0 := congrArg Int32.toInt mb0
          have mb1 := congrArg Int32.toInt mb1
          have mb2 := congrArg Int32.toInt mb2
          have mb3 := congrArg Int32.toInt mb3
          have mb4 := congrArg Int32.toInt mb4
          have mb5 := congrArg Int32.toInt mb5
          have mb6 := congrArg Int32.toInt mb6
          have mb7 := congrArg Int32.toInt mb7
          obtain ⟨h94b, t0, t1, t5⟩ := tie_le0 hV.2.2.2.1.1.1.1.1.1 hV.2.2.1 (by omega) e_b0
          try simp only [t0, t1, t5] at hm_
          have hrel : yRl I1 := ⟨by omega, by omega, by omega, by omega, by omega, by omega, by omega, by omega⟩
          have hr4 : yR6 I1 R1 := yR6.two hV.2.2.2.1.1.1.1 yFu.rf hV.2.2.1 hV.2.2.2.1.1.1.1.1.1.2.1 yLk.rf a3 (yR4.ob hV.2.2.1 pg_) (yS5.ob hV.2.2.1 pg_) (yL6.ob hV.2.2.1 pg_) hL_ hrel (by omega) (by omega) (by omega) (by omega)
          have hf7 : yF7 I1 R1 := hV.2.2.2.1.1.1.2.rf hV.2.2.1 prf_
          have hr7 : yR7 I1 R1 := ⟨hr4, hf7⟩
          have hr9 : yR9 (K + 1) I1 R1 := hV.2.2.2.1.rf hr7 hV.2.2.1 prf_ (Nat.le_succ K)
          have hV := hV.two hV.2.1 (fun _ _ => rfl) a1 a2 a3 hr9
          have hS := hV.1
          refine y_ret1 ?_
          refine y_istore (ls' := [some _, some _, some _, some _, some _, some _, some _]) rfl rfl rfl ?_
          refine y_goto rfl j_L_law_1673 ?_
          refine y_fgt (ls := [some _, some _, some _, some _, some _, none, none]) ⟨rfl, rfl, rfl, rfl, rfl, trivial⟩ ?_
          exact hN _ _ _ _ _ _ hV (by omega) (by omega)
        · obtain ⟨h94b, t0, t1, t5⟩ := tie_le0 hV.2.2.2.1.1.1.1.1.1 hV.2.2.1 (by omega) e_b0
          try simp only [t0, t1, t5] at hm_
          exfalso; omega
        · obtain ⟨h94b, t0, t1, t5⟩ := tie_le0 hV.2.2.2.1.1.1.1.1.1 hV.2.2.1 (by omega) e_b0
          try simp only [t0, t1, t5] at hm_
          try simp only [t0, t1, t5] at e_d1
          exfalso; omega
      · exfalso; omega
    · have hFa : yFt I I_a := pa_1
      have e33 : I_a 33 = I 33 := funext fun k => hFa 33 k (.inl (by decide))
      have hS : ySh n tg R_a := by rw [eR]; exact hS.out
      have hRa : yRI K n tg I_a R_a := (hV.2.2.1.ft hFa).outR (fun a ha => by rw [eR]; exact upd2_row ha)
      refine y_ret1 ?_
      refine y_istore (ls' := [some _, some _, some _, some _, some _, some _, _]) rfl rfl rfl ?_
      refine y_aload_n rfl rfl ?_
      refine y_aload_n rfl rfl ?_
      refine y_iload rfl rfl ?_
      refine y_iconst rfl ?_
      refine y_iadd rfl ?_
      refine y_iaload rfl hV.2.2.2.2.2 (ySh.n hV.1 rfl) (sc_at hx0 hx1 hl (by decide) (by decide)).1 (sc_at hx0 hx1 hl (by decide) (by decide)).2 ?_
      rw [e33]
      refine y_aload_n rfl rfl ?_
      refine y_iload rfl rfl ?_
      refine y_iconst rfl ?_
      refine y_iadd rfl ?_
      refine y_iaload rfl hV.2.2.2.2.2 (ySh.n hV.1 rfl) (sc_at hx0 hx1 hl (by decide) (by decide)).1 (sc_at hx0 hx1 hl (by decide) (by decide)).2 ?_
      rw [e33]
      refine y_if_eq rfl j_L_law_651 (fun g2_ => ?_) (fun g2_ => ?_)
      · refine y_iconst rfl ?_
        refine y_virt rfl rfl rfl rfl rfl (ySh.t hS rfl) (ySh.n hS rfl) ?_
        obtain ⟨r1, r2, r3, r4, r5, r6, r7, r8⟩ := hV.2.2.2.1.1.1.1.1.1.1
        have eM : ∀ l k, 83 ≤ l → (I_a l k).toInt = (I l k).toInt := fun l k hl => congrArg Int32.toInt (hFa l k (.inr (.inl hl)))
        have em83_4 := eM 83 4 (by decide)
        have em83_1 := eM 83 1 (by decide)
        have em83_8 := eM 83 8 (by decide)
        have em88_2 := eM 88 2 (by decide)
        have em91_2 := eM 91 2 (by decide)
        have em92_2 := eM 92 2 (by decide)
        have em89_2 := eM 89 2 (by decide)
        have em90_2 := eM 90 2 (by decide)
        have em83_7 := eM 83 7 (by decide)
        obtain ⟨kb0, kb1, kb2, kb3, kb4, kb5, kb6, kb7, -⟩ := hBa
        have kb0 := congrArg Int32.toInt kb0
        have kb1 := congrArg Int32.toInt kb1
        have kb2 := congrArg Int32.toInt kb2
        have kb3 := congrArg Int32.toInt kb3
        have kb4 := congrArg Int32.toInt kb4
        have kb5 := congrArg Int32.toInt kb5
        have kb6 := congrArg Int32.toInt kb6
        have kb7 := congrArg Int32.toInt kb7
        refine yC.keep3 [(18, 4, 83), (18, 1, 83), (18, 8, 83), (3, 2, 88), (3, 2, 91), (3, 2, 92), (3, 2, 89), (3, 2, 90)] [] rfl rfl rfl hS hRa ?_
        refine h_end hS hRa hk6  (fun hm_ v_b n1 tg1 I1 R1 c1 s1 a1 a2 a3 hth pg_ prf_ hc_b hs_b => ⟨a1, a3.2.1, fun hB_ h93_ hO_ hL_ => ?_⟩) (fun q_b e_b0 hm_ v_b n1 tg1 I1 R1 c1 s1 a1 a2 a3 hth pg_ prf_ hc_b hs_b => ⟨a1, a3.2.1, fun hB_ h93_ hO_ hL_ => ?_⟩) (fun q_b e_b0 hm_ v_b n1 tg1 I1 R1 c1 s1 a1 a2 a3 hth pv_ pg_ px_ hc_b hs_b => ⟨a1, a3.2.1, fun hB_ h93_ hO_ hL_ => ?_⟩) (fun q_b e_b0 q_d e_d1 hm_ v_b n1 tg1 I1 R1 c1 s1 a1 a2 a3 hth pv_ pg_ px_ hc_b hs_b => ⟨a1, a3.2.1, fun hB_ h93_ hO_ hL_ => ?_⟩)
        · subst eR
          exfalso; omega
        · subst eR
          obtain ⟨⟨hb_, eb_⟩, h94b, t0, t1, t5⟩ := tie_le1 hV.2.2.2.1.1.1.1.1.1 hV.2.2.1 hFa (by omega) e_b0
          try simp only [eb_, t0, t1, t5] at hm_
          exfalso; omega
        · have kc34_9 := congrArg Int32.toInt (congrFun (a3.2.2.1 34 (by decide)) 9)
          have kc34_8 := congrArg Int32.toInt (congrFun (a3.2.2.1 34 (by decide)) 8)
          have kc38_0 := congrArg Int32.toInt (congrFun (a3.2.2.1 38 (by decide)) 0)
          have kc40_0 := congrArg Int32.toInt (congrFun (a3.2.2.1 40 (by decide)) 0)
          have kc69_0 := congrArg Int32.toInt (congrFun (a3.2.2.1 69 (by decide)) 0)
          have kc77_0 := congrArg Int32.toInt (congrFun (a3.2.2.1 77 (by decide)) 0)
          have kc48_0 := congrArg Int32.toInt (congrFun (a3.2.2.1 48 (by decide)) 0)
          have kc59_0 := congrArg Int32.toInt (congrFun (a3.2.2.1 59 (by decide)) 0)
          have hB_ : yKeep _ _ I1 := hB_
          obtain ⟨mb0, mb1, mb2, mb3, mb4, mb5, mb6, mb7, -⟩ := hB_
          have mb0 := congrArg Int32.toInt mb0
          have mb1 := congrArg Int32.toInt mb1
          have mb2 := congrArg Int32.toInt mb2
          have mb3 := congrArg Int32.toInt mb3
          have mb4 := congrArg Int32.toInt mb4
          have mb5 := congrArg Int32.toInt mb5
          have mb6 := congrArg Int32.toInt mb6
          have mb7 := congrArg Int32.toInt mb7
          subst eR
          obtain ⟨⟨hb_, eb_⟩, h94b, t0, t1, t5⟩ := tie_le1 hV.2.2.2.1.1.1.1.1.1 hV.2.2.1 hFa (by omega) e_b0
          try simp only [eb_, t0, t1, t5] at hm_
          have hrel : yRl I1 := ⟨by omega, by omega, by omega, by omega, by omega, by omega, by omega, by omega⟩
          try simp only [eb_] at pg_
          have hc40_ := hV.2.1.2.1
          have hc48_ := hV.2.1.2.2.1
          have hc59_ := hV.2.1.2.2.2.1
          have S_ := yStp.mk hV.2.2.2.1.1.1.1.1.1 hV.2.2.1 hFa pa_3 a3 pg_ (by first | exact yGm.ft hFa | exact yGm.bothR (yGm.ft hFa) | exact yGm.bothR (yGm.bothR (yGm.ft hFa)) | exact yGm.bothR (yGm.bothR (yGm.bothR (yGm.ft hFa))) | exact yGm.bothR (yGm.bothR (yGm.bothR (yGm.bothR (yGm.ft hFa)))) | exact yGm.bothR (yGm.bothR (yGm.bothR (yGm.bothR (yGm.bothR (yGm.ft hFa)))))) hL_ hrel
          have hr4 : yR6 I1 R1 := ⟨rel5_endA (by omega) (by omega) rfl hb_ hV.2.2.2.1.1.1.1.1.2 (by omega) S_, rel6_endA (by omega) (by omega) rfl hb_ (by omega) hV.2.2.2.1.1.1.1.2 (by omega) S_⟩
          have hL7_ : yLk I R R1 := fun l h1 h2 i hi => (hL_ l h1 h2 i (by rw [hFa.hi (show 83 ≤ l by omega)]; exact hi)).trans (yLk.out hV.2.2.1 l h1 h2 i hi)
          have tb_ := hV.2.2.1.g90 (by omega) hb_
          have hm7_ : yFm n tg I I1 := yFm.gm pg_ (by repeat first | exact yFm.ft hFa | exact yFm.rr | refine yFm.addC ?_ | refine yFm.shD ?_ | refine yFm.prD ?_ (by assumption) | refine yFm.lsD ?_ (by assumption) | refine yFm.up ?_ (by first | exact .inl (by decide) | exact .inr (by assumption)))
          have h94_ : 94 ≤ n := hV.1.1
          have h7_ : I1 83 7 = I 83 7 := (congrFun (px_.n (show 83 < n by omega)) 7).trans (by repeat first | exact rfl | exact yext em83_7 | refine k7addC ?_ | refine k7shD ?_ | refine k7prD ?_ (by omega) | refine k7lsD ?_ (by omega) | refine k7up ?_ (by first | exact .inr (by decide) | exact .inl (by decide) | exact .inl (by omega)))
          have hf7 : yF7 I1 R1 := hV.2.2.2.1.1.1.2.st hV.2.2.1 (by omega) h7_ (fun a h1 h2 => (a3.2.2.1 a (by omega)).trans (by rw [pa_4]; repeat first | rw [upd2_row (by omega)] | rw [yAddC_row (by omega)])) hL7_ hm7_
          have hr7 : yR7 I1 R1 := ⟨hr4, hf7⟩
          have hM8_ : yMn I I_a := hV.2.2.2.1.1.2.1.ia hFa
          have hQ8_ : yMn I_a I_a := hM8_.cC (fun a ha => by rw [pa_4]; repeat first | rw [upd2_row (by omega)] | rw [yAddC_row (by omega)])
          have hmn_ : yMn I1 I1 := yMn.px (by repeat first | exact hQ8_ | refine yMn.upM ?_ (by first | exact .inr (by decide) | exact .inl (by omega))) a3 px_ h94_
          have n9b_ := hV.2.2.1.n9 (l := 90) (by decide) (by decide) (by omega) hb_
          have hvn_ : yVn I1 I1 R1 := hV.2.2.2.1.1.2.2.1.st hV.2.2.1 (by omega) (fun a h1 h2 => (a3.2.2.1 a (by omega)).trans (by rw [pa_4]; repeat first | rw [upd2_row (by omega)] | rw [yAddC_row (by omega)])) hL7_ (yVm.x px_ (by repeat first | exact yVm.ft hFa | exact yVm.rr | refine yVm.addC ?_ | refine yVm.shD ?_ | refine yVm.up ?_ (by first | exact .inl (by decide) | exact .inr (by assumption))))
          have hmb_ : yMb (K + 1) I1 := hV.2.2.2.1.1.2.2.2.cg (Nat.le_succ K) (congrFun ((a3.2.2.1 74 (by decide)).trans (by rw [pa_4]; repeat first | rw [upd2_row (by omega)] | rw [yAddC_row (by omega)])) 2) ((a3.2.2.1 76 (by decide)).trans (by rw [pa_4]; repeat first | rw [upd2_row (by omega)] | rw [yAddC_row (by omega)])) (by omega)
          have hr8 : yR8 (K + 1) I1 R1 := ⟨hr7, hmn_, hvn_, hmb_⟩
          have hp9_ : yP9 I1 R1 := hV.2.2.2.1.2.1.kp hV.2.2.1 hFa (yLk.out hV.2.2.1) (by rw [pa_4]; repeat first | rw [upd2_row (by omega)] | rw [yAddC_row (by omega)]) (by omega) a3
          have hpd_ : yPdd I1 := hV.2.2.2.1.2.2.st (by omega) ((a3.2.2.1 54 (by decide)).trans (by rw [pa_4]; repeat first | rw [upd2_row (by omega)] | rw [yAddC_row (by omega)])) ((a3.2.2.1 55 (by decide)).trans (by rw [pa_4]; repeat first | rw [upd2_row (by omega)] | rw [yAddC_row (by omega)]))
          have hr9 : yR9 (K + 1) I1 R1 := ⟨hr8, hp9_, hpd_⟩
          have hV := hV.two pa_0 (fun a ha => funext fun k => hFa a k (.inl ha)) a1 a2 a3 hr9
          have hS := hV.1
          refine y_ret1 ?_
          refine y_istore (ls' := [some _, some _, some _, some _, some _, some _, some _]) rfl rfl rfl ?_
          refine y_goto rfl j_L_law_1673 ?_
          refine y_fgt (ls := [some _, some _, some _, some _, some _, none, none]) ⟨rfl, rfl, rfl, rfl, rfl, trivial⟩ ?_
          exact hN _ _ _ _ _ _ hV (by omega) (by omega)
        · subst eR
          obtain ⟨⟨hb_, eb_⟩, h94b, t0, t1, t5⟩ := tie_le1 hV.2.2.2.1.1.1.1.1.1 hV.2.2.1 hFa (by omega) e_b0
          try simp only [eb_, t0, t1, t5] at hm_
          try simp only [eb_, t0, t1, t5] at e_d1
          exfalso; omega
      · exfalso; omega
    · have hFa : yFt I I_a := pa_1
      have e33 : I_a 33 = I 33 := funext fun k => hFa 33 k (.inl (by decide))
      have hS : ySh n tg R_a := by rw [eR]; exact hS.out
      have hRa : yRI K n tg I_a R_a := (hV.2.2.1.ft hFa).outR (fun a ha => by rw [eR]; exact upd2_row ha)
      refine y_ret1 ?_
      refine y_istore (ls' := [some _, some _, some _, some _, some _, some _, _]) rfl rfl rfl ?_
      refine y_aload_n rfl rfl ?_
      refine y_aload_n rfl rfl ?_
      refine y_iload rfl rfl ?_
      refine y_iconst rfl ?_
      refine y_iadd rfl ?_
      refine y_iaload rfl hV.2.2.2.2.2 (ySh.n hV.1 rfl) (sc_at hx0 hx1 hl (by decide) (by decide)).1 (sc_at hx0 hx1 hl (by decide) (by decide)).2 ?_
      rw [e33]
      refine y_aload_n rfl rfl ?_
      refine y_iload rfl rfl ?_
      refine y_iconst rfl ?_
      refine y_iadd rfl ?_
      refine y_iaload rfl hV.2.2.2.2.2 (ySh.n hV.1 rfl) (sc_at hx0 hx1 hl (by decide) (by decide)).1 (sc_at hx0 hx1 hl (by decide) (by decide)).2 ?_
      rw [e33]
      refine y_if_eq rfl j_L_law_651 (fun g2_ => ?_) (fun g2_ => ?_)
      · refine y_iconst rfl ?_
        refine y_virt rfl rfl rfl rfl rfl (ySh.t hS rfl) (ySh.n hS rfl) ?_
        obtain ⟨r1, r2, r3, r4, r5, r6, r7, r8⟩ := hV.2.2.2.1.1.1.1.1.1.1
        have eM : ∀ l k, 83 ≤ l → (I_a l k).toInt = (I l k).toInt := fun l k hl => congrArg Int32.toInt (hFa l k (.inr (.inl hl)))
        have em83_4 := eM 83 4 (by decide)
        have em83_1 := eM 83 1 (by decide)
        have em83_8 := eM 83 8 (by decide)
        have em88_2 := eM 88 2 (by decide)
        have em91_2 := eM 91 2 (by decide)
        have em92_2 := eM 92 2 (by decide)
        have em89_2 := eM 89 2 (by decide)
        have em90_2 := eM 90 2 (by decide)
        have em83_7 := eM 83 7 (by decide)
        obtain ⟨kb0, kb1, kb2, kb3, kb4, kb5, kb6, kb7, -⟩ := hBa
        have kb0 := congrArg Int32.toInt kb0
        have kb1 := congrArg Int32.toInt kb1
        have kb2 := congrArg Int32.toInt kb2
        have kb3 := congrArg Int32.toInt kb3
        have kb4 := congrArg Int32.toInt kb4
        have kb5 := congrArg Int32.toInt kb5
        have kb6 := congrArg Int32.toInt kb6
        have kb7 := congrArg Int32.toInt kb7
        refine yC.keep3 [(18, 4, 83), (18, 1, 83), (18, 8, 83), (3, 2, 88), (3, 2, 91), (3, 2, 92), (3, 2, 89), (3, 2, 90)] [] rfl rfl rfl hS hRa ?_
        refine h_end hS hRa hk6  (fun hm_ v_b n1 tg1 I1 R1 c1 s1 a1 a2 a3 hth pg_ prf_ hc_b hs_b => ⟨a1, a3.2.1, fun hB_ h93_ hO_ hL_ => ?_⟩) (fun q_b e_b0 hm_ v_b n1 tg1 I1 R1 c1 s1 a1 a2 a3 hth pg_ prf_ hc_b hs_b => ⟨a1, a3.2.1, fun hB_ h93_ hO_ hL_ => ?_⟩) (fun q_b e_b0 hm_ v_b n1 tg1 I1 R1 c1 s1 a1 a2 a3 hth pv_ pg_ px_ hc_b hs_b => ⟨a1, a3.2.1, fun hB_ h93_ hO_ hL_ => ?_⟩) (fun q_b e_b0 q_d e_d1 hm_ v_b n1 tg1 I1 R1 c1 s1 a1 a2 a3 hth pv_ pg_ px_ hc_b hs_b => ⟨a1, a3.2.1, fun hB_ h93_ hO_ hL_ => ?_⟩)
        · subst eR
          exfalso; omega
        · subst eR
          obtain ⟨⟨hb_, eb_⟩, h94b, t0, t1, t5⟩ := tie_le1 hV.2.2.2.1.1.1.1.1.1 hV.2.2.1 hFa (by omega) e_b0
          try simp only [eb_, t0, t1, t5] at hm_
          exfalso; omega
        · subst eR
          obtain ⟨⟨hb_, eb_⟩, h94b, t0, t1, t5⟩ := tie_le1 hV.2.2.2.1.1.1.1.1.1 hV.2.2.1 hFa (by omega) e_b0
          try simp only [eb_, t0, t1, t5] at hm_
          exfalso; omega
        · have kc34_9 := congrArg Int32.toInt (congrFun (a3.2.2.1 34 (by decide)) 9)
          have kc34_8 := congrArg Int32.toInt (congrFun (a3.2.2.1 34 (by decide)) 8)
          have kc38_0 := congrArg Int32.toInt (congrFun (a3.2.2.1 38 (by decide)) 0)
          have kc40_0 := congrArg Int32.toInt (congrFun (a3.2.2.1 40 (by decide)) 0)
          have kc69_0 := congrArg Int32.toInt (congrFun (a3.2.2.1 69 (by decide)) 0)
          have kc77_0 := congrArg Int32.toInt (congrFun (a3.2.2.1 77 (by decide)) 0)
          have kc48_0 := congrArg Int32.toInt (congrFun (a3.2.2.1 48 (by decide)) 0)
          have kc59_0 := congrArg Int32.toInt (congrFun (a3.2.2.1 59 (by decide)) 0)
          have hB_ : yKeep _ _ I1 := hB_
          obtain ⟨mb0, mb1, mb2, mb3, mb4, mb5, mb6, mb7, -⟩ := hB_
          have mb0 := congrArg Int32.toInt mb0
          have mb1 := congrArg Int32.toInt mb1
          have mb2 := congrArg Int32.toInt mb2
          have mb3 := congrArg Int32.toInt mb3
          have mb4 := congrArg Int32.toInt mb4
          have mb5 := congrArg Int32.toInt mb5
          have mb6 := congrArg Int32.toInt mb6
          have mb7 := congrArg Int32.toInt mb7
          subst eR
          obtain ⟨⟨hb_, eb_⟩, h94b, t0, t1, t5⟩ := tie_le1 hV.2.2.2.1.1.1.1.1.1 hV.2.2.1 hFa (by omega) e_b0
          try simp only [eb_, t0, t1, t5] at hm_
          try simp only [eb_, t0, t1, t5] at e_d1
          have hrel : yRl I1 := ⟨by omega, by omega, by omega, by omega, by omega, by omega, by omega, by omega⟩
          try simp only [eb_] at pg_
          have hc40_ := hV.2.1.2.1
          have hc48_ := hV.2.1.2.2.1
          have hc59_ := hV.2.1.2.2.2.1
          have S_ := yStp.mk hV.2.2.2.1.1.1.1.1.1 hV.2.2.1 hFa pa_3 a3 pg_ (by first | exact yGm.ft hFa | exact yGm.bothR (yGm.ft hFa) | exact yGm.bothR (yGm.bothR (yGm.ft hFa)) | exact yGm.bothR (yGm.bothR (yGm.bothR (yGm.ft hFa))) | exact yGm.bothR (yGm.bothR (yGm.bothR (yGm.bothR (yGm.ft hFa)))) | exact yGm.bothR (yGm.bothR (yGm.bothR (yGm.bothR (yGm.bothR (yGm.ft hFa)))))) hL_ hrel
          have hep := end_prem hV.2.2.2.1.1.1.1.1.1 (x1 := (I 33 (x4 + Int32.ofInt 1).toInt.toNat)) (by omega)
          have hd_ : q_d = yAd R 88 (I 60 (I 33 (x4 + Int32.ofInt 1).toInt.toNat).toInt.toNat).toInt.toNat := e_d1.trans (yLk.out hV.2.2.1 88 (by decide) (by decide) _ (by omega))
          have hr4 : yR6 I1 R1 := ⟨rel5_endB (by omega) (by omega) rfl hb_ hd_ hV.2.2.2.1.1.1.1.1.2 (by omega) S_, rel6_endB (by omega) (by omega) rfl hb_ hd_ (by omega) hV.2.2.2.1.1.1.1.2 (by omega) S_⟩
          have hL7_ : yLk I R R1 := fun l h1 h2 i hi => (hL_ l h1 h2 i (by rw [hFa.hi (show 83 ≤ l by omega)]; exact hi)).trans (yLk.out hV.2.2.1 l h1 h2 i hi)
          have tb_ := hV.2.2.1.g90 (by omega) hb_
          have td_ := hV.2.2.1.g88 (by omega) hd_
          have hm7_ : yFm n tg I I1 := yFm.gm pg_ (by repeat first | exact yFm.ft hFa | exact yFm.rr | refine yFm.addC ?_ | refine yFm.shD ?_ | refine yFm.prD ?_ (by assumption) | refine yFm.lsD ?_ (by assumption) | refine yFm.up ?_ (by first | exact .inl (by decide) | exact .inr (by assumption)))
          have ld_ := hV.2.2.1.lo (l := 88) (by decide) (by decide) (by omega) hd_
          have h94_ : 94 ≤ n := hV.1.1
          have h7_ : I1 83 7 = I 83 7 := (congrFun (px_.n (show 83 < n by omega)) 7).trans (by repeat first | exact rfl | exact yext em83_7 | refine k7addC ?_ | refine k7shD ?_ | refine k7prD ?_ (by omega) | refine k7lsD ?_ (by omega) | refine k7up ?_ (by first | exact .inr (by decide) | exact .inl (by decide) | exact .inl (by omega)))
          have hf7 : yF7 I1 R1 := hV.2.2.2.1.1.1.2.st hV.2.2.1 (by omega) h7_ (fun a h1 h2 => (a3.2.2.1 a (by omega)).trans (by rw [pa_4]; repeat first | rw [upd2_row (by omega)] | rw [yAddC_row (by omega)])) hL7_ hm7_
          have hr7 : yR7 I1 R1 := ⟨hr4, hf7⟩
          have hM8_ : yMn I I_a := hV.2.2.2.1.1.2.1.ia hFa
          have hQ8_ : yMn I_a I_a := hM8_.cC (fun a ha => by rw [pa_4]; repeat first | rw [upd2_row (by omega)] | rw [yAddC_row (by omega)])
          have hmn_ : yMn I1 I1 := yMn.px (by repeat first | exact hQ8_ | refine yMn.upM ?_ (by first | exact .inr (by decide) | exact .inl (by omega))) a3 px_ h94_
          have n9b_ := hV.2.2.1.n9 (l := 90) (by decide) (by decide) (by omega) hb_
          have n9d_ := hV.2.2.1.n9 (l := 88) (by decide) (by decide) (by omega) hd_
          have hvn_ : yVn I1 I1 R1 := hV.2.2.2.1.1.2.2.1.st hV.2.2.1 (by omega) (fun a h1 h2 => (a3.2.2.1 a (by omega)).trans (by rw [pa_4]; repeat first | rw [upd2_row (by omega)] | rw [yAddC_row (by omega)])) hL7_ (yVm.x px_ (by repeat first | exact yVm.ft hFa | exact yVm.rr | refine yVm.addC ?_ | refine yVm.shD ?_ | refine yVm.up ?_ (by first | exact .inl (by decide) | exact .inr (by assumption))))
          have hmb_ : yMb (K + 1) I1 := hV.2.2.2.1.1.2.2.2.cg (Nat.le_succ K) (congrFun ((a3.2.2.1 74 (by decide)).trans (by rw [pa_4]; repeat first | rw [upd2_row (by omega)] | rw [yAddC_row (by omega)])) 2) ((a3.2.2.1 76 (by decide)).trans (by rw [pa_4]; repeat first | rw [upd2_row (by omega)] | rw [yAddC_row (by omega)])) (by omega)
          have hr8 : yR8 (K + 1) I1 R1 := ⟨hr7, hmn_, hvn_, hmb_⟩
          have hp9_ : yP9 I1 R1 := hV.2.2.2.1.2.1.kp hV.2.2.1 hFa (yLk.out hV.2.2.1) (by rw [pa_4]; repeat first | rw [upd2_row (by omega)] | rw [yAddC_row (by omega)]) (by omega) a3
          have hpd_ : yPdd I1 := hV.2.2.2.1.2.2.st (by omega) ((a3.2.2.1 54 (by decide)).trans (by rw [pa_4]; repeat first | rw [upd2_row (by omega)] | rw [yAddC_row (by omega)])) ((a3.2.2.1 55 (by decide)).trans (by rw [pa_4]; repeat first | rw [upd2_row (by omega)] | rw [yAddC_row (by omega)]))
          have hr9 : yR9 (K + 1) I1 R1 := ⟨hr8, hp9_, hpd_⟩
          have hV := hV.two pa_0 (fun a ha => funext fun k => hFa a k (.inl ha)) a1 a2 a3 hr9
          have hS := hV.1
          refine y_ret1 ?_
          refine y_istore (ls' := [some _, some _, some _, some _, some _, some _, some _]) rfl rfl rfl ?_
          refine y_goto rfl j_L_law_1673 ?_
          refine y_fgt (ls := [some _, some _, some _, some _, some _, none, none]) ⟨rfl, rfl, rfl, rfl, rfl, trivial⟩ ?_
          exact hN _ _ _ _ _ _ hV (by omega) (by omega)
      · exfalso; omega
  · refine y_iconst rfl ?_
    refine y_goto rfl j_L_law_625 ?_
    refine y_aload_n rfl rfl ?_
    refine y_static rfl rfl rfl rfl rfl ?_
    refine v_end hS hV.2.1 (end_prem hV.2.2.2.1.1.1.1.1.1) (fun hc_ => ?_) (fun hc_ => ?_) (fun hc_ v_a I_a pa_0 pa_1 pa_2 pa_3 pa_4 hBa R_a eR => ?_) (fun hc_ v_a I_a pa_0 pa_1 pa_2 pa_3 pa_4 hBa R_a eR => ?_)
    · have e33 : I 33 = I 33 := rfl
      refine y_ret1 ?_
      refine y_istore (ls' := [some _, some _, some _, some _, some _, some _, _]) rfl rfl rfl ?_
      refine y_aload_n rfl rfl ?_
      refine y_aload_n rfl rfl ?_
      refine y_iload rfl rfl ?_
      refine y_iconst rfl ?_
      refine y_iadd rfl ?_
      refine y_iaload rfl hV.2.2.2.2.2 (ySh.n hV.1 rfl) (sc_at hx0 hx1 hl (by decide) (by decide)).1 (sc_at hx0 hx1 hl (by decide) (by decide)).2 ?_
      rw [e33]
      refine y_aload_n rfl rfl ?_
      refine y_iload rfl rfl ?_
      refine y_iconst rfl ?_
      refine y_iadd rfl ?_
      refine y_iaload rfl hV.2.2.2.2.2 (ySh.n hV.1 rfl) (sc_at hx0 hx1 hl (by decide) (by decide)).1 (sc_at hx0 hx1 hl (by decide) (by decide)).2 ?_
      rw [e33]
      refine y_if_eq rfl j_L_law_651 (fun g2_ => ?_) (fun g2_ => ?_)
      · exfalso; omega
      · refine y_iconst rfl ?_
        refine y_goto rfl j_L_law_652 ?_
        refine y_virt rfl rfl rfl rfl rfl (ySh.t hS rfl) (ySh.n hS rfl) ?_
        obtain ⟨r1, r2, r3, r4, r5, r6, r7, r8⟩ := hV.2.2.2.1.1.1.1.1.1.1
        refine yC.keep3 [(18, 4, 83), (18, 1, 83), (18, 8, 83), (3, 2, 88), (3, 2, 91), (3, 2, 92), (3, 2, 89), (3, 2, 90)] [] rfl rfl rfl hS hV.2.2.1 ?_
        refine h_end hS hV.2.2.1 hk6  (fun hm_ v_b n1 tg1 I1 R1 c1 s1 a1 a2 a3 hth pg_ prf_ hc_b hs_b => ⟨a1, a3.2.1, fun hB_ h93_ hO_ hL_ => ?_⟩) (fun q_b e_b0 hm_ v_b n1 tg1 I1 R1 c1 s1 a1 a2 a3 hth pg_ prf_ hc_b hs_b => ⟨a1, a3.2.1, fun hB_ h93_ hO_ hL_ => ?_⟩) (fun q_b e_b0 hm_ v_b n1 tg1 I1 R1 c1 s1 a1 a2 a3 hth pv_ pg_ px_ hc_b hs_b => ⟨a1, a3.2.1, fun hB_ h93_ hO_ hL_ => ?_⟩) (fun q_b e_b0 q_d e_d1 hm_ v_b n1 tg1 I1 R1 c1 s1 a1 a2 a3 hth pv_ pg_ px_ hc_b hs_b => ⟨a1, a3.2.1, fun hB_ h93_ hO_ hL_ => ?_⟩)
        · have kc34_9 := congrArg Int32.toInt (congrFun (a3.2.2.1 34 (by decide)) 9)
          have kc34_8 := congrArg Int32.toInt (congrFun (a3.2.2.1 34 (by decide)) 8)
          have kc38_0 := congrArg Int32.toInt (congrFun (a3.2.2.1 38 (by decide)) 0)
          have kc40_0 := congrArg Int32.toInt (congrFun (a3.2.2.1 40 (by decide)) 0)
          have kc69_0 := congrArg Int32.toInt (congrFun (a3.2.2.1 69 (by decide)) 0)
          have kc77_0 := congrArg Int32.toInt (congrFun (a3.2.2.1 77 (by decide)) 0)
          have kc48_0 := congrArg Int32.toInt (congrFun (a3.2.2.1 48 (by decide)) 0)
          have kc59_0 := congrArg Int32.toInt (congrFun (a3.2.2.1 59 (by decide)) 0)
          have hB_ : yKeep _ _ I1 := hB_
          obtain ⟨mb0, mb1, mb2, mb3, mb4, mb5, mb6, mb7, -⟩ := hB_
          have mb0 := congrArg Int32.toInt mb0
          have mb1 := congrArg Int32.toInt mb1
          have mb2 := congrArg Int32.toInt mb2
          have mb3 := congrArg Int32.toInt mb3
          have mb4 := congrArg Int32.toInt mb4
          have mb5 := congrArg Int32.toInt mb5
          have mb6 := congrArg Int32.toInt mb6
          have mb7 := congrArg Int32.toInt mb7
          have hrel : yRl I1 := ⟨by omega, by omega, by omega, by omega, by omega, by omega, by omega, by omega⟩
          have hr4 : yR6 I1 R1 := yR6.two hV.2.2.2.1.1.1.1 yFu.rf hV.2.2.1 hV.2.2.2.1.1.1.1.1.1.2.1 yLk.rf a3 (yR4.ob hV.2.2.1 pg_) (yS5.ob hV.2.2.1 pg_) (yL6.ob hV.2.2.1 pg_) hL_ hrel (by omega) (by omega) (by omega) (by omega)
          have hf7 : yF7 I1 R1 := hV.2.2.2.1.1.1.2.rf hV.2.2.1 prf_
          have hr7 : yR7 I1 R1 := ⟨hr4, hf7⟩
          have hr9 : yR9 (K + 1) I1 R1 := hV.2.2.2.1.rf hr7 hV.2.2.1 prf_ (Nat.le_succ K)
          have hV := hV.two hV.2.1 (fun _ _ => rfl) a1 a2 a3 hr9
          have hS := hV.1
          refine y_ret1 ?_
          refine y_istore (ls' := [some _, some _, some _, some _, some _, some _, some _]) rfl rfl rfl ?_
          refine y_goto rfl j_L_law_1673 ?_
          refine y_fgt (ls := [some _, some _, some _, some _, some _, none, none]) ⟨rfl, rfl, rfl, rfl, rfl, trivial⟩ ?_
          exact hN _ _ _ _ _ _ hV (by omega) (by omega)
        · obtain ⟨h94b, t0, t1, t5⟩ := tie_le0 hV.2.2.2.1.1.1.1.1.1 hV.2.2.1 (by omega) e_b0
          try simp only [t0, t1, t5] at hm_
          exfalso; omega
        · obtain ⟨h94b, t0, t1, t5⟩ := tie_le0 hV.2.2.2.1.1.1.1.1.1 hV.2.2.1 (by omega) e_b0
          try simp only [t0, t1, t5] at hm_
          exfalso; omega
        · obtain ⟨h94b, t0, t1, t5⟩ := tie_le0 hV.2.2.2.1.1.1.1.1.1 hV.2.2.1 (by omega) e_b0
          try simp only [t0, t1, t5] at hm_
          try simp only [t0, t1, t5] at e_d1
          exfalso; omega
    · have e33 : I 33 = I 33 := rfl
      refine y_ret1 ?_
      refine y_istore (ls' := [some _, some _, some _, some _, some _, some _, _]) rfl rfl rfl ?_
      refine y_aload_n rfl rfl ?_
      refine y_aload_n rfl rfl ?_
      refine y_iload rfl rfl ?_
      refine y_iconst rfl ?_
      refine y_iadd rfl ?_
      refine y_iaload rfl hV.2.2.2.2.2 (ySh.n hV.1 rfl) (sc_at hx0 hx1 hl (by decide) (by decide)).1 (sc_at hx0 hx1 hl (by decide) (by decide)).2 ?_
      rw [e33]
      refine y_aload_n rfl rfl ?_
      refine y_iload rfl rfl ?_
      refine y_iconst rfl ?_
      refine y_iadd rfl ?_
      refine y_iaload rfl hV.2.2.2.2.2 (ySh.n hV.1 rfl) (sc_at hx0 hx1 hl (by decide) (by decide)).1 (sc_at hx0 hx1 hl (by decide) (by decide)).2 ?_
      rw [e33]
      refine y_if_eq rfl j_L_law_651 (fun g2_ => ?_) (fun g2_ => ?_)
      · exfalso; omega
      · refine y_iconst rfl ?_
        refine y_goto rfl j_L_law_652 ?_
        refine y_virt rfl rfl rfl rfl rfl (ySh.t hS rfl) (ySh.n hS rfl) ?_
        obtain ⟨r1, r2, r3, r4, r5, r6, r7, r8⟩ := hV.2.2.2.1.1.1.1.1.1.1
        refine yC.keep3 [(18, 4, 83), (18, 1, 83), (18, 8, 83), (3, 2, 88), (3, 2, 91), (3, 2, 92), (3, 2, 89), (3, 2, 90)] [] rfl rfl rfl hS hV.2.2.1 ?_
        refine h_end hS hV.2.2.1 hk6  (fun hm_ v_b n1 tg1 I1 R1 c1 s1 a1 a2 a3 hth pg_ prf_ hc_b hs_b => ⟨a1, a3.2.1, fun hB_ h93_ hO_ hL_ => ?_⟩) (fun q_b e_b0 hm_ v_b n1 tg1 I1 R1 c1 s1 a1 a2 a3 hth pg_ prf_ hc_b hs_b => ⟨a1, a3.2.1, fun hB_ h93_ hO_ hL_ => ?_⟩) (fun q_b e_b0 hm_ v_b n1 tg1 I1 R1 c1 s1 a1 a2 a3 hth pv_ pg_ px_ hc_b hs_b => ⟨a1, a3.2.1, fun hB_ h93_ hO_ hL_ => ?_⟩) (fun q_b e_b0 q_d e_d1 hm_ v_b n1 tg1 I1 R1 c1 s1 a1 a2 a3 hth pv_ pg_ px_ hc_b hs_b => ⟨a1, a3.2.1, fun hB_ h93_ hO_ hL_ => ?_⟩)
        · exfalso; omega
        · have kc34_9 := congrArg Int32.toInt (congrFun (a3.2.2.1 34 (by decide)) 9)
          have kc34_8 := congrArg Int32.toInt (congrFun (a3.2.2.1 34 (by decide)) 8)
          have kc38_0 := congrArg Int32.toInt (congrFun (a3.2.2.1 38 (by decide)) 0)
          have kc40_0 := congrArg Int32.toInt (congrFun (a3.2.2.1 40 (by decide)) 0)
          have kc69_0 := congrArg Int32.toInt (congrFun (a3.2.2.1 69 (by decide)) 0)
          have kc77_0 := congrArg Int32.toInt (congrFun (a3.2.2.1 77 (by decide)) 0)
          have kc48_0 := congrArg Int32.toInt (congrFun (a3.2.2.1 48 (by decide)) 0)
          have kc59_0 := congrArg Int32.toInt (congrFun (a3.2.2.1 59 (by decide)) 0)
          have hB_ : yKeep _ _ I1 := hB_
          obtain ⟨mb0, mb1, mb2, mb3, mb4, mb5, mb6, mb7, -⟩ := hB_
          have mb0 := congrArg Int32.toInt mb0
          have mb1 := congrArg Int32.toInt mb1
          have mb2 := congrArg Int32.toInt mb2
          have mb3 := congrArg Int32.toInt mb3
          have mb4 := congrArg Int32.toInt mb4
          have mb5 := congrArg Int32.toInt mb5
          have mb6 := congrArg Int32.toInt mb6
          have mb7 := congrArg Int32.toInt mb7
          obtain ⟨h94b, t0, t1, t5⟩ := tie_le0 hV.2.2.2.1.1.1.1.1.1 hV.2.2.1 (by omega) e_b0
          try simp only [t0, t1, t5] at hm_
          have hrel : yRl I1 := ⟨by omega, by omega, by omega, by omega, by omega, by omega, by omega, by omega⟩
          have hr4 : yR6 I1 R1 := yR6.two hV.2.2.2.1.1.1.1 yFu.rf hV.2.2.1 hV.2.2.2.1.1.1.1.1.1.2.1 yLk.rf a3 (yR4.ob hV.2.2.1 pg_) (yS5.ob hV.2.2.1 pg_) (yL6.ob hV.2.2.1 pg_) hL_ hrel (by omega) (by omega) (by omega) (by omega)
          have hf7 : yF7 I1 R1 := hV.2.2.2.1.1.1.2.rf hV.2.2.1 prf_
          have hr7 : yR7 I1 R1 := ⟨hr4, hf7⟩
          have hr9 : yR9 (K + 1) I1 R1 := hV.2.2.2.1.rf hr7 hV.2.2.1 prf_ (Nat.le_succ K)
          have hV := hV.two hV.2.1 (fun _ _ => rfl) a1 a2 a3 hr9
          have hS := hV.1
          refine y_ret1 ?_
          refine y_istore (ls' := [some _, some _, some _, some _, some _, some _, some _]) rfl rfl rfl ?_
          refine y_goto rfl j_L_law_1673 ?_
          refine y_fgt (ls := [some _, some _, some _, some _, some _, none, none]) ⟨rfl, rfl, rfl, rfl, rfl, trivial⟩ ?_
          exact hN _ _ _ _ _ _ hV (by omega) (by omega)
        · obtain ⟨h94b, t0, t1, t5⟩ := tie_le0 hV.2.2.2.1.1.1.1.1.1 hV.2.2.1 (by omega) e_b0
          try simp only [t0, t1, t5] at hm_
          exfalso; omega
        · obtain ⟨h94b, t0, t1, t5⟩ := tie_le0 hV.2.2.2.1.1.1.1.1.1 hV.2.2.1 (by omega) e_b0
          try simp only [t0, t1, t5] at hm_
          try simp only [t0, t1, t5] at e_d1
          exfalso; omega
    · have hFa : yFt I I_a := pa_1
      have e33 : I_a 33 = I 33 := funext fun k => hFa 33 k (.inl (by decide))
      have hS : ySh n tg R_a := by rw [eR]; exact hS.out
      have hRa : yRI K n tg I_a R_a := (hV.2.2.1.ft hFa).outR (fun a ha => by rw [eR]; exact upd2_row ha)
      refine y_ret1 ?_
      refine y_istore (ls' := [some _, some _, some _, some _, some _, some _, _]) rfl rfl rfl ?_
      refine y_aload_n rfl rfl ?_
      refine y_aload_n rfl rfl ?_
      refine y_iload rfl rfl ?_
      refine y_iconst rfl ?_
      refine y_iadd rfl ?_
      refine y_iaload rfl hV.2.2.2.2.2 (ySh.n hV.1 rfl) (sc_at hx0 hx1 hl (by decide) (by decide)).1 (sc_at hx0 hx1 hl (by decide) (by decide)).2 ?_
      rw [e33]
      refine y_aload_n rfl rfl ?_
      refine y_iload rfl rfl ?_
      refine y_iconst rfl ?_
      refine y_iadd rfl ?_
      refine y_iaload rfl hV.2.2.2.2.2 (ySh.n hV.1 rfl) (sc_at hx0 hx1 hl (by decide) (by decide)).1 (sc_at hx0 hx1 hl (by decide) (by decide)).2 ?_
      rw [e33]
      refine y_if_eq rfl j_L_law_651 (fun g2_ => ?_) (fun g2_ => ?_)
      · exfalso; omega
      · refine y_iconst rfl ?_
        refine y_goto rfl j_L_law_652 ?_
        refine y_virt rfl rfl rfl rfl rfl (ySh.t hS rfl) (ySh.n hS rfl) ?_
        obtain ⟨r1, r2, r3, r4, r5, r6, r7, r8⟩ := hV.2.2.2.1.1.1.1.1.1.1
        have eM : ∀ l k, 83 ≤ l → (I_a l k).toInt = (I l k).toInt := fun l k hl => congrArg Int32.toInt (hFa l k (.inr (.inl hl)))
        have em83_4 := eM 83 4 (by decide)
        have em83_1 := eM 83 1 (by decide)
        have em83_8 := eM 83 8 (by decide)
        have em88_2 := eM 88 2 (by decide)
        have em91_2 := eM 91 2 (by decide)
        have em92_2 := eM 92 2 (by decide)
        have em89_2 := eM 89 2 (by decide)
        have em90_2 := eM 90 2 (by decide)
        have em83_7 := eM 83 7 (by decide)
        obtain ⟨kb0, kb1, kb2, kb3, kb4, kb5, kb6, kb7, -⟩ := hBa
        have kb0 := congrArg Int32.toInt kb0
        have kb1 := congrArg Int32.toInt kb1
        have kb2 := congrArg Int32.toInt kb2
        have kb3 := congrArg Int32.toInt kb3
        have kb4 := congrArg Int32.toInt kb4
        have kb5 := congrArg Int32.toInt kb5
        have kb6 := congrArg Int32.toInt kb6
        have kb7 := congrArg Int32.toInt kb7
        refine yC.keep3 [(18, 4, 83), (18, 1, 83), (18, 8, 83), (3, 2, 88), (3, 2, 91), (3, 2, 92), (3, 2, 89), (3, 2, 90)] [] rfl rfl rfl hS hRa ?_
        refine h_end hS hRa hk6  (fun hm_ v_b n1 tg1 I1 R1 c1 s1 a1 a2 a3 hth pg_ prf_ hc_b hs_b => ⟨a1, a3.2.1, fun hB_ h93_ hO_ hL_ => ?_⟩) (fun q_b e_b0 hm_ v_b n1 tg1 I1 R1 c1 s1 a1 a2 a3 hth pg_ prf_ hc_b hs_b => ⟨a1, a3.2.1, fun hB_ h93_ hO_ hL_ => ?_⟩) (fun q_b e_b0 hm_ v_b n1 tg1 I1 R1 c1 s1 a1 a2 a3 hth pv_ pg_ px_ hc_b hs_b => ⟨a1, a3.2.1, fun hB_ h93_ hO_ hL_ => ?_⟩) (fun q_b e_b0 q_d e_d1 hm_ v_b n1 tg1 I1 R1 c1 s1 a1 a2 a3 hth pv_ pg_ px_ hc_b hs_b => ⟨a1, a3.2.1, fun hB_ h93_ hO_ hL_ => ?_⟩)
        · subst eR
          exfalso; omega
        · subst eR
          obtain ⟨⟨hb_, eb_⟩, h94b, t0, t1, t5⟩ := tie_le1 hV.2.2.2.1.1.1.1.1.1 hV.2.2.1 hFa (by omega) e_b0
          try simp only [eb_, t0, t1, t5] at hm_
          exfalso; omega
        · have kc34_9 := congrArg Int32.toInt (congrFun (a3.2.2.1 34 (by decide)) 9)
          have kc34_8 := congrArg Int32.toInt (congrFun (a3.2.2.1 34 (by decide)) 8)
          have kc38_0 := congrArg Int32.toInt (congrFun (a3.2.2.1 38 (by decide)) 0)
          have kc40_0 := congrArg Int32.toInt (congrFun (a3.2.2.1 40 (by decide)) 0)
          have kc69_0 := congrArg Int32.toInt (congrFun (a3.2.2.1 69 (by decide)) 0)
          have kc77_0 := congrArg Int32.toInt (congrFun (a3.2.2.1 77 (by decide)) 0)
          have kc48_0 := congrArg Int32.toInt (congrFun (a3.2.2.1 48 (by decide)) 0)
          have kc59_0 := congrArg Int32.toInt (congrFun (a3.2.2.1 59 (by decide)) 0)
          have hB_ : yKeep _ _ I1 := hB_
          obtain ⟨mb0, mb1, mb2, mb3, mb4, mb5, mb6, mb7, -⟩ := hB_
          have mb0 := congrArg Int32.toInt mb0
          have mb1 := congrArg Int32.toInt mb1
          have mb2 := congrArg Int32.toInt mb2
          have mb3 := congrArg Int32.toInt mb3
          have mb4 := congrArg Int32.toInt mb4
          have mb5 := congrArg Int32.toInt mb5
          have mb6 := congrArg Int32.toInt mb6
          have mb7 := congrArg Int32.toInt mb7
          subst eR
          obtain ⟨⟨hb_, eb_⟩, h94b, t0, t1, t5⟩ := tie_le1 hV.2.2.2.1.1.1.1.1.1 hV.2.2.1 hFa (by omega) e_b0
          try simp only [eb_, t0, t1, t5] at hm_
          have hrel : yRl I1 := ⟨by omega, by omega, by omega, by omega, by omega, by omega, by omega, by omega⟩
          try simp only [eb_] at pg_
          have hc40_ := hV.2.1.2.1
          have hc48_ := hV.2.1.2.2.1
          have hc59_ := hV.2.1.2.2.2.1
          have S_ := yStp.mk hV.2.2.2.1.1.1.1.1.1 hV.2.2.1 hFa pa_3 a3 pg_ (by first | exact yGm.ft hFa | exact yGm.bothR (yGm.ft hFa) | exact yGm.bothR (yGm.bothR (yGm.ft hFa)) | exact yGm.bothR (yGm.bothR (yGm.bothR (yGm.ft hFa))) | exact yGm.bothR (yGm.bothR (yGm.bothR (yGm.bothR (yGm.ft hFa)))) | exact yGm.bothR (yGm.bothR (yGm.bothR (yGm.bothR (yGm.bothR (yGm.ft hFa)))))) hL_ hrel
          have hr4 : yR6 I1 R1 := ⟨rel5_endA (by omega) (by omega) rfl hb_ hV.2.2.2.1.1.1.1.1.2 (by omega) S_, rel6_endA (by omega) (by omega) rfl hb_ (by omega) hV.2.2.2.1.1.1.1.2 (by omega) S_⟩
          have hL7_ : yLk I R R1 := fun l h1 h2 i hi => (hL_ l h1 h2 i (by rw [hFa.hi (show 83 ≤ l by omega)]; exact hi)).trans (yLk.out hV.2.2.1 l h1 h2 i hi)
          have tb_ := hV.2.2.1.g90 (by omega) hb_
          have hm7_ : yFm n tg I I1 := yFm.gm pg_ (by repeat first | exact yFm.ft hFa | exact yFm.rr | refine yFm.addC ?_ | refine yFm.shD ?_ | refine yFm.prD ?_ (by assumption) | refine yFm.lsD ?_ (by assumption) | refine yFm.up ?_ (by first | exact .inl (by decide) | exact .inr (by assumption)))
          have h94_ : 94 ≤ n := hV.1.1
          have h7_ : I1 83 7 = I 83 7 := (congrFun (px_.n (show 83 < n by omega)) 7).trans (by repeat first | exact rfl | exact yext em83_7 | refine k7addC ?_ | refine k7shD ?_ | refine k7prD ?_ (by omega) | refine k7lsD ?_ (by omega) | refine k7up ?_ (by first | exact .inr (by decide) | exact .inl (by decide) | exact .inl (by omega)))
          have hf7 : yF7 I1 R1 := hV.2.2.2.1.1.1.2.st hV.2.2.1 (by omega) h7_ (fun a h1 h2 => (a3.2.2.1 a (by omega)).trans (by rw [pa_4]; repeat first | rw [upd2_row (by omega)] | rw [yAddC_row (by omega)])) hL7_ hm7_
          have hr7 : yR7 I1 R1 := ⟨hr4, hf7⟩
          have hM8_ : yMn I I_a := hV.2.2.2.1.1.2.1.ia hFa
          have hQ8_ : yMn I_a I_a := hM8_.cC (fun a ha => by rw [pa_4]; repeat first | rw [upd2_row (by omega)] | rw [yAddC_row (by omega)])
          have hmn_ : yMn I1 I1 := yMn.px (by repeat first | exact hQ8_ | refine yMn.upM ?_ (by first | exact .inr (by decide) | exact .inl (by omega))) a3 px_ h94_
          have n9b_ := hV.2.2.1.n9 (l := 90) (by decide) (by decide) (by omega) hb_
          have hvn_ : yVn I1 I1 R1 := hV.2.2.2.1.1.2.2.1.st hV.2.2.1 (by omega) (fun a h1 h2 => (a3.2.2.1 a (by omega)).trans (by rw [pa_4]; repeat first | rw [upd2_row (by omega)] | rw [yAddC_row (by omega)])) hL7_ (yVm.x px_ (by repeat first | exact yVm.ft hFa | exact yVm.rr | refine yVm.addC ?_ | refine yVm.shD ?_ | refine yVm.up ?_ (by first | exact .inl (by decide) | exact .inr (by assumption))))
          have hmb_ : yMb (K + 1) I1 := hV.2.2.2.1.1.2.2.2.cg (Nat.le_succ K) (congrFun ((a3.2.2.1 74 (by decide)).trans (by rw [pa_4]; repeat first | rw [upd2_row (by omega)] | rw [yAddC_row (by omega)])) 2) ((a3.2.2.1 76 (by decide)).trans (by rw [pa_4]; repeat first | rw [upd2_row (by omega)] | rw [yAddC_row (by omega)])) (by omega)
          have hr8 : yR8 (K + 1) I1 R1 := ⟨hr7, hmn_, hvn_, hmb_⟩
          have hp9_ : yP9 I1 R1 := hV.2.2.2.1.2.1.kp hV.2.2.1 hFa (yLk.out hV.2.2.1) (by rw [pa_4]; repeat first | rw [upd2_row (by omega)] | rw [yAddC_row (by omega)]) (by omega) a3
          have hpd_ : yPdd I1 := hV.2.2.2.1.2.2.st (by omega) ((a3.2.2.1 54 (by decide)).trans (by rw [pa_4]; repeat first | rw [upd2_row (by omega)] | rw [yAddC_row (by omega)])) ((a3.2.2.1 55 (by decide)).trans (by rw [pa_4]; repeat first | rw [upd2_row (by omega)] | rw [yAddC_row (by omega)]))
          have hr9 : yR9 (K + 1) I1 R1 := ⟨hr8, hp9_, hpd_⟩
          have hV := hV.two pa_0 (fun a ha => funext fun k => hFa a k (.inl ha)) a1 a2 a3 hr9
          have hS := hV.1
          refine y_ret1 ?_
          refine y_istore (ls' := [some _, some _, some _, some _, some _, some _, some _]) rfl rfl rfl ?_
          refine y_goto rfl j_L_law_1673 ?_
          refine y_fgt (ls := [some _, some _, some _, some _, some _, none, none]) ⟨rfl, rfl, rfl, rfl, rfl, trivial⟩ ?_
          exact hN _ _ _ _ _ _ hV (by omega) (by omega)
        · subst eR
          obtain ⟨⟨hb_, eb_⟩, h94b, t0, t1, t5⟩ := tie_le1 hV.2.2.2.1.1.1.1.1.1 hV.2.2.1 hFa (by omega) e_b0
          try simp only [eb_, t0, t1, t5] at hm_
          try simp only [eb_, t0, t1, t5] at e_d1
          exfalso; omega
    · have hFa : yFt I I_a := pa_1
      have e33 : I_a 33 = I 33 := funext fun k => hFa 33 k (.inl (by decide))
      have hS : ySh n tg R_a := by rw [eR]; exact hS.out
      have hRa : yRI K n tg I_a R_a := (hV.2.2.1.ft hFa).outR (fun a ha => by rw [eR]; exact upd2_row ha)
      refine y_ret1 ?_
      refine y_istore (ls' := [some _, some _, some _, some _, some _, some _, _]) rfl rfl rfl ?_
      refine y_aload_n rfl rfl ?_
      refine y_aload_n rfl rfl ?_
      refine y_iload rfl rfl ?_
      refine y_iconst rfl ?_
      refine y_iadd rfl ?_
      refine y_iaload rfl hV.2.2.2.2.2 (ySh.n hV.1 rfl) (sc_at hx0 hx1 hl (by decide) (by decide)).1 (sc_at hx0 hx1 hl (by decide) (by decide)).2 ?_
      rw [e33]
      refine y_aload_n rfl rfl ?_
      refine y_iload rfl rfl ?_
      refine y_iconst rfl ?_
      refine y_iadd rfl ?_
      refine y_iaload rfl hV.2.2.2.2.2 (ySh.n hV.1 rfl) (sc_at hx0 hx1 hl (by decide) (by decide)).1 (sc_at hx0 hx1 hl (by decide) (by decide)).2 ?_
      rw [e33]
      refine y_if_eq rfl j_L_law_651 (fun g2_ => ?_) (fun g2_ => ?_)
      · exfalso; omega
      · refine y_iconst rfl ?_
        refine y_goto rfl j_L_law_652 ?_
        refine y_virt rfl rfl rfl rfl rfl (ySh.t hS rfl) (ySh.n hS rfl) ?_
        obtain ⟨r1, r2, r3, r4, r5, r6, r7, r8⟩ := hV.2.2.2.1.1.1.1.1.1.1
        have eM : ∀ l k, 83 ≤ l → (I_a l k).toInt = (I l k).toInt := fun l k hl => congrArg Int32.toInt (hFa l k (.inr (.inl hl)))
        have em83_4 := eM 83 4 (by decide)
        have em83_1 := eM 83 1 (by decide)
        have em83_8 := eM 83 8 (by decide)
        have em88_2 := eM 88 2 (by decide)
        have em91_2 := eM 91 2 (by decide)
        have em92_2 := eM 92 2 (by decide)
        have em89_2 := eM 89 2 (by decide)
        have em90_2 := eM 90 2 (by decide)
        have em83_7 := eM 83 7 (by decide)
        obtain ⟨kb0, kb1, kb2, kb3, kb4, kb5, kb6, kb7, -⟩ := hBa
        have kb0 := congrArg Int32.toInt kb0
        have kb1 := congrArg Int32.toInt kb1
        have kb2 := congrArg Int32.toInt kb2
        have kb3 := congrArg Int32.toInt kb3
        have kb4 := congrArg Int32.toInt kb4
        have kb5 := congrArg Int32.toInt kb5
        have kb6 := congrArg Int32.toInt kb6
        have kb7 := congrArg Int32.toInt kb7
        refine yC.keep3 [(18, 4, 83), (18, 1, 83), (18, 8, 83), (3, 2, 88), (3, 2, 91), (3, 2, 92), (3, 2, 89), (3, 2, 90)] [] rfl rfl rfl hS hRa ?_
        refine h_end hS hRa hk6  (fun hm_ v_b n1 tg1 I1 R1 c1 s1 a1 a2 a3 hth pg_ prf_ hc_b hs_b => ⟨a1, a3.2.1, fun hB_ h93_ hO_ hL_ => ?_⟩) (fun q_b e_b0 hm_ v_b n1 tg1 I1 R1 c1 s1 a1 a2 a3 hth pg_ prf_ hc_b hs_b => ⟨a1, a3.2.1, fun hB_ h93_ hO_ hL_ => ?_⟩) (fun q_b e_b0 hm_ v_b n1 tg1 I1 R1 c1 s1 a1 a2 a3 hth pv_ pg_ px_ hc_b hs_b => ⟨a1, a3.2.1, fun hB_ h93_ hO_ hL_ => ?_⟩) (fun q_b e_b0 q_d e_d1 hm_ v_b n1 tg1 I1 R1 c1 s1 a1 a2 a3 hth pv_ pg_ px_ hc_b hs_b => ⟨a1, a3.2.1, fun hB_ h93_ hO_ hL_ => ?_⟩)
        · subst eR
          exfalso; omega
        · subst eR
          obtain ⟨⟨hb_, eb_⟩, h94b, t0, t1, t5⟩ := tie_le1 hV.2.2.2.1.1.1.1.1.1 hV.2.2.1 hFa (by omega) e_b0
          try simp only [eb_, t0, t1, t5] at hm_
          exfalso; omega
        · subst eR
          obtain ⟨⟨hb_, eb_⟩, h94b, t0, t1, t5⟩ := tie_le1 hV.2.2.2.1.1.1.1.1.1 hV.2.2.1 hFa (by omega) e_b0
          try simp only [eb_, t0, t1, t5] at hm_
          exfalso; omega
        · have kc34_9 := congrArg Int32.toInt (congrFun (a3.2.2.1 34 (by decide)) 9)
          have kc34_8 := congrArg Int32.toInt (congrFun (a3.2.2.1 34 (by decide)) 8)
          have kc38_0 := congrArg Int32.toInt (congrFun (a3.2.2.1 38 (by decide)) 0)
          have kc40_0 := congrArg Int32.toInt (congrFun (a3.2.2.1 40 (by decide)) 0)
          have kc69_0 := congrArg Int32.toInt (congrFun (a3.2.2.1 69 (by decide)) 0)
          have kc77_0 := congrArg Int32.toInt (congrFun (a3.2.2.1 77 (by decide)) 0)
          have kc48_0 := congrArg Int32.toInt (congrFun (a3.2.2.1 48 (by decide)) 0)
          have kc59_0 := congrArg Int32.toInt (congrFun (a3.2.2.1 59 (by decide)) 0)
          have hB_ : yKeep _ _ I1 := hB_
          obtain ⟨mb0, mb1, mb2, mb3, mb4, mb5, mb6, mb7, -⟩ := hB_
          have mb0 := congrArg Int32.toInt mb0
          have mb1 := congrArg Int32.toInt mb1
          have mb2 := congrArg Int32.toInt mb2
          have mb3 := congrArg Int32.toInt mb3
          have mb4 := congrArg Int32.toInt mb4
          have mb5 := congrArg Int32.toInt mb5
          have mb6 := congrArg Int32.toInt mb6
          have mb7 := congrArg Int32.toInt mb7
          subst eR
          obtain ⟨⟨hb_, eb_⟩, h94b, t0, t1, t5⟩ := tie_le1 hV.2.2.2.1.1.1.1.1.1 hV.2.2.1 hFa (by omega) e_b0
          try simp only [eb_, t0, t1, t5] at hm_
          try simp only [eb_, t0, t1, t5] at e_d1
          have hrel : yRl I1 := ⟨by omega, by omega, by omega, by omega, by omega, by omega, by omega, by omega⟩
          try simp only [eb_] at pg_
          have hc40_ := hV.2.1.2.1
          have hc48_ := hV.2.1.2.2.1
          have hc59_ := hV.2.1.2.2.2.1
          have S_ := yStp.mk hV.2.2.2.1.1.1.1.1.1 hV.2.2.1 hFa pa_3 a3 pg_ (by first | exact yGm.ft hFa | exact yGm.bothR (yGm.ft hFa) | exact yGm.bothR (yGm.bothR (yGm.ft hFa)) | exact yGm.bothR (yGm.bothR (yGm.bothR (yGm.ft hFa))) | exact yGm.bothR (yGm.bothR (yGm.bothR (yGm.bothR (yGm.ft hFa)))) | exact yGm.bothR (yGm.bothR (yGm.bothR (yGm.bothR (yGm.bothR (yGm.ft hFa)))))) hL_ hrel
          have hep := end_prem hV.2.2.2.1.1.1.1.1.1 (x1 := (I 33 (x4 + Int32.ofInt 1).toInt.toNat)) (by omega)
          have hd_ : q_d = yAd R 88 (I 60 (I 33 (x4 + Int32.ofInt 1).toInt.toNat).toInt.toNat).toInt.toNat := e_d1.trans (yLk.out hV.2.2.1 88 (by decide) (by decide) _ (by omega))
          have hr4 : yR6 I1 R1 := ⟨rel5_endB (by omega) (by omega) rfl hb_ hd_ hV.2.2.2.1.1.1.1.1.2 (by omega) S_, rel6_endB (by omega) (by omega) rfl hb_ hd_ (by omega) hV.2.2.2.1.1.1.1.2 (by omega) S_⟩
          have hL7_ : yLk I R R1 := fun l h1 h2 i hi => (hL_ l h1 h2 i (by rw [hFa.hi (show 83 ≤ l by omega)]; exact hi)).trans (yLk.out hV.2.2.1 l h1 h2 i hi)
          have tb_ := hV.2.2.1.g90 (by omega) hb_
          have td_ := hV.2.2.1.g88 (by omega) hd_
          have hm7_ : yFm n tg I I1 := yFm.gm pg_ (by repeat first | exact yFm.ft hFa | exact yFm.rr | refine yFm.addC ?_ | refine yFm.shD ?_ | refine yFm.prD ?_ (by assumption) | refine yFm.lsD ?_ (by assumption) | refine yFm.up ?_ (by first | exact .inl (by decide) | exact .inr (by assumption)))
          have ld_ := hV.2.2.1.lo (l := 88) (by decide) (by decide) (by omega) hd_
          have h94_ : 94 ≤ n := hV.1.1
          have h7_ : I1 83 7 = I 83 7 := (congrFun (px_.n (show 83 < n by omega)) 7).trans (by repeat first | exact rfl | exact yext em83_7 | refine k7addC ?_ | refine k7shD ?_ | refine k7prD ?_ (by omega) | refine k7lsD ?_ (by omega) | refine k7up ?_ (by first | exact .inr (by decide) | exact .inl (by decide) | exact .inl (by omega)))
          have hf7 : yF7 I1 R1 := hV.2.2.2.1.1.1.2.st hV.2.2.1 (by omega) h7_ (fun a h1 h2 => (a3.2.2.1 a (by omega)).trans (by rw [pa_4]; repeat first | rw [upd2_row (by omega)] | rw [yAddC_row (by omega)])) hL7_ hm7_
          have hr7 : yR7 I1 R1 := ⟨hr4, hf7⟩
          have hM8_ : yMn I I_a := hV.2.2.2.1.1.2.1.ia hFa
          have hQ8_ : yMn I_a I_a := hM8_.cC (fun a ha => by rw [pa_4]; repeat first | rw [upd2_row (by omega)] | rw [yAddC_row (by omega)])
          have hmn_ : yMn I1 I1 := yMn.px (by repeat first | exact hQ8_ | refine yMn.upM ?_ (by first | exact .inr (by decide) | exact .inl (by omega))) a3 px_ h94_
          have n9b_ := hV.2.2.1.n9 (l := 90) (by decide) (by decide) (by omega) hb_
          have n9d_ := hV.2.2.1.n9 (l := 88) (by decide) (by decide) (by omega) hd_
          have hvn_ : yVn I1 I1 R1 := hV.2.2.2.1.1.2.2.1.st hV.2.2.1 (by omega) (fun a h1 h2 => (a3.2.2.1 a (by omega)).trans (by rw [pa_4]; repeat first | rw [upd2_row (by omega)] | rw [yAddC_row (by omega)])) hL7_ (yVm.x px_ (by repeat first | exact yVm.ft hFa | exact yVm.rr | refine yVm.addC ?_ | refine yVm.shD ?_ | refine yVm.up ?_ (by first | exact .inl (by decide) | exact .inr (by assumption))))
          have hmb_ : yMb (K + 1) I1 := hV.2.2.2.1.1.2.2.2.cg (Nat.le_succ K) (congrFun ((a3.2.2.1 74 (by decide)).trans (by rw [pa_4]; repeat first | rw [upd2_row (by omega)] | rw [yAddC_row (by omega)])) 2) ((a3.2.2.1 76 (by decide)).trans (by rw [pa_4]; repeat first | rw [upd2_row (by omega)] | rw [yAddC_row (by omega)])) (by omega)
          have hr8 : yR8 (K + 1) I1 R1 := ⟨hr7, hmn_, hvn_, hmb_⟩
          have hp9_ : yP9 I1 R1 := hV.2.2.2.1.2.1.kp hV.2.2.1 hFa (yLk.out hV.2.2.1) (by rw [pa_4]; repeat first | rw [upd2_row (by omega)] | rw [yAddC_row (by omega)]) (by omega) a3
          have hpd_ : yPdd I1 := hV.2.2.2.1.2.2.st (by omega) ((a3.2.2.1 54 (by decide)).trans (by rw [pa_4]; repeat first | rw [upd2_row (by omega)] | rw [yAddC_row (by omega)])) ((a3.2.2.1 55 (by decide)).trans (by rw [pa_4]; repeat first | rw [upd2_row (by omega)] | rw [yAddC_row (by omega)]))
          have hr9 : yR9 (K + 1) I1 R1 := ⟨hr8, hp9_, hpd_⟩
          have hV := hV.two pa_0 (fun a ha => funext fun k => hFa a k (.inl ha)) a1 a2 a3 hr9
          have hS := hV.1
          refine y_ret1 ?_
          refine y_istore (ls' := [some _, some _, some _, some _, some _, some _, some _]) rfl rfl rfl ?_
          refine y_goto rfl j_L_law_1673 ?_
          refine y_fgt (ls := [some _, some _, some _, some _, some _, none, none]) ⟨rfl, rfl, rfl, rfl, rfl, trivial⟩ ?_
          exact hN _ _ _ _ _ _ hV (by omega) (by omega)
theorem lc_11 (hV : yInv K n tg I R ln) (hk6 : K < 600) {x4 : Int32} (hx0 : 0 ≤ x4.toInt) (hx1 : x4.toInt + 7 ≤ (ln : Int)) (hl : ln ≤ 3584) (hN : ∀ n1 tg1 I1 R1 c1 s1, yInv (K + 1) n1 tg1 I1 R1 ln → c1 ≤ c + 790 → s1 ≤ s + 15250 → yW xm_L_law xc_L_law_1673 [some (.ref 33), some (.ref 34), some (.ref 83), some (.ref 93), some (.int x4), none, none] [] (n1, tg1, I1, R1) c1 s1 Q) : yW xm_L_law xc_L_law_660 [some (.ref 33), some (.ref 34), some (.ref 83), some (.ref 93), some (.int x4), none, none] [] (n, tg, I, R) c s Q := by
  have hS := hV.1
  refine y_aload_n rfl rfl ?_
  refine y_aload_n rfl rfl ?_
  refine y_static rfl rfl rfl rfl rfl ?_
  refine v_venture hS hV.2.1 (fun hc_ => ?_) (fun hc_ v_a I_a pa_0 pa_1 pa_2 pa_3 pa_4 hBa R_a eR => ?_)
  · have e33 : I 33 = I 33 := rfl
    refine y_ret1 ?_
    refine y_istore (ls' := [some _, some _, some _, some _, some _, some _, _]) rfl rfl rfl ?_
    refine y_aload_n rfl rfl ?_
    refine y_virt rfl rfl rfl rfl rfl (ySh.t hS rfl) (ySh.n hS rfl) ?_
    obtain ⟨r1, r2, r3, r4, r5, r6, r7, r8⟩ := hV.2.2.2.1.1.1.1.1.1.1
    refine yC.keep [(18, 4, 83), (18, 1, 83), (18, 8, 83)] rfl rfl hS ?_
    refine h_venture hS hV.2.2.1 hk6  (fun hm_ v_b n1 tg1 I1 R1 c1 s1 a1 a2 a3 hth pg_ ps_88 ps_89 ps_90 ps_91 ps_92 pl_ prf_ hc_b hs_b => ⟨a1, fun hB_ h93_ => ?_⟩) (fun hm_ v_b n1 tg1 I1 R1 c1 s1 a1 a2 a3 hth pv_ pg_ ps_88 ps_89 ps_90 ps_91 ps_92 pl_ q_x e_x pn_ pz_ p8_ hc_b hs_b => ⟨a1, fun hB_ h93_ => ?_⟩)
    · have kc34_9 := congrArg Int32.toInt (congrFun (a3.2.2.1 34 (by decide)) 9)
      have kc34_8 := congrArg Int32.toInt (congrFun (a3.2.2.1 34 (by decide)) 8)
      have kc38_0 := congrArg Int32.toInt (congrFun (a3.2.2.1 38 (by decide)) 0)
      have kc40_0 := congrArg Int32.toInt (congrFun (a3.2.2.1 40 (by decide)) 0)
      have kc69_0 := congrArg Int32.toInt (congrFun (a3.2.2.1 69 (by decide)) 0)
      have kc77_0 := congrArg Int32.toInt (congrFun (a3.2.2.1 77 (by decide)) 0)
      have kc48_0 := congrArg Int32.toInt (congrFun (a3.2.2.1 48 (by decide)) 0)
      have kc59_0 := congrArg Int32.toInt (congrFun (a3.2.2.1 59 (by decide)) 0)
      have hB_ : yKeep _ _ I1 := hB_
      obtain ⟨mb0, mb1, mb2, -⟩ := hB_
      have mb0 := congrArg Int32.toInt mb0
      have mb1 := congrArg Int32.toInt mb1
      have mb2 := congrArg Int32.toInt mb2
      have hrel : yRl I1 := ⟨by omega, by omega, by omega, by omega, by omega, by omega, by omega, by omega⟩
      have hr4 : yR6 I1 R1 := yR6.two hV.2.2.2.1.1.1.1 yFu.rf hV.2.2.1 hV.2.2.2.1.1.1.1.1.1.2.1 yLk.rf a3 (yR4.ob hV.2.2.1 pg_) (yS5.ob hV.2.2.1 pg_) (yL6.ob hV.2.2.1 pg_) pl_ hrel (by omega) (by omega) (by omega) (by omega)
      have hf7 : yF7 I1 R1 := hV.2.2.2.1.1.1.2.rf hV.2.2.1 prf_
      have hr7 : yR7 I1 R1 := ⟨hr4, hf7⟩
      have hr9 : yR9 (K + 1) I1 R1 := hV.2.2.2.1.rf hr7 hV.2.2.1 prf_ (Nat.le_succ K)
      have hV := hV.two hV.2.1 (fun _ _ => rfl) a1 a2 a3 hr9
      have hS := hV.1
      refine y_ret1 ?_
      refine y_istore (ls' := [some _, some _, some _, some _, some _, some _, some _]) rfl rfl rfl ?_
      refine y_goto rfl j_L_law_1673 ?_
      refine y_fgt (ls := [some _, some _, some _, some _, some _, none, none]) ⟨rfl, rfl, rfl, rfl, rfl, trivial⟩ ?_
      exact hN _ _ _ _ _ _ hV (by omega) (by omega)
    · exfalso; omega
  · have hFa : yFt I I_a := pa_1
    have e33 : I_a 33 = I 33 := funext fun k => hFa 33 k (.inl (by decide))
    have hS : ySh n tg R_a := by rw [eR]; exact hS.out
    have hRa : yRI K n tg I_a R_a := (hV.2.2.1.ft hFa).outR (fun a ha => by rw [eR]; exact upd2_row ha)
    refine y_ret1 ?_
    refine y_istore (ls' := [some _, some _, some _, some _, some _, some _, _]) rfl rfl rfl ?_
    refine y_aload_n rfl rfl ?_
    refine y_virt rfl rfl rfl rfl rfl (ySh.t hS rfl) (ySh.n hS rfl) ?_
    obtain ⟨r1, r2, r3, r4, r5, r6, r7, r8⟩ := hV.2.2.2.1.1.1.1.1.1.1
    have eM : ∀ l k, 83 ≤ l → (I_a l k).toInt = (I l k).toInt := fun l k hl => congrArg Int32.toInt (hFa l k (.inr (.inl hl)))
    have em83_4 := eM 83 4 (by decide)
    have em83_1 := eM 83 1 (by decide)
    have em83_8 := eM 83 8 (by decide)
    have em88_2 := eM 88 2 (by decide)
    have em91_2 := eM 91 2 (by decide)
    have em92_2 := eM 92 2 (by decide)
    have em89_2 := eM 89 2 (by decide)
    have em90_2 := eM 90 2 (by decide)
    have em83_7 := eM 83 7 (by decide)
    obtain ⟨kb0, kb1, kb2, kb3, kb4, kb5, kb6, -⟩ := hBa
    have kb0 := congrArg Int32.toInt kb0
    have kb1 := congrArg Int32.toInt kb1
    have kb2 := congrArg Int32.toInt kb2
    have kb3 := congrArg Int32.toInt kb3
    have kb4 := congrArg Int32.toInt kb4
    have kb5 := congrArg Int32.toInt kb5
    have kb6 := congrArg Int32.toInt kb6
    refine yC.keep [(18, 4, 83), (18, 1, 83), (18, 8, 83)] rfl rfl hS ?_
    refine h_venture hS hRa hk6  (fun hm_ v_b n1 tg1 I1 R1 c1 s1 a1 a2 a3 hth pg_ ps_88 ps_89 ps_90 ps_91 ps_92 pl_ prf_ hc_b hs_b => ⟨a1, fun hB_ h93_ => ?_⟩) (fun hm_ v_b n1 tg1 I1 R1 c1 s1 a1 a2 a3 hth pv_ pg_ ps_88 ps_89 ps_90 ps_91 ps_92 pl_ q_x e_x pn_ pz_ p8_ hc_b hs_b => ⟨a1, fun hB_ h93_ => ?_⟩)
    · exfalso; omega
    · have kc34_9 := congrArg Int32.toInt (congrFun (a3.2.2.1 34 (by decide)) 9)
      have kc34_8 := congrArg Int32.toInt (congrFun (a3.2.2.1 34 (by decide)) 8)
      have kc38_0 := congrArg Int32.toInt (congrFun (a3.2.2.1 38 (by decide)) 0)
      have kc40_0 := congrArg Int32.toInt (congrFun (a3.2.2.1 40 (by decide)) 0)
      have kc69_0 := congrArg Int32.toInt (congrFun (a3.2.2.1 69 (by decide)) 0)
      have kc77_0 := congrArg Int32.toInt (congrFun (a3.2.2.1 77 (by decide)) 0)
      have kc48_0 := congrArg Int32.toInt (congrFun (a3.2.2.1 48 (by decide)) 0)
      have kc59_0 := congrArg Int32.toInt (congrFun (a3.2.2.1 59 (by decide)) 0)
      have hB_ : yKeep _ _ I1 := hB_
      obtain ⟨mb0, mb1, mb2, -⟩ := hB_
      have mb0 := congrArg Int32.toInt mb0
      have mb1 := congrArg Int32.toInt mb1
      have mb2 := congrArg Int32.toInt mb2
      have ky_ := congrArg Int32.toInt ((congrFun (congrFun pa_4 69) 0).trans upd2_self)
      have kx_ : (I_a 69 0).toInt = (I 69 0).toInt + 1 := ky_.trans (yinc (by omega))
      have hrel : yRl I1 := ⟨by omega, by omega, by omega, by omega, by omega, by omega, by omega, by omega⟩
      have hHa : yHr I_a R_a := by rw [eR]; exact yHr.a hV.2.2.2.1.1.1.1.1.1 hV.2.2.1 hFa
      have hLa : yLk I R R_a := by rw [eR]; exact yLk.out hV.2.2.1
      have hw_ : yFu I I_a := yFu.of fun a d1 d2 d3 d4 d5 d6 => by rw [pa_4]; repeat first | rw [upd2_row (by omega)] | rw [yAddC_row (by omega)]
      have hr4 : yR6 I1 R1 := yR6.two hV.2.2.2.1.1.1.1 hw_ hRa hHa hLa a3 (yR4.ob hRa pg_) (yS5.ob hRa pg_) (yL6.ob hRa pg_) pl_ hrel (by omega) (by omega) (by omega) (by omega)
      have hL7_ : yLk I R R1 := fun l h1 h2 i hi => (pl_ l h1 h2 i (by rw [hFa.hi (show 83 ≤ l by omega)]; exact hi)).trans (hLa l h1 h2 i hi)
      have hm7_ : yFm n tg I I1 := yFm.gm pg_ (by repeat first | exact yFm.ft hFa | exact yFm.rr | refine yFm.addC ?_ | refine yFm.shD ?_ | refine yFm.prD ?_ (by assumption) | refine yFm.lsD ?_ (by assumption) | refine yFm.up ?_ (by first | exact .inl (by decide) | exact .inr (by assumption)))
      have h94_ : 94 ≤ n := hV.1.1
      have h7_ : I1 83 7 = I 83 7 := (p8_.2 7 (by decide)).trans (yext em83_7)
      have hf7 : yF7 I1 R1 := hV.2.2.2.1.1.1.2.st hV.2.2.1 (by omega) h7_ (fun a h1 h2 => (a3.2.2.1 a (by omega)).trans (by rw [pa_4]; repeat first | rw [upd2_row (by omega)] | rw [yAddC_row (by omega)])) hL7_ hm7_
      have hr7 : yR7 I1 R1 := ⟨hr4, hf7⟩
      have hM8_ : yMn I I_a := hV.2.2.2.1.1.2.1.ia hFa
      have hmn_ : yMn I1 I1 := hV.2.2.2.1.1.2.1.p8 hFa (fun a ha => by rw [pa_4]; repeat first | rw [upd2_row (by omega)] | rw [yAddC_row (by omega)]) a3 p8_
      have hx_ : q_x = yAd R1 91 (I 91 2).toInt.toNat := by rw [← em91_2]; exact e_x
      have hvn_ : yVn I1 I1 R1 := hV.2.2.2.1.1.2.2.1.ven hV.2.2.1 (by omega) (fun a h1 h2 => (a3.2.2.1 a (by omega)).trans (by rw [pa_4]; repeat first | rw [upd2_row (by omega)] | rw [yAddC_row (by omega)])) hL7_ (yVm.gm pg_ (by repeat first | exact yVm.ft hFa | exact yVm.rr | refine yVm.addC ?_ | refine yVm.shD ?_ | refine yVm.up ?_ (by first | exact .inl (by decide) | exact .inr (by assumption)))) hx_ pn_ pz_
      have hmb_ : yMb (K + 1) I1 := hV.2.2.2.1.1.2.2.2.cg (Nat.le_succ K) (congrFun ((a3.2.2.1 74 (by decide)).trans (by rw [pa_4]; repeat first | rw [upd2_row (by omega)] | rw [yAddC_row (by omega)])) 2) ((a3.2.2.1 76 (by decide)).trans (by rw [pa_4]; repeat first | rw [upd2_row (by omega)] | rw [yAddC_row (by omega)])) (by omega)
      have hr8 : yR8 (K + 1) I1 R1 := ⟨hr7, hmn_, hvn_, hmb_⟩
      have hp9_ : yP9 I1 R1 := hV.2.2.2.1.2.1.kp hV.2.2.1 hFa hLa (by rw [pa_4]; repeat first | rw [upd2_row (by omega)] | rw [yAddC_row (by omega)]) (by omega) a3
      have hpd_ : yPdd I1 := hV.2.2.2.1.2.2.st (by omega) ((a3.2.2.1 54 (by decide)).trans (by rw [pa_4]; repeat first | rw [upd2_row (by omega)] | rw [yAddC_row (by omega)])) ((a3.2.2.1 55 (by decide)).trans (by rw [pa_4]; repeat first | rw [upd2_row (by omega)] | rw [yAddC_row (by omega)]))
      have hr9 : yR9 (K + 1) I1 R1 := ⟨hr8, hp9_, hpd_⟩
      have hV := hV.two pa_0 (fun a ha => funext fun k => hFa a k (.inl ha)) a1 a2 a3 hr9
      have hS := hV.1
      refine y_ret1 ?_
      refine y_istore (ls' := [some _, some _, some _, some _, some _, some _, some _]) rfl rfl rfl ?_
      refine y_goto rfl j_L_law_1673 ?_
      refine y_fgt (ls := [some _, some _, some _, some _, some _, none, none]) ⟨rfl, rfl, rfl, rfl, rfl, trivial⟩ ?_
      exact hN _ _ _ _ _ _ hV (by omega) (by omega)
theorem lc_12 (hV : yInv K n tg I R ln) (hk6 : K < 600) {x4 : Int32} (hx0 : 0 ≤ x4.toInt) (hx1 : x4.toInt + 7 ≤ (ln : Int)) (hl : ln ≤ 3584) (hN : ∀ n1 tg1 I1 R1 c1 s1, yInv (K + 1) n1 tg1 I1 R1 ln → c1 ≤ c + 790 → s1 ≤ s + 15250 → yW xm_L_law xc_L_law_1673 [some (.ref 33), some (.ref 34), some (.ref 83), some (.ref 93), some (.int x4), none, none] [] (n1, tg1, I1, R1) c1 s1 Q) : yW xm_L_law xc_L_law_676 [some (.ref 33), some (.ref 34), some (.ref 83), some (.ref 93), some (.int x4), none, none] [] (n, tg, I, R) c s Q := by
  have hS := hV.1
  refine y_aload_n rfl rfl ?_
  refine y_aload_n rfl rfl ?_
  refine y_iload rfl rfl ?_
  refine y_iconst rfl ?_
  refine y_iadd rfl ?_
  refine y_iaload rfl hV.2.2.2.2.2 (ySh.n hV.1 rfl) (sc_at hx0 hx1 hl (by decide) (by decide)).1 (sc_at hx0 hx1 hl (by decide) (by decide)).2 ?_
  refine y_aload_n rfl rfl ?_
  refine y_iload rfl rfl ?_
  refine y_iconst rfl ?_
  refine y_iadd rfl ?_
  refine y_iaload rfl hV.2.2.2.2.2 (ySh.n hV.1 rfl) (sc_at hx0 hx1 hl (by decide) (by decide)).1 (sc_at hx0 hx1 hl (by decide) (by decide)).2 ?_
  refine y_aload_n rfl rfl ?_
  refine y_iload rfl rfl ?_
  refine y_iconst rfl ?_
  refine y_iadd rfl ?_
  refine y_iaload rfl hV.2.2.2.2.2 (ySh.n hV.1 rfl) (sc_at hx0 hx1 hl (by decide) (by decide)).1 (sc_at hx0 hx1 hl (by decide) (by decide)).2 ?_
  refine y_aload_n rfl rfl ?_
  refine y_iload rfl rfl ?_
  refine y_iconst rfl ?_
  refine y_iadd rfl ?_
  refine y_iaload rfl hV.2.2.2.2.2 (ySh.n hV.1 rfl) (sc_at hx0 hx1 hl (by decide) (by decide)).1 (sc_at hx0 hx1 hl (by decide) (by decide)).2 ?_
  refine y_aload_n rfl rfl ?_
  refine y_static rfl rfl rfl rfl rfl ?_
  refine v_join hS hV.2.1 (fun hc_ => ?_) (fun hc_ => ?_) (fun hc_ => ?_) (fun hc_ v_a I_a pa_0 pa_1 pa_2 pa_3 hBa R_a eR => ?_)
  · have e33 : I 33 = I 33 := rfl
    refine y_ret1 ?_
    refine y_istore (ls' := [some _, some _, some _, some _, some _, some _, _]) rfl rfl rfl ?_
    refine y_aload_n rfl rfl ?_
    refine y_aload_n rfl rfl ?_
    refine y_iload rfl rfl ?_
    refine y_iconst rfl ?_
    refine y_iadd rfl ?_
    refine y_iaload rfl hV.2.2.2.2.2 (ySh.n hV.1 rfl) (sc_at hx0 hx1 hl (by decide) (by decide)).1 (sc_at hx0 hx1 hl (by decide) (by decide)).2 ?_
    rw [e33]
    refine y_aload_n rfl rfl ?_
    refine y_iload rfl rfl ?_
    refine y_iconst rfl ?_
    refine y_iadd rfl ?_
    refine y_iaload rfl hV.2.2.2.2.2 (ySh.n hV.1 rfl) (sc_at hx0 hx1 hl (by decide) (by decide)).1 (sc_at hx0 hx1 hl (by decide) (by decide)).2 ?_
    rw [e33]
    refine y_aload_n rfl rfl ?_
    refine y_iload rfl rfl ?_
    refine y_iconst rfl ?_
    refine y_iadd rfl ?_
    refine y_iaload rfl hV.2.2.2.2.2 (ySh.n hV.1 rfl) (sc_at hx0 hx1 hl (by decide) (by decide)).1 (sc_at hx0 hx1 hl (by decide) (by decide)).2 ?_
    rw [e33]
    refine y_aload_n rfl rfl ?_
    refine y_iload rfl rfl ?_
    refine y_iconst rfl ?_
    refine y_iadd rfl ?_
    refine y_iaload rfl hV.2.2.2.2.2 (ySh.n hV.1 rfl) (sc_at hx0 hx1 hl (by decide) (by decide)).1 (sc_at hx0 hx1 hl (by decide) (by decide)).2 ?_
    rw [e33]
    refine y_virt rfl rfl rfl rfl rfl (ySh.t hS rfl) (ySh.n hS rfl) ?_
    obtain ⟨r1, r2, r3, r4, r5, r6, r7, r8⟩ := hV.2.2.2.1.1.1.1.1.1.1
    refine yC.keep3 [(18, 4, 83), (18, 1, 83), (18, 8, 83), (3, 2, 88), (3, 2, 91), (3, 2, 92), (3, 2, 89), (3, 2, 90)] yLO6 rfl rfl rfl hS hV.2.2.1 ?_
    refine h_join hS hV.2.2.1 hk6  (fun hm_ v_b n1 tg1 I1 R1 c1 s1 a1 a2 a3 hth prf_ hc_b hs_b => ⟨a1, a3.2.1, fun hB_ h93_ hO_ hL_ => ?_⟩) (fun hm_ v_b n1 tg1 I1 R1 c1 s1 a1 a2 a3 hth prf_ hc_b hs_b => ⟨a1, a3.2.1, fun hB_ h93_ hO_ hL_ => ?_⟩) (fun q_b e_b0 hm_ v_b n1 tg1 I1 R1 c1 s1 a1 a2 a3 hth prf_ hc_b hs_b => ⟨a1, a3.2.1, fun hB_ h93_ hO_ hL_ => ?_⟩) (fun q_b e_b0 hm_ v_b n1 tg1 I1 R1 c1 s1 a1 a2 a3 hth pv_ px_ hc_b hs_b => ⟨a1, a3.2.1, fun hB_ h93_ hO_ hL_ => ?_⟩)
    · have kc34_9 := congrArg Int32.toInt (congrFun (a3.2.2.1 34 (by decide)) 9)
      have kc34_8 := congrArg Int32.toInt (congrFun (a3.2.2.1 34 (by decide)) 8)
      have kc38_0 := congrArg Int32.toInt (congrFun (a3.2.2.1 38 (by decide)) 0)
      have kc40_0 := congrArg Int32.toInt (congrFun (a3.2.2.1 40 (by decide)) 0)
      have kc69_0 := congrArg Int32.toInt (congrFun (a3.2.2.1 69 (by decide)) 0)
      have kc77_0 := congrArg Int32.toInt (congrFun (a3.2.2.1 77 (by decide)) 0)
      have kc48_0 := congrArg Int32.toInt (congrFun (a3.2.2.1 48 (by decide)) 0)
      have kc59_0 := congrArg Int32.toInt (congrFun (a3.2.2.1 59 (by decide)) 0)
      have hB_ : yKeep _ _ I1 := hB_
      obtain ⟨mb0, mb1, mb2, mb3, mb4, mb5, mb6, mb7, -⟩ := hB_
      have mb0 := congrArg Int32.toInt mb0
      have mb1 := congrArg Int32.toInt mb1
      have mb2 := congrArg Int32.toInt mb2
      have mb3 := congrArg Int32.toInt mb3
      have mb4 := congrArg Int32.toInt mb4
      have mb5 := congrArg Int32.toInt mb5
      have mb6 := congrArg Int32.toInt mb6
      have mb7 := congrArg Int32.toInt mb7
      have hN_ := hV.2.2.1.1
      have hM_ : yMn I I := hV.2.2.2.1.1.2.1
      have hrel : yRl I1 := ⟨by omega, by omega, by omega, by omega, by omega, by omega, by omega, by omega⟩
      have hr4 : yR6 I1 R1 := yR6.two hV.2.2.2.1.1.1.1 yFu.rf hV.2.2.1 hV.2.2.2.1.1.1.1.1.1.2.1 yLk.rf a3 (hO_.o5.ob45 hV.2.2.1) (hO_.o5.ob5 hV.2.2.1) (hO_.ob6 hV.2.2.1) hL_ hrel (by omega) (by omega) (by omega) (by omega)
      have hf7 : yF7 I1 R1 := hV.2.2.2.1.1.1.2.rf hV.2.2.1 prf_
      have hr7 : yR7 I1 R1 := ⟨hr4, hf7⟩
      have hr9 : yR9 (K + 1) I1 R1 := hV.2.2.2.1.rf hr7 hV.2.2.1 prf_ (Nat.le_succ K)
      have hV := hV.two hV.2.1 (fun _ _ => rfl) a1 a2 a3 hr9
      have hS := hV.1
      refine y_ret1 ?_
      refine y_istore (ls' := [some _, some _, some _, some _, some _, some _, some _]) rfl rfl rfl ?_
      refine y_aload_n rfl rfl ?_
      refine y_virt rfl rfl rfl rfl rfl (ySh.t hS rfl) (ySh.n hS rfl) ?_
      refine y_in (M := xm_X14_thrown) (ls := [some _]) rfl rfl rfl ?_
      refine y_aload_n rfl rfl ?_
      refine y_getIv (v := Int32.ofInt 1) rfl (ySh.t hS rfl) (ySh.n hS rfl) rfl rfl hth ?_
      refine y_ireturn rfl rfl rfl ?_
      refine y_ret1 ?_
      refine y_iload rfl rfl ?_
      refine y_icmp_eqT rfl j_L_law_748 (by decide) ?_
      refine y_iload rfl rfl ?_
      refine y_if_neT rfl j_L_law_766 (by decide) ?_
      refine y_goto rfl j_L_law_1673 ?_
      refine y_fgt (ls := [some _, some _, some _, some _, some _, none, none]) ⟨rfl, rfl, rfl, rfl, rfl, trivial⟩ ?_
      exact hN _ _ _ _ _ _ hV (by omega) (by omega)
    · have hN_ := hV.2.2.1.1
      have hM_ : yMn I I := hV.2.2.2.1.1.2.1
      exfalso; omega
    · have hN_ := hV.2.2.1.1
      have hM_ : yMn I I := hV.2.2.2.1.1.2.1
      have hW_ : yVn I I R := hV.2.2.2.1.1.2.2.1
      obtain ⟨t1_, t2_, t3_⟩ := tie_join hW_ hM_ (by omega) (by omega) (x2 := (I 33 (x4 + Int32.ofInt 2).toInt.toNat)) (x4 := (I 33 (x4 + Int32.ofInt 4).toInt.toNat)) e_b0 ⟨by omega, by omega⟩
      exfalso; omega
    · have hN_ := hV.2.2.1.1
      have hM_ : yMn I I := hV.2.2.2.1.1.2.1
      have hW_ : yVn I I R := hV.2.2.2.1.1.2.2.1
      obtain ⟨t1_, t2_, t3_⟩ := tie_join hW_ hM_ (by omega) (by omega) (x2 := (I 33 (x4 + Int32.ofInt 2).toInt.toNat)) (x4 := (I 33 (x4 + Int32.ofInt 4).toInt.toNat)) e_b0 ⟨by omega, by omega⟩
      exfalso; omega
  · have e33 : I 33 = I 33 := rfl
    refine y_ret1 ?_
    refine y_istore (ls' := [some _, some _, some _, some _, some _, some _, _]) rfl rfl rfl ?_
    refine y_aload_n rfl rfl ?_
    refine y_aload_n rfl rfl ?_
    refine y_iload rfl rfl ?_
    refine y_iconst rfl ?_
    refine y_iadd rfl ?_
    refine y_iaload rfl hV.2.2.2.2.2 (ySh.n hV.1 rfl) (sc_at hx0 hx1 hl (by decide) (by decide)).1 (sc_at hx0 hx1 hl (by decide) (by decide)).2 ?_
    rw [e33]
    refine y_aload_n rfl rfl ?_
    refine y_iload rfl rfl ?_
    refine y_iconst rfl ?_
    refine y_iadd rfl ?_
    refine y_iaload rfl hV.2.2.2.2.2 (ySh.n hV.1 rfl) (sc_at hx0 hx1 hl (by decide) (by decide)).1 (sc_at hx0 hx1 hl (by decide) (by decide)).2 ?_
    rw [e33]
    refine y_aload_n rfl rfl ?_
    refine y_iload rfl rfl ?_
    refine y_iconst rfl ?_
    refine y_iadd rfl ?_
    refine y_iaload rfl hV.2.2.2.2.2 (ySh.n hV.1 rfl) (sc_at hx0 hx1 hl (by decide) (by decide)).1 (sc_at hx0 hx1 hl (by decide) (by decide)).2 ?_
    rw [e33]
    refine y_aload_n rfl rfl ?_
    refine y_iload rfl rfl ?_
    refine y_iconst rfl ?_
    refine y_iadd rfl ?_
    refine y_iaload rfl hV.2.2.2.2.2 (ySh.n hV.1 rfl) (sc_at hx0 hx1 hl (by decide) (by decide)).1 (sc_at hx0 hx1 hl (by decide) (by decide)).2 ?_
    rw [e33]
    refine y_virt rfl rfl rfl rfl rfl (ySh.t hS rfl) (ySh.n hS rfl) ?_
    obtain ⟨r1, r2, r3, r4, r5, r6, r7, r8⟩ := hV.2.2.2.1.1.1.1.1.1.1
    refine yC.keep3 [(18, 4, 83), (18, 1, 83), (18, 8, 83), (3, 2, 88), (3, 2, 91), (3, 2, 92), (3, 2, 89), (3, 2, 90)] yLO6 rfl rfl rfl hS hV.2.2.1 ?_
    refine h_join hS hV.2.2.1 hk6  (fun hm_ v_b n1 tg1 I1 R1 c1 s1 a1 a2 a3 hth prf_ hc_b hs_b => ⟨a1, a3.2.1, fun hB_ h93_ hO_ hL_ => ?_⟩) (fun hm_ v_b n1 tg1 I1 R1 c1 s1 a1 a2 a3 hth prf_ hc_b hs_b => ⟨a1, a3.2.1, fun hB_ h93_ hO_ hL_ => ?_⟩) (fun q_b e_b0 hm_ v_b n1 tg1 I1 R1 c1 s1 a1 a2 a3 hth prf_ hc_b hs_b => ⟨a1, a3.2.1, fun hB_ h93_ hO_ hL_ => ?_⟩) (fun q_b e_b0 hm_ v_b n1 tg1 I1 R1 c1 s1 a1 a2 a3 hth pv_ px_ hc_b hs_b => ⟨a1, a3.2.1, fun hB_ h93_ hO_ hL_ => ?_⟩)
    · have hN_ := hV.2.2.1.1
      have hM_ : yMn I I := hV.2.2.2.1.1.2.1
      exfalso; omega
    · have kc34_9 := congrArg Int32.toInt (congrFun (a3.2.2.1 34 (by decide)) 9)
      have kc34_8 := congrArg Int32.toInt (congrFun (a3.2.2.1 34 (by decide)) 8)
      have kc38_0 := congrArg Int32.toInt (congrFun (a3.2.2.1 38 (by decide)) 0)
      have kc40_0 := congrArg Int32.toInt (congrFun (a3.2.2.1 40 (by decide)) 0)
      have kc69_0 := congrArg Int32.toInt (congrFun (a3.2.2.1 69 (by decide)) 0)
      have kc77_0 := congrArg Int32.toInt (congrFun (a3.2.2.1 77 (by decide)) 0)
      have kc48_0 := congrArg Int32.toInt (congrFun (a3.2.2.1 48 (by decide)) 0)
      have kc59_0 := congrArg Int32.toInt (congrFun (a3.2.2.1 59 (by decide)) 0)
      have hB_ : yKeep _ _ I1 := hB_
      obtain ⟨mb0, mb1, mb2, mb3, mb4, mb5, mb6, mb7, -⟩ := hB_
      have mb0 := congrArg Int32.toInt mb0
      have mb1 := congrArg Int32.toInt mb1
      have mb2 := congrArg Int32.toInt mb2
      have mb3 := congrArg Int32.toInt mb3
      have mb4 := congrArg Int32.toInt mb4
      have mb5 := congrArg Int32.toInt mb5
      have mb6 := congrArg Int32.toInt mb6
      have mb7 := congrArg Int32.toInt mb7
      have hN_ := hV.2.2.1.1
      have hM_ : yMn I I := hV.2.2.2.1.1.2.1
      have hrel : yRl I1 := ⟨by omega, by omega, by omega, by omega, by omega, by omega, by omega, by omega⟩
      have hr4 : yR6 I1 R1 := yR6.two hV.2.2.2.1.1.1.1 yFu.rf hV.2.2.1 hV.2.2.2.1.1.1.1.1.1.2.1 yLk.rf a3 (hO_.o5.ob45 hV.2.2.1) (hO_.o5.ob5 hV.2.2.1) (hO_.ob6 hV.2.2.1) hL_ hrel (by omega) (by omega) (by omega) (by omega)
      have hf7 : yF7 I1 R1 := hV.2.2.2.1.1.1.2.rf hV.2.2.1 prf_
      have hr7 : yR7 I1 R1 := ⟨hr4, hf7⟩
      have hr9 : yR9 (K + 1) I1 R1 := hV.2.2.2.1.rf hr7 hV.2.2.1 prf_ (Nat.le_succ K)
      have hV := hV.two hV.2.1 (fun _ _ => rfl) a1 a2 a3 hr9
      have hS := hV.1
      refine y_ret1 ?_
      refine y_istore (ls' := [some _, some _, some _, some _, some _, some _, some _]) rfl rfl rfl ?_
      refine y_aload_n rfl rfl ?_
      refine y_virt rfl rfl rfl rfl rfl (ySh.t hS rfl) (ySh.n hS rfl) ?_
      refine y_in (M := xm_X14_thrown) (ls := [some _]) rfl rfl rfl ?_
      refine y_aload_n rfl rfl ?_
      refine y_getIv (v := Int32.ofInt 2) rfl (ySh.t hS rfl) (ySh.n hS rfl) rfl rfl hth ?_
      refine y_ireturn rfl rfl rfl ?_
      refine y_ret1 ?_
      refine y_iload rfl rfl ?_
      refine y_icmp_eqT rfl j_L_law_748 (by decide) ?_
      refine y_iload rfl rfl ?_
      refine y_if_neT rfl j_L_law_766 (by decide) ?_
      refine y_goto rfl j_L_law_1673 ?_
      refine y_fgt (ls := [some _, some _, some _, some _, some _, none, none]) ⟨rfl, rfl, rfl, rfl, rfl, trivial⟩ ?_
      exact hN _ _ _ _ _ _ hV (by omega) (by omega)
    · have hN_ := hV.2.2.1.1
      have hM_ : yMn I I := hV.2.2.2.1.1.2.1
      have hW_ : yVn I I R := hV.2.2.2.1.1.2.2.1
      obtain ⟨t1_, t2_, t3_⟩ := tie_join hW_ hM_ (by omega) (by omega) (x2 := (I 33 (x4 + Int32.ofInt 2).toInt.toNat)) (x4 := (I 33 (x4 + Int32.ofInt 4).toInt.toNat)) e_b0 ⟨by omega, by omega⟩
      exfalso; omega
    · have hN_ := hV.2.2.1.1
      have hM_ : yMn I I := hV.2.2.2.1.1.2.1
      have hW_ : yVn I I R := hV.2.2.2.1.1.2.2.1
      obtain ⟨t1_, t2_, t3_⟩ := tie_join hW_ hM_ (by omega) (by omega) (x2 := (I 33 (x4 + Int32.ofInt 2).toInt.toNat)) (x4 := (I 33 (x4 + Int32.ofInt 4).toInt.toNat)) e_b0 ⟨by omega, by omega⟩
      exfalso; omega
  · have e33 : I 33 = I 33 := rfl
    refine y_ret1 ?_
    refine y_istore (ls' := [some _, some _, some _, some _, some _, some _, _]) rfl rfl rfl ?_
    refine y_aload_n rfl rfl ?_
    refine y_aload_n rfl rfl ?_
    refine y_iload rfl rfl ?_
    refine y_iconst rfl ?_
    refine y_iadd rfl ?_
    refine y_iaload rfl hV.2.2.2.2.2 (ySh.n hV.1 rfl) (sc_at hx0 hx1 hl (by decide) (by decide)).1 (sc_at hx0 hx1 hl (by decide) (by decide)).2 ?_
    rw [e33]
    refine y_aload_n rfl rfl ?_
    refine y_iload rfl rfl ?_
    refine y_iconst rfl ?_
    refine y_iadd rfl ?_
    refine y_iaload rfl hV.2.2.2.2.2 (ySh.n hV.1 rfl) (sc_at hx0 hx1 hl (by decide) (by decide)).1 (sc_at hx0 hx1 hl (by decide) (by decide)).2 ?_
    rw [e33]
    refine y_aload_n rfl rfl ?_
    refine y_iload rfl rfl ?_
    refine y_iconst rfl ?_
    refine y_iadd rfl ?_
    refine y_iaload rfl hV.2.2.2.2.2 (ySh.n hV.1 rfl) (sc_at hx0 hx1 hl (by decide) (by decide)).1 (sc_at hx0 hx1 hl (by decide) (by decide)).2 ?_
    rw [e33]
    refine y_aload_n rfl rfl ?_
    refine y_iload rfl rfl ?_
    refine y_iconst rfl ?_
    refine y_iadd rfl ?_
    refine y_iaload rfl hV.2.2.2.2.2 (ySh.n hV.1 rfl) (sc_at hx0 hx1 hl (by decide) (by decide)).1 (sc_at hx0 hx1 hl (by decide) (by decide)).2 ?_
    rw [e33]
    refine y_virt rfl rfl rfl rfl rfl (ySh.t hS rfl) (ySh.n hS rfl) ?_
    obtain ⟨r1, r2, r3, r4, r5, r6, r7, r8⟩ := hV.2.2.2.1.1.1.1.1.1.1
    refine yC.keep3 [(18, 4, 83), (18, 1, 83), (18, 8, 83), (3, 2, 88), (3, 2, 91), (3, 2, 92), (3, 2, 89), (3, 2, 90)] yLO6 rfl rfl rfl hS hV.2.2.1 ?_
    refine h_join hS hV.2.2.1 hk6  (fun hm_ v_b n1 tg1 I1 R1 c1 s1 a1 a2 a3 hth prf_ hc_b hs_b => ⟨a1, a3.2.1, fun hB_ h93_ hO_ hL_ => ?_⟩) (fun hm_ v_b n1 tg1 I1 R1 c1 s1 a1 a2 a3 hth prf_ hc_b hs_b => ⟨a1, a3.2.1, fun hB_ h93_ hO_ hL_ => ?_⟩) (fun q_b e_b0 hm_ v_b n1 tg1 I1 R1 c1 s1 a1 a2 a3 hth prf_ hc_b hs_b => ⟨a1, a3.2.1, fun hB_ h93_ hO_ hL_ => ?_⟩) (fun q_b e_b0 hm_ v_b n1 tg1 I1 R1 c1 s1 a1 a2 a3 hth pv_ px_ hc_b hs_b => ⟨a1, a3.2.1, fun hB_ h93_ hO_ hL_ => ?_⟩)
    · have hN_ := hV.2.2.1.1
      have hM_ : yMn I I := hV.2.2.2.1.1.2.1
      exfalso; omega
    · have hN_ := hV.2.2.1.1
      have hM_ : yMn I I := hV.2.2.2.1.1.2.1
      exfalso; omega
    · have kc34_9 := congrArg Int32.toInt (congrFun (a3.2.2.1 34 (by decide)) 9)
      have kc34_8 := congrArg Int32.toInt (congrFun (a3.2.2.1 34 (by decide)) 8)
      have kc38_0 := congrArg Int32.toInt (congrFun (a3.2.2.1 38 (by decide)) 0)
      have kc40_0 := congrArg Int32.toInt (congrFun (a3.2.2.1 40 (by decide)) 0)
      have kc69_0 := congrArg Int32.toInt (congrFun (a3.2.2.1 69 (by decide)) 0)
      have kc77_0 := congrArg Int32.toInt (congrFun (a3.2.2.1 77 (by decide)) 0)
      have kc48_0 := congrArg Int32.toInt (congrFun (a3.2.2.1 48 (by decide)) 0)
      have kc59_0 := congrArg Int32.toInt (congrFun (a3.2.2.1 59 (by decide)) 0)
      have hB_ : yKeep _ _ I1 := hB_
      obtain ⟨mb0, mb1, mb2, mb3, mb4, mb5, mb6, mb7, -⟩ := hB_
      have mb0 := congrArg Int32.toInt mb0
      have mb1 := congrArg Int32.toInt mb1
      have mb2 := congrArg Int32.toInt mb2
      have mb3 := congrArg Int32.toInt mb3
      have mb4 := congrArg Int32.toInt mb4
      have mb5 := congrArg Int32.toInt mb5
      have mb6 := congrArg Int32.toInt mb6
      have mb7 := congrArg Int32.toInt mb7
      have hN_ := hV.2.2.1.1
      have hM_ : yMn I I := hV.2.2.2.1.1.2.1
      have hW_ : yVn I I R := hV.2.2.2.1.1.2.2.1
      obtain ⟨t1_, t2_, t3_⟩ := tie_join hW_ hM_ (by omega) (by omega) (x2 := (I 33 (x4 + Int32.ofInt 2).toInt.toNat)) (x4 := (I 33 (x4 + Int32.ofInt 4).toInt.toNat)) e_b0 ⟨by omega, by omega⟩
      have hrel : yRl I1 := ⟨by omega, by omega, by omega, by omega, by omega, by omega, by omega, by omega⟩
      have hr4 : yR6 I1 R1 := yR6.two hV.2.2.2.1.1.1.1 yFu.rf hV.2.2.1 hV.2.2.2.1.1.1.1.1.1.2.1 yLk.rf a3 (hO_.o5.ob45 hV.2.2.1) (hO_.o5.ob5 hV.2.2.1) (hO_.ob6 hV.2.2.1) hL_ hrel (by omega) (by omega) (by omega) (by omega)
      have hf7 : yF7 I1 R1 := hV.2.2.2.1.1.1.2.rf hV.2.2.1 prf_
      have hr7 : yR7 I1 R1 := ⟨hr4, hf7⟩
      have hr9 : yR9 (K + 1) I1 R1 := hV.2.2.2.1.rf hr7 hV.2.2.1 prf_ (Nat.le_succ K)
      have hV := hV.two hV.2.1 (fun _ _ => rfl) a1 a2 a3 hr9
      have hS := hV.1
      refine y_ret1 ?_
      refine y_istore (ls' := [some _, some _, some _, some _, some _, some _, some _]) rfl rfl rfl ?_
      refine y_aload_n rfl rfl ?_
      refine y_virt rfl rfl rfl rfl rfl (ySh.t hS rfl) (ySh.n hS rfl) ?_
      refine y_in (M := xm_X14_thrown) (ls := [some _]) rfl rfl rfl ?_
      refine y_aload_n rfl rfl ?_
      refine y_getIv (v := Int32.ofInt 3) rfl (ySh.t hS rfl) (ySh.n hS rfl) rfl rfl hth ?_
      refine y_ireturn rfl rfl rfl ?_
      refine y_ret1 ?_
      refine y_iload rfl rfl ?_
      refine y_icmp_eqT rfl j_L_law_748 (by decide) ?_
      refine y_iload rfl rfl ?_
      refine y_if_neT rfl j_L_law_766 (by decide) ?_
      refine y_goto rfl j_L_law_1673 ?_
      refine y_fgt (ls := [some _, some _, some _, some _, some _, none, none]) ⟨rfl, rfl, rfl, rfl, rfl, trivial⟩ ?_
      exact hN _ _ _ _ _ _ hV (by omega) (by omega)
    · have hN_ := hV.2.2.1.1
      have hM_ : yMn I I := hV.2.2.2.1.1.2.1
      have hW_ : yVn I I R := hV.2.2.2.1.1.2.2.1
      obtain ⟨t1_, t2_, t3_⟩ := tie_join hW_ hM_ (by omega) (by omega) (x2 := (I 33 (x4 + Int32.ofInt 2).toInt.toNat)) (x4 := (I 33 (x4 + Int32.ofInt 4).toInt.toNat)) e_b0 ⟨by omega, by omega⟩
      exfalso; omega
  · have hFa : yFt I I_a := pa_1
    have e33 : I_a 33 = I 33 := funext fun k => hFa 33 k (.inl (by decide))
    have hS : ySh n tg R_a := by rw [eR]; exact hS.out
    have hRa : yRI K n tg I_a R_a := (hV.2.2.1.ft hFa).outR (fun a ha => by rw [eR]; exact upd2_row ha)
    refine y_ret1 ?_
    refine y_istore (ls' := [some _, some _, some _, some _, some _, some _, _]) rfl rfl rfl ?_
    refine y_aload_n rfl rfl ?_
    refine y_aload_n rfl rfl ?_
    refine y_iload rfl rfl ?_
    refine y_iconst rfl ?_
    refine y_iadd rfl ?_
    refine y_iaload rfl hV.2.2.2.2.2 (ySh.n hV.1 rfl) (sc_at hx0 hx1 hl (by decide) (by decide)).1 (sc_at hx0 hx1 hl (by decide) (by decide)).2 ?_
    rw [e33]
    refine y_aload_n rfl rfl ?_
    refine y_iload rfl rfl ?_
    refine y_iconst rfl ?_
    refine y_iadd rfl ?_
    refine y_iaload rfl hV.2.2.2.2.2 (ySh.n hV.1 rfl) (sc_at hx0 hx1 hl (by decide) (by decide)).1 (sc_at hx0 hx1 hl (by decide) (by decide)).2 ?_
    rw [e33]
    refine y_aload_n rfl rfl ?_
    refine y_iload rfl rfl ?_
    refine y_iconst rfl ?_
    refine y_iadd rfl ?_
    refine y_iaload rfl hV.2.2.2.2.2 (ySh.n hV.1 rfl) (sc_at hx0 hx1 hl (by decide) (by decide)).1 (sc_at hx0 hx1 hl (by decide) (by decide)).2 ?_
    rw [e33]
    refine y_aload_n rfl rfl ?_
    refine y_iload rfl rfl ?_
    refine y_iconst rfl ?_
    refine y_iadd rfl ?_
    refine y_iaload rfl hV.2.2.2.2.2 (ySh.n hV.1 rfl) (sc_at hx0 hx1 hl (by decide) (by decide)).1 (sc_at hx0 hx1 hl (by decide) (by decide)).2 ?_
    rw [e33]
    refine y_virt rfl rfl rfl rfl rfl (ySh.t hS rfl) (ySh.n hS rfl) ?_
    obtain ⟨r1, r2, r3, r4, r5, r6, r7, r8⟩ := hV.2.2.2.1.1.1.1.1.1.1
    have eM : ∀ l k, 83 ≤ l → (I_a l k).toInt = (I l k).toInt := fun l k hl => congrArg Int32.toInt (hFa l k (.inr (.inl hl)))
    have em83_4 := eM 83 4 (by decide)
    have em83_1 := eM 83 1 (by decide)
    have em83_8 := eM 83 8 (by decide)
    have em88_2 := eM 88 2 (by decide)
    have em91_2 := eM 91 2 (by decide)
    have em92_2 := eM 92 2 (by decide)
    have em89_2 := eM 89 2 (by decide)
    have em90_2 := eM 90 2 (by decide)
    have em83_7 := eM 83 7 (by decide)
    obtain ⟨kb0, kb1, kb2, kb3, kb4, kb5, kb6, kb7, -⟩ := hBa
    have kb0 := congrArg Int32.toInt kb0
    have kb1 := congrArg Int32.toInt kb1
    have kb2 := congrArg Int32.toInt kb2
    have kb3 := congrArg Int32.toInt kb3
    have kb4 := congrArg Int32.toInt kb4
    have kb5 := congrArg Int32.toInt kb5
    have kb6 := congrArg Int32.toInt kb6
    have kb7 := congrArg Int32.toInt kb7
    refine yC.keep3 [(18, 4, 83), (18, 1, 83), (18, 8, 83), (3, 2, 88), (3, 2, 91), (3, 2, 92), (3, 2, 89), (3, 2, 90)] yLO6 rfl rfl rfl hS hRa ?_
    refine h_join hS hRa hk6  (fun hm_ v_b n1 tg1 I1 R1 c1 s1 a1 a2 a3 hth prf_ hc_b hs_b => ⟨a1, a3.2.1, fun hB_ h93_ hO_ hL_ => ?_⟩) (fun hm_ v_b n1 tg1 I1 R1 c1 s1 a1 a2 a3 hth prf_ hc_b hs_b => ⟨a1, a3.2.1, fun hB_ h93_ hO_ hL_ => ?_⟩) (fun q_b e_b0 hm_ v_b n1 tg1 I1 R1 c1 s1 a1 a2 a3 hth prf_ hc_b hs_b => ⟨a1, a3.2.1, fun hB_ h93_ hO_ hL_ => ?_⟩) (fun q_b e_b0 hm_ v_b n1 tg1 I1 R1 c1 s1 a1 a2 a3 hth pv_ px_ hc_b hs_b => ⟨a1, a3.2.1, fun hB_ h93_ hO_ hL_ => ?_⟩)
    · have hN_ := hV.2.2.1.1
      have hLv_ : yLk I R R_a := by rw [eR]; exact yLk.out hV.2.2.1
      have hM_ : yMn I I_a := hV.2.2.2.1.1.2.1.ia hFa
      exfalso; omega
    · have hN_ := hV.2.2.1.1
      have hLv_ : yLk I R R_a := by rw [eR]; exact yLk.out hV.2.2.1
      have hM_ : yMn I I_a := hV.2.2.2.1.1.2.1.ia hFa
      exfalso; omega
    · have hN_ := hV.2.2.1.1
      have hLv_ : yLk I R R_a := by rw [eR]; exact yLk.out hV.2.2.1
      have hM_ : yMn I I_a := hV.2.2.2.1.1.2.1.ia hFa
      have hW_ : yVn I I_a R_a := hV.2.2.2.1.1.2.2.1.ia hV.2.2.1 hFa hLv_
      obtain ⟨t1_, t2_, t3_⟩ := tie_join hW_ hM_ (by omega) (by omega) (x2 := (I 33 (x4 + Int32.ofInt 2).toInt.toNat)) (x4 := (I 33 (x4 + Int32.ofInt 4).toInt.toNat)) e_b0 ⟨by omega, by omega⟩
      exfalso; omega
    · have kc34_9 := congrArg Int32.toInt (congrFun (a3.2.2.1 34 (by decide)) 9)
      have kc34_8 := congrArg Int32.toInt (congrFun (a3.2.2.1 34 (by decide)) 8)
      have kc38_0 := congrArg Int32.toInt (congrFun (a3.2.2.1 38 (by decide)) 0)
      have kc40_0 := congrArg Int32.toInt (congrFun (a3.2.2.1 40 (by decide)) 0)
      have kc69_0 := congrArg Int32.toInt (congrFun (a3.2.2.1 69 (by decide)) 0)
      have kc77_0 := congrArg Int32.toInt (congrFun (a3.2.2.1 77 (by decide)) 0)
      have kc48_0 := congrArg Int32.toInt (congrFun (a3.2.2.1 48 (by decide)) 0)
      have kc59_0 := congrArg Int32.toInt (congrFun (a3.2.2.1 59 (by decide)) 0)
      have hB_ : yKeep _ _ I1 := hB_
      obtain ⟨mb0, mb1, mb2, mb3, mb4, mb5, mb6, mb7, -⟩ := hB_
      have mb0 := congrArg Int32.toInt mb0
      have mb1 := congrArg Int32.toInt mb1
      have mb2 := congrArg Int32.toInt mb2
      have mb3 := congrArg Int32.toInt mb3
      have mb4 := congrArg Int32.toInt mb4
      have mb5 := congrArg Int32.toInt mb5
      have mb6 := congrArg Int32.toInt mb6
      have mb7 := congrArg Int32.toInt mb7
      have hN_ := hV.2.2.1.1
      have hLv_ : yLk I R R_a := by rw [eR]; exact yLk.out hV.2.2.1
      have hM_ : yMn I I_a := hV.2.2.2.1.1.2.1.ia hFa
      have hW_ : yVn I I_a R_a := hV.2.2.2.1.1.2.2.1.ia hV.2.2.1 hFa hLv_
      obtain ⟨t1_, t2_, t3_⟩ := tie_join hW_ hM_ (by omega) (by omega) (x2 := (I 33 (x4 + Int32.ofInt 2).toInt.toNat)) (x4 := (I 33 (x4 + Int32.ofInt 4).toInt.toNat)) e_b0 ⟨by omega, by omega⟩
      have hrel : yRl I1 := ⟨by omega, by omega, by omega, by omega, by omega, by omega, by omega, by omega⟩
      have hHa : yHr I_a R_a := by rw [eR]; exact yHr.a hV.2.2.2.1.1.1.1.1.1 hV.2.2.1 hFa
      have hLa : yLk I R R_a := by rw [eR]; exact yLk.out hV.2.2.1
      have hw_ : yFu I I_a := yFu.of fun a d1 d2 d3 d4 d5 d6 => by rw [pa_3]; repeat first | rw [upd2_row (by omega)] | rw [yAddC_row (by omega)]
      have hr4 : yR6 I1 R1 := yR6.two hV.2.2.2.1.1.1.1 hw_ hRa hHa hLa a3 (hO_.o5.ob45 hRa) (hO_.o5.ob5 hRa) (hO_.ob6 hRa) hL_ hrel (by omega) (by omega) (by omega) (by omega)
      have hL7_ : yLk I R R1 := fun l h1 h2 i hi => (hL_ l h1 h2 i (by rw [hFa.hi (show 83 ≤ l by omega)]; exact hi)).trans (hLa l h1 h2 i hi)
      obtain ⟨tb0_, tb1_, tb2_, tb3_⟩ := hRa.g91 (by omega) e_b0
      have lb_ := hRa.lo (l := 91) (by decide) (by decide) (by omega) e_b0
      have hm7_ : yFm n tg I I1 := yFm.x px_ (by repeat first | exact yFm.ft hFa | exact yFm.rr | refine yFm.addC ?_ | refine yFm.shD ?_ | refine yFm.prD ?_ (by assumption) | refine yFm.lsD ?_ (by assumption) | refine yFm.up ?_ (by first | exact .inl (by decide) | exact .inr (by assumption)))
      have h94_ : 94 ≤ n := hV.1.1
      have h7_ : I1 83 7 = I 83 7 := (congrFun (px_.n (show 83 < n by omega)) 7).trans (by repeat first | exact rfl | exact yext em83_7 | refine k7addC ?_ | refine k7shD ?_ | refine k7prD ?_ (by omega) | refine k7lsD ?_ (by omega) | refine k7up ?_ (by first | exact .inr (by decide) | exact .inl (by decide) | exact .inl (by omega)))
      have hf7 : yF7 I1 R1 := hV.2.2.2.1.1.1.2.st hV.2.2.1 (by omega) h7_ (fun a h1 h2 => (a3.2.2.1 a (by omega)).trans (by rw [pa_3]; repeat first | rw [upd2_row (by omega)] | rw [yAddC_row (by omega)])) hL7_ hm7_
      have hr7 : yR7 I1 R1 := ⟨hr4, hf7⟩
      have hM8_ : yMn I I_a := hV.2.2.2.1.1.2.1.ia hFa
      obtain ⟨hmn_, hvn_⟩ := s8_join hV.2.2.2.1.1 hV.2.2.1 hRa hFa hLa a3 e_b0 ⟨by omega, by omega⟩ (by omega) (by omega) ⟨by omega, by omega⟩ pa_3 px_
      have hmb_ : yMb (K + 1) I1 := hV.2.2.2.1.1.2.2.2.cg (Nat.le_succ K) (congrFun ((a3.2.2.1 74 (by decide)).trans (by rw [pa_3]; repeat first | rw [upd2_row (by omega)] | rw [yAddC_row (by omega)])) 2) ((a3.2.2.1 76 (by decide)).trans (by rw [pa_3]; repeat first | rw [upd2_row (by omega)] | rw [yAddC_row (by omega)])) (by omega)
      have hbn_ : q_b = yAd R1 91 (I 33 (x4 + Int32.ofInt 1).toInt.toNat).toInt.toNat := e_b0.trans (hL_ 91 (by decide) (by decide) _ (by omega)).symm
      have hr8 : yR8 (K + 1) I1 R1 := ⟨hr7, hmn_, hvn_, hmb_⟩
      have hp9_ : yP9 I1 R1 := hV.2.2.2.1.2.1.kp hV.2.2.1 hFa hLa (by rw [pa_3]; repeat first | rw [upd2_row (by omega)] | rw [yAddC_row (by omega)]) (by omega) a3
      have hpd_ : yPdd I1 := hV.2.2.2.1.2.2.st (by omega) ((a3.2.2.1 54 (by decide)).trans (by rw [pa_3]; repeat first | rw [upd2_row (by omega)] | rw [yAddC_row (by omega)])) ((a3.2.2.1 55 (by decide)).trans (by rw [pa_3]; repeat first | rw [upd2_row (by omega)] | rw [yAddC_row (by omega)]))
      have hr9 : yR9 (K + 1) I1 R1 := ⟨hr8, hp9_, hpd_⟩
      have hvb : v_b = v_a := pv_.trans ((hvn_.vs a3 (f := 2) (by decide) (by omega) (by omega) hbn_).trans pa_2.symm)
      have h93 : R1 93 0 = .long v_b.toInt64 := (show R1 93 0 = _ from h93_).trans (by rw [eR]; rw [upd2_self, hvb])
      have hV := hV.two pa_0 (fun a ha => funext fun k => hFa a k (.inl ha)) a1 a2 a3 hr9
      have hS := hV.1
      refine y_ret1 ?_
      refine y_istore (ls' := [some _, some _, some _, some _, some _, some _, some _]) rfl rfl rfl ?_
      refine y_aload_n rfl rfl ?_
      refine y_virt rfl rfl rfl rfl rfl (ySh.t hS rfl) (ySh.n hS rfl) ?_
      refine y_in (M := xm_X14_thrown) (ls := [some _]) rfl rfl rfl ?_
      refine y_aload_n rfl rfl ?_
      refine y_getIv (v := Int32.ofInt 0) rfl (ySh.t hS rfl) (ySh.n hS rfl) rfl rfl hth ?_
      refine y_ireturn rfl rfl rfl ?_
      refine y_ret1 ?_
      refine y_iload rfl rfl ?_
      refine y_icmp_eqT rfl j_L_law_748 (by decide) ?_
      refine y_iload rfl rfl ?_
      refine y_if_neF rfl (by decide) ?_
      refine y_aload_n rfl rfl ?_
      refine y_getR rfl (ySh.t hS rfl) (ySh.n hS rfl) rfl rfl h93 ?_
      refine y_iload rfl rfl ?_
      refine y_i2l rfl ?_
      refine y_lcmp rfl ?_
      rw [lgc_self]
      refine y_if_eqT rfl j_L_law_766 (by decide) ?_
      refine y_goto rfl j_L_law_1673 ?_
      refine y_fgt (ls := [some _, some _, some _, some _, some _, none, none]) ⟨rfl, rfl, rfl, rfl, rfl, trivial⟩ ?_
      exact hN _ _ _ _ _ _ hV (by omega) (by omega)
theorem lc_13 (hV : yInv K n tg I R ln) (hk6 : K < 600) {x4 : Int32} (hx0 : 0 ≤ x4.toInt) (hx1 : x4.toInt + 7 ≤ (ln : Int)) (hl : ln ≤ 3584) (hN : ∀ n1 tg1 I1 R1 c1 s1, yInv (K + 1) n1 tg1 I1 R1 ln → c1 ≤ c + 790 → s1 ≤ s + 15250 → yW xm_L_law xc_L_law_1673 [some (.ref 33), some (.ref 34), some (.ref 83), some (.ref 93), some (.int x4), none, none] [] (n1, tg1, I1, R1) c1 s1 Q) : yW xm_L_law xc_L_law_769 [some (.ref 33), some (.ref 34), some (.ref 83), some (.ref 93), some (.int x4), none, none] [] (n, tg, I, R) c s Q := by
  have hS := hV.1
  refine y_aload_n rfl rfl ?_
  refine y_aload_n rfl rfl ?_
  refine y_iload rfl rfl ?_
  refine y_iconst rfl ?_
  refine y_iadd rfl ?_
  refine y_iaload rfl hV.2.2.2.2.2 (ySh.n hV.1 rfl) (sc_at hx0 hx1 hl (by decide) (by decide)).1 (sc_at hx0 hx1 hl (by decide) (by decide)).2 ?_
  refine y_aload_n rfl rfl ?_
  refine y_iload rfl rfl ?_
  refine y_iconst rfl ?_
  refine y_iadd rfl ?_
  refine y_iaload rfl hV.2.2.2.2.2 (ySh.n hV.1 rfl) (sc_at hx0 hx1 hl (by decide) (by decide)).1 (sc_at hx0 hx1 hl (by decide) (by decide)).2 ?_
  refine y_aload_n rfl rfl ?_
  refine y_iload rfl rfl ?_
  refine y_iconst rfl ?_
  refine y_iadd rfl ?_
  refine y_iaload rfl hV.2.2.2.2.2 (ySh.n hV.1 rfl) (sc_at hx0 hx1 hl (by decide) (by decide)).1 (sc_at hx0 hx1 hl (by decide) (by decide)).2 ?_
  refine y_aload_n rfl rfl ?_
  refine y_static rfl rfl rfl rfl rfl ?_
  refine v_result hS hV.2.1 (fun hc_ => ?_) (fun hc_ => ?_) (fun hc_ => ?_) (fun hc_ v_a I_a pa_0 pa_1 pa_2 pa_3 hBa R_a eR => ?_) (fun hc_ v_a I_a pa_0 pa_1 pa_2 pa_3 hBa R_a eR => ?_) (fun hc_ v_a I_a pa_0 pa_1 pa_2 pa_3 hBa R_a eR => ?_)
  · have e33 : I 33 = I 33 := rfl
    refine y_ret1 ?_
    refine y_istore (ls' := [some _, some _, some _, some _, some _, some _, _]) rfl rfl rfl ?_
    refine y_aload_n rfl rfl ?_
    refine y_aload_n rfl rfl ?_
    refine y_iload rfl rfl ?_
    refine y_iconst rfl ?_
    refine y_iadd rfl ?_
    refine y_iaload rfl hV.2.2.2.2.2 (ySh.n hV.1 rfl) (sc_at hx0 hx1 hl (by decide) (by decide)).1 (sc_at hx0 hx1 hl (by decide) (by decide)).2 ?_
    rw [e33]
    refine y_aload_n rfl rfl ?_
    refine y_iload rfl rfl ?_
    refine y_iconst rfl ?_
    refine y_iadd rfl ?_
    refine y_iaload rfl hV.2.2.2.2.2 (ySh.n hV.1 rfl) (sc_at hx0 hx1 hl (by decide) (by decide)).1 (sc_at hx0 hx1 hl (by decide) (by decide)).2 ?_
    rw [e33]
    refine y_aload_n rfl rfl ?_
    refine y_iload rfl rfl ?_
    refine y_iconst rfl ?_
    refine y_iadd rfl ?_
    refine y_iaload rfl hV.2.2.2.2.2 (ySh.n hV.1 rfl) (sc_at hx0 hx1 hl (by decide) (by decide)).1 (sc_at hx0 hx1 hl (by decide) (by decide)).2 ?_
    rw [e33]
    refine y_virt rfl rfl rfl rfl rfl (ySh.t hS rfl) (ySh.n hS rfl) ?_
    obtain ⟨r1, r2, r3, r4, r5, r6, r7, r8⟩ := hV.2.2.2.1.1.1.1.1.1.1
    refine yC.keep3 [(18, 4, 83), (18, 1, 83), (18, 8, 83), (3, 2, 88), (3, 2, 91), (3, 2, 92), (3, 2, 89), (3, 2, 90)] yLO6 rfl rfl rfl hS hV.2.2.1 ?_
    refine h_result hS hV.2.2.1 hk6  (fun hm_ v_b n1 tg1 I1 R1 c1 s1 a1 a2 a3 hth prf_ hc_b hs_b => ⟨a1, a3.2.1, fun hB_ h93_ hO_ hL_ => ?_⟩) (fun hm_ v_b n1 tg1 I1 R1 c1 s1 a1 a2 a3 hth prf_ hc_b hs_b => ⟨a1, a3.2.1, fun hB_ h93_ hO_ hL_ => ?_⟩) (fun q_b e_b0 hm_ v_b n1 tg1 I1 R1 c1 s1 a1 a2 a3 hth prf_ hc_b hs_b => ⟨a1, a3.2.1, fun hB_ h93_ hO_ hL_ => ?_⟩) (fun q_b e_b0 hm_ v_b n1 tg1 I1 R1 c1 s1 a1 a2 a3 hth pv_ px_ hc_b hs_b => ⟨a1, a3.2.1, fun hB_ h93_ hO_ hL_ => ?_⟩) (fun q_b e_b0 hm_ v_b n1 tg1 I1 R1 c1 s1 a1 a2 a3 hth q_le e_le pv_ px_ hc_b hs_b => ⟨a1, a3.2.1, fun hB_ h93_ hO_ hL_ => ?_⟩) (fun q_b e_b0 hm_ v_b n1 tg1 I1 R1 c1 s1 a1 a2 a3 hth pv_ px_ hc_b hs_b => ⟨a1, a3.2.1, fun hB_ h93_ hO_ hL_ => ?_⟩)
    · have kc34_9 := congrArg Int32.toInt (congrFun (a3.2.2.1 34 (by decide)) 9)
      have kc34_8 := congrArg Int32.toInt (congrFun (a3.2.2.1 34 (by decide)) 8)
      have kc38_0 := congrArg Int32.toInt (congrFun (a3.2.2.1 38 (by decide)) 0)
      have kc40_0 := congrArg Int32.toInt (congrFun (a3.2.2.1 40 (by decide)) 0)
      have kc69_0 := congrArg Int32.toInt (congrFun (a3.2.2.1 69 (by decide)) 0)
      have kc77_0 := congrArg Int32.toInt (congrFun (a3.2.2.1 77 (by decide)) 0)
      have kc48_0 := congrArg Int32.toInt (congrFun (a3.2.2.1 48 (by decide)) 0)
      have kc59_0 := congrArg Int32.toInt (congrFun (a3.2.2.1 59 (by decide)) 0)
      have hB_ : yKeep _ _ I1 := hB_
      obtain ⟨mb0, mb1, mb2, mb3, mb4, mb5, mb6, mb7, -⟩ := hB_
      have mb0 := congrArg Int32.toInt mb0
      have mb1 := congrArg Int32.toInt mb1
      have mb2 := congrArg Int32.toInt mb2
      have mb3 := congrArg Int32.toInt mb3
      have mb4 := congrArg Int32.toInt mb4
      have mb5 := congrArg Int32.toInt mb5
      have mb6 := congrArg Int32.toInt mb6
      have mb7 := congrArg Int32.toInt mb7
      have hN_ := hV.2.2.1.1
      have hM_ : yMn I I := hV.2.2.2.1.1.2.1
      have hrel : yRl I1 := ⟨by omega, by omega, by omega, by omega, by omega, by omega, by omega, by omega⟩
      have hr4 : yR6 I1 R1 := yR6.two hV.2.2.2.1.1.1.1 yFu.rf hV.2.2.1 hV.2.2.2.1.1.1.1.1.1.2.1 yLk.rf a3 (hO_.o5.ob45 hV.2.2.1) (hO_.o5.ob5 hV.2.2.1) (hO_.ob6 hV.2.2.1) hL_ hrel (by omega) (by omega) (by omega) (by omega)
      have hf7 : yF7 I1 R1 := hV.2.2.2.1.1.1.2.rf hV.2.2.1 prf_
      have hr7 : yR7 I1 R1 := ⟨hr4, hf7⟩
      have hr9 : yR9 (K + 1) I1 R1 := hV.2.2.2.1.rf hr7 hV.2.2.1 prf_ (Nat.le_succ K)
      have hV := hV.two hV.2.1 (fun _ _ => rfl) a1 a2 a3 hr9
      have hS := hV.1
      refine y_ret1 ?_
      refine y_istore (ls' := [some _, some _, some _, some _, some _, some _, some _]) rfl rfl rfl ?_
      refine y_goto rfl j_L_law_1673 ?_
      refine y_fgt (ls := [some _, some _, some _, some _, some _, none, none]) ⟨rfl, rfl, rfl, rfl, rfl, trivial⟩ ?_
      exact hN _ _ _ _ _ _ hV (by omega) (by omega)
    · have hN_ := hV.2.2.1.1
      have hM_ : yMn I I := hV.2.2.2.1.1.2.1
      exfalso; omega
    · have hN_ := hV.2.2.1.1
      have hM_ : yMn I I := hV.2.2.2.1.1.2.1
      have hW_ : yVn I I R := hV.2.2.2.1.1.2.2.1
      have t1_ := tie_res hW_ (by omega) (by omega) (x3 := (I 33 (x4 + Int32.ofInt 3).toInt.toNat)) e_b0
      exfalso; omega
    · have hN_ := hV.2.2.1.1
      have hM_ : yMn I I := hV.2.2.2.1.1.2.1
      have hW_ : yVn I I R := hV.2.2.2.1.1.2.2.1
      have t1_ := tie_res hW_ (by omega) (by omega) (x3 := (I 33 (x4 + Int32.ofInt 3).toInt.toNat)) e_b0
      exfalso; omega
    · have hN_ := hV.2.2.1.1
      have hM_ : yMn I I := hV.2.2.2.1.1.2.1
      have hW_ : yVn I I R := hV.2.2.2.1.1.2.2.1
      have t1_ := tie_res hW_ (by omega) (by omega) (x3 := (I 33 (x4 + Int32.ofInt 3).toInt.toNat)) e_b0
      exfalso; omega
    · have hN_ := hV.2.2.1.1
      have hM_ : yMn I I := hV.2.2.2.1.1.2.1
      have hW_ : yVn I I R := hV.2.2.2.1.1.2.2.1
      have t1_ := tie_res hW_ (by omega) (by omega) (x3 := (I 33 (x4 + Int32.ofInt 3).toInt.toNat)) e_b0
      exfalso; omega
  · have e33 : I 33 = I 33 := rfl
    refine y_ret1 ?_
    refine y_istore (ls' := [some _, some _, some _, some _, some _, some _, _]) rfl rfl rfl ?_
    refine y_aload_n rfl rfl ?_
    refine y_aload_n rfl rfl ?_
    refine y_iload rfl rfl ?_
    refine y_iconst rfl ?_
    refine y_iadd rfl ?_
    refine y_iaload rfl hV.2.2.2.2.2 (ySh.n hV.1 rfl) (sc_at hx0 hx1 hl (by decide) (by decide)).1 (sc_at hx0 hx1 hl (by decide) (by decide)).2 ?_
    rw [e33]
    refine y_aload_n rfl rfl ?_
    refine y_iload rfl rfl ?_
    refine y_iconst rfl ?_
    refine y_iadd rfl ?_
    refine y_iaload rfl hV.2.2.2.2.2 (ySh.n hV.1 rfl) (sc_at hx0 hx1 hl (by decide) (by decide)).1 (sc_at hx0 hx1 hl (by decide) (by decide)).2 ?_
    rw [e33]
    refine y_aload_n rfl rfl ?_
    refine y_iload rfl rfl ?_
    refine y_iconst rfl ?_
    refine y_iadd rfl ?_
    refine y_iaload rfl hV.2.2.2.2.2 (ySh.n hV.1 rfl) (sc_at hx0 hx1 hl (by decide) (by decide)).1 (sc_at hx0 hx1 hl (by decide) (by decide)).2 ?_
    rw [e33]
    refine y_virt rfl rfl rfl rfl rfl (ySh.t hS rfl) (ySh.n hS rfl) ?_
    obtain ⟨r1, r2, r3, r4, r5, r6, r7, r8⟩ := hV.2.2.2.1.1.1.1.1.1.1
    refine yC.keep3 [(18, 4, 83), (18, 1, 83), (18, 8, 83), (3, 2, 88), (3, 2, 91), (3, 2, 92), (3, 2, 89), (3, 2, 90)] yLO6 rfl rfl rfl hS hV.2.2.1 ?_
    refine h_result hS hV.2.2.1 hk6  (fun hm_ v_b n1 tg1 I1 R1 c1 s1 a1 a2 a3 hth prf_ hc_b hs_b => ⟨a1, a3.2.1, fun hB_ h93_ hO_ hL_ => ?_⟩) (fun hm_ v_b n1 tg1 I1 R1 c1 s1 a1 a2 a3 hth prf_ hc_b hs_b => ⟨a1, a3.2.1, fun hB_ h93_ hO_ hL_ => ?_⟩) (fun q_b e_b0 hm_ v_b n1 tg1 I1 R1 c1 s1 a1 a2 a3 hth prf_ hc_b hs_b => ⟨a1, a3.2.1, fun hB_ h93_ hO_ hL_ => ?_⟩) (fun q_b e_b0 hm_ v_b n1 tg1 I1 R1 c1 s1 a1 a2 a3 hth pv_ px_ hc_b hs_b => ⟨a1, a3.2.1, fun hB_ h93_ hO_ hL_ => ?_⟩) (fun q_b e_b0 hm_ v_b n1 tg1 I1 R1 c1 s1 a1 a2 a3 hth q_le e_le pv_ px_ hc_b hs_b => ⟨a1, a3.2.1, fun hB_ h93_ hO_ hL_ => ?_⟩) (fun q_b e_b0 hm_ v_b n1 tg1 I1 R1 c1 s1 a1 a2 a3 hth pv_ px_ hc_b hs_b => ⟨a1, a3.2.1, fun hB_ h93_ hO_ hL_ => ?_⟩)
    · have hN_ := hV.2.2.1.1
      have hM_ : yMn I I := hV.2.2.2.1.1.2.1
      exfalso; omega
    · have kc34_9 := congrArg Int32.toInt (congrFun (a3.2.2.1 34 (by decide)) 9)
      have kc34_8 := congrArg Int32.toInt (congrFun (a3.2.2.1 34 (by decide)) 8)
      have kc38_0 := congrArg Int32.toInt (congrFun (a3.2.2.1 38 (by decide)) 0)
      have kc40_0 := congrArg Int32.toInt (congrFun (a3.2.2.1 40 (by decide)) 0)
      have kc69_0 := congrArg Int32.toInt (congrFun (a3.2.2.1 69 (by decide)) 0)
      have kc77_0 := congrArg Int32.toInt (congrFun (a3.2.2.1 77 (by decide)) 0)
      have kc48_0 := congrArg Int32.toInt (congrFun (a3.2.2.1 48 (by decide)) 0)
      have kc59_0 := congrArg Int32.toInt (congrFun (a3.2.2.1 59 (by decide)) 0)
      have hB_ : yKeep _ _ I1 := hB_
      obtain ⟨mb0, mb1, mb2, mb3, mb4, mb5, mb6, mb7, -⟩ := hB_
      have mb0 := congrArg Int32.toInt mb0
      have mb1 := congrArg Int32.toInt mb1
      have mb2 := congrArg Int32.toInt mb2
      have mb3 := congrArg Int32.toInt mb3
      have mb4 := congrArg Int32.toInt mb4
      have mb5 := congrArg Int32.toInt mb5
      have mb6 := congrArg Int32.toInt mb6
      have mb7 := congrArg Int32.toInt mb7
      have hN_ := hV.2.2.1.1
      have hM_ : yMn I I := hV.2.2.2.1.1.2.1
      have hrel : yRl I1 := ⟨by omega, by omega, by omega, by omega, by omega, by omega, by omega, by omega⟩
      have hr4 : yR6 I1 R1 := yR6.two hV.2.2.2.1.1.1.1 yFu.rf hV.2.2.1 hV.2.2.2.1.1.1.1.1.1.2.1 yLk.rf a3 (hO_.o5.ob45 hV.2.2.1) (hO_.o5.ob5 hV.2.2.1) (hO_.ob6 hV.2.2.1) hL_ hrel (by omega) (by omega) (by omega) (by omega)
      have hf7 : yF7 I1 R1 := hV.2.2.2.1.1.1.2.rf hV.2.2.1 prf_
      have hr7 : yR7 I1 R1 := ⟨hr4, hf7⟩
      have hr9 : yR9 (K + 1) I1 R1 := hV.2.2.2.1.rf hr7 hV.2.2.1 prf_ (Nat.le_succ K)
      have hV := hV.two hV.2.1 (fun _ _ => rfl) a1 a2 a3 hr9
      have hS := hV.1
      refine y_ret1 ?_
      refine y_istore (ls' := [some _, some _, some _, some _, some _, some _, some _]) rfl rfl rfl ?_
      refine y_goto rfl j_L_law_1673 ?_
      refine y_fgt (ls := [some _, some _, some _, some _, some _, none, none]) ⟨rfl, rfl, rfl, rfl, rfl, trivial⟩ ?_
      exact hN _ _ _ _ _ _ hV (by omega) (by omega)
    · have hN_ := hV.2.2.1.1
      have hM_ : yMn I I := hV.2.2.2.1.1.2.1
      have hW_ : yVn I I R := hV.2.2.2.1.1.2.2.1
      have t1_ := tie_res hW_ (by omega) (by omega) (x3 := (I 33 (x4 + Int32.ofInt 3).toInt.toNat)) e_b0
      exfalso; omega
    · have hN_ := hV.2.2.1.1
      have hM_ : yMn I I := hV.2.2.2.1.1.2.1
      have hW_ : yVn I I R := hV.2.2.2.1.1.2.2.1
      have t1_ := tie_res hW_ (by omega) (by omega) (x3 := (I 33 (x4 + Int32.ofInt 3).toInt.toNat)) e_b0
      exfalso; omega
    · have hN_ := hV.2.2.1.1
      have hM_ : yMn I I := hV.2.2.2.1.1.2.1
      have hW_ : yVn I I R := hV.2.2.2.1.1.2.2.1
      have t1_ := tie_res hW_ (by omega) (by omega) (x3 := (I 33 (x4 + Int32.ofInt 3).toInt.toNat)) e_b0
      exfalso; omega
    · have hN_ := hV.2.2.1.1
      have hM_ : yMn I I := hV.2.2.2.1.1.2.1
      have hW_ : yVn I I R := hV.2.2.2.1.1.2.2.1
      have t1_ := tie_res hW_ (by omega) (by omega) (x3 := (I 33 (x4 + Int32.ofInt 3).toInt.toNat)) e_b0
      exfalso; omega
  · have e33 : I 33 = I 33 := rfl
    refine y_ret1 ?_
    refine y_istore (ls' := [some _, some _, some _, some _, some _, some _, _]) rfl rfl rfl ?_
    refine y_aload_n rfl rfl ?_
    refine y_aload_n rfl rfl ?_
    refine y_iload rfl rfl ?_
    refine y_iconst rfl ?_
    refine y_iadd rfl ?_
    refine y_iaload rfl hV.2.2.2.2.2 (ySh.n hV.1 rfl) (sc_at hx0 hx1 hl (by decide) (by decide)).1 (sc_at hx0 hx1 hl (by decide) (by decide)).2 ?_
    rw [e33]
    refine y_aload_n rfl rfl ?_
    refine y_iload rfl rfl ?_
    refine y_iconst rfl ?_
    refine y_iadd rfl ?_
    refine y_iaload rfl hV.2.2.2.2.2 (ySh.n hV.1 rfl) (sc_at hx0 hx1 hl (by decide) (by decide)).1 (sc_at hx0 hx1 hl (by decide) (by decide)).2 ?_
    rw [e33]
    refine y_aload_n rfl rfl ?_
    refine y_iload rfl rfl ?_
    refine y_iconst rfl ?_
    refine y_iadd rfl ?_
    refine y_iaload rfl hV.2.2.2.2.2 (ySh.n hV.1 rfl) (sc_at hx0 hx1 hl (by decide) (by decide)).1 (sc_at hx0 hx1 hl (by decide) (by decide)).2 ?_
    rw [e33]
    refine y_virt rfl rfl rfl rfl rfl (ySh.t hS rfl) (ySh.n hS rfl) ?_
    obtain ⟨r1, r2, r3, r4, r5, r6, r7, r8⟩ := hV.2.2.2.1.1.1.1.1.1.1
    refine yC.keep3 [(18, 4, 83), (18, 1, 83), (18, 8, 83), (3, 2, 88), (3, 2, 91), (3, 2, 92), (3, 2, 89), (3, 2, 90)] yLO6 rfl rfl rfl hS hV.2.2.1 ?_
    refine h_result hS hV.2.2.1 hk6  (fun hm_ v_b n1 tg1 I1 R1 c1 s1 a1 a2 a3 hth prf_ hc_b hs_b => ⟨a1, a3.2.1, fun hB_ h93_ hO_ hL_ => ?_⟩) (fun hm_ v_b n1 tg1 I1 R1 c1 s1 a1 a2 a3 hth prf_ hc_b hs_b => ⟨a1, a3.2.1, fun hB_ h93_ hO_ hL_ => ?_⟩) (fun q_b e_b0 hm_ v_b n1 tg1 I1 R1 c1 s1 a1 a2 a3 hth prf_ hc_b hs_b => ⟨a1, a3.2.1, fun hB_ h93_ hO_ hL_ => ?_⟩) (fun q_b e_b0 hm_ v_b n1 tg1 I1 R1 c1 s1 a1 a2 a3 hth pv_ px_ hc_b hs_b => ⟨a1, a3.2.1, fun hB_ h93_ hO_ hL_ => ?_⟩) (fun q_b e_b0 hm_ v_b n1 tg1 I1 R1 c1 s1 a1 a2 a3 hth q_le e_le pv_ px_ hc_b hs_b => ⟨a1, a3.2.1, fun hB_ h93_ hO_ hL_ => ?_⟩) (fun q_b e_b0 hm_ v_b n1 tg1 I1 R1 c1 s1 a1 a2 a3 hth pv_ px_ hc_b hs_b => ⟨a1, a3.2.1, fun hB_ h93_ hO_ hL_ => ?_⟩)
    · have hN_ := hV.2.2.1.1
      have hM_ : yMn I I := hV.2.2.2.1.1.2.1
      exfalso; omega
    · have hN_ := hV.2.2.1.1
      have hM_ : yMn I I := hV.2.2.2.1.1.2.1
      exfalso; omega
    · have kc34_9 := congrArg Int32.toInt (congrFun (a3.2.2.1 34 (by decide)) 9)
      have kc34_8 := congrArg Int32.toInt (congrFun (a3.2.2.1 34 (by decide)) 8)
      have kc38_0 := congrArg Int32.toInt (congrFun (a3.2.2.1 38 (by decide)) 0)
      have kc40_0 := congrArg Int32.toInt (congrFun (a3.2.2.1 40 (by decide)) 0)
      have kc69_0 := congrArg Int32.toInt (congrFun (a3.2.2.1 69 (by decide)) 0)
      have kc77_0 := congrArg Int32.toInt (congrFun (a3.2.2.1 77 (by decide)) 0)
      have kc48_0 := congrArg Int32.toInt (congrFun (a3.2.2.1 48 (by decide)) 0)
      have kc59_0 := congrArg Int32.toInt (congrFun (a3.2.2.1 59 (by decide)) 0)
      have hB_ : yKeep _ _ I1 := hB_
      obtain ⟨mb0, mb1, mb2, mb3, mb4, mb5, mb6, mb7, -⟩ := hB_
      have mb0 := congrArg Int32.toInt mb0
      have mb1 := congrArg Int32.toInt mb1
      have mb2 := congrArg Int32.toInt mb2
      have mb3 := congrArg Int32.toInt mb3
      have mb4 := congrArg Int32.toInt mb4
      have mb5 := congrArg Int32.toInt mb5
      have mb6 := congrArg Int32.toInt mb6
      have mb7 := congrArg Int32.toInt mb7
      have hN_ := hV.2.2.1.1
      have hM_ : yMn I I := hV.2.2.2.1.1.2.1
      have hW_ : yVn I I R := hV.2.2.2.1.1.2.2.1
      have t1_ := tie_res hW_ (by omega) (by omega) (x3 := (I 33 (x4 + Int32.ofInt 3).toInt.toNat)) e_b0
      have hrel : yRl I1 := ⟨by omega, by omega, by omega, by omega, by omega, by omega, by omega, by omega⟩
      have hr4 : yR6 I1 R1 := yR6.two hV.2.2.2.1.1.1.1 yFu.rf hV.2.2.1 hV.2.2.2.1.1.1.1.1.1.2.1 yLk.rf a3 (hO_.o5.ob45 hV.2.2.1) (hO_.o5.ob5 hV.2.2.1) (hO_.ob6 hV.2.2.1) hL_ hrel (by omega) (by omega) (by omega) (by omega)
      have hf7 : yF7 I1 R1 := hV.2.2.2.1.1.1.2.rf hV.2.2.1 prf_
      have hr7 : yR7 I1 R1 := ⟨hr4, hf7⟩
      have hr9 : yR9 (K + 1) I1 R1 := hV.2.2.2.1.rf hr7 hV.2.2.1 prf_ (Nat.le_succ K)
      have hV := hV.two hV.2.1 (fun _ _ => rfl) a1 a2 a3 hr9
      have hS := hV.1
      refine y_ret1 ?_
      refine y_istore (ls' := [some _, some _, some _, some _, some _, some _, some _]) rfl rfl rfl ?_
      refine y_goto rfl j_L_law_1673 ?_
      refine y_fgt (ls := [some _, some _, some _, some _, some _, none, none]) ⟨rfl, rfl, rfl, rfl, rfl, trivial⟩ ?_
      exact hN _ _ _ _ _ _ hV (by omega) (by omega)
    · have hN_ := hV.2.2.1.1
      have hM_ : yMn I I := hV.2.2.2.1.1.2.1
      have hW_ : yVn I I R := hV.2.2.2.1.1.2.2.1
      have t1_ := tie_res hW_ (by omega) (by omega) (x3 := (I 33 (x4 + Int32.ofInt 3).toInt.toNat)) e_b0
      exfalso; omega
    · have hN_ := hV.2.2.1.1
      have hM_ : yMn I I := hV.2.2.2.1.1.2.1
      have hW_ : yVn I I R := hV.2.2.2.1.1.2.2.1
      have t1_ := tie_res hW_ (by omega) (by omega) (x3 := (I 33 (x4 + Int32.ofInt 3).toInt.toNat)) e_b0
      exfalso; omega
    · have hN_ := hV.2.2.1.1
      have hM_ : yMn I I := hV.2.2.2.1.1.2.1
      have hW_ : yVn I I R := hV.2.2.2.1.1.2.2.1
      have t1_ := tie_res hW_ (by omega) (by omega) (x3 := (I 33 (x4 + Int32.ofInt 3).toInt.toNat)) e_b0
      exfalso; omega
  · have hFa : yFt I I_a := pa_1
    have e33 : I_a 33 = I 33 := funext fun k => hFa 33 k (.inl (by decide))
    have hS : ySh n tg R_a := by rw [eR]; exact hS.out
    have hRa : yRI K n tg I_a R_a := (hV.2.2.1.ft hFa).outR (fun a ha => by rw [eR]; exact upd2_row ha)
    refine y_ret1 ?_
    refine y_istore (ls' := [some _, some _, some _, some _, some _, some _, _]) rfl rfl rfl ?_
    refine y_aload_n rfl rfl ?_
    refine y_aload_n rfl rfl ?_
    refine y_iload rfl rfl ?_
    refine y_iconst rfl ?_
    refine y_iadd rfl ?_
    refine y_iaload rfl hV.2.2.2.2.2 (ySh.n hV.1 rfl) (sc_at hx0 hx1 hl (by decide) (by decide)).1 (sc_at hx0 hx1 hl (by decide) (by decide)).2 ?_
    rw [e33]
    refine y_aload_n rfl rfl ?_
    refine y_iload rfl rfl ?_
    refine y_iconst rfl ?_
    refine y_iadd rfl ?_
    refine y_iaload rfl hV.2.2.2.2.2 (ySh.n hV.1 rfl) (sc_at hx0 hx1 hl (by decide) (by decide)).1 (sc_at hx0 hx1 hl (by decide) (by decide)).2 ?_
    rw [e33]
    refine y_aload_n rfl rfl ?_
    refine y_iload rfl rfl ?_
    refine y_iconst rfl ?_
    refine y_iadd rfl ?_
    refine y_iaload rfl hV.2.2.2.2.2 (ySh.n hV.1 rfl) (sc_at hx0 hx1 hl (by decide) (by decide)).1 (sc_at hx0 hx1 hl (by decide) (by decide)).2 ?_
    rw [e33]
    refine y_virt rfl rfl rfl rfl rfl (ySh.t hS rfl) (ySh.n hS rfl) ?_
    obtain ⟨r1, r2, r3, r4, r5, r6, r7, r8⟩ := hV.2.2.2.1.1.1.1.1.1.1
    have eM : ∀ l k, 83 ≤ l → (I_a l k).toInt = (I l k).toInt := fun l k hl => congrArg Int32.toInt (hFa l k (.inr (.inl hl)))
    have em83_4 := eM 83 4 (by decide)
    have em83_1 := eM 83 1 (by decide)
    have em83_8 := eM 83 8 (by decide)
    have em88_2 := eM 88 2 (by decide)
    have em91_2 := eM 91 2 (by decide)
    have em92_2 := eM 92 2 (by decide)
    have em89_2 := eM 89 2 (by decide)
    have em90_2 := eM 90 2 (by decide)
    have em83_7 := eM 83 7 (by decide)
    obtain ⟨kb0, kb1, kb2, kb3, kb4, kb5, kb6, kb7, -⟩ := hBa
    have kb0 := congrArg Int32.toInt kb0
    have kb1 := congrArg Int32.toInt kb1
    have kb2 := congrArg Int32.toInt kb2
    have kb3 := congrArg Int32.toInt kb3
    have kb4 := congrArg Int32.toInt kb4
    have kb5 := congrArg Int32.toInt kb5
    have kb6 := congrArg Int32.toInt kb6
    have kb7 := congrArg Int32.toInt kb7
    refine yC.keep3 [(18, 4, 83), (18, 1, 83), (18, 8, 83), (3, 2, 88), (3, 2, 91), (3, 2, 92), (3, 2, 89), (3, 2, 90)] yLO6 rfl rfl rfl hS hRa ?_
    refine h_result hS hRa hk6  (fun hm_ v_b n1 tg1 I1 R1 c1 s1 a1 a2 a3 hth prf_ hc_b hs_b => ⟨a1, a3.2.1, fun hB_ h93_ hO_ hL_ => ?_⟩) (fun hm_ v_b n1 tg1 I1 R1 c1 s1 a1 a2 a3 hth prf_ hc_b hs_b => ⟨a1, a3.2.1, fun hB_ h93_ hO_ hL_ => ?_⟩) (fun q_b e_b0 hm_ v_b n1 tg1 I1 R1 c1 s1 a1 a2 a3 hth prf_ hc_b hs_b => ⟨a1, a3.2.1, fun hB_ h93_ hO_ hL_ => ?_⟩) (fun q_b e_b0 hm_ v_b n1 tg1 I1 R1 c1 s1 a1 a2 a3 hth pv_ px_ hc_b hs_b => ⟨a1, a3.2.1, fun hB_ h93_ hO_ hL_ => ?_⟩) (fun q_b e_b0 hm_ v_b n1 tg1 I1 R1 c1 s1 a1 a2 a3 hth q_le e_le pv_ px_ hc_b hs_b => ⟨a1, a3.2.1, fun hB_ h93_ hO_ hL_ => ?_⟩) (fun q_b e_b0 hm_ v_b n1 tg1 I1 R1 c1 s1 a1 a2 a3 hth pv_ px_ hc_b hs_b => ⟨a1, a3.2.1, fun hB_ h93_ hO_ hL_ => ?_⟩)
    · have hN_ := hV.2.2.1.1
      have hLv_ : yLk I R R_a := by rw [eR]; exact yLk.out hV.2.2.1
      have hM_ : yMn I I_a := hV.2.2.2.1.1.2.1.ia hFa
      exfalso; omega
    · have hN_ := hV.2.2.1.1
      have hLv_ : yLk I R R_a := by rw [eR]; exact yLk.out hV.2.2.1
      have hM_ : yMn I I_a := hV.2.2.2.1.1.2.1.ia hFa
      exfalso; omega
    · have hN_ := hV.2.2.1.1
      have hLv_ : yLk I R R_a := by rw [eR]; exact yLk.out hV.2.2.1
      have hM_ : yMn I I_a := hV.2.2.2.1.1.2.1.ia hFa
      have hW_ : yVn I I_a R_a := hV.2.2.2.1.1.2.2.1.ia hV.2.2.1 hFa hLv_
      have t1_ := tie_res hW_ (by omega) (by omega) (x3 := (I 33 (x4 + Int32.ofInt 3).toInt.toNat)) e_b0
      exfalso; omega
    · have kc34_9 := congrArg Int32.toInt (congrFun (a3.2.2.1 34 (by decide)) 9)
      have kc34_8 := congrArg Int32.toInt (congrFun (a3.2.2.1 34 (by decide)) 8)
      have kc38_0 := congrArg Int32.toInt (congrFun (a3.2.2.1 38 (by decide)) 0)
      have kc40_0 := congrArg Int32.toInt (congrFun (a3.2.2.1 40 (by decide)) 0)
      have kc69_0 := congrArg Int32.toInt (congrFun (a3.2.2.1 69 (by decide)) 0)
      have kc77_0 := congrArg Int32.toInt (congrFun (a3.2.2.1 77 (by decide)) 0)
      have kc48_0 := congrArg Int32.toInt (congrFun (a3.2.2.1 48 (by decide)) 0)
      have kc59_0 := congrArg Int32.toInt (congrFun (a3.2.2.1 59 (by decide)) 0)
      have hB_ : yKeep _ _ I1 := hB_
      obtain ⟨mb0, mb1, mb2, mb3, mb4, mb5, mb6, mb7, -⟩ := hB_
      have mb0 := congrArg Int32.toInt mb0
      have mb1 := congrArg Int32.toInt mb1
      have mb2 := congrArg Int32.toInt mb2
      have mb3 := congrArg Int32.toInt mb3
      have mb4 := congrArg Int32.toInt mb4
      have mb5 := congrArg Int32.toInt mb5
      have mb6 := congrArg Int32.toInt mb6
      have mb7 := congrArg Int32.toInt mb7
      have hN_ := hV.2.2.1.1
      have hLv_ : yLk I R R_a := by rw [eR]; exact yLk.out hV.2.2.1
      have hM_ : yMn I I_a := hV.2.2.2.1.1.2.1.ia hFa
      have hW_ : yVn I I_a R_a := hV.2.2.2.1.1.2.2.1.ia hV.2.2.1 hFa hLv_
      have t1_ := tie_res hW_ (by omega) (by omega) (x3 := (I 33 (x4 + Int32.ofInt 3).toInt.toNat)) e_b0
      have hrel : yRl I1 := ⟨by omega, by omega, by omega, by omega, by omega, by omega, by omega, by omega⟩
      have hHa : yHr I_a R_a := by rw [eR]; exact yHr.a hV.2.2.2.1.1.1.1.1.1 hV.2.2.1 hFa
      have hLa : yLk I R R_a := by rw [eR]; exact yLk.out hV.2.2.1
      have hw_ : yFu I I_a := yFu.of fun a d1 d2 d3 d4 d5 d6 => by rw [pa_3]; exact yPrD_row (by omega) (by omega)
      have hr4 : yR6 I1 R1 := yR6.two hV.2.2.2.1.1.1.1 hw_ hRa hHa hLa a3 (hO_.o5.ob45 hRa) (hO_.o5.ob5 hRa) (hO_.ob6 hRa) hL_ hrel (by omega) (by omega) (by omega) (by omega)
      have hL7_ : yLk I R R1 := fun l h1 h2 i hi => (hL_ l h1 h2 i (by rw [hFa.hi (show 83 ≤ l by omega)]; exact hi)).trans (hLa l h1 h2 i hi)
      obtain ⟨tb0_, tb1_, tb2_, tb3_⟩ := hRa.g91 (by omega) e_b0
      have lb_ := hRa.lo (l := 91) (by decide) (by decide) (by omega) e_b0
      have hm7_ : yFm n tg I I1 := yFm.x px_ (by repeat first | exact yFm.ft hFa | exact yFm.rr | refine yFm.addC ?_ | refine yFm.shD ?_ | refine yFm.prD ?_ (by assumption) | refine yFm.lsD ?_ (by assumption) | refine yFm.up ?_ (by first | exact .inl (by decide) | exact .inr (by assumption)))
      have h94_ : 94 ≤ n := hV.1.1
      have h7_ : I1 83 7 = I 83 7 := (congrFun (px_.n (show 83 < n by omega)) 7).trans (by repeat first | exact rfl | exact yext em83_7 | refine k7addC ?_ | refine k7shD ?_ | refine k7prD ?_ (by omega) | refine k7lsD ?_ (by omega) | refine k7up ?_ (by first | exact .inr (by decide) | exact .inl (by decide) | exact .inl (by omega)))
      have hf7 : yF7 I1 R1 := hV.2.2.2.1.1.1.2.st hV.2.2.1 (by omega) h7_ (fun a h1 h2 => (a3.2.2.1 a (by omega)).trans (by rw [pa_3]; exact yPrD_row (by omega) (by omega))) hL7_ hm7_
      have hr7 : yR7 I1 R1 := ⟨hr4, hf7⟩
      have hM8_ : yMn I I_a := hV.2.2.2.1.1.2.1.ia hFa
      obtain ⟨hmn_, hvn_⟩ := s8_profit hV.2.2.2.1.1 hV.2.2.1 hRa hFa hLa a3 e_b0 ⟨by omega, by omega⟩ (by omega) (by omega) pa_3 px_
      have hmb_ : yMb (K + 1) I1 := hV.2.2.2.1.1.2.2.2.cg (Nat.le_succ K) (congrFun ((a3.2.2.1 74 (by decide)).trans (by rw [pa_3]; exact yPrD_row (by omega) (by omega))) 2) ((a3.2.2.1 76 (by decide)).trans (by rw [pa_3]; exact yPrD_row (by omega) (by omega))) (by omega)
      have hr8 : yR8 (K + 1) I1 R1 := ⟨hr7, hmn_, hvn_, hmb_⟩
      have hp9_ : yP9 I1 R1 := hV.2.2.2.1.2.1.kp hV.2.2.1 hFa hLa (by rw [pa_3]; exact yPrD_row (by omega) (by omega)) (by omega) a3
      have hpd_ : yPdd I1 := hV.2.2.2.1.2.2.st (by omega) ((a3.2.2.1 54 (by decide)).trans (by rw [pa_3]; exact yPrD_row (by omega) (by omega))) ((a3.2.2.1 55 (by decide)).trans (by rw [pa_3]; exact yPrD_row (by omega) (by omega)))
      have hr9 : yR9 (K + 1) I1 R1 := ⟨hr8, hp9_, hpd_⟩
      have hV := hV.two pa_0 (fun a ha => funext fun k => hFa a k (.inl ha)) a1 a2 a3 hr9
      have hS := hV.1
      refine y_ret1 ?_
      refine y_istore (ls' := [some _, some _, some _, some _, some _, some _, some _]) rfl rfl rfl ?_
      refine y_goto rfl j_L_law_1673 ?_
      refine y_fgt (ls := [some _, some _, some _, some _, some _, none, none]) ⟨rfl, rfl, rfl, rfl, rfl, trivial⟩ ?_
      exact hN _ _ _ _ _ _ hV (by omega) (by omega)
    · have hN_ := hV.2.2.1.1
      have hLv_ : yLk I R R_a := by rw [eR]; exact yLk.out hV.2.2.1
      have hM_ : yMn I I_a := hV.2.2.2.1.1.2.1.ia hFa
      have hW_ : yVn I I_a R_a := hV.2.2.2.1.1.2.2.1.ia hV.2.2.1 hFa hLv_
      have t1_ := tie_res hW_ (by omega) (by omega) (x3 := (I 33 (x4 + Int32.ofInt 3).toInt.toNat)) e_b0
      exfalso; omega
    · have hN_ := hV.2.2.1.1
      have hLv_ : yLk I R R_a := by rw [eR]; exact yLk.out hV.2.2.1
      have hM_ : yMn I I_a := hV.2.2.2.1.1.2.1.ia hFa
      have hW_ : yVn I I_a R_a := hV.2.2.2.1.1.2.2.1.ia hV.2.2.1 hFa hLv_
      have t1_ := tie_res hW_ (by omega) (by omega) (x3 := (I 33 (x4 + Int32.ofInt 3).toInt.toNat)) e_b0
      exfalso; omega
  · have hFa : yFt I I_a := pa_1
    have e33 : I_a 33 = I 33 := funext fun k => hFa 33 k (.inl (by decide))
    have hS : ySh n tg R_a := by rw [eR]; exact hS.out
    have hRa : yRI K n tg I_a R_a := (hV.2.2.1.ft hFa).outR (fun a ha => by rw [eR]; exact upd2_row ha)
    refine y_ret1 ?_
    refine y_istore (ls' := [some _, some _, some _, some _, some _, some _, _]) rfl rfl rfl ?_
    refine y_aload_n rfl rfl ?_
    refine y_aload_n rfl rfl ?_
    refine y_iload rfl rfl ?_
    refine y_iconst rfl ?_
    refine y_iadd rfl ?_
    refine y_iaload rfl hV.2.2.2.2.2 (ySh.n hV.1 rfl) (sc_at hx0 hx1 hl (by decide) (by decide)).1 (sc_at hx0 hx1 hl (by decide) (by decide)).2 ?_
    rw [e33]
    refine y_aload_n rfl rfl ?_
    refine y_iload rfl rfl ?_
    refine y_iconst rfl ?_
    refine y_iadd rfl ?_
    refine y_iaload rfl hV.2.2.2.2.2 (ySh.n hV.1 rfl) (sc_at hx0 hx1 hl (by decide) (by decide)).1 (sc_at hx0 hx1 hl (by decide) (by decide)).2 ?_
    rw [e33]
    refine y_aload_n rfl rfl ?_
    refine y_iload rfl rfl ?_
    refine y_iconst rfl ?_
    refine y_iadd rfl ?_
    refine y_iaload rfl hV.2.2.2.2.2 (ySh.n hV.1 rfl) (sc_at hx0 hx1 hl (by decide) (by decide)).1 (sc_at hx0 hx1 hl (by decide) (by decide)).2 ?_
    rw [e33]
    refine y_virt rfl rfl rfl rfl rfl (ySh.t hS rfl) (ySh.n hS rfl) ?_
    obtain ⟨r1, r2, r3, r4, r5, r6, r7, r8⟩ := hV.2.2.2.1.1.1.1.1.1.1
    have eM : ∀ l k, 83 ≤ l → (I_a l k).toInt = (I l k).toInt := fun l k hl => congrArg Int32.toInt (hFa l k (.inr (.inl hl)))
    have em83_4 := eM 83 4 (by decide)
    have em83_1 := eM 83 1 (by decide)
    have em83_8 := eM 83 8 (by decide)
    have em88_2 := eM 88 2 (by decide)
    have em91_2 := eM 91 2 (by decide)
    have em92_2 := eM 92 2 (by decide)
    have em89_2 := eM 89 2 (by decide)
    have em90_2 := eM 90 2 (by decide)
    have em83_7 := eM 83 7 (by decide)
    obtain ⟨kb0, kb1, kb2, kb3, kb4, kb5, kb6, kb7, -⟩ := hBa
    have kb0 := congrArg Int32.toInt kb0
    have kb1 := congrArg Int32.toInt kb1
    have kb2 := congrArg Int32.toInt kb2
    have kb3 := congrArg Int32.toInt kb3
    have kb4 := congrArg Int32.toInt kb4
    have kb5 := congrArg Int32.toInt kb5
    have kb6 := congrArg Int32.toInt kb6
    have kb7 := congrArg Int32.toInt kb7
    refine yC.keep3 [(18, 4, 83), (18, 1, 83), (18, 8, 83), (3, 2, 88), (3, 2, 91), (3, 2, 92), (3, 2, 89), (3, 2, 90)] yLO6 rfl rfl rfl hS hRa ?_
    refine h_result hS hRa hk6  (fun hm_ v_b n1 tg1 I1 R1 c1 s1 a1 a2 a3 hth prf_ hc_b hs_b => ⟨a1, a3.2.1, fun hB_ h93_ hO_ hL_ => ?_⟩) (fun hm_ v_b n1 tg1 I1 R1 c1 s1 a1 a2 a3 hth prf_ hc_b hs_b => ⟨a1, a3.2.1, fun hB_ h93_ hO_ hL_ => ?_⟩) (fun q_b e_b0 hm_ v_b n1 tg1 I1 R1 c1 s1 a1 a2 a3 hth prf_ hc_b hs_b => ⟨a1, a3.2.1, fun hB_ h93_ hO_ hL_ => ?_⟩) (fun q_b e_b0 hm_ v_b n1 tg1 I1 R1 c1 s1 a1 a2 a3 hth pv_ px_ hc_b hs_b => ⟨a1, a3.2.1, fun hB_ h93_ hO_ hL_ => ?_⟩) (fun q_b e_b0 hm_ v_b n1 tg1 I1 R1 c1 s1 a1 a2 a3 hth q_le e_le pv_ px_ hc_b hs_b => ⟨a1, a3.2.1, fun hB_ h93_ hO_ hL_ => ?_⟩) (fun q_b e_b0 hm_ v_b n1 tg1 I1 R1 c1 s1 a1 a2 a3 hth pv_ px_ hc_b hs_b => ⟨a1, a3.2.1, fun hB_ h93_ hO_ hL_ => ?_⟩)
    · have hN_ := hV.2.2.1.1
      have hLv_ : yLk I R R_a := by rw [eR]; exact yLk.out hV.2.2.1
      have hM_ : yMn I I_a := hV.2.2.2.1.1.2.1.ia hFa
      exfalso; omega
    · have hN_ := hV.2.2.1.1
      have hLv_ : yLk I R R_a := by rw [eR]; exact yLk.out hV.2.2.1
      have hM_ : yMn I I_a := hV.2.2.2.1.1.2.1.ia hFa
      exfalso; omega
    · have hN_ := hV.2.2.1.1
      have hLv_ : yLk I R R_a := by rw [eR]; exact yLk.out hV.2.2.1
      have hM_ : yMn I I_a := hV.2.2.2.1.1.2.1.ia hFa
      have hW_ : yVn I I_a R_a := hV.2.2.2.1.1.2.2.1.ia hV.2.2.1 hFa hLv_
      have t1_ := tie_res hW_ (by omega) (by omega) (x3 := (I 33 (x4 + Int32.ofInt 3).toInt.toNat)) e_b0
      exfalso; omega
    · have hN_ := hV.2.2.1.1
      have hLv_ : yLk I R R_a := by rw [eR]; exact yLk.out hV.2.2.1
      have hM_ : yMn I I_a := hV.2.2.2.1.1.2.1.ia hFa
      have hW_ : yVn I I_a R_a := hV.2.2.2.1.1.2.2.1.ia hV.2.2.1 hFa hLv_
      have t1_ := tie_res hW_ (by omega) (by omega) (x3 := (I 33 (x4 + Int32.ofInt 3).toInt.toNat)) e_b0
      exfalso; omega
    · have kc34_9 := congrArg Int32.toInt (congrFun (a3.2.2.1 34 (by decide)) 9)
      have kc34_8 := congrArg Int32.toInt (congrFun (a3.2.2.1 34 (by decide)) 8)
      have kc38_0 := congrArg Int32.toInt (congrFun (a3.2.2.1 38 (by decide)) 0)
      have kc40_0 := congrArg Int32.toInt (congrFun (a3.2.2.1 40 (by decide)) 0)
      have kc69_0 := congrArg Int32.toInt (congrFun (a3.2.2.1 69 (by decide)) 0)
      have kc77_0 := congrArg Int32.toInt (congrFun (a3.2.2.1 77 (by decide)) 0)
      have kc48_0 := congrArg Int32.toInt (congrFun (a3.2.2.1 48 (by decide)) 0)
      have kc59_0 := congrArg Int32.toInt (congrFun (a3.2.2.1 59 (by decide)) 0)
      have hB_ : yKeep _ _ I1 := hB_
      obtain ⟨mb0, mb1, mb2, mb3, mb4, mb5, mb6, mb7, -⟩ := hB_
      have mb0 := congrArg Int32.toInt mb0
      have mb1 := congrArg Int32.toInt mb1
      have mb2 := congrArg Int32.toInt mb2
      have mb3 := congrArg Int32.toInt mb3
      have mb4 := congrArg Int32.toInt mb4
      have mb5 := congrArg Int32.toInt mb5
      have mb6 := congrArg Int32.toInt mb6
      have mb7 := congrArg Int32.toInt mb7
      have hN_ := hV.2.2.1.1
      have hLv_ : yLk I R R_a := by rw [eR]; exact yLk.out hV.2.2.1
      have hM_ : yMn I I_a := hV.2.2.2.1.1.2.1.ia hFa
      have hW_ : yVn I I_a R_a := hV.2.2.2.1.1.2.2.1.ia hV.2.2.1 hFa hLv_
      have t1_ := tie_res hW_ (by omega) (by omega) (x3 := (I 33 (x4 + Int32.ofInt 3).toInt.toNat)) e_b0
      have hrel : yRl I1 := ⟨by omega, by omega, by omega, by omega, by omega, by omega, by omega, by omega⟩
      have hHa : yHr I_a R_a := by rw [eR]; exact yHr.a hV.2.2.2.1.1.1.1.1.1 hV.2.2.1 hFa
      have hLa : yLk I R R_a := by rw [eR]; exact yLk.out hV.2.2.1
      have hw_ : yFu I I_a := yFu.of fun a d1 d2 d3 d4 d5 d6 => by rw [pa_3]; exact yBlD_row (by omega)
      have hr4 : yR6 I1 R1 := yR6.two hV.2.2.2.1.1.1.1 hw_ hRa hHa hLa a3 (hO_.o5.ob45 hRa) (hO_.o5.ob5 hRa) (hO_.ob6 hRa) hL_ hrel (by omega) (by omega) (by omega) (by omega)
      have hL7_ : yLk I R R1 := fun l h1 h2 i hi => (hL_ l h1 h2 i (by rw [hFa.hi (show 83 ≤ l by omega)]; exact hi)).trans (hLa l h1 h2 i hi)
      obtain ⟨tb0_, tb1_, tb2_, tb3_⟩ := hRa.g91 (by omega) e_b0
      have lb_ := hRa.lo (l := 91) (by decide) (by decide) (by omega) e_b0
      have hm7_ : yFm n tg I I1 := yFm.x px_ (by repeat first | exact yFm.ft hFa | exact yFm.rr | refine yFm.addC ?_ | refine yFm.shD ?_ | refine yFm.prD ?_ (by assumption) | refine yFm.lsD ?_ (by assumption) | refine yFm.up ?_ (by first | exact .inl (by decide) | exact .inr (by assumption)))
      have h94_ : 94 ≤ n := hV.1.1
      have h7_ : I1 83 7 = I 83 7 := (congrFun (px_.n (show 83 < n by omega)) 7).trans (by repeat first | exact rfl | exact yext em83_7 | refine k7addC ?_ | refine k7shD ?_ | refine k7prD ?_ (by omega) | refine k7lsD ?_ (by omega) | refine k7up ?_ (by first | exact .inr (by decide) | exact .inl (by decide) | exact .inl (by omega)))
      have hf7 : yF7 I1 R1 := hV.2.2.2.1.1.1.2.st hV.2.2.1 (by omega) h7_ (fun a h1 h2 => (a3.2.2.1 a (by omega)).trans (by rw [pa_3]; exact yBlD_row (by omega))) hL7_ hm7_
      have hr7 : yR7 I1 R1 := ⟨hr4, hf7⟩
      have hM8_ : yMn I I_a := hV.2.2.2.1.1.2.1.ia hFa
      obtain ⟨hmn_, hvn_⟩ := s8_loss hV.2.2.2.1.1 hV.2.2.1 hRa hFa hLa a3 e_b0 ⟨by omega, by omega⟩ (by omega) (by omega) e_le pa_3 px_
      have hmb_ : yMb (K + 1) I1 := hV.2.2.2.1.1.2.2.2.cg (Nat.le_succ K) (congrFun ((a3.2.2.1 74 (by decide)).trans (by rw [pa_3]; exact yBlD_row (by omega))) 2) ((a3.2.2.1 76 (by decide)).trans (by rw [pa_3]; exact yBlD_row (by omega))) (by omega)
      have hr8 : yR8 (K + 1) I1 R1 := ⟨hr7, hmn_, hvn_, hmb_⟩
      have hp9_ : yP9 I1 R1 := hV.2.2.2.1.2.1.kp hV.2.2.1 hFa hLa (by rw [pa_3]; exact yBlD_row (by omega)) (by omega) a3
      have hpd_ : yPdd I1 := hV.2.2.2.1.2.2.st (by omega) ((a3.2.2.1 54 (by decide)).trans (by rw [pa_3]; exact yBlD_row (by omega))) ((a3.2.2.1 55 (by decide)).trans (by rw [pa_3]; exact yBlD_row (by omega)))
      have hr9 : yR9 (K + 1) I1 R1 := ⟨hr8, hp9_, hpd_⟩
      have hV := hV.two pa_0 (fun a ha => funext fun k => hFa a k (.inl ha)) a1 a2 a3 hr9
      have hS := hV.1
      refine y_ret1 ?_
      refine y_istore (ls' := [some _, some _, some _, some _, some _, some _, some _]) rfl rfl rfl ?_
      refine y_goto rfl j_L_law_1673 ?_
      refine y_fgt (ls := [some _, some _, some _, some _, some _, none, none]) ⟨rfl, rfl, rfl, rfl, rfl, trivial⟩ ?_
      exact hN _ _ _ _ _ _ hV (by omega) (by omega)
    · have hN_ := hV.2.2.1.1
      have hLv_ : yLk I R R_a := by rw [eR]; exact yLk.out hV.2.2.1
      have hM_ : yMn I I_a := hV.2.2.2.1.1.2.1.ia hFa
      have hW_ : yVn I I_a R_a := hV.2.2.2.1.1.2.2.1.ia hV.2.2.1 hFa hLv_
      have t1_ := tie_res hW_ (by omega) (by omega) (x3 := (I 33 (x4 + Int32.ofInt 3).toInt.toNat)) e_b0
      exfalso; omega
  · have hFa : yFt I I_a := pa_1
    have e33 : I_a 33 = I 33 := funext fun k => hFa 33 k (.inl (by decide))
    have hS : ySh n tg R_a := by rw [eR]; exact hS.out
    have hRa : yRI K n tg I_a R_a := (hV.2.2.1.ft hFa).outR (fun a ha => by rw [eR]; exact upd2_row ha)
    refine y_ret1 ?_
    refine y_istore (ls' := [some _, some _, some _, some _, some _, some _, _]) rfl rfl rfl ?_
    refine y_aload_n rfl rfl ?_
    refine y_aload_n rfl rfl ?_
    refine y_iload rfl rfl ?_
    refine y_iconst rfl ?_
    refine y_iadd rfl ?_
    refine y_iaload rfl hV.2.2.2.2.2 (ySh.n hV.1 rfl) (sc_at hx0 hx1 hl (by decide) (by decide)).1 (sc_at hx0 hx1 hl (by decide) (by decide)).2 ?_
    rw [e33]
    refine y_aload_n rfl rfl ?_
    refine y_iload rfl rfl ?_
    refine y_iconst rfl ?_
    refine y_iadd rfl ?_
    refine y_iaload rfl hV.2.2.2.2.2 (ySh.n hV.1 rfl) (sc_at hx0 hx1 hl (by decide) (by decide)).1 (sc_at hx0 hx1 hl (by decide) (by decide)).2 ?_
    rw [e33]
    refine y_aload_n rfl rfl ?_
    refine y_iload rfl rfl ?_
    refine y_iconst rfl ?_
    refine y_iadd rfl ?_
    refine y_iaload rfl hV.2.2.2.2.2 (ySh.n hV.1 rfl) (sc_at hx0 hx1 hl (by decide) (by decide)).1 (sc_at hx0 hx1 hl (by decide) (by decide)).2 ?_
    rw [e33]
    refine y_virt rfl rfl rfl rfl rfl (ySh.t hS rfl) (ySh.n hS rfl) ?_
    obtain ⟨r1, r2, r3, r4, r5, r6, r7, r8⟩ := hV.2.2.2.1.1.1.1.1.1.1
    have eM : ∀ l k, 83 ≤ l → (I_a l k).toInt = (I l k).toInt := fun l k hl => congrArg Int32.toInt (hFa l k (.inr (.inl hl)))
    have em83_4 := eM 83 4 (by decide)
    have em83_1 := eM 83 1 (by decide)
    have em83_8 := eM 83 8 (by decide)
    have em88_2 := eM 88 2 (by decide)
    have em91_2 := eM 91 2 (by decide)
    have em92_2 := eM 92 2 (by decide)
    have em89_2 := eM 89 2 (by decide)
    have em90_2 := eM 90 2 (by decide)
    have em83_7 := eM 83 7 (by decide)
    obtain ⟨kb0, kb1, kb2, kb3, kb4, kb5, kb6, kb7, -⟩ := hBa
    have kb0 := congrArg Int32.toInt kb0
    have kb1 := congrArg Int32.toInt kb1
    have kb2 := congrArg Int32.toInt kb2
    have kb3 := congrArg Int32.toInt kb3
    have kb4 := congrArg Int32.toInt kb4
    have kb5 := congrArg Int32.toInt kb5
    have kb6 := congrArg Int32.toInt kb6
    have kb7 := congrArg Int32.toInt kb7
    refine yC.keep3 [(18, 4, 83), (18, 1, 83), (18, 8, 83), (3, 2, 88), (3, 2, 91), (3, 2, 92), (3, 2, 89), (3, 2, 90)] yLO6 rfl rfl rfl hS hRa ?_
    refine h_result hS hRa hk6  (fun hm_ v_b n1 tg1 I1 R1 c1 s1 a1 a2 a3 hth prf_ hc_b hs_b => ⟨a1, a3.2.1, fun hB_ h93_ hO_ hL_ => ?_⟩) (fun hm_ v_b n1 tg1 I1 R1 c1 s1 a1 a2 a3 hth prf_ hc_b hs_b => ⟨a1, a3.2.1, fun hB_ h93_ hO_ hL_ => ?_⟩) (fun q_b e_b0 hm_ v_b n1 tg1 I1 R1 c1 s1 a1 a2 a3 hth prf_ hc_b hs_b => ⟨a1, a3.2.1, fun hB_ h93_ hO_ hL_ => ?_⟩) (fun q_b e_b0 hm_ v_b n1 tg1 I1 R1 c1 s1 a1 a2 a3 hth pv_ px_ hc_b hs_b => ⟨a1, a3.2.1, fun hB_ h93_ hO_ hL_ => ?_⟩) (fun q_b e_b0 hm_ v_b n1 tg1 I1 R1 c1 s1 a1 a2 a3 hth q_le e_le pv_ px_ hc_b hs_b => ⟨a1, a3.2.1, fun hB_ h93_ hO_ hL_ => ?_⟩) (fun q_b e_b0 hm_ v_b n1 tg1 I1 R1 c1 s1 a1 a2 a3 hth pv_ px_ hc_b hs_b => ⟨a1, a3.2.1, fun hB_ h93_ hO_ hL_ => ?_⟩)
    · have hN_ := hV.2.2.1.1
      have hLv_ : yLk I R R_a := by rw [eR]; exact yLk.out hV.2.2.1
      have hM_ : yMn I I_a := hV.2.2.2.1.1.2.1.ia hFa
      exfalso; omega
    · have hN_ := hV.2.2.1.1
      have hLv_ : yLk I R R_a := by rw [eR]; exact yLk.out hV.2.2.1
      have hM_ : yMn I I_a := hV.2.2.2.1.1.2.1.ia hFa
      exfalso; omega
    · have hN_ := hV.2.2.1.1
      have hLv_ : yLk I R R_a := by rw [eR]; exact yLk.out hV.2.2.1
      have hM_ : yMn I I_a := hV.2.2.2.1.1.2.1.ia hFa
      have hW_ : yVn I I_a R_a := hV.2.2.2.1.1.2.2.1.ia hV.2.2.1 hFa hLv_
      have t1_ := tie_res hW_ (by omega) (by omega) (x3 := (I 33 (x4 + Int32.ofInt 3).toInt.toNat)) e_b0
      exfalso; omega
    · have hN_ := hV.2.2.1.1
      have hLv_ : yLk I R R_a := by rw [eR]; exact yLk.out hV.2.2.1
      have hM_ : yMn I I_a := hV.2.2.2.1.1.2.1.ia hFa
      have hW_ : yVn I I_a R_a := hV.2.2.2.1.1.2.2.1.ia hV.2.2.1 hFa hLv_
      have t1_ := tie_res hW_ (by omega) (by omega) (x3 := (I 33 (x4 + Int32.ofInt 3).toInt.toNat)) e_b0
      exfalso; omega
    · have hN_ := hV.2.2.1.1
      have hLv_ : yLk I R R_a := by rw [eR]; exact yLk.out hV.2.2.1
      have hM_ : yMn I I_a := hV.2.2.2.1.1.2.1.ia hFa
      have hW_ : yVn I I_a R_a := hV.2.2.2.1.1.2.2.1.ia hV.2.2.1 hFa hLv_
      have t1_ := tie_res hW_ (by omega) (by omega) (x3 := (I 33 (x4 + Int32.ofInt 3).toInt.toNat)) e_b0
      exfalso; omega
    · have kc34_9 := congrArg Int32.toInt (congrFun (a3.2.2.1 34 (by decide)) 9)
      have kc34_8 := congrArg Int32.toInt (congrFun (a3.2.2.1 34 (by decide)) 8)
      have kc38_0 := congrArg Int32.toInt (congrFun (a3.2.2.1 38 (by decide)) 0)
      have kc40_0 := congrArg Int32.toInt (congrFun (a3.2.2.1 40 (by decide)) 0)
      have kc69_0 := congrArg Int32.toInt (congrFun (a3.2.2.1 69 (by decide)) 0)
      have kc77_0 := congrArg Int32.toInt (congrFun (a3.2.2.1 77 (by decide)) 0)
      have kc48_0 := congrArg Int32.toInt (congrFun (a3.2.2.1 48 (by decide)) 0)
      have kc59_0 := congrArg Int32.toInt (congrFun (a3.2.2.1 59 (by decide)) 0)
      have hB_ : yKeep _ _ I1 := hB_
      obtain ⟨mb0, mb1, mb2, mb3, mb4, mb5, mb6, mb7, -⟩ := hB_
      have mb0 := congrArg Int32.toInt mb0
      have mb1 := congrArg Int32.toInt mb1
      have mb2 := congrArg Int32.toInt mb2
      have mb3 := congrArg Int32.toInt mb3
      have mb4 := congrArg Int32.toInt mb4
      have mb5 := congrArg Int32.toInt mb5
      have mb6 := congrArg Int32.toInt mb6
      have mb7 := congrArg Int32.toInt mb7
      have hN_ := hV.2.2.1.1
      have hLv_ : yLk I R R_a := by rw [eR]; exact yLk.out hV.2.2.1
      have hM_ : yMn I I_a := hV.2.2.2.1.1.2.1.ia hFa
      have hW_ : yVn I I_a R_a := hV.2.2.2.1.1.2.2.1.ia hV.2.2.1 hFa hLv_
      have t1_ := tie_res hW_ (by omega) (by omega) (x3 := (I 33 (x4 + Int32.ofInt 3).toInt.toNat)) e_b0
      have hrel : yRl I1 := ⟨by omega, by omega, by omega, by omega, by omega, by omega, by omega, by omega⟩
      have hHa : yHr I_a R_a := by rw [eR]; exact yHr.a hV.2.2.2.1.1.1.1.1.1 hV.2.2.1 hFa
      have hLa : yLk I R R_a := by rw [eR]; exact yLk.out hV.2.2.1
      have hw_ : yFu I I_a := yFu.of fun a d1 d2 d3 d4 d5 d6 => by rw [pa_3]; exact yAddC_row (by omega)
      have hr4 : yR6 I1 R1 := yR6.two hV.2.2.2.1.1.1.1 hw_ hRa hHa hLa a3 (hO_.o5.ob45 hRa) (hO_.o5.ob5 hRa) (hO_.ob6 hRa) hL_ hrel (by omega) (by omega) (by omega) (by omega)
      have hL7_ : yLk I R R1 := fun l h1 h2 i hi => (hL_ l h1 h2 i (by rw [hFa.hi (show 83 ≤ l by omega)]; exact hi)).trans (hLa l h1 h2 i hi)
      obtain ⟨tb0_, tb1_, tb2_, tb3_⟩ := hRa.g91 (by omega) e_b0
      have lb_ := hRa.lo (l := 91) (by decide) (by decide) (by omega) e_b0
      have hm7_ : yFm n tg I I1 := yFm.x px_ (by repeat first | exact yFm.ft hFa | exact yFm.rr | refine yFm.addC ?_ | refine yFm.shD ?_ | refine yFm.prD ?_ (by assumption) | refine yFm.lsD ?_ (by assumption) | refine yFm.up ?_ (by first | exact .inl (by decide) | exact .inr (by assumption)))
      have h94_ : 94 ≤ n := hV.1.1
      have h7_ : I1 83 7 = I 83 7 := (congrFun (px_.n (show 83 < n by omega)) 7).trans (by repeat first | exact rfl | exact yext em83_7 | refine k7addC ?_ | refine k7shD ?_ | refine k7prD ?_ (by omega) | refine k7lsD ?_ (by omega) | refine k7up ?_ (by first | exact .inr (by decide) | exact .inl (by decide) | exact .inl (by omega)))
      have hf7 : yF7 I1 R1 := hV.2.2.2.1.1.1.2.st hV.2.2.1 (by omega) h7_ (fun a h1 h2 => (a3.2.2.1 a (by omega)).trans (by rw [pa_3]; exact yAddC_row (by omega))) hL7_ hm7_
      have hr7 : yR7 I1 R1 := ⟨hr4, hf7⟩
      have hM8_ : yMn I I_a := hV.2.2.2.1.1.2.1.ia hFa
      obtain ⟨hmn_, hvn_⟩ := s8_alone hV.2.2.2.1.1 hV.2.2.1 hRa hFa hLa a3 (by omega) (by omega) pa_3 px_
      have hmb_ : yMb (K + 1) I1 := hV.2.2.2.1.1.2.2.2.cg (Nat.le_succ K) (congrFun ((a3.2.2.1 74 (by decide)).trans (by rw [pa_3]; exact yAddC_row (by omega))) 2) ((a3.2.2.1 76 (by decide)).trans (by rw [pa_3]; exact yAddC_row (by omega))) (by omega)
      have hr8 : yR8 (K + 1) I1 R1 := ⟨hr7, hmn_, hvn_, hmb_⟩
      have hp9_ : yP9 I1 R1 := hV.2.2.2.1.2.1.kp hV.2.2.1 hFa hLa (by rw [pa_3]; exact yAddC_row (by omega)) (by omega) a3
      have hpd_ : yPdd I1 := hV.2.2.2.1.2.2.st (by omega) ((a3.2.2.1 54 (by decide)).trans (by rw [pa_3]; exact yAddC_row (by omega))) ((a3.2.2.1 55 (by decide)).trans (by rw [pa_3]; exact yAddC_row (by omega)))
      have hr9 : yR9 (K + 1) I1 R1 := ⟨hr8, hp9_, hpd_⟩
      have hV := hV.two pa_0 (fun a ha => funext fun k => hFa a k (.inl ha)) a1 a2 a3 hr9
      have hS := hV.1
      refine y_ret1 ?_
      refine y_istore (ls' := [some _, some _, some _, some _, some _, some _, some _]) rfl rfl rfl ?_
      refine y_goto rfl j_L_law_1673 ?_
      refine y_fgt (ls := [some _, some _, some _, some _, some _, none, none]) ⟨rfl, rfl, rfl, rfl, rfl, trivial⟩ ?_
      exact hN _ _ _ _ _ _ hV (by omega) (by omega)
theorem lc_14 (hV : yInv K n tg I R ln) (hk6 : K < 600) {x4 : Int32} (hx0 : 0 ≤ x4.toInt) (hx1 : x4.toInt + 7 ≤ (ln : Int)) (hl : ln ≤ 3584) (hN : ∀ n1 tg1 I1 R1 c1 s1, yInv (K + 1) n1 tg1 I1 R1 ln → c1 ≤ c + 790 → s1 ≤ s + 15250 → yW xm_L_law xc_L_law_1673 [some (.ref 33), some (.ref 34), some (.ref 83), some (.ref 93), some (.int x4), none, none] [] (n1, tg1, I1, R1) c1 s1 Q) : yW xm_L_law xc_L_law_821 [some (.ref 33), some (.ref 34), some (.ref 83), some (.ref 93), some (.int x4), none, none] [] (n, tg, I, R) c s Q := by
  have hS := hV.1
  refine y_aload_n rfl rfl ?_
  refine y_aload_n rfl rfl ?_
  refine y_iload rfl rfl ?_
  refine y_iconst rfl ?_
  refine y_iadd rfl ?_
  refine y_iaload rfl hV.2.2.2.2.2 (ySh.n hV.1 rfl) (sc_at hx0 hx1 hl (by decide) (by decide)).1 (sc_at hx0 hx1 hl (by decide) (by decide)).2 ?_
  refine y_aload_n rfl rfl ?_
  refine y_iload rfl rfl ?_
  refine y_iconst rfl ?_
  refine y_iadd rfl ?_
  refine y_iaload rfl hV.2.2.2.2.2 (ySh.n hV.1 rfl) (sc_at hx0 hx1 hl (by decide) (by decide)).1 (sc_at hx0 hx1 hl (by decide) (by decide)).2 ?_
  refine y_aload_n rfl rfl ?_
  refine y_iload rfl rfl ?_
  refine y_iconst rfl ?_
  refine y_iadd rfl ?_
  refine y_iaload rfl hV.2.2.2.2.2 (ySh.n hV.1 rfl) (sc_at hx0 hx1 hl (by decide) (by decide)).1 (sc_at hx0 hx1 hl (by decide) (by decide)).2 ?_
  refine y_aload_n rfl rfl ?_
  refine y_iload rfl rfl ?_
  refine y_iconst rfl ?_
  refine y_iadd rfl ?_
  refine y_iaload rfl hV.2.2.2.2.2 (ySh.n hV.1 rfl) (sc_at hx0 hx1 hl (by decide) (by decide)).1 (sc_at hx0 hx1 hl (by decide) (by decide)).2 ?_
  refine y_aload_n rfl rfl ?_
  refine y_static rfl rfl rfl rfl rfl ?_
  refine v_buyOut hS hV.2.1 (fun hc_ => ?_) (fun hc_ => ?_) (fun hc_ => ?_) (fun hc_ v_a I_a pa_0 pa_1 pa_2 pa_3 hBa R_a eR => ?_)
  · have e33 : I 33 = I 33 := rfl
    refine y_ret1 ?_
    refine y_istore (ls' := [some _, some _, some _, some _, some _, some _, _]) rfl rfl rfl ?_
    refine y_aload_n rfl rfl ?_
    refine y_aload_n rfl rfl ?_
    refine y_iload rfl rfl ?_
    refine y_iconst rfl ?_
    refine y_iadd rfl ?_
    refine y_iaload rfl hV.2.2.2.2.2 (ySh.n hV.1 rfl) (sc_at hx0 hx1 hl (by decide) (by decide)).1 (sc_at hx0 hx1 hl (by decide) (by decide)).2 ?_
    rw [e33]
    refine y_aload_n rfl rfl ?_
    refine y_iload rfl rfl ?_
    refine y_iconst rfl ?_
    refine y_iadd rfl ?_
    refine y_iaload rfl hV.2.2.2.2.2 (ySh.n hV.1 rfl) (sc_at hx0 hx1 hl (by decide) (by decide)).1 (sc_at hx0 hx1 hl (by decide) (by decide)).2 ?_
    rw [e33]
    refine y_aload_n rfl rfl ?_
    refine y_iload rfl rfl ?_
    refine y_iconst rfl ?_
    refine y_iadd rfl ?_
    refine y_iaload rfl hV.2.2.2.2.2 (ySh.n hV.1 rfl) (sc_at hx0 hx1 hl (by decide) (by decide)).1 (sc_at hx0 hx1 hl (by decide) (by decide)).2 ?_
    rw [e33]
    refine y_aload_n rfl rfl ?_
    refine y_iload rfl rfl ?_
    refine y_iconst rfl ?_
    refine y_iadd rfl ?_
    refine y_iaload rfl hV.2.2.2.2.2 (ySh.n hV.1 rfl) (sc_at hx0 hx1 hl (by decide) (by decide)).1 (sc_at hx0 hx1 hl (by decide) (by decide)).2 ?_
    rw [e33]
    refine y_virt rfl rfl rfl rfl rfl (ySh.t hS rfl) (ySh.n hS rfl) ?_
    obtain ⟨r1, r2, r3, r4, r5, r6, r7, r8⟩ := hV.2.2.2.1.1.1.1.1.1.1
    refine yC.keep3 [(18, 4, 83), (18, 1, 83), (18, 8, 83), (3, 2, 88), (3, 2, 91), (3, 2, 92), (3, 2, 89), (3, 2, 90)] yLO6 rfl rfl rfl hS hV.2.2.1 ?_
    refine h_buyOut hS hV.2.2.1 hk6  (fun hm_ v_b n1 tg1 I1 R1 c1 s1 a1 a2 a3 hth prf_ hc_b hs_b => ⟨a1, a3.2.1, fun hB_ h93_ hO_ hL_ => ?_⟩) (fun hm_ v_b n1 tg1 I1 R1 c1 s1 a1 a2 a3 hth prf_ hc_b hs_b => ⟨a1, a3.2.1, fun hB_ h93_ hO_ hL_ => ?_⟩) (fun q_b e_b0 hm_ v_b n1 tg1 I1 R1 c1 s1 a1 a2 a3 hth prf_ hc_b hs_b => ⟨a1, a3.2.1, fun hB_ h93_ hO_ hL_ => ?_⟩) (fun q_b e_b0 hm_ v_b n1 tg1 I1 R1 c1 s1 a1 a2 a3 hth pv_ px_ hc_b hs_b => ⟨a1, a3.2.1, fun hB_ h93_ hO_ hL_ => ?_⟩)
    · have kc34_9 := congrArg Int32.toInt (congrFun (a3.2.2.1 34 (by decide)) 9)
      have kc34_8 := congrArg Int32.toInt (congrFun (a3.2.2.1 34 (by decide)) 8)
      have kc38_0 := congrArg Int32.toInt (congrFun (a3.2.2.1 38 (by decide)) 0)
      have kc40_0 := congrArg Int32.toInt (congrFun (a3.2.2.1 40 (by decide)) 0)
      have kc69_0 := congrArg Int32.toInt (congrFun (a3.2.2.1 69 (by decide)) 0)
      have kc77_0 := congrArg Int32.toInt (congrFun (a3.2.2.1 77 (by decide)) 0)
      have kc48_0 := congrArg Int32.toInt (congrFun (a3.2.2.1 48 (by decide)) 0)
      have kc59_0 := congrArg Int32.toInt (congrFun (a3.2.2.1 59 (by decide)) 0)
      have hB_ : yKeep _ _ I1 := hB_
      obtain ⟨mb0, mb1, mb2, mb3, mb4, mb5, mb6, mb7, -⟩ := hB_
      have mb0 := congrArg Int32.toInt mb0
      have mb1 := congrArg Int32.toInt mb1
      have mb2 := congrArg Int32.toInt mb2
      have mb3 := congrArg Int32.toInt mb3
      have mb4 := congrArg Int32.toInt mb4
      have mb5 := congrArg Int32.toInt mb5
      have mb6 := congrArg Int32.toInt mb6
      have mb7 := congrArg Int32.toInt mb7
      have hN_ := hV.2.2.1.1
      have hM_ : yMn I I := hV.2.2.2.1.1.2.1
      have hrel : yRl I1 := ⟨by omega, by omega, by omega, by omega, by omega, by omega, by omega, by omega⟩
      have hr4 : yR6 I1 R1 := yR6.two hV.2.2.2.1.1.1.1 yFu.rf hV.2.2.1 hV.2.2.2.1.1.1.1.1.1.2.1 yLk.rf a3 (hO_.o5.ob45 hV.2.2.1) (hO_.o5.ob5 hV.2.2.1) (hO_.ob6 hV.2.2.1) hL_ hrel (by omega) (by omega) (by omega) (by omega)
      have hf7 : yF7 I1 R1 := hV.2.2.2.1.1.1.2.rf hV.2.2.1 prf_
      have hr7 : yR7 I1 R1 := ⟨hr4, hf7⟩
      have hr9 : yR9 (K + 1) I1 R1 := hV.2.2.2.1.rf hr7 hV.2.2.1 prf_ (Nat.le_succ K)
      have hV := hV.two hV.2.1 (fun _ _ => rfl) a1 a2 a3 hr9
      have hS := hV.1
      refine y_ret1 ?_
      refine y_istore (ls' := [some _, some _, some _, some _, some _, some _, some _]) rfl rfl rfl ?_
      refine y_goto rfl j_L_law_1673 ?_
      refine y_fgt (ls := [some _, some _, some _, some _, some _, none, none]) ⟨rfl, rfl, rfl, rfl, rfl, trivial⟩ ?_
      exact hN _ _ _ _ _ _ hV (by omega) (by omega)
    · have hN_ := hV.2.2.1.1
      have hM_ : yMn I I := hV.2.2.2.1.1.2.1
      exfalso; omega
    · have hN_ := hV.2.2.1.1
      have hM_ : yMn I I := hV.2.2.2.1.1.2.1
      have hW_ : yVn I I R := hV.2.2.2.1.1.2.2.1
      obtain ⟨t1_, t2_, t3_, t4_⟩ := tie_out hW_ hM_ (by omega) (by omega) (x2 := (I 33 (x4 + Int32.ofInt 2).toInt.toNat)) (x3 := (I 33 (x4 + Int32.ofInt 3).toInt.toNat)) e_b0 ⟨by omega, by omega, by omega⟩
      exfalso; omega
    · have hN_ := hV.2.2.1.1
      have hM_ : yMn I I := hV.2.2.2.1.1.2.1
      have hW_ : yVn I I R := hV.2.2.2.1.1.2.2.1
      obtain ⟨t1_, t2_, t3_, t4_⟩ := tie_out hW_ hM_ (by omega) (by omega) (x2 := (I 33 (x4 + Int32.ofInt 2).toInt.toNat)) (x3 := (I 33 (x4 + Int32.ofInt 3).toInt.toNat)) e_b0 ⟨by omega, by omega, by omega⟩
      exfalso; omega
  · have e33 : I 33 = I 33 := rfl
    refine y_ret1 ?_
    refine y_istore (ls' := [some _, some _, some _, some _, some _, some _, _]) rfl rfl rfl ?_
    refine y_aload_n rfl rfl ?_
    refine y_aload_n rfl rfl ?_
    refine y_iload rfl rfl ?_
    refine y_iconst rfl ?_
    refine y_iadd rfl ?_
    refine y_iaload rfl hV.2.2.2.2.2 (ySh.n hV.1 rfl) (sc_at hx0 hx1 hl (by decide) (by decide)).1 (sc_at hx0 hx1 hl (by decide) (by decide)).2 ?_
    rw [e33]
    refine y_aload_n rfl rfl ?_
    refine y_iload rfl rfl ?_
    refine y_iconst rfl ?_
    refine y_iadd rfl ?_
    refine y_iaload rfl hV.2.2.2.2.2 (ySh.n hV.1 rfl) (sc_at hx0 hx1 hl (by decide) (by decide)).1 (sc_at hx0 hx1 hl (by decide) (by decide)).2 ?_
    rw [e33]
    refine y_aload_n rfl rfl ?_
    refine y_iload rfl rfl ?_
    refine y_iconst rfl ?_
    refine y_iadd rfl ?_
    refine y_iaload rfl hV.2.2.2.2.2 (ySh.n hV.1 rfl) (sc_at hx0 hx1 hl (by decide) (by decide)).1 (sc_at hx0 hx1 hl (by decide) (by decide)).2 ?_
    rw [e33]
    refine y_aload_n rfl rfl ?_
    refine y_iload rfl rfl ?_
    refine y_iconst rfl ?_
    refine y_iadd rfl ?_
    refine y_iaload rfl hV.2.2.2.2.2 (ySh.n hV.1 rfl) (sc_at hx0 hx1 hl (by decide) (by decide)).1 (sc_at hx0 hx1 hl (by decide) (by decide)).2 ?_
    rw [e33]
    refine y_virt rfl rfl rfl rfl rfl (ySh.t hS rfl) (ySh.n hS rfl) ?_
    obtain ⟨r1, r2, r3, r4, r5, r6, r7, r8⟩ := hV.2.2.2.1.1.1.1.1.1.1
    refine yC.keep3 [(18, 4, 83), (18, 1, 83), (18, 8, 83), (3, 2, 88), (3, 2, 91), (3, 2, 92), (3, 2, 89), (3, 2, 90)] yLO6 rfl rfl rfl hS hV.2.2.1 ?_
    refine h_buyOut hS hV.2.2.1 hk6  (fun hm_ v_b n1 tg1 I1 R1 c1 s1 a1 a2 a3 hth prf_ hc_b hs_b => ⟨a1, a3.2.1, fun hB_ h93_ hO_ hL_ => ?_⟩) (fun hm_ v_b n1 tg1 I1 R1 c1 s1 a1 a2 a3 hth prf_ hc_b hs_b => ⟨a1, a3.2.1, fun hB_ h93_ hO_ hL_ => ?_⟩) (fun q_b e_b0 hm_ v_b n1 tg1 I1 R1 c1 s1 a1 a2 a3 hth prf_ hc_b hs_b => ⟨a1, a3.2.1, fun hB_ h93_ hO_ hL_ => ?_⟩) (fun q_b e_b0 hm_ v_b n1 tg1 I1 R1 c1 s1 a1 a2 a3 hth pv_ px_ hc_b hs_b => ⟨a1, a3.2.1, fun hB_ h93_ hO_ hL_ => ?_⟩)
    · have hN_ := hV.2.2.1.1
      have hM_ : yMn I I := hV.2.2.2.1.1.2.1
      exfalso; omega
    · have kc34_9 := congrArg Int32.toInt (congrFun (a3.2.2.1 34 (by decide)) 9)
      have kc34_8 := congrArg Int32.toInt (congrFun (a3.2.2.1 34 (by decide)) 8)
      have kc38_0 := congrArg Int32.toInt (congrFun (a3.2.2.1 38 (by decide)) 0)
      have kc40_0 := congrArg Int32.toInt (congrFun (a3.2.2.1 40 (by decide)) 0)
      have kc69_0 := congrArg Int32.toInt (congrFun (a3.2.2.1 69 (by decide)) 0)
      have kc77_0 := congrArg Int32.toInt (congrFun (a3.2.2.1 77 (by decide)) 0)
      have kc48_0 := congrArg Int32.toInt (congrFun (a3.2.2.1 48 (by decide)) 0)
      have kc59_0 := congrArg Int32.toInt (congrFun (a3.2.2.1 59 (by decide)) 0)
      have hB_ : yKeep _ _ I1 := hB_
      obtain ⟨mb0, mb1, mb2, mb3, mb4, mb5, mb6, mb7, -⟩ := hB_
      have mb0 := congrArg Int32.toInt mb0
      have mb1 := congrArg Int32.toInt mb1
      have mb2 := congrArg Int32.toInt mb2
      have mb3 := congrArg Int32.toInt mb3
      have mb4 := congrArg Int32.toInt mb4
      have mb5 := congrArg Int32.toInt mb5
      have mb6 := congrArg Int32.toInt mb6
      have mb7 := congrArg Int32.toInt mb7
      have hN_ := hV.2.2.1.1
      have hM_ : yMn I I := hV.2.2.2.1.1.2.1
      have hrel : yRl I1 := ⟨by omega, by omega, by omega, by omega, by omega, by omega, by omega, by omega⟩
      have hr4 : yR6 I1 R1 := yR6.two hV.2.2.2.1.1.1.1 yFu.rf hV.2.2.1 hV.2.2.2.1.1.1.1.1.1.2.1 yLk.rf a3 (hO_.o5.ob45 hV.2.2.1) (hO_.o5.ob5 hV.2.2.1) (hO_.ob6 hV.2.2.1) hL_ hrel (by omega) (by omega) (by omega) (by omega)
      have hf7 : yF7 I1 R1 := hV.2.2.2.1.1.1.2.rf hV.2.2.1 prf_
      have hr7 : yR7 I1 R1 := ⟨hr4, hf7⟩
      have hr9 : yR9 (K + 1) I1 R1 := hV.2.2.2.1.rf hr7 hV.2.2.1 prf_ (Nat.le_succ K)
      have hV := hV.two hV.2.1 (fun _ _ => rfl) a1 a2 a3 hr9
      have hS := hV.1
      refine y_ret1 ?_
      refine y_istore (ls' := [some _, some _, some _, some _, some _, some _, some _]) rfl rfl rfl ?_
      refine y_goto rfl j_L_law_1673 ?_
      refine y_fgt (ls := [some _, some _, some _, some _, some _, none, none]) ⟨rfl, rfl, rfl, rfl, rfl, trivial⟩ ?_
      exact hN _ _ _ _ _ _ hV (by omega) (by omega)
    · have hN_ := hV.2.2.1.1
      have hM_ : yMn I I := hV.2.2.2.1.1.2.1
      have hW_ : yVn I I R := hV.2.2.2.1.1.2.2.1
      obtain ⟨t1_, t2_, t3_, t4_⟩ := tie_out hW_ hM_ (by omega) (by omega) (x2 := (I 33 (x4 + Int32.ofInt 2).toInt.toNat)) (x3 := (I 33 (x4 + Int32.ofInt 3).toInt.toNat)) e_b0 ⟨by omega, by omega, by omega⟩
      exfalso; omega
    · have hN_ := hV.2.2.1.1
      have hM_ : yMn I I := hV.2.2.2.1.1.2.1
      have hW_ : yVn I I R := hV.2.2.2.1.1.2.2.1
      obtain ⟨t1_, t2_, t3_, t4_⟩ := tie_out hW_ hM_ (by omega) (by omega) (x2 := (I 33 (x4 + Int32.ofInt 2).toInt.toNat)) (x3 := (I 33 (x4 + Int32.ofInt 3).toInt.toNat)) e_b0 ⟨by omega, by omega, by omega⟩
      exfalso; omega
  · have e33 : I 33 = I 33 := rfl
    refine y_ret1 ?_
    refine y_istore (ls' := [some _, some _, some _, some _, some _, some _, _]) rfl rfl rfl ?_
    refine y_aload_n rfl rfl ?_
    refine y_aload_n rfl rfl ?_
    refine y_iload rfl rfl ?_
    refine y_iconst rfl ?_
    refine y_iadd rfl ?_
    refine y_iaload rfl hV.2.2.2.2.2 (ySh.n hV.1 rfl) (sc_at hx0 hx1 hl (by decide) (by decide)).1 (sc_at hx0 hx1 hl (by decide) (by decide)).2 ?_
    rw [e33]
    refine y_aload_n rfl rfl ?_
    refine y_iload rfl rfl ?_
    refine y_iconst rfl ?_
    refine y_iadd rfl ?_
    refine y_iaload rfl hV.2.2.2.2.2 (ySh.n hV.1 rfl) (sc_at hx0 hx1 hl (by decide) (by decide)).1 (sc_at hx0 hx1 hl (by decide) (by decide)).2 ?_
    rw [e33]
    refine y_aload_n rfl rfl ?_
    refine y_iload rfl rfl ?_
    refine y_iconst rfl ?_
    refine y_iadd rfl ?_
    refine y_iaload rfl hV.2.2.2.2.2 (ySh.n hV.1 rfl) (sc_at hx0 hx1 hl (by decide) (by decide)).1 (sc_at hx0 hx1 hl (by decide) (by decide)).2 ?_
    rw [e33]
    refine y_aload_n rfl rfl ?_
    refine y_iload rfl rfl ?_
    refine y_iconst rfl ?_
    refine y_iadd rfl ?_
    refine y_iaload rfl hV.2.2.2.2.2 (ySh.n hV.1 rfl) (sc_at hx0 hx1 hl (by decide) (by decide)).1 (sc_at hx0 hx1 hl (by decide) (by decide)).2 ?_
    rw [e33]
    refine y_virt rfl rfl rfl rfl rfl (ySh.t hS rfl) (ySh.n hS rfl) ?_
    obtain ⟨r1, r2, r3, r4, r5, r6, r7, r8⟩ := hV.2.2.2.1.1.1.1.1.1.1
    refine yC.keep3 [(18, 4, 83), (18, 1, 83), (18, 8, 83), (3, 2, 88), (3, 2, 91), (3, 2, 92), (3, 2, 89), (3, 2, 90)] yLO6 rfl rfl rfl hS hV.2.2.1 ?_
    refine h_buyOut hS hV.2.2.1 hk6  (fun hm_ v_b n1 tg1 I1 R1 c1 s1 a1 a2 a3 hth prf_ hc_b hs_b => ⟨a1, a3.2.1, fun hB_ h93_ hO_ hL_ => ?_⟩) (fun hm_ v_b n1 tg1 I1 R1 c1 s1 a1 a2 a3 hth prf_ hc_b hs_b => ⟨a1, a3.2.1, fun hB_ h93_ hO_ hL_ => ?_⟩) (fun q_b e_b0 hm_ v_b n1 tg1 I1 R1 c1 s1 a1 a2 a3 hth prf_ hc_b hs_b => ⟨a1, a3.2.1, fun hB_ h93_ hO_ hL_ => ?_⟩) (fun q_b e_b0 hm_ v_b n1 tg1 I1 R1 c1 s1 a1 a2 a3 hth pv_ px_ hc_b hs_b => ⟨a1, a3.2.1, fun hB_ h93_ hO_ hL_ => ?_⟩)
    · have hN_ := hV.2.2.1.1
      have hM_ : yMn I I := hV.2.2.2.1.1.2.1
      exfalso; omega
    · have hN_ := hV.2.2.1.1
      have hM_ : yMn I I := hV.2.2.2.1.1.2.1
      exfalso; omega
    · have kc34_9 := congrArg Int32.toInt (congrFun (a3.2.2.1 34 (by decide)) 9)
      have kc34_8 := congrArg Int32.toInt (congrFun (a3.2.2.1 34 (by decide)) 8)
      have kc38_0 := congrArg Int32.toInt (congrFun (a3.2.2.1 38 (by decide)) 0)
      have kc40_0 := congrArg Int32.toInt (congrFun (a3.2.2.1 40 (by decide)) 0)
      have kc69_0 := congrArg Int32.toInt (congrFun (a3.2.2.1 69 (by decide)) 0)
      have kc77_0 := congrArg Int32.toInt (congrFun (a3.2.2.1 77 (by decide)) 0)
      have kc48_0 := congrArg Int32.toInt (congrFun (a3.2.2.1 48 (by decide)) 0)
      have kc59_0 := congrArg Int32.toInt (congrFun (a3.2.2.1 59 (by decide)) 0)
      have hB_ : yKeep _ _ I1 := hB_
      obtain ⟨mb0, mb1, mb2, mb3, mb4, mb5, mb6, mb7, -⟩ := hB_
      have mb0 := congrArg Int32.toInt mb0
      have mb1 := congrArg Int32.toInt mb1
      have mb2 := congrArg Int32.toInt mb2
      have mb3 := congrArg Int32.toInt mb3
      have mb4 := congrArg Int32.toInt mb4
      have mb5 := congrArg Int32.toInt mb5
      have mb6 := congrArg Int32.toInt mb6
      have mb7 := congrArg Int32.toInt mb7
      have hN_ := hV.2.2.1.1
      have hM_ : yMn I I := hV.2.2.2.1.1.2.1
      have hW_ : yVn I I R := hV.2.2.2.1.1.2.2.1
      obtain ⟨t1_, t2_, t3_, t4_⟩ := tie_out hW_ hM_ (by omega) (by omega) (x2 := (I 33 (x4 + Int32.ofInt 2).toInt.toNat)) (x3 := (I 33 (x4 + Int32.ofInt 3).toInt.toNat)) e_b0 ⟨by omega, by omega, by omega⟩
      have hrel : yRl I1 := ⟨by omega, by omega, by omega, by omega, by omega, by omega, by omega, by omega⟩
      have hr4 : yR6 I1 R1 := yR6.two hV.2.2.2.1.1.1.1 yFu.rf hV.2.2.1 hV.2.2.2.1.1.1.1.1.1.2.1 yLk.rf a3 (hO_.o5.ob45 hV.2.2.1) (hO_.o5.ob5 hV.2.2.1) (hO_.ob6 hV.2.2.1) hL_ hrel (by omega) (by omega) (by omega) (by omega)
      have hf7 : yF7 I1 R1 := hV.2.2.2.1.1.1.2.rf hV.2.2.1 prf_
      have hr7 : yR7 I1 R1 := ⟨hr4, hf7⟩
      have hr9 : yR9 (K + 1) I1 R1 := hV.2.2.2.1.rf hr7 hV.2.2.1 prf_ (Nat.le_succ K)
      have hV := hV.two hV.2.1 (fun _ _ => rfl) a1 a2 a3 hr9
      have hS := hV.1
      refine y_ret1 ?_
      refine y_istore (ls' := [some _, some _, some _, some _, some _, some _, some _]) rfl rfl rfl ?_
      refine y_goto rfl j_L_law_1673 ?_
      refine y_fgt (ls := [some _, some _, some _, some _, some _, none, none]) ⟨rfl, rfl, rfl, rfl, rfl, trivial⟩ ?_
      exact hN _ _ _ _ _ _ hV (by omega) (by omega)
    · have hN_ := hV.2.2.1.1
      have hM_ : yMn I I := hV.2.2.2.1.1.2.1
      have hW_ : yVn I I R := hV.2.2.2.1.1.2.2.1
      obtain ⟨t1_, t2_, t3_, t4_⟩ := tie_out hW_ hM_ (by omega) (by omega) (x2 := (I 33 (x4 + Int32.ofInt 2).toInt.toNat)) (x3 := (I 33 (x4 + Int32.ofInt 3).toInt.toNat)) e_b0 ⟨by omega, by omega, by omega⟩
      exfalso; omega
  · have hFa : yFt I I_a := pa_1
    have e33 : I_a 33 = I 33 := funext fun k => hFa 33 k (.inl (by decide))
    have hS : ySh n tg R_a := by rw [eR]; exact hS.out
    have hRa : yRI K n tg I_a R_a := (hV.2.2.1.ft hFa).outR (fun a ha => by rw [eR]; exact upd2_row ha)
    refine y_ret1 ?_
    refine y_istore (ls' := [some _, some _, some _, some _, some _, some _, _]) rfl rfl rfl ?_
    refine y_aload_n rfl rfl ?_
    refine y_aload_n rfl rfl ?_
    refine y_iload rfl rfl ?_
    refine y_iconst rfl ?_
    refine y_iadd rfl ?_
    refine y_iaload rfl hV.2.2.2.2.2 (ySh.n hV.1 rfl) (sc_at hx0 hx1 hl (by decide) (by decide)).1 (sc_at hx0 hx1 hl (by decide) (by decide)).2 ?_
    rw [e33]
    refine y_aload_n rfl rfl ?_
    refine y_iload rfl rfl ?_
    refine y_iconst rfl ?_
    refine y_iadd rfl ?_
    refine y_iaload rfl hV.2.2.2.2.2 (ySh.n hV.1 rfl) (sc_at hx0 hx1 hl (by decide) (by decide)).1 (sc_at hx0 hx1 hl (by decide) (by decide)).2 ?_
    rw [e33]
    refine y_aload_n rfl rfl ?_
    refine y_iload rfl rfl ?_
    refine y_iconst rfl ?_
    refine y_iadd rfl ?_
    refine y_iaload rfl hV.2.2.2.2.2 (ySh.n hV.1 rfl) (sc_at hx0 hx1 hl (by decide) (by decide)).1 (sc_at hx0 hx1 hl (by decide) (by decide)).2 ?_
    rw [e33]
    refine y_aload_n rfl rfl ?_
    refine y_iload rfl rfl ?_
    refine y_iconst rfl ?_
    refine y_iadd rfl ?_
    refine y_iaload rfl hV.2.2.2.2.2 (ySh.n hV.1 rfl) (sc_at hx0 hx1 hl (by decide) (by decide)).1 (sc_at hx0 hx1 hl (by decide) (by decide)).2 ?_
    rw [e33]
    refine y_virt rfl rfl rfl rfl rfl (ySh.t hS rfl) (ySh.n hS rfl) ?_
    obtain ⟨r1, r2, r3, r4, r5, r6, r7, r8⟩ := hV.2.2.2.1.1.1.1.1.1.1
    have eM : ∀ l k, 83 ≤ l → (I_a l k).toInt = (I l k).toInt := fun l k hl => congrArg Int32.toInt (hFa l k (.inr (.inl hl)))
    have em83_4 := eM 83 4 (by decide)
    have em83_1 := eM 83 1 (by decide)
    have em83_8 := eM 83 8 (by decide)
    have em88_2 := eM 88 2 (by decide)
    have em91_2 := eM 91 2 (by decide)
    have em92_2 := eM 92 2 (by decide)
    have em89_2 := eM 89 2 (by decide)
    have em90_2 := eM 90 2 (by decide)
    have em83_7 := eM 83 7 (by decide)
    obtain ⟨kb0, kb1, kb2, kb3, kb4, kb5, kb6, kb7, -⟩ := hBa
    have kb0 := congrArg Int32.toInt kb0
    have kb1 := congrArg Int32.toInt kb1
    have kb2 := congrArg Int32.toInt kb2
    have kb3 := congrArg Int32.toInt kb3
    have kb4 := congrArg Int32.toInt kb4
    have kb5 := congrArg Int32.toInt kb5
    have kb6 := congrArg Int32.toInt kb6
    have kb7 := congrArg Int32.toInt kb7
    refine yC.keep3 [(18, 4, 83), (18, 1, 83), (18, 8, 83), (3, 2, 88), (3, 2, 91), (3, 2, 92), (3, 2, 89), (3, 2, 90)] yLO6 rfl rfl rfl hS hRa ?_
    refine h_buyOut hS hRa hk6  (fun hm_ v_b n1 tg1 I1 R1 c1 s1 a1 a2 a3 hth prf_ hc_b hs_b => ⟨a1, a3.2.1, fun hB_ h93_ hO_ hL_ => ?_⟩) (fun hm_ v_b n1 tg1 I1 R1 c1 s1 a1 a2 a3 hth prf_ hc_b hs_b => ⟨a1, a3.2.1, fun hB_ h93_ hO_ hL_ => ?_⟩) (fun q_b e_b0 hm_ v_b n1 tg1 I1 R1 c1 s1 a1 a2 a3 hth prf_ hc_b hs_b => ⟨a1, a3.2.1, fun hB_ h93_ hO_ hL_ => ?_⟩) (fun q_b e_b0 hm_ v_b n1 tg1 I1 R1 c1 s1 a1 a2 a3 hth pv_ px_ hc_b hs_b => ⟨a1, a3.2.1, fun hB_ h93_ hO_ hL_ => ?_⟩)
    · have hN_ := hV.2.2.1.1
      have hLv_ : yLk I R R_a := by rw [eR]; exact yLk.out hV.2.2.1
      have hM_ : yMn I I_a := hV.2.2.2.1.1.2.1.ia hFa
      exfalso; omega
    · have hN_ := hV.2.2.1.1
      have hLv_ : yLk I R R_a := by rw [eR]; exact yLk.out hV.2.2.1
      have hM_ : yMn I I_a := hV.2.2.2.1.1.2.1.ia hFa
      exfalso; omega
    · have hN_ := hV.2.2.1.1
      have hLv_ : yLk I R R_a := by rw [eR]; exact yLk.out hV.2.2.1
      have hM_ : yMn I I_a := hV.2.2.2.1.1.2.1.ia hFa
      have hW_ : yVn I I_a R_a := hV.2.2.2.1.1.2.2.1.ia hV.2.2.1 hFa hLv_
      obtain ⟨t1_, t2_, t3_, t4_⟩ := tie_out hW_ hM_ (by omega) (by omega) (x2 := (I 33 (x4 + Int32.ofInt 2).toInt.toNat)) (x3 := (I 33 (x4 + Int32.ofInt 3).toInt.toNat)) e_b0 ⟨by omega, by omega, by omega⟩
      exfalso; omega
    · have kc34_9 := congrArg Int32.toInt (congrFun (a3.2.2.1 34 (by decide)) 9)
      have kc34_8 := congrArg Int32.toInt (congrFun (a3.2.2.1 34 (by decide)) 8)
      have kc38_0 := congrArg Int32.toInt (congrFun (a3.2.2.1 38 (by decide)) 0)
      have kc40_0 := congrArg Int32.toInt (congrFun (a3.2.2.1 40 (by decide)) 0)
      have kc69_0 := congrArg Int32.toInt (congrFun (a3.2.2.1 69 (by decide)) 0)
      have kc77_0 := congrArg Int32.toInt (congrFun (a3.2.2.1 77 (by decide)) 0)
      have kc48_0 := congrArg Int32.toInt (congrFun (a3.2.2.1 48 (by decide)) 0)
      have kc59_0 := congrArg Int32.toInt (congrFun (a3.2.2.1 59 (by decide)) 0)
      have hB_ : yKeep _ _ I1 := hB_
      obtain ⟨mb0, mb1, mb2, mb3, mb4, mb5, mb6, mb7, -⟩ := hB_
      have mb0 := congrArg Int32.toInt mb0
      have mb1 := congrArg Int32.toInt mb1
      have mb2 := congrArg Int32.toInt mb2
      have mb3 := congrArg Int32.toInt mb3
      have mb4 := congrArg Int32.toInt mb4
      have mb5 := congrArg Int32.toInt mb5
      have mb6 := congrArg Int32.toInt mb6
      have mb7 := congrArg Int32.toInt mb7
      have hN_ := hV.2.2.1.1
      have hLv_ : yLk I R R_a := by rw [eR]; exact yLk.out hV.2.2.1
      have hM_ : yMn I I_a := hV.2.2.2.1.1.2.1.ia hFa
      have hW_ : yVn I I_a R_a := hV.2.2.2.1.1.2.2.1.ia hV.2.2.1 hFa hLv_
      obtain ⟨t1_, t2_, t3_, t4_⟩ := tie_out hW_ hM_ (by omega) (by omega) (x2 := (I 33 (x4 + Int32.ofInt 2).toInt.toNat)) (x3 := (I 33 (x4 + Int32.ofInt 3).toInt.toNat)) e_b0 ⟨by omega, by omega, by omega⟩
      have hrel : yRl I1 := ⟨by omega, by omega, by omega, by omega, by omega, by omega, by omega, by omega⟩
      have hHa : yHr I_a R_a := by rw [eR]; exact yHr.a hV.2.2.2.1.1.1.1.1.1 hV.2.2.1 hFa
      have hLa : yLk I R R_a := by rw [eR]; exact yLk.out hV.2.2.1
      have hw_ : yFu I I_a := yFu.of fun a d1 d2 d3 d4 d5 d6 => by rw [pa_3]; repeat first | rw [upd2_row (by omega)] | rw [yAddC_row (by omega)]
      have hr4 : yR6 I1 R1 := yR6.two hV.2.2.2.1.1.1.1 hw_ hRa hHa hLa a3 (hO_.o5.ob45 hRa) (hO_.o5.ob5 hRa) (hO_.ob6 hRa) hL_ hrel (by omega) (by omega) (by omega) (by omega)
      have hL7_ : yLk I R R1 := fun l h1 h2 i hi => (hL_ l h1 h2 i (by rw [hFa.hi (show 83 ≤ l by omega)]; exact hi)).trans (hLa l h1 h2 i hi)
      obtain ⟨tb0_, tb1_, tb2_, tb3_⟩ := hRa.g91 (by omega) e_b0
      have lb_ := hRa.lo (l := 91) (by decide) (by decide) (by omega) e_b0
      have hm7_ : yFm n tg I I1 := yFm.x px_ (by repeat first | exact yFm.ft hFa | exact yFm.rr | refine yFm.addC ?_ | refine yFm.shD ?_ | refine yFm.prD ?_ (by assumption) | refine yFm.lsD ?_ (by assumption) | refine yFm.up ?_ (by first | exact .inl (by decide) | exact .inr (by assumption)))
      have h94_ : 94 ≤ n := hV.1.1
      have h7_ : I1 83 7 = I 83 7 := (congrFun (px_.n (show 83 < n by omega)) 7).trans (by repeat first | exact rfl | exact yext em83_7 | refine k7addC ?_ | refine k7shD ?_ | refine k7prD ?_ (by omega) | refine k7lsD ?_ (by omega) | refine k7up ?_ (by first | exact .inr (by decide) | exact .inl (by decide) | exact .inl (by omega)))
      have hf7 : yF7 I1 R1 := hV.2.2.2.1.1.1.2.st hV.2.2.1 (by omega) h7_ (fun a h1 h2 => (a3.2.2.1 a (by omega)).trans (by rw [pa_3]; repeat first | rw [upd2_row (by omega)] | rw [yAddC_row (by omega)])) hL7_ hm7_
      have hr7 : yR7 I1 R1 := ⟨hr4, hf7⟩
      have hM8_ : yMn I I_a := hV.2.2.2.1.1.2.1.ia hFa
      obtain ⟨hmn_, hvn_⟩ := s8_buyOut hV.2.2.2.1.1 hV.2.2.1 hRa hFa hLa a3 e_b0 ⟨by omega, by omega⟩ (by omega) (by omega) (by omega) (by omega) pa_3 px_
      have hmb_ : yMb (K + 1) I1 := hV.2.2.2.1.1.2.2.2.cg (Nat.le_succ K) (congrFun ((a3.2.2.1 74 (by decide)).trans (by rw [pa_3]; repeat first | rw [upd2_row (by omega)] | rw [yAddC_row (by omega)])) 2) ((a3.2.2.1 76 (by decide)).trans (by rw [pa_3]; repeat first | rw [upd2_row (by omega)] | rw [yAddC_row (by omega)])) (by omega)
      have hr8 : yR8 (K + 1) I1 R1 := ⟨hr7, hmn_, hvn_, hmb_⟩
      have hp9_ : yP9 I1 R1 := hV.2.2.2.1.2.1.kp hV.2.2.1 hFa hLa (by rw [pa_3]; repeat first | rw [upd2_row (by omega)] | rw [yAddC_row (by omega)]) (by omega) a3
      have hpd_ : yPdd I1 := hV.2.2.2.1.2.2.st (by omega) ((a3.2.2.1 54 (by decide)).trans (by rw [pa_3]; repeat first | rw [upd2_row (by omega)] | rw [yAddC_row (by omega)])) ((a3.2.2.1 55 (by decide)).trans (by rw [pa_3]; repeat first | rw [upd2_row (by omega)] | rw [yAddC_row (by omega)]))
      have hr9 : yR9 (K + 1) I1 R1 := ⟨hr8, hp9_, hpd_⟩
      have hV := hV.two pa_0 (fun a ha => funext fun k => hFa a k (.inl ha)) a1 a2 a3 hr9
      have hS := hV.1
      refine y_ret1 ?_
      refine y_istore (ls' := [some _, some _, some _, some _, some _, some _, some _]) rfl rfl rfl ?_
      refine y_goto rfl j_L_law_1673 ?_
      refine y_fgt (ls := [some _, some _, some _, some _, some _, none, none]) ⟨rfl, rfl, rfl, rfl, rfl, trivial⟩ ?_
      exact hN _ _ _ _ _ _ hV (by omega) (by omega)
theorem lc_15 (hV : yInv K n tg I R ln) (hk6 : K < 600) {x4 : Int32} (hx0 : 0 ≤ x4.toInt) (hx1 : x4.toInt + 7 ≤ (ln : Int)) (hl : ln ≤ 3584) (hN : ∀ n1 tg1 I1 R1 c1 s1, yInv (K + 1) n1 tg1 I1 R1 ln → c1 ≤ c + 790 → s1 ≤ s + 15250 → yW xm_L_law xc_L_law_1673 [some (.ref 33), some (.ref 34), some (.ref 83), some (.ref 93), some (.int x4), none, none] [] (n1, tg1, I1, R1) c1 s1 Q) : yW xm_L_law xc_L_law_885 [some (.ref 33), some (.ref 34), some (.ref 83), some (.ref 93), some (.int x4), none, none] [] (n, tg, I, R) c s Q := by
  have hS := hV.1
  refine y_aload_n rfl rfl ?_
  refine y_aload_n rfl rfl ?_
  refine y_iload rfl rfl ?_
  refine y_iconst rfl ?_
  refine y_iadd rfl ?_
  refine y_iaload rfl hV.2.2.2.2.2 (ySh.n hV.1 rfl) (sc_at hx0 hx1 hl (by decide) (by decide)).1 (sc_at hx0 hx1 hl (by decide) (by decide)).2 ?_
  refine y_aload_n rfl rfl ?_
  refine y_iload rfl rfl ?_
  refine y_iconst rfl ?_
  refine y_iadd rfl ?_
  refine y_iaload rfl hV.2.2.2.2.2 (ySh.n hV.1 rfl) (sc_at hx0 hx1 hl (by decide) (by decide)).1 (sc_at hx0 hx1 hl (by decide) (by decide)).2 ?_
  refine y_aload_n rfl rfl ?_
  refine y_static rfl rfl rfl rfl rfl ?_
  refine v_deposit hS hV.2.1 (fun hc_ => ?_) (fun hc_ => ?_) (fun hc_ => ?_) (fun hc_ v_a I_a pa_0 pa_1 pa_2 pa_3 pa_4 hBa R_a eR => ?_)
  · have e33 : I 33 = I 33 := rfl
    refine y_ret1 ?_
    refine y_istore (ls' := [some _, some _, some _, some _, some _, some _, _]) rfl rfl rfl ?_
    refine y_aload_n rfl rfl ?_
    refine y_aload_n rfl rfl ?_
    refine y_iload rfl rfl ?_
    refine y_iconst rfl ?_
    refine y_iadd rfl ?_
    refine y_iaload rfl hV.2.2.2.2.2 (ySh.n hV.1 rfl) (sc_at hx0 hx1 hl (by decide) (by decide)).1 (sc_at hx0 hx1 hl (by decide) (by decide)).2 ?_
    rw [e33]
    refine y_aload_n rfl rfl ?_
    refine y_iload rfl rfl ?_
    refine y_iconst rfl ?_
    refine y_iadd rfl ?_
    refine y_iaload rfl hV.2.2.2.2.2 (ySh.n hV.1 rfl) (sc_at hx0 hx1 hl (by decide) (by decide)).1 (sc_at hx0 hx1 hl (by decide) (by decide)).2 ?_
    rw [e33]
    refine y_virt rfl rfl rfl rfl rfl (ySh.t hS rfl) (ySh.n hS rfl) ?_
    obtain ⟨r1, r2, r3, r4, r5, r6, r7, r8⟩ := hV.2.2.2.1.1.1.1.1.1.1
    refine yC.keep3 [(18, 4, 83), (18, 1, 83), (18, 8, 83), (3, 2, 88), (3, 2, 91), (3, 2, 92), (3, 2, 89), (3, 2, 90)] yLO6 rfl rfl rfl hS hV.2.2.1 ?_
    refine h_deposit hS hV.2.2.1 hk6  (fun hm_ v_b n1 tg1 I1 R1 c1 s1 a1 a2 a3 hth prf_ hc_b hs_b => ⟨a1, a3.2.1, fun hB_ h93_ hO_ hL_ => ?_⟩) (fun hm_ v_b n1 tg1 I1 R1 c1 s1 a1 a2 a3 hth prf_ hc_b hs_b => ⟨a1, a3.2.1, fun hB_ h93_ hO_ hL_ => ?_⟩) (fun hm_ v_b n1 tg1 I1 R1 c1 s1 a1 a2 a3 hth prf_ hc_b hs_b => ⟨a1, a3.2.1, fun hB_ h93_ hO_ hL_ => ?_⟩) (fun hm_ v_b n1 tg1 I1 R1 c1 s1 a1 a2 a3 hth pv_ px_ hc_b hs_b => ⟨a1, a3.2.1, fun hB_ h93_ hO_ hL_ => ?_⟩)
    · have kc34_9 := congrArg Int32.toInt (congrFun (a3.2.2.1 34 (by decide)) 9)
      have kc34_8 := congrArg Int32.toInt (congrFun (a3.2.2.1 34 (by decide)) 8)
      have kc38_0 := congrArg Int32.toInt (congrFun (a3.2.2.1 38 (by decide)) 0)
      have kc40_0 := congrArg Int32.toInt (congrFun (a3.2.2.1 40 (by decide)) 0)
      have kc69_0 := congrArg Int32.toInt (congrFun (a3.2.2.1 69 (by decide)) 0)
      have kc77_0 := congrArg Int32.toInt (congrFun (a3.2.2.1 77 (by decide)) 0)
      have kc48_0 := congrArg Int32.toInt (congrFun (a3.2.2.1 48 (by decide)) 0)
      have kc59_0 := congrArg Int32.toInt (congrFun (a3.2.2.1 59 (by decide)) 0)
      have hB_ : yKeep _ _ I1 := hB_
      obtain ⟨mb0, mb1, mb2, mb3, mb4, mb5, mb6, mb7, -⟩ := hB_
      have mb0 := congrArg Int32.toInt mb0
      have mb1 := congrArg Int32.toInt mb1
      have mb2 := congrArg Int32.toInt mb2
      have mb3 := congrArg Int32.toInt mb3
      have mb4 := congrArg Int32.toInt mb4
      have mb5 := congrArg Int32.toInt mb5
      have mb6 := congrArg Int32.toInt mb6
      have mb7 := congrArg Int32.toInt mb7
      have hN_ := hV.2.2.1.1
      have hM_ : yMn I I := hV.2.2.2.1.1.2.1
      have hrel : yRl I1 := ⟨by omega, by omega, by omega, by omega, by omega, by omega, by omega, by omega⟩
      have hr4 : yR6 I1 R1 := yR6.two hV.2.2.2.1.1.1.1 yFu.rf hV.2.2.1 hV.2.2.2.1.1.1.1.1.1.2.1 yLk.rf a3 (hO_.o5.ob45 hV.2.2.1) (hO_.o5.ob5 hV.2.2.1) (hO_.ob6 hV.2.2.1) hL_ hrel (by omega) (by omega) (by omega) (by omega)
      have hf7 : yF7 I1 R1 := hV.2.2.2.1.1.1.2.rf hV.2.2.1 prf_
      have hr7 : yR7 I1 R1 := ⟨hr4, hf7⟩
      have hr9 : yR9 (K + 1) I1 R1 := hV.2.2.2.1.rf hr7 hV.2.2.1 prf_ (Nat.le_succ K)
      have hV := hV.two hV.2.1 (fun _ _ => rfl) a1 a2 a3 hr9
      have hS := hV.1
      refine y_ret1 ?_
      refine y_istore (ls' := [some _, some _, some _, some _, some _, some _, some _]) rfl rfl rfl ?_
      refine y_goto rfl j_L_law_1673 ?_
      refine y_fgt (ls := [some _, some _, some _, some _, some _, none, none]) ⟨rfl, rfl, rfl, rfl, rfl, trivial⟩ ?_
      exact hN _ _ _ _ _ _ hV (by omega) (by omega)
    · have hN_ := hV.2.2.1.1
      have hM_ : yMn I I := hV.2.2.2.1.1.2.1
      exfalso; omega
    · have hN_ := hV.2.2.1.1
      have hM_ : yMn I I := hV.2.2.2.1.1.2.1
      obtain ⟨t1_, t2_, t3_, t4_, t5_⟩ := tie_dep hM_ (by omega) (x1 := (I 33 (x4 + Int32.ofInt 1).toInt.toNat)) (x2 := (I 33 (x4 + Int32.ofInt 2).toInt.toNat)) (by omega)
      obtain ⟨t6_, t7_, t8_⟩ := t5_ (by omega)
      exfalso; omega
    · have hN_ := hV.2.2.1.1
      have hM_ : yMn I I := hV.2.2.2.1.1.2.1
      obtain ⟨t1_, t2_, t3_, t4_, t5_⟩ := tie_dep hM_ (by omega) (x1 := (I 33 (x4 + Int32.ofInt 1).toInt.toNat)) (x2 := (I 33 (x4 + Int32.ofInt 2).toInt.toNat)) (by omega)
      obtain ⟨t6_, t7_, t8_⟩ := t5_ (by omega)
      exfalso; omega
  · have e33 : I 33 = I 33 := rfl
    refine y_ret1 ?_
    refine y_istore (ls' := [some _, some _, some _, some _, some _, some _, _]) rfl rfl rfl ?_
    refine y_aload_n rfl rfl ?_
    refine y_aload_n rfl rfl ?_
    refine y_iload rfl rfl ?_
    refine y_iconst rfl ?_
    refine y_iadd rfl ?_
    refine y_iaload rfl hV.2.2.2.2.2 (ySh.n hV.1 rfl) (sc_at hx0 hx1 hl (by decide) (by decide)).1 (sc_at hx0 hx1 hl (by decide) (by decide)).2 ?_
    rw [e33]
    refine y_aload_n rfl rfl ?_
    refine y_iload rfl rfl ?_
    refine y_iconst rfl ?_
    refine y_iadd rfl ?_
    refine y_iaload rfl hV.2.2.2.2.2 (ySh.n hV.1 rfl) (sc_at hx0 hx1 hl (by decide) (by decide)).1 (sc_at hx0 hx1 hl (by decide) (by decide)).2 ?_
    rw [e33]
    refine y_virt rfl rfl rfl rfl rfl (ySh.t hS rfl) (ySh.n hS rfl) ?_
    obtain ⟨r1, r2, r3, r4, r5, r6, r7, r8⟩ := hV.2.2.2.1.1.1.1.1.1.1
    refine yC.keep3 [(18, 4, 83), (18, 1, 83), (18, 8, 83), (3, 2, 88), (3, 2, 91), (3, 2, 92), (3, 2, 89), (3, 2, 90)] yLO6 rfl rfl rfl hS hV.2.2.1 ?_
    refine h_deposit hS hV.2.2.1 hk6  (fun hm_ v_b n1 tg1 I1 R1 c1 s1 a1 a2 a3 hth prf_ hc_b hs_b => ⟨a1, a3.2.1, fun hB_ h93_ hO_ hL_ => ?_⟩) (fun hm_ v_b n1 tg1 I1 R1 c1 s1 a1 a2 a3 hth prf_ hc_b hs_b => ⟨a1, a3.2.1, fun hB_ h93_ hO_ hL_ => ?_⟩) (fun hm_ v_b n1 tg1 I1 R1 c1 s1 a1 a2 a3 hth prf_ hc_b hs_b => ⟨a1, a3.2.1, fun hB_ h93_ hO_ hL_ => ?_⟩) (fun hm_ v_b n1 tg1 I1 R1 c1 s1 a1 a2 a3 hth pv_ px_ hc_b hs_b => ⟨a1, a3.2.1, fun hB_ h93_ hO_ hL_ => ?_⟩)
    · have hN_ := hV.2.2.1.1
      have hM_ : yMn I I := hV.2.2.2.1.1.2.1
      exfalso; omega
    · have kc34_9 := congrArg Int32.toInt (congrFun (a3.2.2.1 34 (by decide)) 9)
      have kc34_8 := congrArg Int32.toInt (congrFun (a3.2.2.1 34 (by decide)) 8)
      have kc38_0 := congrArg Int32.toInt (congrFun (a3.2.2.1 38 (by decide)) 0)
      have kc40_0 := congrArg Int32.toInt (congrFun (a3.2.2.1 40 (by decide)) 0)
      have kc69_0 := congrArg Int32.toInt (congrFun (a3.2.2.1 69 (by decide)) 0)
      have kc77_0 := congrArg Int32.toInt (congrFun (a3.2.2.1 77 (by decide)) 0)
      have kc48_0 := congrArg Int32.toInt (congrFun (a3.2.2.1 48 (by decide)) 0)
      have kc59_0 := congrArg Int32.toInt (congrFun (a3.2.2.1 59 (by decide)) 0)
      have hB_ : yKeep _ _ I1 := hB_
      obtain ⟨mb0, mb1, mb2, mb3, mb4, mb5, mb6, mb7, -⟩ := hB_
      have mb0 := congrArg Int32.toInt mb0
      have mb1 := congrArg Int32.toInt mb1
      have mb2 := congrArg Int32.toInt mb2
      have mb3 := congrArg Int32.toInt mb3
      have mb4 := congrArg Int32.toInt mb4
      have mb5 := congrArg Int32.toInt mb5
      have mb6 := congrArg Int32.toInt mb6
      have mb7 := congrArg Int32.toInt mb7
      have hN_ := hV.2.2.1.1
      have hM_ : yMn I I := hV.2.2.2.1.1.2.1
      have hrel : yRl I1 := ⟨by omega, by omega, by omega, by omega, by omega, by omega, by omega, by omega⟩
      have hr4 : yR6 I1 R1 := yR6.two hV.2.2.2.1.1.1.1 yFu.rf hV.2.2.1 hV.2.2.2.1.1.1.1.1.1.2.1 yLk.rf a3 (hO_.o5.ob45 hV.2.2.1) (hO_.o5.ob5 hV.2.2.1) (hO_.ob6 hV.2.2.1) hL_ hrel (by omega) (by omega) (by omega) (by omega)
      have hf7 : yF7 I1 R1 := hV.2.2.2.1.1.1.2.rf hV.2.2.1 prf_
      have hr7 : yR7 I1 R1 := ⟨hr4, hf7⟩
      have hr9 : yR9 (K + 1) I1 R1 := hV.2.2.2.1.rf hr7 hV.2.2.1 prf_ (Nat.le_succ K)
      have hV := hV.two hV.2.1 (fun _ _ => rfl) a1 a2 a3 hr9
      have hS := hV.1
      refine y_ret1 ?_
      refine y_istore (ls' := [some _, some _, some _, some _, some _, some _, some _]) rfl rfl rfl ?_
      refine y_goto rfl j_L_law_1673 ?_
      refine y_fgt (ls := [some _, some _, some _, some _, some _, none, none]) ⟨rfl, rfl, rfl, rfl, rfl, trivial⟩ ?_
      exact hN _ _ _ _ _ _ hV (by omega) (by omega)
    · have hN_ := hV.2.2.1.1
      have hM_ : yMn I I := hV.2.2.2.1.1.2.1
      obtain ⟨t1_, t2_, t3_, t4_, t5_⟩ := tie_dep hM_ (by omega) (x1 := (I 33 (x4 + Int32.ofInt 1).toInt.toNat)) (x2 := (I 33 (x4 + Int32.ofInt 2).toInt.toNat)) (by omega)
      obtain ⟨t6_, t7_, t8_⟩ := t5_ (by omega)
      exfalso; omega
    · have hN_ := hV.2.2.1.1
      have hM_ : yMn I I := hV.2.2.2.1.1.2.1
      obtain ⟨t1_, t2_, t3_, t4_, t5_⟩ := tie_dep hM_ (by omega) (x1 := (I 33 (x4 + Int32.ofInt 1).toInt.toNat)) (x2 := (I 33 (x4 + Int32.ofInt 2).toInt.toNat)) (by omega)
      obtain ⟨t6_, t7_, t8_⟩ := t5_ (by omega)
      exfalso; omega
  · have e33 : I 33 = I 33 := rfl
    refine y_ret1 ?_
    refine y_istore (ls' := [some _, some _, some _, some _, some _, some _, _]) rfl rfl rfl ?_
    refine y_aload_n rfl rfl ?_
    refine y_aload_n rfl rfl ?_
    refine y_iload rfl rfl ?_
    refine y_iconst rfl ?_
    refine y_iadd rfl ?_
    refine y_iaload rfl hV.2.2.2.2.2 (ySh.n hV.1 rfl) (sc_at hx0 hx1 hl (by decide) (by decide)).1 (sc_at hx0 hx1 hl (by decide) (by decide)).2 ?_
    rw [e33]
    refine y_aload_n rfl rfl ?_
    refine y_iload rfl rfl ?_
    refine y_iconst rfl ?_
    refine y_iadd rfl ?_
    refine y_iaload rfl hV.2.2.2.2.2 (ySh.n hV.1 rfl) (sc_at hx0 hx1 hl (by decide) (by decide)).1 (sc_at hx0 hx1 hl (by decide) (by decide)).2 ?_
    rw [e33]
    refine y_virt rfl rfl rfl rfl rfl (ySh.t hS rfl) (ySh.n hS rfl) ?_
    obtain ⟨r1, r2, r3, r4, r5, r6, r7, r8⟩ := hV.2.2.2.1.1.1.1.1.1.1
    refine yC.keep3 [(18, 4, 83), (18, 1, 83), (18, 8, 83), (3, 2, 88), (3, 2, 91), (3, 2, 92), (3, 2, 89), (3, 2, 90)] yLO6 rfl rfl rfl hS hV.2.2.1 ?_
    refine h_deposit hS hV.2.2.1 hk6  (fun hm_ v_b n1 tg1 I1 R1 c1 s1 a1 a2 a3 hth prf_ hc_b hs_b => ⟨a1, a3.2.1, fun hB_ h93_ hO_ hL_ => ?_⟩) (fun hm_ v_b n1 tg1 I1 R1 c1 s1 a1 a2 a3 hth prf_ hc_b hs_b => ⟨a1, a3.2.1, fun hB_ h93_ hO_ hL_ => ?_⟩) (fun hm_ v_b n1 tg1 I1 R1 c1 s1 a1 a2 a3 hth prf_ hc_b hs_b => ⟨a1, a3.2.1, fun hB_ h93_ hO_ hL_ => ?_⟩) (fun hm_ v_b n1 tg1 I1 R1 c1 s1 a1 a2 a3 hth pv_ px_ hc_b hs_b => ⟨a1, a3.2.1, fun hB_ h93_ hO_ hL_ => ?_⟩)
    · have hN_ := hV.2.2.1.1
      have hM_ : yMn I I := hV.2.2.2.1.1.2.1
      exfalso; omega
    · have hN_ := hV.2.2.1.1
      have hM_ : yMn I I := hV.2.2.2.1.1.2.1
      exfalso; omega
    · have kc34_9 := congrArg Int32.toInt (congrFun (a3.2.2.1 34 (by decide)) 9)
      have kc34_8 := congrArg Int32.toInt (congrFun (a3.2.2.1 34 (by decide)) 8)
      have kc38_0 := congrArg Int32.toInt (congrFun (a3.2.2.1 38 (by decide)) 0)
      have kc40_0 := congrArg Int32.toInt (congrFun (a3.2.2.1 40 (by decide)) 0)
      have kc69_0 := congrArg Int32.toInt (congrFun (a3.2.2.1 69 (by decide)) 0)
      have kc77_0 := congrArg Int32.toInt (congrFun (a3.2.2.1 77 (by decide)) 0)
      have kc48_0 := congrArg Int32.toInt (congrFun (a3.2.2.1 48 (by decide)) 0)
      have kc59_0 := congrArg Int32.toInt (congrFun (a3.2.2.1 59 (by decide)) 0)
      have hB_ : yKeep _ _ I1 := hB_
      obtain ⟨mb0, mb1, mb2, mb3, mb4, mb5, mb6, mb7, -⟩ := hB_
      have mb0 := congrArg Int32.toInt mb0
      have mb1 := congrArg Int32.toInt mb1
      have mb2 := congrArg Int32.toInt mb2
      have mb3 := congrArg Int32.toInt mb3
      have mb4 := congrArg Int32.toInt mb4
      have mb5 := congrArg Int32.toInt mb5
      have mb6 := congrArg Int32.toInt mb6
      have mb7 := congrArg Int32.toInt mb7
      have hN_ := hV.2.2.1.1
      have hM_ : yMn I I := hV.2.2.2.1.1.2.1
      obtain ⟨t1_, t2_, t3_, t4_, t5_⟩ := tie_dep hM_ (by omega) (x1 := (I 33 (x4 + Int32.ofInt 1).toInt.toNat)) (x2 := (I 33 (x4 + Int32.ofInt 2).toInt.toNat)) (by omega)
      obtain ⟨t6_, t7_, t8_⟩ := t5_ (by omega)
      have hrel : yRl I1 := ⟨by omega, by omega, by omega, by omega, by omega, by omega, by omega, by omega⟩
      have hr4 : yR6 I1 R1 := yR6.two hV.2.2.2.1.1.1.1 yFu.rf hV.2.2.1 hV.2.2.2.1.1.1.1.1.1.2.1 yLk.rf a3 (hO_.o5.ob45 hV.2.2.1) (hO_.o5.ob5 hV.2.2.1) (hO_.ob6 hV.2.2.1) hL_ hrel (by omega) (by omega) (by omega) (by omega)
      have hf7 : yF7 I1 R1 := hV.2.2.2.1.1.1.2.rf hV.2.2.1 prf_
      have hr7 : yR7 I1 R1 := ⟨hr4, hf7⟩
      have hr9 : yR9 (K + 1) I1 R1 := hV.2.2.2.1.rf hr7 hV.2.2.1 prf_ (Nat.le_succ K)
      have hV := hV.two hV.2.1 (fun _ _ => rfl) a1 a2 a3 hr9
      have hS := hV.1
      refine y_ret1 ?_
      refine y_istore (ls' := [some _, some _, some _, some _, some _, some _, some _]) rfl rfl rfl ?_
      refine y_goto rfl j_L_law_1673 ?_
      refine y_fgt (ls := [some _, some _, some _, some _, some _, none, none]) ⟨rfl, rfl, rfl, rfl, rfl, trivial⟩ ?_
      exact hN _ _ _ _ _ _ hV (by omega) (by omega)
    · have hN_ := hV.2.2.1.1
      have hM_ : yMn I I := hV.2.2.2.1.1.2.1
      obtain ⟨t1_, t2_, t3_, t4_, t5_⟩ := tie_dep hM_ (by omega) (x1 := (I 33 (x4 + Int32.ofInt 1).toInt.toNat)) (x2 := (I 33 (x4 + Int32.ofInt 2).toInt.toNat)) (by omega)
      obtain ⟨t6_, t7_, t8_⟩ := t5_ (by omega)
      exfalso; omega
  · have hFa : yFt I I_a := pa_1
    have e33 : I_a 33 = I 33 := funext fun k => hFa 33 k (.inl (by decide))
    have hS : ySh n tg R_a := by rw [eR]; exact hS.out
    have hRa : yRI K n tg I_a R_a := (hV.2.2.1.ft hFa).outR (fun a ha => by rw [eR]; exact upd2_row ha)
    refine y_ret1 ?_
    refine y_istore (ls' := [some _, some _, some _, some _, some _, some _, _]) rfl rfl rfl ?_
    refine y_aload_n rfl rfl ?_
    refine y_aload_n rfl rfl ?_
    refine y_iload rfl rfl ?_
    refine y_iconst rfl ?_
    refine y_iadd rfl ?_
    refine y_iaload rfl hV.2.2.2.2.2 (ySh.n hV.1 rfl) (sc_at hx0 hx1 hl (by decide) (by decide)).1 (sc_at hx0 hx1 hl (by decide) (by decide)).2 ?_
    rw [e33]
    refine y_aload_n rfl rfl ?_
    refine y_iload rfl rfl ?_
    refine y_iconst rfl ?_
    refine y_iadd rfl ?_
    refine y_iaload rfl hV.2.2.2.2.2 (ySh.n hV.1 rfl) (sc_at hx0 hx1 hl (by decide) (by decide)).1 (sc_at hx0 hx1 hl (by decide) (by decide)).2 ?_
    rw [e33]
    refine y_virt rfl rfl rfl rfl rfl (ySh.t hS rfl) (ySh.n hS rfl) ?_
    obtain ⟨r1, r2, r3, r4, r5, r6, r7, r8⟩ := hV.2.2.2.1.1.1.1.1.1.1
    have eM : ∀ l k, 83 ≤ l → (I_a l k).toInt = (I l k).toInt := fun l k hl => congrArg Int32.toInt (hFa l k (.inr (.inl hl)))
    have em83_4 := eM 83 4 (by decide)
    have em83_1 := eM 83 1 (by decide)
    have em83_8 := eM 83 8 (by decide)
    have em88_2 := eM 88 2 (by decide)
    have em91_2 := eM 91 2 (by decide)
    have em92_2 := eM 92 2 (by decide)
    have em89_2 := eM 89 2 (by decide)
    have em90_2 := eM 90 2 (by decide)
    have em83_7 := eM 83 7 (by decide)
    obtain ⟨kb0, kb1, kb2, kb3, kb4, kb5, kb6, kb7, -⟩ := hBa
    have kb0 := congrArg Int32.toInt kb0
    have kb1 := congrArg Int32.toInt kb1
    have kb2 := congrArg Int32.toInt kb2
    have kb3 := congrArg Int32.toInt kb3
    have kb4 := congrArg Int32.toInt kb4
    have kb5 := congrArg Int32.toInt kb5
    have kb6 := congrArg Int32.toInt kb6
    have kb7 := congrArg Int32.toInt kb7
    refine yC.keep3 [(18, 4, 83), (18, 1, 83), (18, 8, 83), (3, 2, 88), (3, 2, 91), (3, 2, 92), (3, 2, 89), (3, 2, 90)] yLO6 rfl rfl rfl hS hRa ?_
    refine h_deposit hS hRa hk6  (fun hm_ v_b n1 tg1 I1 R1 c1 s1 a1 a2 a3 hth prf_ hc_b hs_b => ⟨a1, a3.2.1, fun hB_ h93_ hO_ hL_ => ?_⟩) (fun hm_ v_b n1 tg1 I1 R1 c1 s1 a1 a2 a3 hth prf_ hc_b hs_b => ⟨a1, a3.2.1, fun hB_ h93_ hO_ hL_ => ?_⟩) (fun hm_ v_b n1 tg1 I1 R1 c1 s1 a1 a2 a3 hth prf_ hc_b hs_b => ⟨a1, a3.2.1, fun hB_ h93_ hO_ hL_ => ?_⟩) (fun hm_ v_b n1 tg1 I1 R1 c1 s1 a1 a2 a3 hth pv_ px_ hc_b hs_b => ⟨a1, a3.2.1, fun hB_ h93_ hO_ hL_ => ?_⟩)
    · have hN_ := hV.2.2.1.1
      have hLv_ : yLk I R R_a := by rw [eR]; exact yLk.out hV.2.2.1
      have hM_ : yMn I I_a := hV.2.2.2.1.1.2.1.ia hFa
      exfalso; omega
    · have hN_ := hV.2.2.1.1
      have hLv_ : yLk I R R_a := by rw [eR]; exact yLk.out hV.2.2.1
      have hM_ : yMn I I_a := hV.2.2.2.1.1.2.1.ia hFa
      exfalso; omega
    · have hN_ := hV.2.2.1.1
      have hLv_ : yLk I R R_a := by rw [eR]; exact yLk.out hV.2.2.1
      have hM_ : yMn I I_a := hV.2.2.2.1.1.2.1.ia hFa
      obtain ⟨t1_, t2_, t3_, t4_, t5_⟩ := tie_dep hM_ (by omega) (x1 := (I 33 (x4 + Int32.ofInt 1).toInt.toNat)) (x2 := (I 33 (x4 + Int32.ofInt 2).toInt.toNat)) (by omega)
      obtain ⟨t6_, t7_, t8_⟩ := t5_ (by omega)
      exfalso; omega
    · have kc34_9 := congrArg Int32.toInt (congrFun (a3.2.2.1 34 (by decide)) 9)
      have kc34_8 := congrArg Int32.toInt (congrFun (a3.2.2.1 34 (by decide)) 8)
      have kc38_0 := congrArg Int32.toInt (congrFun (a3.2.2.1 38 (by decide)) 0)
      have kc40_0 := congrArg Int32.toInt (congrFun (a3.2.2.1 40 (by decide)) 0)
      have kc69_0 := congrArg Int32.toInt (congrFun (a3.2.2.1 69 (by decide)) 0)
      have kc77_0 := congrArg Int32.toInt (congrFun (a3.2.2.1 77 (by decide)) 0)
      have kc48_0 := congrArg Int32.toInt (congrFun (a3.2.2.1 48 (by decide)) 0)
      have kc59_0 := congrArg Int32.toInt (congrFun (a3.2.2.1 59 (by decide)) 0)
      have hB_ : yKeep _ _ I1 := hB_
      obtain ⟨mb0, mb1, mb2, mb3, mb4, mb5, mb6, mb7, -⟩ := hB_
      have mb0 := congrArg Int32.toInt mb0
      have mb1 := congrArg Int32.toInt mb1
      have mb2 := congrArg Int32.toInt mb2
      have mb3 := congrArg Int32.toInt mb3
      have mb4 := congrArg Int32.toInt mb4
      have mb5 := congrArg Int32.toInt mb5
      have mb6 := congrArg Int32.toInt mb6
      have mb7 := congrArg Int32.toInt mb7
      have hN_ := hV.2.2.1.1
      have hLv_ : yLk I R R_a := by rw [eR]; exact yLk.out hV.2.2.1
      have hM_ : yMn I I_a := hV.2.2.2.1.1.2.1.ia hFa
      obtain ⟨t1_, t2_, t3_, t4_, t5_⟩ := tie_dep hM_ (by omega) (x1 := (I 33 (x4 + Int32.ofInt 1).toInt.toNat)) (x2 := (I 33 (x4 + Int32.ofInt 2).toInt.toNat)) (by omega)
      obtain ⟨t6_, t7_, t8_⟩ := t5_ (by omega)
      have hrel : yRl I1 := ⟨by omega, by omega, by omega, by omega, by omega, by omega, by omega, by omega⟩
      have hHa : yHr I_a R_a := by rw [eR]; exact yHr.a hV.2.2.2.1.1.1.1.1.1 hV.2.2.1 hFa
      have hLa : yLk I R R_a := by rw [eR]; exact yLk.out hV.2.2.1
      have hw_ : yFu I I_a := yFu.of fun a d1 d2 d3 d4 d5 d6 => by rw [pa_4]; repeat first | rw [upd2_row (by omega)] | rw [yAddC_row (by omega)]
      have hr4 : yR6 I1 R1 := yR6.two hV.2.2.2.1.1.1.1 hw_ hRa hHa hLa a3 (hO_.o5.ob45 hRa) (hO_.o5.ob5 hRa) (hO_.ob6 hRa) hL_ hrel (by omega) (by omega) (by omega) (by omega)
      have hL7_ : yLk I R R1 := fun l h1 h2 i hi => (hL_ l h1 h2 i (by rw [hFa.hi (show 83 ≤ l by omega)]; exact hi)).trans (hLa l h1 h2 i hi)
      have hm7_ : yFm n tg I I1 := yFm.x px_ (by repeat first | exact yFm.ft hFa | exact yFm.rr | refine yFm.addC ?_ | refine yFm.shD ?_ | refine yFm.prD ?_ (by assumption) | refine yFm.lsD ?_ (by assumption) | refine yFm.up ?_ (by first | exact .inl (by decide) | exact .inr (by assumption)))
      have h94_ : 94 ≤ n := hV.1.1
      have h7_ : I1 83 7 = I 83 7 := (congrFun (px_.n (show 83 < n by omega)) 7).trans (by repeat first | exact rfl | exact yext em83_7 | refine k7addC ?_ | refine k7shD ?_ | refine k7prD ?_ (by omega) | refine k7lsD ?_ (by omega) | refine k7up ?_ (by first | exact .inr (by decide) | exact .inl (by decide) | exact .inl (by omega)))
      have hf7 : yF7 I1 R1 := hV.2.2.2.1.1.1.2.st hV.2.2.1 (by omega) h7_ (fun a h1 h2 => (a3.2.2.1 a (by omega)).trans (by rw [pa_4]; repeat first | rw [upd2_row (by omega)] | rw [yAddC_row (by omega)])) hL7_ hm7_
      have hr7 : yR7 I1 R1 := ⟨hr4, hf7⟩
      have hM8_ : yMn I I_a := hV.2.2.2.1.1.2.1.ia hFa
      have hmn_ : yMn I1 I1 := ((m9_deposit hM8_ (by omega) (by omega) (by omega) ⟨by omega, by omega⟩).ea pa_4).px a3 px_ h94_
      have hvn_ : yVn I1 I1 R1 := hV.2.2.2.1.1.2.2.1.st hV.2.2.1 (by omega) (fun a h1 h2 => (a3.2.2.1 a (by omega)).trans (by rw [pa_4]; repeat first | rw [upd2_row (by omega)] | rw [yAddC_row (by omega)])) hL7_ (yVm.x px_ (by repeat first | exact yVm.ft hFa | exact yVm.rr | refine yVm.addC ?_ | refine yVm.shD ?_ | refine yVm.up ?_ (by first | exact .inl (by decide) | exact .inr (by assumption))))
      have hmb_ : yMb (K + 1) I1 := hV.2.2.2.1.1.2.2.2.cg (Nat.le_succ K) (congrFun ((a3.2.2.1 74 (by decide)).trans (by rw [pa_4]; repeat first | rw [upd2_row (by omega)] | rw [yAddC_row (by omega)])) 2) ((a3.2.2.1 76 (by decide)).trans (by rw [pa_4]; repeat first | rw [upd2_row (by omega)] | rw [yAddC_row (by omega)])) (by omega)
      have hr8 : yR8 (K + 1) I1 R1 := ⟨hr7, hmn_, hvn_, hmb_⟩
      have hp9_ : yP9 I1 R1 := hV.2.2.2.1.2.1.kp hV.2.2.1 hFa hLa (by rw [pa_4]; repeat first | rw [upd2_row (by omega)] | rw [yAddC_row (by omega)]) (by omega) a3
      have hpd_ : yPdd I1 := hV.2.2.2.1.2.2.st (by omega) ((a3.2.2.1 54 (by decide)).trans (by rw [pa_4]; repeat first | rw [upd2_row (by omega)] | rw [yAddC_row (by omega)])) ((a3.2.2.1 55 (by decide)).trans (by rw [pa_4]; repeat first | rw [upd2_row (by omega)] | rw [yAddC_row (by omega)]))
      have hr9 : yR9 (K + 1) I1 R1 := ⟨hr8, hp9_, hpd_⟩
      have hV := hV.two pa_0 (fun a ha => funext fun k => hFa a k (.inl ha)) a1 a2 a3 hr9
      have hS := hV.1
      refine y_ret1 ?_
      refine y_istore (ls' := [some _, some _, some _, some _, some _, some _, some _]) rfl rfl rfl ?_
      refine y_goto rfl j_L_law_1673 ?_
      refine y_fgt (ls := [some _, some _, some _, some _, some _, none, none]) ⟨rfl, rfl, rfl, rfl, rfl, trivial⟩ ?_
      exact hN _ _ _ _ _ _ hV (by omega) (by omega)
theorem lc_16 (hV : yInv K n tg I R ln) (hk6 : K < 600) {x4 : Int32} (hx0 : 0 ≤ x4.toInt) (hx1 : x4.toInt + 7 ≤ (ln : Int)) (hl : ln ≤ 3584) (hN : ∀ n1 tg1 I1 R1 c1 s1, yInv (K + 1) n1 tg1 I1 R1 ln → c1 ≤ c + 790 → s1 ≤ s + 15250 → yW xm_L_law xc_L_law_1673 [some (.ref 33), some (.ref 34), some (.ref 83), some (.ref 93), some (.int x4), none, none] [] (n1, tg1, I1, R1) c1 s1 Q) : yW xm_L_law xc_L_law_925 [some (.ref 33), some (.ref 34), some (.ref 83), some (.ref 93), some (.int x4), none, none] [] (n, tg, I, R) c s Q := by
  have hS := hV.1
  refine y_aload_n rfl rfl ?_
  refine y_aload_n rfl rfl ?_
  refine y_iload rfl rfl ?_
  refine y_iconst rfl ?_
  refine y_iadd rfl ?_
  refine y_iaload rfl hV.2.2.2.2.2 (ySh.n hV.1 rfl) (sc_at hx0 hx1 hl (by decide) (by decide)).1 (sc_at hx0 hx1 hl (by decide) (by decide)).2 ?_
  refine y_aload_n rfl rfl ?_
  refine y_iload rfl rfl ?_
  refine y_iconst rfl ?_
  refine y_iadd rfl ?_
  refine y_iaload rfl hV.2.2.2.2.2 (ySh.n hV.1 rfl) (sc_at hx0 hx1 hl (by decide) (by decide)).1 (sc_at hx0 hx1 hl (by decide) (by decide)).2 ?_
  refine y_aload_n rfl rfl ?_
  refine y_iload rfl rfl ?_
  refine y_iconst rfl ?_
  refine y_iadd rfl ?_
  refine y_iaload rfl hV.2.2.2.2.2 (ySh.n hV.1 rfl) (sc_at hx0 hx1 hl (by decide) (by decide)).1 (sc_at hx0 hx1 hl (by decide) (by decide)).2 ?_
  refine y_aload_n rfl rfl ?_
  refine y_static rfl rfl rfl rfl rfl ?_
  refine v_share hS hV.2.1 (fun hc_ => ?_) (fun hc_ y_rest y_sh y_g z_0 z_1 z_2 v_a I_a pa_0 pa_1 pa_2 pa_3 hBa R_a eR => ?_)
  · have e33 : I 33 = I 33 := rfl
    refine y_ret1 ?_
    refine y_istore (ls' := [some _, some _, some _, some _, some _, some _, _]) rfl rfl rfl ?_
    refine y_aload_n rfl rfl ?_
    refine y_aload_n rfl rfl ?_
    refine y_iload rfl rfl ?_
    refine y_iconst rfl ?_
    refine y_iadd rfl ?_
    refine y_iaload rfl hV.2.2.2.2.2 (ySh.n hV.1 rfl) (sc_at hx0 hx1 hl (by decide) (by decide)).1 (sc_at hx0 hx1 hl (by decide) (by decide)).2 ?_
    rw [e33]
    refine y_aload_n rfl rfl ?_
    refine y_iload rfl rfl ?_
    refine y_iconst rfl ?_
    refine y_iadd rfl ?_
    refine y_iaload rfl hV.2.2.2.2.2 (ySh.n hV.1 rfl) (sc_at hx0 hx1 hl (by decide) (by decide)).1 (sc_at hx0 hx1 hl (by decide) (by decide)).2 ?_
    rw [e33]
    refine y_aload_n rfl rfl ?_
    refine y_iload rfl rfl ?_
    refine y_iconst rfl ?_
    refine y_iadd rfl ?_
    refine y_iaload rfl hV.2.2.2.2.2 (ySh.n hV.1 rfl) (sc_at hx0 hx1 hl (by decide) (by decide)).1 (sc_at hx0 hx1 hl (by decide) (by decide)).2 ?_
    rw [e33]
    refine y_virt rfl rfl rfl rfl rfl (ySh.t hS rfl) (ySh.n hS rfl) ?_
    obtain ⟨r1, r2, r3, r4, r5, r6, r7, r8⟩ := hV.2.2.2.1.1.1.1.1.1.1
    refine yC.keep3 [(18, 4, 83), (18, 1, 83), (18, 8, 83), (3, 2, 88), (3, 2, 91), (3, 2, 92), (3, 2, 89), (3, 2, 90)] yLO6 rfl rfl rfl hS hV.2.2.1 ?_
    refine h_share (al := (yBC (I 36 4)).toInt) hS hV.2.2.1 hk6 (hV.2.2.2.1.1.1.1.1.1.2.1.al hV.2.2.1 (q := 4) (by decide)) (fun hm_ v_b n1 tg1 I1 R1 c1 s1 a1 a2 a3 hth prf_ hc_b hs_b => ⟨a1, a3.2.1, fun hB_ h93_ hO_ hL_ => ?_⟩) (fun q_own q_more q_rest q_ms e_0 e_1 e_2 e_3 e_4 e_5 e_6 hm_ v_b n1 tg1 I1 R1 c1 s1 a1 a2 a3 hth pv_ px_ hc_b hs_b => ⟨a1, a3.2.1, fun hB_ h93_ hO_ hL_ => ?_⟩)
    · have kc34_9 := congrArg Int32.toInt (congrFun (a3.2.2.1 34 (by decide)) 9)
      have kc34_8 := congrArg Int32.toInt (congrFun (a3.2.2.1 34 (by decide)) 8)
      have kc38_0 := congrArg Int32.toInt (congrFun (a3.2.2.1 38 (by decide)) 0)
      have kc40_0 := congrArg Int32.toInt (congrFun (a3.2.2.1 40 (by decide)) 0)
      have kc69_0 := congrArg Int32.toInt (congrFun (a3.2.2.1 69 (by decide)) 0)
      have kc77_0 := congrArg Int32.toInt (congrFun (a3.2.2.1 77 (by decide)) 0)
      have kc48_0 := congrArg Int32.toInt (congrFun (a3.2.2.1 48 (by decide)) 0)
      have kc59_0 := congrArg Int32.toInt (congrFun (a3.2.2.1 59 (by decide)) 0)
      have hB_ : yKeep _ _ I1 := hB_
      obtain ⟨mb0, mb1, mb2, mb3, mb4, mb5, mb6, mb7, -⟩ := hB_
      have mb0 := congrArg Int32.toInt mb0
      have mb1 := congrArg Int32.toInt mb1
      have mb2 := congrArg Int32.toInt mb2
      have mb3 := congrArg Int32.toInt mb3
      have mb4 := congrArg Int32.toInt mb4
      have mb5 := congrArg Int32.toInt mb5
      have mb6 := congrArg Int32.toInt mb6
      have mb7 := congrArg Int32.toInt mb7
      have hN_ := hV.2.2.1.1
      have hM_ : yMn I I := hV.2.2.2.1.1.2.1
      have hrel : yRl I1 := ⟨by omega, by omega, by omega, by omega, by omega, by omega, by omega, by omega⟩
      have hr4 : yR6 I1 R1 := yR6.two hV.2.2.2.1.1.1.1 yFu.rf hV.2.2.1 hV.2.2.2.1.1.1.1.1.1.2.1 yLk.rf a3 (hO_.o5.ob45 hV.2.2.1) (hO_.o5.ob5 hV.2.2.1) (hO_.ob6 hV.2.2.1) hL_ hrel (by omega) (by omega) (by omega) (by omega)
      have hf7 : yF7 I1 R1 := hV.2.2.2.1.1.1.2.rf hV.2.2.1 prf_
      have hr7 : yR7 I1 R1 := ⟨hr4, hf7⟩
      have hr9 : yR9 (K + 1) I1 R1 := hV.2.2.2.1.rf hr7 hV.2.2.1 prf_ (Nat.le_succ K)
      have hV := hV.two hV.2.1 (fun _ _ => rfl) a1 a2 a3 hr9
      have hS := hV.1
      refine y_ret1 ?_
      refine y_istore (ls' := [some _, some _, some _, some _, some _, some _, some _]) rfl rfl rfl ?_
      refine y_goto rfl j_L_law_1673 ?_
      refine y_fgt (ls := [some _, some _, some _, some _, some _, none, none]) ⟨rfl, rfl, rfl, rfl, rfl, trivial⟩ ?_
      exact hN _ _ _ _ _ _ hV (by omega) (by omega)
    · have hN_ := hV.2.2.1.1
      have hM_ : yMn I I := hV.2.2.2.1.1.2.1
      exfalso; omega
  · have hFa : yFt I I_a := pa_1
    have e33 : I_a 33 = I 33 := funext fun k => hFa 33 k (.inl (by decide))
    have hS : ySh n tg R_a := by rw [eR]; exact hS.out
    have hRa : yRI K n tg I_a R_a := (hV.2.2.1.ft hFa).outR (fun a ha => by rw [eR]; exact upd2_row ha)
    refine y_ret1 ?_
    refine y_istore (ls' := [some _, some _, some _, some _, some _, some _, _]) rfl rfl rfl ?_
    refine y_aload_n rfl rfl ?_
    refine y_aload_n rfl rfl ?_
    refine y_iload rfl rfl ?_
    refine y_iconst rfl ?_
    refine y_iadd rfl ?_
    refine y_iaload rfl hV.2.2.2.2.2 (ySh.n hV.1 rfl) (sc_at hx0 hx1 hl (by decide) (by decide)).1 (sc_at hx0 hx1 hl (by decide) (by decide)).2 ?_
    rw [e33]
    refine y_aload_n rfl rfl ?_
    refine y_iload rfl rfl ?_
    refine y_iconst rfl ?_
    refine y_iadd rfl ?_
    refine y_iaload rfl hV.2.2.2.2.2 (ySh.n hV.1 rfl) (sc_at hx0 hx1 hl (by decide) (by decide)).1 (sc_at hx0 hx1 hl (by decide) (by decide)).2 ?_
    rw [e33]
    refine y_aload_n rfl rfl ?_
    refine y_iload rfl rfl ?_
    refine y_iconst rfl ?_
    refine y_iadd rfl ?_
    refine y_iaload rfl hV.2.2.2.2.2 (ySh.n hV.1 rfl) (sc_at hx0 hx1 hl (by decide) (by decide)).1 (sc_at hx0 hx1 hl (by decide) (by decide)).2 ?_
    rw [e33]
    refine y_virt rfl rfl rfl rfl rfl (ySh.t hS rfl) (ySh.n hS rfl) ?_
    obtain ⟨r1, r2, r3, r4, r5, r6, r7, r8⟩ := hV.2.2.2.1.1.1.1.1.1.1
    have eM : ∀ l k, 83 ≤ l → (I_a l k).toInt = (I l k).toInt := fun l k hl => congrArg Int32.toInt (hFa l k (.inr (.inl hl)))
    have em83_4 := eM 83 4 (by decide)
    have em83_1 := eM 83 1 (by decide)
    have em83_8 := eM 83 8 (by decide)
    have em88_2 := eM 88 2 (by decide)
    have em91_2 := eM 91 2 (by decide)
    have em92_2 := eM 92 2 (by decide)
    have em89_2 := eM 89 2 (by decide)
    have em90_2 := eM 90 2 (by decide)
    have em83_7 := eM 83 7 (by decide)
    obtain ⟨kb0, kb1, kb2, kb3, kb4, kb5, kb6, kb7, -⟩ := hBa
    have kb0 := congrArg Int32.toInt kb0
    have kb1 := congrArg Int32.toInt kb1
    have kb2 := congrArg Int32.toInt kb2
    have kb3 := congrArg Int32.toInt kb3
    have kb4 := congrArg Int32.toInt kb4
    have kb5 := congrArg Int32.toInt kb5
    have kb6 := congrArg Int32.toInt kb6
    have kb7 := congrArg Int32.toInt kb7
    refine yC.keep3 [(18, 4, 83), (18, 1, 83), (18, 8, 83), (3, 2, 88), (3, 2, 91), (3, 2, 92), (3, 2, 89), (3, 2, 90)] yLO6 rfl rfl rfl hS hRa ?_
    refine h_share (al := (yBC (I 36 4)).toInt) hS hRa hk6 (by rw [eR]; exact yHr.ala hV.2.2.2.1.1.1.1.1.1 hV.2.2.1 hFa (q := 4) (by decide)) (fun hm_ v_b n1 tg1 I1 R1 c1 s1 a1 a2 a3 hth prf_ hc_b hs_b => ⟨a1, a3.2.1, fun hB_ h93_ hO_ hL_ => ?_⟩) (fun q_own q_more q_rest q_ms e_0 e_1 e_2 e_3 e_4 e_5 e_6 hm_ v_b n1 tg1 I1 R1 c1 s1 a1 a2 a3 hth pv_ px_ hc_b hs_b => ⟨a1, a3.2.1, fun hB_ h93_ hO_ hL_ => ?_⟩)
    · have hN_ := hV.2.2.1.1
      have hLv_ : yLk I R R_a := by rw [eR]; exact yLk.out hV.2.2.1
      have hM_ : yMn I I_a := hV.2.2.2.1.1.2.1.ia hFa
      exfalso; omega
    · have kc34_9 := congrArg Int32.toInt (congrFun (a3.2.2.1 34 (by decide)) 9)
      have kc34_8 := congrArg Int32.toInt (congrFun (a3.2.2.1 34 (by decide)) 8)
      have kc38_0 := congrArg Int32.toInt (congrFun (a3.2.2.1 38 (by decide)) 0)
      have kc40_0 := congrArg Int32.toInt (congrFun (a3.2.2.1 40 (by decide)) 0)
      have kc69_0 := congrArg Int32.toInt (congrFun (a3.2.2.1 69 (by decide)) 0)
      have kc77_0 := congrArg Int32.toInt (congrFun (a3.2.2.1 77 (by decide)) 0)
      have kc48_0 := congrArg Int32.toInt (congrFun (a3.2.2.1 48 (by decide)) 0)
      have kc59_0 := congrArg Int32.toInt (congrFun (a3.2.2.1 59 (by decide)) 0)
      have hB_ : yKeep _ _ I1 := hB_
      obtain ⟨mb0, mb1, mb2, mb3, mb4, mb5, mb6, mb7, -⟩ := hB_
      have mb0 := congrArg Int32.toInt mb0
      have mb1 := congrArg Int32.toInt mb1
      have mb2 := congrArg Int32.toInt mb2
      have mb3 := congrArg Int32.toInt mb3
      have mb4 := congrArg Int32.toInt mb4
      have mb5 := congrArg Int32.toInt mb5
      have mb6 := congrArg Int32.toInt mb6
      have mb7 := congrArg Int32.toInt mb7
      have hN_ := hV.2.2.1.1
      have hLv_ : yLk I R R_a := by rw [eR]; exact yLk.out hV.2.2.1
      have hM_ : yMn I I_a := hV.2.2.2.1.1.2.1.ia hFa
      have hrel : yRl I1 := ⟨by omega, by omega, by omega, by omega, by omega, by omega, by omega, by omega⟩
      have hHa : yHr I_a R_a := by rw [eR]; exact yHr.a hV.2.2.2.1.1.1.1.1.1 hV.2.2.1 hFa
      have hLa : yLk I R R_a := by rw [eR]; exact yLk.out hV.2.2.1
      have hw_ : yFu I I_a := yFu.of fun a d1 d2 d3 d4 d5 d6 => by rw [pa_3]; repeat first | rw [upd2_row (by omega)] | rw [yAddC_row (by omega)] | rw [yPoR_row (by omega) (by omega)]
      have hr4 : yR6 I1 R1 := yR6.two hV.2.2.2.1.1.1.1 hw_ hRa hHa hLa a3 (hO_.o5.ob45 hRa) (hO_.o5.ob5 hRa) (hO_.ob6 hRa) hL_ hrel (by omega) (by omega) (by omega) (by omega)
      have hL7_ : yLk I R R1 := fun l h1 h2 i hi => (hL_ l h1 h2 i (by rw [hFa.hi (show 83 ≤ l by omega)]; exact hi)).trans (hLa l h1 h2 i hi)
      have hm7_ : yFm n tg I I1 := yFm.x px_ (by repeat first | exact yFm.ft hFa | exact yFm.rr | refine yFm.addC ?_ | refine yFm.shD ?_ | refine yFm.prD ?_ (by assumption) | refine yFm.lsD ?_ (by assumption) | refine yFm.up ?_ (by first | exact .inl (by decide) | exact .inr (by assumption)))
      have h94_ : 94 ≤ n := hV.1.1
      have h7_ : I1 83 7 = I 83 7 := (congrFun (px_.n (show 83 < n by omega)) 7).trans (by repeat first | exact rfl | exact yext em83_7 | refine k7addC ?_ | refine k7shD ?_ | refine k7prD ?_ (by omega) | refine k7lsD ?_ (by omega) | refine k7up ?_ (by first | exact .inr (by decide) | exact .inl (by decide) | exact .inl (by omega)))
      have hf7 : yF7 I1 R1 := hV.2.2.2.1.1.1.2.st hV.2.2.1 (by omega) h7_ (fun a h1 h2 => (a3.2.2.1 a (by omega)).trans (by rw [pa_3]; repeat first | rw [upd2_row (by omega)] | rw [yAddC_row (by omega)] | rw [yPoR_row (by omega) (by omega)])) hL7_ hm7_
      have hr7 : yR7 I1 R1 := ⟨hr4, hf7⟩
      have hM8_ : yMn I I_a := hV.2.2.2.1.1.2.1.ia hFa
      obtain ⟨hmn_, hmb_, hsv_⟩ := s8_share hV.2.2.2.1.1 hV.2.2.1 hRa hFa a3 hV.2.2.2.1.1.1.1.1.1.1 ⟨by omega, by omega⟩ ⟨by omega, by omega⟩ ⟨by omega, by omega⟩ z_0 z_1 z_2 pa_3 e_0 e_1 e_2 e_3 e_4 e_5 e_6 px_
      have hvn_ : yVn I1 I1 R1 := hV.2.2.2.1.1.2.2.1.st hV.2.2.1 (by omega) (fun a h1 h2 => (a3.2.2.1 a (by omega)).trans (by rw [pa_3]; repeat first | rw [upd2_row (by omega)] | rw [yAddC_row (by omega)] | rw [yPoR_row (by omega) (by omega)])) hL7_ (yVm.x px_ (by repeat first | exact yVm.ft hFa | exact yVm.rr | refine yVm.addC ?_ | refine yVm.shD ?_ | refine yVm.up ?_ (by first | exact .inl (by decide) | exact .inr (by assumption))))
      have hr8 : yR8 (K + 1) I1 R1 := ⟨hr7, hmn_, hvn_, hmb_⟩
      have hp9_ : yP9 I1 R1 := hV.2.2.2.1.2.1.kp hV.2.2.1 hFa hLa (by rw [pa_3]; repeat first | rw [upd2_row (by omega)] | rw [yAddC_row (by omega)] | rw [yPoR_row (by omega) (by omega)]) (by omega) a3
      have hpd_ : yPdd I1 := hV.2.2.2.1.2.2.st (by omega) ((a3.2.2.1 54 (by decide)).trans (by rw [pa_3]; repeat first | rw [upd2_row (by omega)] | rw [yAddC_row (by omega)] | rw [yPoR_row (by omega) (by omega)])) ((a3.2.2.1 55 (by decide)).trans (by rw [pa_3]; repeat first | rw [upd2_row (by omega)] | rw [yAddC_row (by omega)] | rw [yPoR_row (by omega) (by omega)]))
      have hr9 : yR9 (K + 1) I1 R1 := ⟨hr8, hp9_, hpd_⟩
      have hV := hV.two pa_0 (fun a ha => funext fun k => hFa a k (.inl ha)) a1 a2 a3 hr9
      have hS := hV.1
      refine y_ret1 ?_
      refine y_istore (ls' := [some _, some _, some _, some _, some _, some _, some _]) rfl rfl rfl ?_
      refine y_goto rfl j_L_law_1673 ?_
      refine y_fgt (ls := [some _, some _, some _, some _, some _, none, none]) ⟨rfl, rfl, rfl, rfl, rfl, trivial⟩ ?_
      exact hN _ _ _ _ _ _ hV (by omega) (by omega)
theorem lc_17 (hV : yInv K n tg I R ln) (hk6 : K < 600) {x4 : Int32} (hx0 : 0 ≤ x4.toInt) (hx1 : x4.toInt + 7 ≤ (ln : Int)) (hl : ln ≤ 3584) (hN : ∀ n1 tg1 I1 R1 c1 s1, yInv (K + 1) n1 tg1 I1 R1 ln → c1 ≤ c + 790 → s1 ≤ s + 15250 → yW xm_L_law xc_L_law_1673 [some (.ref 33), some (.ref 34), some (.ref 83), some (.ref 93), some (.int x4), none, none] [] (n1, tg1, I1, R1) c1 s1 Q) : yW xm_L_law xc_L_law_977 [some (.ref 33), some (.ref 34), some (.ref 83), some (.ref 93), some (.int x4), none, none] [] (n, tg, I, R) c s Q := by
  have hS := hV.1
  refine y_aload_n rfl rfl ?_
  refine y_aload_n rfl rfl ?_
  refine y_iload rfl rfl ?_
  refine y_iconst rfl ?_
  refine y_iadd rfl ?_
  refine y_iaload rfl hV.2.2.2.2.2 (ySh.n hV.1 rfl) (sc_at hx0 hx1 hl (by decide) (by decide)).1 (sc_at hx0 hx1 hl (by decide) (by decide)).2 ?_
  refine y_aload_n rfl rfl ?_
  refine y_iload rfl rfl ?_
  refine y_iconst rfl ?_
  refine y_iadd rfl ?_
  refine y_iaload rfl hV.2.2.2.2.2 (ySh.n hV.1 rfl) (sc_at hx0 hx1 hl (by decide) (by decide)).1 (sc_at hx0 hx1 hl (by decide) (by decide)).2 ?_
  refine y_aload_n rfl rfl ?_
  refine y_iload rfl rfl ?_
  refine y_iconst rfl ?_
  refine y_iadd rfl ?_
  refine y_iaload rfl hV.2.2.2.2.2 (ySh.n hV.1 rfl) (sc_at hx0 hx1 hl (by decide) (by decide)).1 (sc_at hx0 hx1 hl (by decide) (by decide)).2 ?_
  refine y_aload_n rfl rfl ?_
  refine y_iload rfl rfl ?_
  refine y_iconst rfl ?_
  refine y_iadd rfl ?_
  refine y_iaload rfl hV.2.2.2.2.2 (ySh.n hV.1 rfl) (sc_at hx0 hx1 hl (by decide) (by decide)).1 (sc_at hx0 hx1 hl (by decide) (by decide)).2 ?_
  refine y_aload_n rfl rfl ?_
  refine y_iload rfl rfl ?_
  refine y_iconst rfl ?_
  refine y_iadd rfl ?_
  refine y_iaload rfl hV.2.2.2.2.2 (ySh.n hV.1 rfl) (sc_at hx0 hx1 hl (by decide) (by decide)).1 (sc_at hx0 hx1 hl (by decide) (by decide)).2 ?_
  refine y_aload_n rfl rfl ?_
  refine y_iload rfl rfl ?_
  refine y_bip rfl (by decide) ?_
  refine y_iadd rfl ?_
  refine y_iaload rfl hV.2.2.2.2.2 (ySh.n hV.1 rfl) (sc_at hx0 hx1 hl (by decide) (by decide)).1 (sc_at hx0 hx1 hl (by decide) (by decide)).2 ?_
  refine y_aload_n rfl rfl ?_
  refine y_static rfl rfl rfl rfl rfl ?_
  refine v_firm hS hV.2.1 (fun hc_ => ?_) (fun hc_ => ?_) (fun hc_ v_a I_a pa_0 pa_1 pa_2 pa_3 hBa R_a eR => ?_) (fun hc_ v_a I_a pa_0 pa_1 pa_2 pa_3 hBa R_a eR => ?_)
  · have e33 : I 33 = I 33 := rfl
    refine y_ret1 ?_
    refine y_istore (ls' := [some _, some _, some _, some _, some _, some _, _]) rfl rfl rfl ?_
    refine y_aload_n rfl rfl ?_
    refine y_aload_n rfl rfl ?_
    refine y_iload rfl rfl ?_
    refine y_iconst rfl ?_
    refine y_iadd rfl ?_
    refine y_iaload rfl hV.2.2.2.2.2 (ySh.n hV.1 rfl) (sc_at hx0 hx1 hl (by decide) (by decide)).1 (sc_at hx0 hx1 hl (by decide) (by decide)).2 ?_
    rw [e33]
    refine y_aload_n rfl rfl ?_
    refine y_iload rfl rfl ?_
    refine y_iconst rfl ?_
    refine y_iadd rfl ?_
    refine y_iaload rfl hV.2.2.2.2.2 (ySh.n hV.1 rfl) (sc_at hx0 hx1 hl (by decide) (by decide)).1 (sc_at hx0 hx1 hl (by decide) (by decide)).2 ?_
    rw [e33]
    refine y_aload_n rfl rfl ?_
    refine y_iload rfl rfl ?_
    refine y_iconst rfl ?_
    refine y_iadd rfl ?_
    refine y_iaload rfl hV.2.2.2.2.2 (ySh.n hV.1 rfl) (sc_at hx0 hx1 hl (by decide) (by decide)).1 (sc_at hx0 hx1 hl (by decide) (by decide)).2 ?_
    rw [e33]
    refine y_aload_n rfl rfl ?_
    refine y_iload rfl rfl ?_
    refine y_iconst rfl ?_
    refine y_iadd rfl ?_
    refine y_iaload rfl hV.2.2.2.2.2 (ySh.n hV.1 rfl) (sc_at hx0 hx1 hl (by decide) (by decide)).1 (sc_at hx0 hx1 hl (by decide) (by decide)).2 ?_
    rw [e33]
    refine y_aload_n rfl rfl ?_
    refine y_iload rfl rfl ?_
    refine y_iconst rfl ?_
    refine y_iadd rfl ?_
    refine y_iaload rfl hV.2.2.2.2.2 (ySh.n hV.1 rfl) (sc_at hx0 hx1 hl (by decide) (by decide)).1 (sc_at hx0 hx1 hl (by decide) (by decide)).2 ?_
    rw [e33]
    refine y_aload_n rfl rfl ?_
    refine y_iload rfl rfl ?_
    refine y_bip rfl (by decide) ?_
    refine y_iadd rfl ?_
    refine y_iaload rfl hV.2.2.2.2.2 (ySh.n hV.1 rfl) (sc_at hx0 hx1 hl (by decide) (by decide)).1 (sc_at hx0 hx1 hl (by decide) (by decide)).2 ?_
    rw [e33]
    refine y_virt rfl rfl rfl rfl rfl (ySh.t hS rfl) (ySh.n hS rfl) ?_
    obtain ⟨r1, r2, r3, r4, r5, r6, r7, r8⟩ := hV.2.2.2.1.1.1.1.1.1.1
    refine yC.keep [(18, 4, 83), (18, 1, 83), (18, 8, 83)] rfl rfl hS ?_
    refine h_firm hS hV.2.2.1 hk6  (fun hm_ v_b n1 tg1 I1 R1 c1 s1 a1 a2 a3 hth pg_ ps_88 ps_89 ps_90 ps_91 ps_92 pl_ prf_ hc_b hs_b => ⟨a1, fun hB_ h93_ => ?_⟩) (fun hm_ v_b n1 tg1 I1 R1 c1 s1 a1 a2 a3 hth pg_ ps_88 ps_89 ps_90 ps_91 ps_92 pl_ prf_ hc_b hs_b => ⟨a1, fun hB_ h93_ => ?_⟩) (fun hm_ v_b n1 tg1 I1 R1 c1 s1 a1 a2 a3 hth pv_ pg_ ps_88 ps_89 ps_90 ps_91 ps_92 pl_ q_x e_x pn_ pf_0 pf_1 pf_2 pf_3 pf_4 pf_5 pf_6 p8_ hc_b hs_b => ⟨a1, fun hB_ h93_ => ?_⟩)
    · have kc34_9 := congrArg Int32.toInt (congrFun (a3.2.2.1 34 (by decide)) 9)
      have kc34_8 := congrArg Int32.toInt (congrFun (a3.2.2.1 34 (by decide)) 8)
      have kc38_0 := congrArg Int32.toInt (congrFun (a3.2.2.1 38 (by decide)) 0)
      have kc40_0 := congrArg Int32.toInt (congrFun (a3.2.2.1 40 (by decide)) 0)
      have kc69_0 := congrArg Int32.toInt (congrFun (a3.2.2.1 69 (by decide)) 0)
      have kc77_0 := congrArg Int32.toInt (congrFun (a3.2.2.1 77 (by decide)) 0)
      have kc48_0 := congrArg Int32.toInt (congrFun (a3.2.2.1 48 (by decide)) 0)
      have kc59_0 := congrArg Int32.toInt (congrFun (a3.2.2.1 59 (by decide)) 0)
      have hB_ : yKeep _ _ I1 := hB_
      obtain ⟨mb0, mb1, mb2, -⟩ := hB_
      have mb0 := congrArg Int32.toInt mb0
      have mb1 := congrArg Int32.toInt mb1
      have mb2 := congrArg Int32.toInt mb2
      have hrel : yRl I1 := ⟨by omega, by omega, by omega, by omega, by omega, by omega, by omega, by omega⟩
      have hr4 : yR6 I1 R1 := yR6.two hV.2.2.2.1.1.1.1 yFu.rf hV.2.2.1 hV.2.2.2.1.1.1.1.1.1.2.1 yLk.rf a3 (yR4.ob hV.2.2.1 pg_) (yS5.ob hV.2.2.1 pg_) (yL6.ob hV.2.2.1 pg_) pl_ hrel (by omega) (by omega) (by omega) (by omega)
      have hf7 : yF7 I1 R1 := hV.2.2.2.1.1.1.2.rf hV.2.2.1 prf_
      have hr7 : yR7 I1 R1 := ⟨hr4, hf7⟩
      have hr9 : yR9 (K + 1) I1 R1 := hV.2.2.2.1.rf hr7 hV.2.2.1 prf_ (Nat.le_succ K)
      have hV := hV.two hV.2.1 (fun _ _ => rfl) a1 a2 a3 hr9
      have hS := hV.1
      refine y_ret1 ?_
      refine y_istore (ls' := [some _, some _, some _, some _, some _, some _, some _]) rfl rfl rfl ?_
      refine y_goto rfl j_L_law_1673 ?_
      refine y_fgt (ls := [some _, some _, some _, some _, some _, none, none]) ⟨rfl, rfl, rfl, rfl, rfl, trivial⟩ ?_
      exact hN _ _ _ _ _ _ hV (by omega) (by omega)
    · exfalso; omega
    · exfalso; omega
  · have e33 : I 33 = I 33 := rfl
    refine y_ret1 ?_
    refine y_istore (ls' := [some _, some _, some _, some _, some _, some _, _]) rfl rfl rfl ?_
    refine y_aload_n rfl rfl ?_
    refine y_aload_n rfl rfl ?_
    refine y_iload rfl rfl ?_
    refine y_iconst rfl ?_
    refine y_iadd rfl ?_
    refine y_iaload rfl hV.2.2.2.2.2 (ySh.n hV.1 rfl) (sc_at hx0 hx1 hl (by decide) (by decide)).1 (sc_at hx0 hx1 hl (by decide) (by decide)).2 ?_
    rw [e33]
    refine y_aload_n rfl rfl ?_
    refine y_iload rfl rfl ?_
    refine y_iconst rfl ?_
    refine y_iadd rfl ?_
    refine y_iaload rfl hV.2.2.2.2.2 (ySh.n hV.1 rfl) (sc_at hx0 hx1 hl (by decide) (by decide)).1 (sc_at hx0 hx1 hl (by decide) (by decide)).2 ?_
    rw [e33]
    refine y_aload_n rfl rfl ?_
    refine y_iload rfl rfl ?_
    refine y_iconst rfl ?_
    refine y_iadd rfl ?_
    refine y_iaload rfl hV.2.2.2.2.2 (ySh.n hV.1 rfl) (sc_at hx0 hx1 hl (by decide) (by decide)).1 (sc_at hx0 hx1 hl (by decide) (by decide)).2 ?_
    rw [e33]
    refine y_aload_n rfl rfl ?_
    refine y_iload rfl rfl ?_
    refine y_iconst rfl ?_
    refine y_iadd rfl ?_
    refine y_iaload rfl hV.2.2.2.2.2 (ySh.n hV.1 rfl) (sc_at hx0 hx1 hl (by decide) (by decide)).1 (sc_at hx0 hx1 hl (by decide) (by decide)).2 ?_
    rw [e33]
    refine y_aload_n rfl rfl ?_
    refine y_iload rfl rfl ?_
    refine y_iconst rfl ?_
    refine y_iadd rfl ?_
    refine y_iaload rfl hV.2.2.2.2.2 (ySh.n hV.1 rfl) (sc_at hx0 hx1 hl (by decide) (by decide)).1 (sc_at hx0 hx1 hl (by decide) (by decide)).2 ?_
    rw [e33]
    refine y_aload_n rfl rfl ?_
    refine y_iload rfl rfl ?_
    refine y_bip rfl (by decide) ?_
    refine y_iadd rfl ?_
    refine y_iaload rfl hV.2.2.2.2.2 (ySh.n hV.1 rfl) (sc_at hx0 hx1 hl (by decide) (by decide)).1 (sc_at hx0 hx1 hl (by decide) (by decide)).2 ?_
    rw [e33]
    refine y_virt rfl rfl rfl rfl rfl (ySh.t hS rfl) (ySh.n hS rfl) ?_
    obtain ⟨r1, r2, r3, r4, r5, r6, r7, r8⟩ := hV.2.2.2.1.1.1.1.1.1.1
    refine yC.keep [(18, 4, 83), (18, 1, 83), (18, 8, 83)] rfl rfl hS ?_
    refine h_firm hS hV.2.2.1 hk6  (fun hm_ v_b n1 tg1 I1 R1 c1 s1 a1 a2 a3 hth pg_ ps_88 ps_89 ps_90 ps_91 ps_92 pl_ prf_ hc_b hs_b => ⟨a1, fun hB_ h93_ => ?_⟩) (fun hm_ v_b n1 tg1 I1 R1 c1 s1 a1 a2 a3 hth pg_ ps_88 ps_89 ps_90 ps_91 ps_92 pl_ prf_ hc_b hs_b => ⟨a1, fun hB_ h93_ => ?_⟩) (fun hm_ v_b n1 tg1 I1 R1 c1 s1 a1 a2 a3 hth pv_ pg_ ps_88 ps_89 ps_90 ps_91 ps_92 pl_ q_x e_x pn_ pf_0 pf_1 pf_2 pf_3 pf_4 pf_5 pf_6 p8_ hc_b hs_b => ⟨a1, fun hB_ h93_ => ?_⟩)
    · exfalso; omega
    · have kc34_9 := congrArg Int32.toInt (congrFun (a3.2.2.1 34 (by decide)) 9)
      have kc34_8 := congrArg Int32.toInt (congrFun (a3.2.2.1 34 (by decide)) 8)
      have kc38_0 := congrArg Int32.toInt (congrFun (a3.2.2.1 38 (by decide)) 0)
      have kc40_0 := congrArg Int32.toInt (congrFun (a3.2.2.1 40 (by decide)) 0)
      have kc69_0 := congrArg Int32.toInt (congrFun (a3.2.2.1 69 (by decide)) 0)
      have kc77_0 := congrArg Int32.toInt (congrFun (a3.2.2.1 77 (by decide)) 0)
      have kc48_0 := congrArg Int32.toInt (congrFun (a3.2.2.1 48 (by decide)) 0)
      have kc59_0 := congrArg Int32.toInt (congrFun (a3.2.2.1 59 (by decide)) 0)
      have hB_ : yKeep _ _ I1 := hB_
      obtain ⟨mb0, mb1, mb2, -⟩ := hB_
      have mb0 := congrArg Int32.toInt mb0
      have mb1 := congrArg Int32.toInt mb1
      have mb2 := congrArg Int32.toInt mb2
      have hrel : yRl I1 := ⟨by omega, by omega, by omega, by omega, by omega, by omega, by omega, by omega⟩
      have hr4 : yR6 I1 R1 := yR6.two hV.2.2.2.1.1.1.1 yFu.rf hV.2.2.1 hV.2.2.2.1.1.1.1.1.1.2.1 yLk.rf a3 (yR4.ob hV.2.2.1 pg_) (yS5.ob hV.2.2.1 pg_) (yL6.ob hV.2.2.1 pg_) pl_ hrel (by omega) (by omega) (by omega) (by omega)
      have hf7 : yF7 I1 R1 := hV.2.2.2.1.1.1.2.rf hV.2.2.1 prf_
      have hr7 : yR7 I1 R1 := ⟨hr4, hf7⟩
      have hr9 : yR9 (K + 1) I1 R1 := hV.2.2.2.1.rf hr7 hV.2.2.1 prf_ (Nat.le_succ K)
      have hV := hV.two hV.2.1 (fun _ _ => rfl) a1 a2 a3 hr9
      have hS := hV.1
      refine y_ret1 ?_
      refine y_istore (ls' := [some _, some _, some _, some _, some _, some _, some _]) rfl rfl rfl ?_
      refine y_goto rfl j_L_law_1673 ?_
      refine y_fgt (ls := [some _, some _, some _, some _, some _, none, none]) ⟨rfl, rfl, rfl, rfl, rfl, trivial⟩ ?_
      exact hN _ _ _ _ _ _ hV (by omega) (by omega)
    · exfalso; omega
  · have hFa : yFt I I_a := pa_1
    have e33 : I_a 33 = I 33 := funext fun k => hFa 33 k (.inl (by decide))
    have hS : ySh n tg R_a := by rw [eR]; exact hS.out
    have hRa : yRI K n tg I_a R_a := (hV.2.2.1.ft hFa).outR (fun a ha => by rw [eR]; exact upd2_row ha)
    refine y_ret1 ?_
    refine y_istore (ls' := [some _, some _, some _, some _, some _, some _, _]) rfl rfl rfl ?_
    refine y_aload_n rfl rfl ?_
    refine y_aload_n rfl rfl ?_
    refine y_iload rfl rfl ?_
    refine y_iconst rfl ?_
    refine y_iadd rfl ?_
    refine y_iaload rfl hV.2.2.2.2.2 (ySh.n hV.1 rfl) (sc_at hx0 hx1 hl (by decide) (by decide)).1 (sc_at hx0 hx1 hl (by decide) (by decide)).2 ?_
    rw [e33]
    refine y_aload_n rfl rfl ?_
    refine y_iload rfl rfl ?_
    refine y_iconst rfl ?_
    refine y_iadd rfl ?_
    refine y_iaload rfl hV.2.2.2.2.2 (ySh.n hV.1 rfl) (sc_at hx0 hx1 hl (by decide) (by decide)).1 (sc_at hx0 hx1 hl (by decide) (by decide)).2 ?_
    rw [e33]
    refine y_aload_n rfl rfl ?_
    refine y_iload rfl rfl ?_
    refine y_iconst rfl ?_
    refine y_iadd rfl ?_
    refine y_iaload rfl hV.2.2.2.2.2 (ySh.n hV.1 rfl) (sc_at hx0 hx1 hl (by decide) (by decide)).1 (sc_at hx0 hx1 hl (by decide) (by decide)).2 ?_
    rw [e33]
    refine y_aload_n rfl rfl ?_
    refine y_iload rfl rfl ?_
    refine y_iconst rfl ?_
    refine y_iadd rfl ?_
    refine y_iaload rfl hV.2.2.2.2.2 (ySh.n hV.1 rfl) (sc_at hx0 hx1 hl (by decide) (by decide)).1 (sc_at hx0 hx1 hl (by decide) (by decide)).2 ?_
    rw [e33]
    refine y_aload_n rfl rfl ?_
    refine y_iload rfl rfl ?_
    refine y_iconst rfl ?_
    refine y_iadd rfl ?_
    refine y_iaload rfl hV.2.2.2.2.2 (ySh.n hV.1 rfl) (sc_at hx0 hx1 hl (by decide) (by decide)).1 (sc_at hx0 hx1 hl (by decide) (by decide)).2 ?_
    rw [e33]
    refine y_aload_n rfl rfl ?_
    refine y_iload rfl rfl ?_
    refine y_bip rfl (by decide) ?_
    refine y_iadd rfl ?_
    refine y_iaload rfl hV.2.2.2.2.2 (ySh.n hV.1 rfl) (sc_at hx0 hx1 hl (by decide) (by decide)).1 (sc_at hx0 hx1 hl (by decide) (by decide)).2 ?_
    rw [e33]
    refine y_virt rfl rfl rfl rfl rfl (ySh.t hS rfl) (ySh.n hS rfl) ?_
    obtain ⟨r1, r2, r3, r4, r5, r6, r7, r8⟩ := hV.2.2.2.1.1.1.1.1.1.1
    have eM : ∀ l k, 83 ≤ l → (I_a l k).toInt = (I l k).toInt := fun l k hl => congrArg Int32.toInt (hFa l k (.inr (.inl hl)))
    have em83_4 := eM 83 4 (by decide)
    have em83_1 := eM 83 1 (by decide)
    have em83_8 := eM 83 8 (by decide)
    have em88_2 := eM 88 2 (by decide)
    have em91_2 := eM 91 2 (by decide)
    have em92_2 := eM 92 2 (by decide)
    have em89_2 := eM 89 2 (by decide)
    have em90_2 := eM 90 2 (by decide)
    have em83_7 := eM 83 7 (by decide)
    obtain ⟨kb0, kb1, kb2, kb3, kb4, kb5, kb6, -⟩ := hBa
    have kb0 := congrArg Int32.toInt kb0
    have kb1 := congrArg Int32.toInt kb1
    have kb2 := congrArg Int32.toInt kb2
    have kb3 := congrArg Int32.toInt kb3
    have kb4 := congrArg Int32.toInt kb4
    have kb5 := congrArg Int32.toInt kb5
    have kb6 := congrArg Int32.toInt kb6
    refine yC.keep [(18, 4, 83), (18, 1, 83), (18, 8, 83)] rfl rfl hS ?_
    refine h_firm hS hRa hk6  (fun hm_ v_b n1 tg1 I1 R1 c1 s1 a1 a2 a3 hth pg_ ps_88 ps_89 ps_90 ps_91 ps_92 pl_ prf_ hc_b hs_b => ⟨a1, fun hB_ h93_ => ?_⟩) (fun hm_ v_b n1 tg1 I1 R1 c1 s1 a1 a2 a3 hth pg_ ps_88 ps_89 ps_90 ps_91 ps_92 pl_ prf_ hc_b hs_b => ⟨a1, fun hB_ h93_ => ?_⟩) (fun hm_ v_b n1 tg1 I1 R1 c1 s1 a1 a2 a3 hth pv_ pg_ ps_88 ps_89 ps_90 ps_91 ps_92 pl_ q_x e_x pn_ pf_0 pf_1 pf_2 pf_3 pf_4 pf_5 pf_6 p8_ hc_b hs_b => ⟨a1, fun hB_ h93_ => ?_⟩)
    · exfalso; omega
    · exfalso; omega
    · have kc34_9 := congrArg Int32.toInt (congrFun (a3.2.2.1 34 (by decide)) 9)
      have kc34_8 := congrArg Int32.toInt (congrFun (a3.2.2.1 34 (by decide)) 8)
      have kc38_0 := congrArg Int32.toInt (congrFun (a3.2.2.1 38 (by decide)) 0)
      have kc40_0 := congrArg Int32.toInt (congrFun (a3.2.2.1 40 (by decide)) 0)
      have kc69_0 := congrArg Int32.toInt (congrFun (a3.2.2.1 69 (by decide)) 0)
      have kc77_0 := congrArg Int32.toInt (congrFun (a3.2.2.1 77 (by decide)) 0)
      have kc48_0 := congrArg Int32.toInt (congrFun (a3.2.2.1 48 (by decide)) 0)
      have kc59_0 := congrArg Int32.toInt (congrFun (a3.2.2.1 59 (by decide)) 0)
      have hB_ : yKeep _ _ I1 := hB_
      obtain ⟨mb0, mb1, mb2, -⟩ := hB_
      have mb0 := congrArg Int32.toInt mb0
      have mb1 := congrArg Int32.toInt mb1
      have mb2 := congrArg Int32.toInt mb2
      have ky_ := congrArg Int32.toInt ((congrFun (congrFun pa_3 77) 0).trans yFiD_n)
      have kx_ : (I_a 77 0).toInt = (I 77 0).toInt + 1 := ky_.trans (yinc (by omega))
      have hrel : yRl I1 := ⟨by omega, by omega, by omega, by omega, by omega, by omega, by omega, by omega⟩
      have hHa : yHr I_a R_a := by rw [eR]; exact yHr.a hV.2.2.2.1.1.1.1.1.1 hV.2.2.1 hFa
      have hLa : yLk I R R_a := by rw [eR]; exact yLk.out hV.2.2.1
      have hw_ : yFu I I_a := yFu.of fun a d1 d2 d3 d4 d5 d6 => by rw [pa_3]; exact yFiD_row (by omega)
      have hr4 : yR6 I1 R1 := yR6.two hV.2.2.2.1.1.1.1 hw_ hRa hHa hLa a3 (yR4.ob hRa pg_) (yS5.ob hRa pg_) (yL6.ob hRa pg_) pl_ hrel (by omega) (by omega) (by omega) (by omega)
      have hL7_ : yLk I R R1 := fun l h1 h2 i hi => (pl_ l h1 h2 i (by rw [hFa.hi (show 83 ≤ l by omega)]; exact hi)).trans (hLa l h1 h2 i hi)
      have hm7_ : yFm n tg I I1 := yFm.gm pg_ (by repeat first | exact yFm.ft hFa | exact yFm.rr | refine yFm.addC ?_ | refine yFm.shD ?_ | refine yFm.prD ?_ (by assumption) | refine yFm.lsD ?_ (by assumption) | refine yFm.up ?_ (by first | exact .inl (by decide) | exact .inr (by assumption)))
      have h94_ : 94 ≤ n := hV.1.1
      have h7_ : I1 83 7 = I 83 7 := (p8_.2 7 (by decide)).trans (yext em83_7)
      have hx_ : q_x = yAd R1 92 (I 92 2).toInt.toNat := by rw [← em92_2]; exact e_x
      have hN_ := hV.2.2.1.1
      have hf7 : yF7 I1 R1 := hV.2.2.2.1.1.1.2.firm (c := (I 92 2).toInt.toNat) (by omega) (by omega) (by omega) pa_3 (fun a h1 h2 => a3.2.2.1 a (by omega)) (.inl ⟨hc_.2.2, rfl⟩) h7_ (by omega) (fun k hk => ⟨hL7_ 92 (by decide) (by decide) k (by omega), hm7_.k hV.2.2.1 (by omega)⟩) (fun k hk => Nat.lt_of_lt_of_le (yFm.lt hV.2.2.1 (by omega)) pn_) hx_.symm pf_0 pf_1 pf_2 pf_3 pf_4 pf_5 pf_6 hc_.1.1 hc_.1.2.2.2.1 hc_.1.2.2.2.2.1 hc_.1.2.2.2.2.2
      have hr7 : yR7 I1 R1 := ⟨hr4, hf7⟩
      have hM8_ : yMn I I_a := hV.2.2.2.1.1.2.1.ia hFa
      have hmn_ : yMn I1 I1 := hV.2.2.2.1.1.2.1.p8 hFa (fun a ha => by rw [pa_3]; exact yFiD_row (by omega)) a3 p8_
      have hvn_ : yVn I1 I1 R1 := hV.2.2.2.1.1.2.2.1.st hV.2.2.1 (by omega) (fun a h1 h2 => (a3.2.2.1 a (by omega)).trans (by rw [pa_3]; exact yFiD_row (by omega))) hL7_ (yVm.gm pg_ (by repeat first | exact yVm.ft hFa | exact yVm.rr | refine yVm.addC ?_ | refine yVm.shD ?_ | refine yVm.up ?_ (by first | exact .inl (by decide) | exact .inr (by assumption))))
      have hmb_ : yMb (K + 1) I1 := hV.2.2.2.1.1.2.2.2.cg (Nat.le_succ K) (congrFun ((a3.2.2.1 74 (by decide)).trans (by rw [pa_3]; exact yFiD_row (by omega))) 2) ((a3.2.2.1 76 (by decide)).trans (by rw [pa_3]; exact yFiD_row (by omega))) (by omega)
      have hr8 : yR8 (K + 1) I1 R1 := ⟨hr7, hmn_, hvn_, hmb_⟩
      have hp9_ : yP9 I1 R1 := hV.2.2.2.1.2.1.kp hV.2.2.1 hFa hLa (by rw [pa_3]; exact yFiD_row (by omega)) (by omega) a3
      have hpd_ : yPdd I1 := hV.2.2.2.1.2.2.st (by omega) ((a3.2.2.1 54 (by decide)).trans (by rw [pa_3]; exact yFiD_row (by omega))) ((a3.2.2.1 55 (by decide)).trans (by rw [pa_3]; exact yFiD_row (by omega)))
      have hr9 : yR9 (K + 1) I1 R1 := ⟨hr8, hp9_, hpd_⟩
      have hV := hV.two pa_0 (fun a ha => funext fun k => hFa a k (.inl ha)) a1 a2 a3 hr9
      have hS := hV.1
      refine y_ret1 ?_
      refine y_istore (ls' := [some _, some _, some _, some _, some _, some _, some _]) rfl rfl rfl ?_
      refine y_goto rfl j_L_law_1673 ?_
      refine y_fgt (ls := [some _, some _, some _, some _, some _, none, none]) ⟨rfl, rfl, rfl, rfl, rfl, trivial⟩ ?_
      exact hN _ _ _ _ _ _ hV (by omega) (by omega)
  · have hFa : yFt I I_a := pa_1
    have e33 : I_a 33 = I 33 := funext fun k => hFa 33 k (.inl (by decide))
    have hS : ySh n tg R_a := by rw [eR]; exact hS.out
    have hRa : yRI K n tg I_a R_a := (hV.2.2.1.ft hFa).outR (fun a ha => by rw [eR]; exact upd2_row ha)
    refine y_ret1 ?_
    refine y_istore (ls' := [some _, some _, some _, some _, some _, some _, _]) rfl rfl rfl ?_
    refine y_aload_n rfl rfl ?_
    refine y_aload_n rfl rfl ?_
    refine y_iload rfl rfl ?_
    refine y_iconst rfl ?_
    refine y_iadd rfl ?_
    refine y_iaload rfl hV.2.2.2.2.2 (ySh.n hV.1 rfl) (sc_at hx0 hx1 hl (by decide) (by decide)).1 (sc_at hx0 hx1 hl (by decide) (by decide)).2 ?_
    rw [e33]
    refine y_aload_n rfl rfl ?_
    refine y_iload rfl rfl ?_
    refine y_iconst rfl ?_
    refine y_iadd rfl ?_
    refine y_iaload rfl hV.2.2.2.2.2 (ySh.n hV.1 rfl) (sc_at hx0 hx1 hl (by decide) (by decide)).1 (sc_at hx0 hx1 hl (by decide) (by decide)).2 ?_
    rw [e33]
    refine y_aload_n rfl rfl ?_
    refine y_iload rfl rfl ?_
    refine y_iconst rfl ?_
    refine y_iadd rfl ?_
    refine y_iaload rfl hV.2.2.2.2.2 (ySh.n hV.1 rfl) (sc_at hx0 hx1 hl (by decide) (by decide)).1 (sc_at hx0 hx1 hl (by decide) (by decide)).2 ?_
    rw [e33]
    refine y_aload_n rfl rfl ?_
    refine y_iload rfl rfl ?_
    refine y_iconst rfl ?_
    refine y_iadd rfl ?_
    refine y_iaload rfl hV.2.2.2.2.2 (ySh.n hV.1 rfl) (sc_at hx0 hx1 hl (by decide) (by decide)).1 (sc_at hx0 hx1 hl (by decide) (by decide)).2 ?_
    rw [e33]
    refine y_aload_n rfl rfl ?_
    refine y_iload rfl rfl ?_
    refine y_iconst rfl ?_
    refine y_iadd rfl ?_
    refine y_iaload rfl hV.2.2.2.2.2 (ySh.n hV.1 rfl) (sc_at hx0 hx1 hl (by decide) (by decide)).1 (sc_at hx0 hx1 hl (by decide) (by decide)).2 ?_
    rw [e33]
    refine y_aload_n rfl rfl ?_
    refine y_iload rfl rfl ?_
    refine y_bip rfl (by decide) ?_
    refine y_iadd rfl ?_
    refine y_iaload rfl hV.2.2.2.2.2 (ySh.n hV.1 rfl) (sc_at hx0 hx1 hl (by decide) (by decide)).1 (sc_at hx0 hx1 hl (by decide) (by decide)).2 ?_
    rw [e33]
    refine y_virt rfl rfl rfl rfl rfl (ySh.t hS rfl) (ySh.n hS rfl) ?_
    obtain ⟨r1, r2, r3, r4, r5, r6, r7, r8⟩ := hV.2.2.2.1.1.1.1.1.1.1
    have eM : ∀ l k, 83 ≤ l → (I_a l k).toInt = (I l k).toInt := fun l k hl => congrArg Int32.toInt (hFa l k (.inr (.inl hl)))
    have em83_4 := eM 83 4 (by decide)
    have em83_1 := eM 83 1 (by decide)
    have em83_8 := eM 83 8 (by decide)
    have em88_2 := eM 88 2 (by decide)
    have em91_2 := eM 91 2 (by decide)
    have em92_2 := eM 92 2 (by decide)
    have em89_2 := eM 89 2 (by decide)
    have em90_2 := eM 90 2 (by decide)
    have em83_7 := eM 83 7 (by decide)
    obtain ⟨kb0, kb1, kb2, kb3, kb4, kb5, kb6, -⟩ := hBa
    have kb0 := congrArg Int32.toInt kb0
    have kb1 := congrArg Int32.toInt kb1
    have kb2 := congrArg Int32.toInt kb2
    have kb3 := congrArg Int32.toInt kb3
    have kb4 := congrArg Int32.toInt kb4
    have kb5 := congrArg Int32.toInt kb5
    have kb6 := congrArg Int32.toInt kb6
    refine yC.keep [(18, 4, 83), (18, 1, 83), (18, 8, 83)] rfl rfl hS ?_
    refine h_firm hS hRa hk6  (fun hm_ v_b n1 tg1 I1 R1 c1 s1 a1 a2 a3 hth pg_ ps_88 ps_89 ps_90 ps_91 ps_92 pl_ prf_ hc_b hs_b => ⟨a1, fun hB_ h93_ => ?_⟩) (fun hm_ v_b n1 tg1 I1 R1 c1 s1 a1 a2 a3 hth pg_ ps_88 ps_89 ps_90 ps_91 ps_92 pl_ prf_ hc_b hs_b => ⟨a1, fun hB_ h93_ => ?_⟩) (fun hm_ v_b n1 tg1 I1 R1 c1 s1 a1 a2 a3 hth pv_ pg_ ps_88 ps_89 ps_90 ps_91 ps_92 pl_ q_x e_x pn_ pf_0 pf_1 pf_2 pf_3 pf_4 pf_5 pf_6 p8_ hc_b hs_b => ⟨a1, fun hB_ h93_ => ?_⟩)
    · exfalso; omega
    · exfalso; omega
    · have kc34_9 := congrArg Int32.toInt (congrFun (a3.2.2.1 34 (by decide)) 9)
      have kc34_8 := congrArg Int32.toInt (congrFun (a3.2.2.1 34 (by decide)) 8)
      have kc38_0 := congrArg Int32.toInt (congrFun (a3.2.2.1 38 (by decide)) 0)
      have kc40_0 := congrArg Int32.toInt (congrFun (a3.2.2.1 40 (by decide)) 0)
      have kc69_0 := congrArg Int32.toInt (congrFun (a3.2.2.1 69 (by decide)) 0)
      have kc77_0 := congrArg Int32.toInt (congrFun (a3.2.2.1 77 (by decide)) 0)
      have kc48_0 := congrArg Int32.toInt (congrFun (a3.2.2.1 48 (by decide)) 0)
      have kc59_0 := congrArg Int32.toInt (congrFun (a3.2.2.1 59 (by decide)) 0)
      have hB_ : yKeep _ _ I1 := hB_
      obtain ⟨mb0, mb1, mb2, -⟩ := hB_
      have mb0 := congrArg Int32.toInt mb0
      have mb1 := congrArg Int32.toInt mb1
      have mb2 := congrArg Int32.toInt mb2
      have ky_ := congrArg Int32.toInt ((congrFun (congrFun pa_3 77) 0).trans yFiD_n)
      have kx_ : (I_a 77 0).toInt = (I 77 0).toInt + 1 := ky_.trans (yinc (by omega))
      have hrel : yRl I1 := ⟨by omega, by omega, by omega, by omega, by omega, by omega, by omega, by omega⟩
      have hHa : yHr I_a R_a := by rw [eR]; exact yHr.a hV.2.2.2.1.1.1.1.1.1 hV.2.2.1 hFa
      have hLa : yLk I R R_a := by rw [eR]; exact yLk.out hV.2.2.1
      have hw_ : yFu I I_a := yFu.of fun a d1 d2 d3 d4 d5 d6 => by rw [pa_3]; exact yFiD_row (by omega)
      have hr4 : yR6 I1 R1 := yR6.two hV.2.2.2.1.1.1.1 hw_ hRa hHa hLa a3 (yR4.ob hRa pg_) (yS5.ob hRa pg_) (yL6.ob hRa pg_) pl_ hrel (by omega) (by omega) (by omega) (by omega)
      have hL7_ : yLk I R R1 := fun l h1 h2 i hi => (pl_ l h1 h2 i (by rw [hFa.hi (show 83 ≤ l by omega)]; exact hi)).trans (hLa l h1 h2 i hi)
      have hm7_ : yFm n tg I I1 := yFm.gm pg_ (by repeat first | exact yFm.ft hFa | exact yFm.rr | refine yFm.addC ?_ | refine yFm.shD ?_ | refine yFm.prD ?_ (by assumption) | refine yFm.lsD ?_ (by assumption) | refine yFm.up ?_ (by first | exact .inl (by decide) | exact .inr (by assumption)))
      have h94_ : 94 ≤ n := hV.1.1
      have h7_ : I1 83 7 = I 83 7 := (p8_.2 7 (by decide)).trans (yext em83_7)
      have hx_ : q_x = yAd R1 92 (I 92 2).toInt.toNat := by rw [← em92_2]; exact e_x
      have hN_ := hV.2.2.1.1
      have hf7 : yF7 I1 R1 := hV.2.2.2.1.1.1.2.firm (c := (I 92 2).toInt.toNat) (by omega) (by omega) (by omega) pa_3 (fun a h1 h2 => a3.2.2.1 a (by omega)) (.inr ⟨hc_.2.2, rfl⟩) h7_ (by omega) (fun k hk => ⟨hL7_ 92 (by decide) (by decide) k (by omega), hm7_.k hV.2.2.1 (by omega)⟩) (fun k hk => Nat.lt_of_lt_of_le (yFm.lt hV.2.2.1 (by omega)) pn_) hx_.symm pf_0 pf_1 pf_2 pf_3 pf_4 pf_5 pf_6 hc_.1.1 hc_.1.2.2.2.1 hc_.1.2.2.2.2.1 hc_.1.2.2.2.2.2
      have hr7 : yR7 I1 R1 := ⟨hr4, hf7⟩
      have hM8_ : yMn I I_a := hV.2.2.2.1.1.2.1.ia hFa
      have hmn_ : yMn I1 I1 := hV.2.2.2.1.1.2.1.p8 hFa (fun a ha => by rw [pa_3]; exact yFiD_row (by omega)) a3 p8_
      have hvn_ : yVn I1 I1 R1 := hV.2.2.2.1.1.2.2.1.st hV.2.2.1 (by omega) (fun a h1 h2 => (a3.2.2.1 a (by omega)).trans (by rw [pa_3]; exact yFiD_row (by omega))) hL7_ (yVm.gm pg_ (by repeat first | exact yVm.ft hFa | exact yVm.rr | refine yVm.addC ?_ | refine yVm.shD ?_ | refine yVm.up ?_ (by first | exact .inl (by decide) | exact .inr (by assumption))))
      have hmb_ : yMb (K + 1) I1 := hV.2.2.2.1.1.2.2.2.cg (Nat.le_succ K) (congrFun ((a3.2.2.1 74 (by decide)).trans (by rw [pa_3]; exact yFiD_row (by omega))) 2) ((a3.2.2.1 76 (by decide)).trans (by rw [pa_3]; exact yFiD_row (by omega))) (by omega)
      have hr8 : yR8 (K + 1) I1 R1 := ⟨hr7, hmn_, hvn_, hmb_⟩
      have hp9_ : yP9 I1 R1 := hV.2.2.2.1.2.1.kp hV.2.2.1 hFa hLa (by rw [pa_3]; exact yFiD_row (by omega)) (by omega) a3
      have hpd_ : yPdd I1 := hV.2.2.2.1.2.2.st (by omega) ((a3.2.2.1 54 (by decide)).trans (by rw [pa_3]; exact yFiD_row (by omega))) ((a3.2.2.1 55 (by decide)).trans (by rw [pa_3]; exact yFiD_row (by omega)))
      have hr9 : yR9 (K + 1) I1 R1 := ⟨hr8, hp9_, hpd_⟩
      have hV := hV.two pa_0 (fun a ha => funext fun k => hFa a k (.inl ha)) a1 a2 a3 hr9
      have hS := hV.1
      refine y_ret1 ?_
      refine y_istore (ls' := [some _, some _, some _, some _, some _, some _, some _]) rfl rfl rfl ?_
      refine y_goto rfl j_L_law_1673 ?_
      refine y_fgt (ls := [some _, some _, some _, some _, some _, none, none]) ⟨rfl, rfl, rfl, rfl, rfl, trivial⟩ ?_
      exact hN _ _ _ _ _ _ hV (by omega) (by omega)
theorem lc_18 (hV : yInv K n tg I R ln) (hk6 : K < 600) {x4 : Int32} (hx0 : 0 ≤ x4.toInt) (hx1 : x4.toInt + 7 ≤ (ln : Int)) (hl : ln ≤ 3584) (hN : ∀ n1 tg1 I1 R1 c1 s1, yInv (K + 1) n1 tg1 I1 R1 ln → c1 ≤ c + 790 → s1 ≤ s + 15250 → yW xm_L_law xc_L_law_1673 [some (.ref 33), some (.ref 34), some (.ref 83), some (.ref 93), some (.int x4), none, none] [] (n1, tg1, I1, R1) c1 s1 Q) : yW xm_L_law xc_L_law_1067 [some (.ref 33), some (.ref 34), some (.ref 83), some (.ref 93), some (.int x4), none, none] [] (n, tg, I, R) c s Q := by
  have hS := hV.1
  refine y_aload_n rfl rfl ?_
  refine y_aload_n rfl rfl ?_
  refine y_iload rfl rfl ?_
  refine y_iconst rfl ?_
  refine y_iadd rfl ?_
  refine y_iaload rfl hV.2.2.2.2.2 (ySh.n hV.1 rfl) (sc_at hx0 hx1 hl (by decide) (by decide)).1 (sc_at hx0 hx1 hl (by decide) (by decide)).2 ?_
  refine y_aload_n rfl rfl ?_
  refine y_static rfl rfl rfl rfl rfl ?_
  refine v_invest hS hV.2.1 (inv_prem hV.2.2.2.1.1.1 hV.2.2.1) (fun hc_ => ?_) (fun hc_ => ?_) (fun hc_ v_a I_a pa_0 pa_1 pa_2 pa_3 hBa R_a eR => ?_)
  · have e33 : I 33 = I 33 := rfl
    refine y_ret1 ?_
    refine y_istore (ls' := [some _, some _, some _, some _, some _, some _, _]) rfl rfl rfl ?_
    refine y_aload_n rfl rfl ?_
    refine y_aload_n rfl rfl ?_
    refine y_iload rfl rfl ?_
    refine y_iconst rfl ?_
    refine y_iadd rfl ?_
    refine y_iaload rfl hV.2.2.2.2.2 (ySh.n hV.1 rfl) (sc_at hx0 hx1 hl (by decide) (by decide)).1 (sc_at hx0 hx1 hl (by decide) (by decide)).2 ?_
    rw [e33]
    refine y_virt rfl rfl rfl rfl rfl (ySh.t hS rfl) (ySh.n hS rfl) ?_
    obtain ⟨r1, r2, r3, r4, r5, r6, r7, r8⟩ := hV.2.2.2.1.1.1.1.1.1.1
    refine yC.keep3 [(18, 4, 83), (18, 1, 83), (18, 8, 83), (3, 2, 88), (3, 2, 91), (3, 2, 92), (3, 2, 89), (3, 2, 90)] yLO6 rfl rfl rfl hS hV.2.2.1 ?_
    refine h_invest hS hV.2.2.1 hk6  (fun hm_ v_b n1 tg1 I1 R1 c1 s1 a1 a2 a3 hth prf_ hc_b hs_b => ⟨a1, a3.2.1, fun hB_ h93_ hO_ hL_ => ?_⟩) (fun hm_ v_b n1 tg1 I1 R1 c1 s1 a1 a2 a3 hth prf_ hc_b hs_b => ⟨a1, a3.2.1, fun hB_ h93_ hO_ hL_ => ?_⟩) (fun hm_ v_b n1 tg1 I1 R1 c1 s1 a1 a2 a3 hth pv_ px_ hc_b hs_b => ⟨a1, a3.2.1, fun hB_ h93_ hO_ hL_ => ?_⟩)
    · have kc34_9 := congrArg Int32.toInt (congrFun (a3.2.2.1 34 (by decide)) 9)
      have kc34_8 := congrArg Int32.toInt (congrFun (a3.2.2.1 34 (by decide)) 8)
      have kc38_0 := congrArg Int32.toInt (congrFun (a3.2.2.1 38 (by decide)) 0)
      have kc40_0 := congrArg Int32.toInt (congrFun (a3.2.2.1 40 (by decide)) 0)
      have kc69_0 := congrArg Int32.toInt (congrFun (a3.2.2.1 69 (by decide)) 0)
      have kc77_0 := congrArg Int32.toInt (congrFun (a3.2.2.1 77 (by decide)) 0)
      have kc48_0 := congrArg Int32.toInt (congrFun (a3.2.2.1 48 (by decide)) 0)
      have kc59_0 := congrArg Int32.toInt (congrFun (a3.2.2.1 59 (by decide)) 0)
      have hB_ : yKeep _ _ I1 := hB_
      obtain ⟨mb0, mb1, mb2, mb3, mb4, mb5, mb6, mb7, -⟩ := hB_
      have mb0 := congrArg Int32.toInt mb0
      have mb1 := congrArg Int32.toInt mb1
      have mb2 := congrArg Int32.toInt mb2
      have mb3 := congrArg Int32.toInt mb3
      have mb4 := congrArg Int32.toInt mb4
      have mb5 := congrArg Int32.toInt mb5
      have mb6 := congrArg Int32.toInt mb6
      have mb7 := congrArg Int32.toInt mb7
      obtain ⟨ti1_, ti2_⟩ := inv_tie hV.2.2.2.1.1.1 hV.2.2.1 rfl yFm.rr yLk.rf (x := (I 33 (x4 + Int32.ofInt 1).toInt.toNat))
      try rw [ti2_] at hm_
      try rw [ti1_] at hm_
      have hrel : yRl I1 := ⟨by omega, by omega, by omega, by omega, by omega, by omega, by omega, by omega⟩
      have hr4 : yR6 I1 R1 := yR6.two hV.2.2.2.1.1.1.1 yFu.rf hV.2.2.1 hV.2.2.2.1.1.1.1.1.1.2.1 yLk.rf a3 (hO_.o5.ob45 hV.2.2.1) (hO_.o5.ob5 hV.2.2.1) (hO_.ob6 hV.2.2.1) hL_ hrel (by omega) (by omega) (by omega) (by omega)
      have hf7 : yF7 I1 R1 := hV.2.2.2.1.1.1.2.rf hV.2.2.1 prf_
      have hr7 : yR7 I1 R1 := ⟨hr4, hf7⟩
      have hr9 : yR9 (K + 1) I1 R1 := hV.2.2.2.1.rf hr7 hV.2.2.1 prf_ (Nat.le_succ K)
      have hV := hV.two hV.2.1 (fun _ _ => rfl) a1 a2 a3 hr9
      have hS := hV.1
      refine y_ret1 ?_
      refine y_istore (ls' := [some _, some _, some _, some _, some _, some _, some _]) rfl rfl rfl ?_
      refine y_goto rfl j_L_law_1673 ?_
      refine y_fgt (ls := [some _, some _, some _, some _, some _, none, none]) ⟨rfl, rfl, rfl, rfl, rfl, trivial⟩ ?_
      exact hN _ _ _ _ _ _ hV (by omega) (by omega)
    · obtain ⟨ti1_, ti2_⟩ := inv_tie hV.2.2.2.1.1.1 hV.2.2.1 rfl yFm.rr yLk.rf (x := (I 33 (x4 + Int32.ofInt 1).toInt.toNat))
      try rw [ti2_] at hm_
      try rw [ti1_] at hm_
      exfalso; omega
    · obtain ⟨ti1_, ti2_⟩ := inv_tie hV.2.2.2.1.1.1 hV.2.2.1 rfl yFm.rr yLk.rf (x := (I 33 (x4 + Int32.ofInt 1).toInt.toNat))
      try rw [ti2_] at hm_
      try rw [ti1_] at hm_
      exfalso; omega
  · have e33 : I 33 = I 33 := rfl
    refine y_ret1 ?_
    refine y_istore (ls' := [some _, some _, some _, some _, some _, some _, _]) rfl rfl rfl ?_
    refine y_aload_n rfl rfl ?_
    refine y_aload_n rfl rfl ?_
    refine y_iload rfl rfl ?_
    refine y_iconst rfl ?_
    refine y_iadd rfl ?_
    refine y_iaload rfl hV.2.2.2.2.2 (ySh.n hV.1 rfl) (sc_at hx0 hx1 hl (by decide) (by decide)).1 (sc_at hx0 hx1 hl (by decide) (by decide)).2 ?_
    rw [e33]
    refine y_virt rfl rfl rfl rfl rfl (ySh.t hS rfl) (ySh.n hS rfl) ?_
    obtain ⟨r1, r2, r3, r4, r5, r6, r7, r8⟩ := hV.2.2.2.1.1.1.1.1.1.1
    refine yC.keep3 [(18, 4, 83), (18, 1, 83), (18, 8, 83), (3, 2, 88), (3, 2, 91), (3, 2, 92), (3, 2, 89), (3, 2, 90)] yLO6 rfl rfl rfl hS hV.2.2.1 ?_
    refine h_invest hS hV.2.2.1 hk6  (fun hm_ v_b n1 tg1 I1 R1 c1 s1 a1 a2 a3 hth prf_ hc_b hs_b => ⟨a1, a3.2.1, fun hB_ h93_ hO_ hL_ => ?_⟩) (fun hm_ v_b n1 tg1 I1 R1 c1 s1 a1 a2 a3 hth prf_ hc_b hs_b => ⟨a1, a3.2.1, fun hB_ h93_ hO_ hL_ => ?_⟩) (fun hm_ v_b n1 tg1 I1 R1 c1 s1 a1 a2 a3 hth pv_ px_ hc_b hs_b => ⟨a1, a3.2.1, fun hB_ h93_ hO_ hL_ => ?_⟩)
    · obtain ⟨ti1_, ti2_⟩ := inv_tie hV.2.2.2.1.1.1 hV.2.2.1 rfl yFm.rr yLk.rf (x := (I 33 (x4 + Int32.ofInt 1).toInt.toNat))
      try rw [ti2_] at hm_
      try rw [ti1_] at hm_
      exfalso; omega
    · have kc34_9 := congrArg Int32.toInt (congrFun (a3.2.2.1 34 (by decide)) 9)
      have kc34_8 := congrArg Int32.toInt (congrFun (a3.2.2.1 34 (by decide)) 8)
      have kc38_0 := congrArg Int32.toInt (congrFun (a3.2.2.1 38 (by decide)) 0)
      have kc40_0 := congrArg Int32.toInt (congrFun (a3.2.2.1 40 (by decide)) 0)
      have kc69_0 := congrArg Int32.toInt (congrFun (a3.2.2.1 69 (by decide)) 0)
      have kc77_0 := congrArg Int32.toInt (congrFun (a3.2.2.1 77 (by decide)) 0)
      have kc48_0 := congrArg Int32.toInt (congrFun (a3.2.2.1 48 (by decide)) 0)
      have kc59_0 := congrArg Int32.toInt (congrFun (a3.2.2.1 59 (by decide)) 0)
      have hB_ : yKeep _ _ I1 := hB_
      obtain ⟨mb0, mb1, mb2, mb3, mb4, mb5, mb6, mb7, -⟩ := hB_
      have mb0 := congrArg Int32.toInt mb0
      have mb1 := congrArg Int32.toInt mb1
      have mb2 := congrArg Int32.toInt mb2
      have mb3 := congrArg Int32.toInt mb3
      have mb4 := congrArg Int32.toInt mb4
      have mb5 := congrArg Int32.toInt mb5
      have mb6 := congrArg Int32.toInt mb6
      have mb7 := congrArg Int32.toInt mb7
      obtain ⟨ti1_, ti2_⟩ := inv_tie hV.2.2.2.1.1.1 hV.2.2.1 rfl yFm.rr yLk.rf (x := (I 33 (x4 + Int32.ofInt 1).toInt.toNat))
      try rw [ti2_] at hm_
      try rw [ti1_] at hm_
      have hrel : yRl I1 := ⟨by omega, by omega, by omega, by omega, by omega, by omega, by omega, by omega⟩
      have hr4 : yR6 I1 R1 := yR6.two hV.2.2.2.1.1.1.1 yFu.rf hV.2.2.1 hV.2.2.2.1.1.1.1.1.1.2.1 yLk.rf a3 (hO_.o5.ob45 hV.2.2.1) (hO_.o5.ob5 hV.2.2.1) (hO_.ob6 hV.2.2.1) hL_ hrel (by omega) (by omega) (by omega) (by omega)
      have hf7 : yF7 I1 R1 := hV.2.2.2.1.1.1.2.rf hV.2.2.1 prf_
      have hr7 : yR7 I1 R1 := ⟨hr4, hf7⟩
      have hr9 : yR9 (K + 1) I1 R1 := hV.2.2.2.1.rf hr7 hV.2.2.1 prf_ (Nat.le_succ K)
      have hV := hV.two hV.2.1 (fun _ _ => rfl) a1 a2 a3 hr9
      have hS := hV.1
      refine y_ret1 ?_
      refine y_istore (ls' := [some _, some _, some _, some _, some _, some _, some _]) rfl rfl rfl ?_
      refine y_goto rfl j_L_law_1673 ?_
      refine y_fgt (ls := [some _, some _, some _, some _, some _, none, none]) ⟨rfl, rfl, rfl, rfl, rfl, trivial⟩ ?_
      exact hN _ _ _ _ _ _ hV (by omega) (by omega)
    · obtain ⟨ti1_, ti2_⟩ := inv_tie hV.2.2.2.1.1.1 hV.2.2.1 rfl yFm.rr yLk.rf (x := (I 33 (x4 + Int32.ofInt 1).toInt.toNat))
      try rw [ti2_] at hm_
      try rw [ti1_] at hm_
      exfalso; omega
  · have hFa : yFt I I_a := pa_1
    have e33 : I_a 33 = I 33 := funext fun k => hFa 33 k (.inl (by decide))
    have hS : ySh n tg R_a := by rw [eR]; exact hS.out
    have hRa : yRI K n tg I_a R_a := (hV.2.2.1.ft hFa).outR (fun a ha => by rw [eR]; exact upd2_row ha)
    refine y_ret1 ?_
    refine y_istore (ls' := [some _, some _, some _, some _, some _, some _, _]) rfl rfl rfl ?_
    refine y_aload_n rfl rfl ?_
    refine y_aload_n rfl rfl ?_
    refine y_iload rfl rfl ?_
    refine y_iconst rfl ?_
    refine y_iadd rfl ?_
    refine y_iaload rfl hV.2.2.2.2.2 (ySh.n hV.1 rfl) (sc_at hx0 hx1 hl (by decide) (by decide)).1 (sc_at hx0 hx1 hl (by decide) (by decide)).2 ?_
    rw [e33]
    refine y_virt rfl rfl rfl rfl rfl (ySh.t hS rfl) (ySh.n hS rfl) ?_
    obtain ⟨r1, r2, r3, r4, r5, r6, r7, r8⟩ := hV.2.2.2.1.1.1.1.1.1.1
    have eM : ∀ l k, 83 ≤ l → (I_a l k).toInt = (I l k).toInt := fun l k hl => congrArg Int32.toInt (hFa l k (.inr (.inl hl)))
    have em83_4 := eM 83 4 (by decide)
    have em83_1 := eM 83 1 (by decide)
    have em83_8 := eM 83 8 (by decide)
    have em88_2 := eM 88 2 (by decide)
    have em91_2 := eM 91 2 (by decide)
    have em92_2 := eM 92 2 (by decide)
    have em89_2 := eM 89 2 (by decide)
    have em90_2 := eM 90 2 (by decide)
    have em83_7 := eM 83 7 (by decide)
    obtain ⟨kb0, kb1, kb2, kb3, kb4, kb5, kb6, kb7, -⟩ := hBa
    have kb0 := congrArg Int32.toInt kb0
    have kb1 := congrArg Int32.toInt kb1
    have kb2 := congrArg Int32.toInt kb2
    have kb3 := congrArg Int32.toInt kb3
    have kb4 := congrArg Int32.toInt kb4
    have kb5 := congrArg Int32.toInt kb5
    have kb6 := congrArg Int32.toInt kb6
    have kb7 := congrArg Int32.toInt kb7
    refine yC.keep3 [(18, 4, 83), (18, 1, 83), (18, 8, 83), (3, 2, 88), (3, 2, 91), (3, 2, 92), (3, 2, 89), (3, 2, 90)] yLO6 rfl rfl rfl hS hRa ?_
    refine h_invest hS hRa hk6  (fun hm_ v_b n1 tg1 I1 R1 c1 s1 a1 a2 a3 hth prf_ hc_b hs_b => ⟨a1, a3.2.1, fun hB_ h93_ hO_ hL_ => ?_⟩) (fun hm_ v_b n1 tg1 I1 R1 c1 s1 a1 a2 a3 hth prf_ hc_b hs_b => ⟨a1, a3.2.1, fun hB_ h93_ hO_ hL_ => ?_⟩) (fun hm_ v_b n1 tg1 I1 R1 c1 s1 a1 a2 a3 hth pv_ px_ hc_b hs_b => ⟨a1, a3.2.1, fun hB_ h93_ hO_ hL_ => ?_⟩)
    · obtain ⟨ti1_, ti2_⟩ := inv_tie hV.2.2.2.1.1.1 hV.2.2.1 (yext (by omega)) (yFm.ft hFa) (show yLk I R R_a by rw [eR]; exact yLk.out hV.2.2.1) (x := (I 33 (x4 + Int32.ofInt 1).toInt.toNat))
      try rw [ti2_] at hm_
      try rw [ti1_] at hm_
      exfalso; omega
    · obtain ⟨ti1_, ti2_⟩ := inv_tie hV.2.2.2.1.1.1 hV.2.2.1 (yext (by omega)) (yFm.ft hFa) (show yLk I R R_a by rw [eR]; exact yLk.out hV.2.2.1) (x := (I 33 (x4 + Int32.ofInt 1).toInt.toNat))
      try rw [ti2_] at hm_
      try rw [ti1_] at hm_
      exfalso; omega
    · have kc34_9 := congrArg Int32.toInt (congrFun (a3.2.2.1 34 (by decide)) 9)
      have kc34_8 := congrArg Int32.toInt (congrFun (a3.2.2.1 34 (by decide)) 8)
      have kc38_0 := congrArg Int32.toInt (congrFun (a3.2.2.1 38 (by decide)) 0)
      have kc40_0 := congrArg Int32.toInt (congrFun (a3.2.2.1 40 (by decide)) 0)
      have kc69_0 := congrArg Int32.toInt (congrFun (a3.2.2.1 69 (by decide)) 0)
      have kc77_0 := congrArg Int32.toInt (congrFun (a3.2.2.1 77 (by decide)) 0)
      have kc48_0 := congrArg Int32.toInt (congrFun (a3.2.2.1 48 (by decide)) 0)
      have kc59_0 := congrArg Int32.toInt (congrFun (a3.2.2.1 59 (by decide)) 0)
      have hB_ : yKeep _ _ I1 := hB_
      obtain ⟨mb0, mb1, mb2, mb3, mb4, mb5, mb6, mb7, -⟩ := hB_
      have mb0 := congrArg Int32.toInt mb0
      have mb1 := congrArg Int32.toInt mb1
      have mb2 := congrArg Int32.toInt mb2
      have mb3 := congrArg Int32.toInt mb3
      have mb4 := congrArg Int32.toInt mb4
      have mb5 := congrArg Int32.toInt mb5
      have mb6 := congrArg Int32.toInt mb6
      have mb7 := congrArg Int32.toInt mb7
      obtain ⟨ti1_, ti2_⟩ := inv_tie hV.2.2.2.1.1.1 hV.2.2.1 (yext (by omega)) (yFm.ft hFa) (show yLk I R R_a by rw [eR]; exact yLk.out hV.2.2.1) (x := (I 33 (x4 + Int32.ofInt 1).toInt.toNat))
      try rw [ti2_] at hm_
      try rw [ti1_] at hm_
      have hrel : yRl I1 := ⟨by omega, by omega, by omega, by omega, by omega, by omega, by omega, by omega⟩
      have hHa : yHr I_a R_a := by rw [eR]; exact yHr.a hV.2.2.2.1.1.1.1.1.1 hV.2.2.1 hFa
      have hLa : yLk I R R_a := by rw [eR]; exact yLk.out hV.2.2.1
      have hw_ : yFu I I_a := yFu.of fun a d1 d2 d3 d4 d5 d6 => by rw [pa_3]; repeat first | rw [upd2_row (by omega)] | rw [yAddC_row (by omega)]
      have hr4 : yR6 I1 R1 := yR6.two hV.2.2.2.1.1.1.1 hw_ hRa hHa hLa a3 (hO_.o5.ob45 hRa) (hO_.o5.ob5 hRa) (hO_.ob6 hRa) hL_ hrel (by omega) (by omega) (by omega) (by omega)
      have hL7_ : yLk I R R1 := fun l h1 h2 i hi => (hL_ l h1 h2 i (by rw [hFa.hi (show 83 ≤ l by omega)]; exact hi)).trans (hLa l h1 h2 i hi)
      have hm7_ : yFm n tg I I1 := yFm.x px_ (by repeat first | exact yFm.ft hFa | exact yFm.rr | refine yFm.addC ?_ | refine yFm.shD ?_ | refine yFm.prD ?_ (by assumption) | refine yFm.lsD ?_ (by assumption) | refine yFm.up ?_ (by first | exact .inl (by decide) | exact .inr (by assumption)))
      have h94_ : 94 ≤ n := hV.1.1
      have hN_ := hV.2.2.1.1
      have hf7 : yF7 I1 R1 := hV.2.2.2.1.1.1.2.invest hV.2.2.1 (by omega) (fun a h1 h2 => (a3.2.2.1 a (by omega)).trans (by rw [pa_3]; repeat first | rw [upd2_row (by omega)] | rw [yAddC_row (by omega)])) ((congrFun (a3.2.2.1 77 (by decide)) 1).trans (by rw [pa_3, upd2_ne (.inr (by decide)), yAddC_row (by decide)])) ((congrFun (a3.2.2.1 77 (by decide)) 2).trans (by rw [pa_3]; exact upd2_self)) ((congrFun (px_.n (show 83 < n by omega)) 7).trans upd2_self) (by rw [← ysh_v (by omega) (by omega) (by omega)]; exact hc_.1) hL7_ hm7_
      have hr7 : yR7 I1 R1 := ⟨hr4, hf7⟩
      have hM8_ : yMn I I_a := hV.2.2.2.1.1.2.1.ia hFa
      have is_ := inv_sum hV.2.2.2.1.1.1 hV.2.2.1 (yext (by omega)) (yext (by omega)) (yFm.ft hFa) hLa (x := (I 33 (x4 + Int32.ofInt 1).toInt.toNat)) (by rw [← ysh_v (by omega) (by omega) (by omega)]; exact hc_.1)
      have px8_ := px_
      rw [is_] at px8_
      have hmn_ : yMn I1 I1 := ((m9_invest hM8_).ea pa_3).px a3 px8_ h94_
      have hvn_ : yVn I1 I1 R1 := hV.2.2.2.1.1.2.2.1.st hV.2.2.1 (by omega) (fun a h1 h2 => (a3.2.2.1 a (by omega)).trans (by rw [pa_3]; repeat first | rw [upd2_row (by omega)] | rw [yAddC_row (by omega)])) hL7_ (yVm.x px_ (by repeat first | exact yVm.ft hFa | exact yVm.rr | refine yVm.addC ?_ | refine yVm.shD ?_ | refine yVm.up ?_ (by first | exact .inl (by decide) | exact .inr (by assumption))))
      have hmb_ : yMb (K + 1) I1 := hV.2.2.2.1.1.2.2.2.cg (Nat.le_succ K) (congrFun ((a3.2.2.1 74 (by decide)).trans (by rw [pa_3]; repeat first | rw [upd2_row (by omega)] | rw [yAddC_row (by omega)])) 2) ((a3.2.2.1 76 (by decide)).trans (by rw [pa_3]; repeat first | rw [upd2_row (by omega)] | rw [yAddC_row (by omega)])) (by omega)
      have hr8 : yR8 (K + 1) I1 R1 := ⟨hr7, hmn_, hvn_, hmb_⟩
      have hp9_ : yP9 I1 R1 := hV.2.2.2.1.2.1.kp hV.2.2.1 hFa hLa (by rw [pa_3]; repeat first | rw [upd2_row (by omega)] | rw [yAddC_row (by omega)]) (by omega) a3
      have hpd_ : yPdd I1 := hV.2.2.2.1.2.2.st (by omega) ((a3.2.2.1 54 (by decide)).trans (by rw [pa_3]; repeat first | rw [upd2_row (by omega)] | rw [yAddC_row (by omega)])) ((a3.2.2.1 55 (by decide)).trans (by rw [pa_3]; repeat first | rw [upd2_row (by omega)] | rw [yAddC_row (by omega)]))
      have hr9 : yR9 (K + 1) I1 R1 := ⟨hr8, hp9_, hpd_⟩
      have hV := hV.two pa_0 (fun a ha => funext fun k => hFa a k (.inl ha)) a1 a2 a3 hr9
      have hS := hV.1
      refine y_ret1 ?_
      refine y_istore (ls' := [some _, some _, some _, some _, some _, some _, some _]) rfl rfl rfl ?_
      refine y_goto rfl j_L_law_1673 ?_
      refine y_fgt (ls := [some _, some _, some _, some _, some _, none, none]) ⟨rfl, rfl, rfl, rfl, rfl, trivial⟩ ?_
      exact hN _ _ _ _ _ _ hV (by omega) (by omega)
theorem lc_19 (hV : yInv K n tg I R ln) (hk6 : K < 600) {x4 : Int32} (hx0 : 0 ≤ x4.toInt) (hx1 : x4.toInt + 7 ≤ (ln : Int)) (hl : ln ≤ 3584) (hN : ∀ n1 tg1 I1 R1 c1 s1, yInv (K + 1) n1 tg1 I1 R1 ln → c1 ≤ c + 790 → s1 ≤ s + 15250 → yW xm_L_law xc_L_law_1673 [some (.ref 33), some (.ref 34), some (.ref 83), some (.ref 93), some (.int x4), none, none] [] (n1, tg1, I1, R1) c1 s1 Q) : yW xm_L_law xc_L_law_1095 [some (.ref 33), some (.ref 34), some (.ref 83), some (.ref 93), some (.int x4), none, none] [] (n, tg, I, R) c s Q := by
  have hS := hV.1
  refine y_aload_n rfl rfl ?_
  refine y_aload_n rfl rfl ?_
  refine y_iload rfl rfl ?_
  refine y_iconst rfl ?_
  refine y_iadd rfl ?_
  refine y_iaload rfl hV.2.2.2.2.2 (ySh.n hV.1 rfl) (sc_at hx0 hx1 hl (by decide) (by decide)).1 (sc_at hx0 hx1 hl (by decide) (by decide)).2 ?_
  refine y_aload_n rfl rfl ?_
  refine y_iload rfl rfl ?_
  refine y_iconst rfl ?_
  refine y_iadd rfl ?_
  refine y_iaload rfl hV.2.2.2.2.2 (ySh.n hV.1 rfl) (sc_at hx0 hx1 hl (by decide) (by decide)).1 (sc_at hx0 hx1 hl (by decide) (by decide)).2 ?_
  refine y_aload_n rfl rfl ?_
  refine y_static rfl rfl rfl rfl rfl ?_
  refine v_dividend hS hV.2.1 (div_prem hV.2.2.2.1.1.1) (fun hc_ => ?_) (fun hc_ => ?_) (fun hc_ => ?_) (fun hc_ v_a I_a x_t pa_0 pa_1 pa_2 pa_3 pa_4 hBa R_a eR => ?_)
  · have e33 : I 33 = I 33 := rfl
    refine y_ret1 ?_
    refine y_istore (ls' := [some _, some _, some _, some _, some _, some _, _]) rfl rfl rfl ?_
    refine y_aload_n rfl rfl ?_
    refine y_aload_n rfl rfl ?_
    refine y_iload rfl rfl ?_
    refine y_iconst rfl ?_
    refine y_iadd rfl ?_
    refine y_iaload rfl hV.2.2.2.2.2 (ySh.n hV.1 rfl) (sc_at hx0 hx1 hl (by decide) (by decide)).1 (sc_at hx0 hx1 hl (by decide) (by decide)).2 ?_
    rw [e33]
    refine y_aload_n rfl rfl ?_
    refine y_iload rfl rfl ?_
    refine y_iconst rfl ?_
    refine y_iadd rfl ?_
    refine y_iaload rfl hV.2.2.2.2.2 (ySh.n hV.1 rfl) (sc_at hx0 hx1 hl (by decide) (by decide)).1 (sc_at hx0 hx1 hl (by decide) (by decide)).2 ?_
    rw [e33]
    refine y_virt rfl rfl rfl rfl rfl (ySh.t hS rfl) (ySh.n hS rfl) ?_
    obtain ⟨r1, r2, r3, r4, r5, r6, r7, r8⟩ := hV.2.2.2.1.1.1.1.1.1.1
    refine yC.keep3 [(18, 4, 83), (18, 1, 83), (18, 8, 83), (3, 2, 88), (3, 2, 91), (3, 2, 92), (3, 2, 89), (3, 2, 90)] yLO6 rfl rfl rfl hS hV.2.2.1 ?_
    refine h_dividend hS hV.2.2.1 hk6  (fun hm_ v_b n1 tg1 I1 R1 c1 s1 a1 a2 a3 hth prf_ hc_b hs_b => ⟨a1, a3.2.1, fun hB_ h93_ hO_ hL_ => ?_⟩) (fun hm_ v_b n1 tg1 I1 R1 c1 s1 a1 a2 a3 hth prf_ hc_b hs_b => ⟨a1, a3.2.1, fun hB_ h93_ hO_ hL_ => ?_⟩) (fun hm_ v_b n1 tg1 I1 R1 c1 s1 a1 a2 a3 hth prf_ hc_b hs_b => ⟨a1, a3.2.1, fun hB_ h93_ hO_ hL_ => ?_⟩) (fun q_b e_b0 q_t e_t1 hm_ v_b n1 tg1 I1 R1 c1 s1 a1 a2 a3 hth pv_ px_ hc_b hs_b => ⟨a1, a3.2.1, fun hB_ h93_ hO_ hL_ => ?_⟩)
    · have kc34_9 := congrArg Int32.toInt (congrFun (a3.2.2.1 34 (by decide)) 9)
      have kc34_8 := congrArg Int32.toInt (congrFun (a3.2.2.1 34 (by decide)) 8)
      have kc38_0 := congrArg Int32.toInt (congrFun (a3.2.2.1 38 (by decide)) 0)
      have kc40_0 := congrArg Int32.toInt (congrFun (a3.2.2.1 40 (by decide)) 0)
      have kc69_0 := congrArg Int32.toInt (congrFun (a3.2.2.1 69 (by decide)) 0)
      have kc77_0 := congrArg Int32.toInt (congrFun (a3.2.2.1 77 (by decide)) 0)
      have kc48_0 := congrArg Int32.toInt (congrFun (a3.2.2.1 48 (by decide)) 0)
      have kc59_0 := congrArg Int32.toInt (congrFun (a3.2.2.1 59 (by decide)) 0)
      have hB_ : yKeep _ _ I1 := hB_
      obtain ⟨mb0, mb1, mb2, mb3, mb4, mb5, mb6, mb7, -⟩ := hB_
      have mb0 := congrArg Int32.toInt mb0
      have mb1 := congrArg Int32.toInt mb1
      have mb2 := congrArg Int32.toInt mb2
      have mb3 := congrArg Int32.toInt mb3
      have mb4 := congrArg Int32.toInt mb4
      have mb5 := congrArg Int32.toInt mb5
      have mb6 := congrArg Int32.toInt mb6
      have mb7 := congrArg Int32.toInt mb7
      have e7_ : I 83 7 = I 77 2 := (rfl).trans hV.2.2.2.1.1.1.2.2.2.1.1.symm
      try rw [e7_] at hm_
      have hrel : yRl I1 := ⟨by omega, by omega, by omega, by omega, by omega, by omega, by omega, by omega⟩
      have hr4 : yR6 I1 R1 := yR6.two hV.2.2.2.1.1.1.1 yFu.rf hV.2.2.1 hV.2.2.2.1.1.1.1.1.1.2.1 yLk.rf a3 (hO_.o5.ob45 hV.2.2.1) (hO_.o5.ob5 hV.2.2.1) (hO_.ob6 hV.2.2.1) hL_ hrel (by omega) (by omega) (by omega) (by omega)
      have hf7 : yF7 I1 R1 := hV.2.2.2.1.1.1.2.rf hV.2.2.1 prf_
      have hr7 : yR7 I1 R1 := ⟨hr4, hf7⟩
      have hr9 : yR9 (K + 1) I1 R1 := hV.2.2.2.1.rf hr7 hV.2.2.1 prf_ (Nat.le_succ K)
      have hV := hV.two hV.2.1 (fun _ _ => rfl) a1 a2 a3 hr9
      have hS := hV.1
      refine y_ret1 ?_
      refine y_istore (ls' := [some _, some _, some _, some _, some _, some _, some _]) rfl rfl rfl ?_
      refine y_goto rfl j_L_law_1673 ?_
      refine y_fgt (ls := [some _, some _, some _, some _, some _, none, none]) ⟨rfl, rfl, rfl, rfl, rfl, trivial⟩ ?_
      exact hN _ _ _ _ _ _ hV (by omega) (by omega)
    · have e7_ : I 83 7 = I 77 2 := (rfl).trans hV.2.2.2.1.1.1.2.2.2.1.1.symm
      try rw [e7_] at hm_
      exfalso; omega
    · have e7_ : I 83 7 = I 77 2 := (rfl).trans hV.2.2.2.1.1.1.2.2.2.1.1.symm
      try rw [e7_] at hm_
      exfalso; omega
    · have e7_ : I 83 7 = I 77 2 := (rfl).trans hV.2.2.2.1.1.1.2.2.2.1.1.symm
      try rw [e7_] at hm_
      exfalso; omega
  · have e33 : I 33 = I 33 := rfl
    refine y_ret1 ?_
    refine y_istore (ls' := [some _, some _, some _, some _, some _, some _, _]) rfl rfl rfl ?_
    refine y_aload_n rfl rfl ?_
    refine y_aload_n rfl rfl ?_
    refine y_iload rfl rfl ?_
    refine y_iconst rfl ?_
    refine y_iadd rfl ?_
    refine y_iaload rfl hV.2.2.2.2.2 (ySh.n hV.1 rfl) (sc_at hx0 hx1 hl (by decide) (by decide)).1 (sc_at hx0 hx1 hl (by decide) (by decide)).2 ?_
    rw [e33]
    refine y_aload_n rfl rfl ?_
    refine y_iload rfl rfl ?_
    refine y_iconst rfl ?_
    refine y_iadd rfl ?_
    refine y_iaload rfl hV.2.2.2.2.2 (ySh.n hV.1 rfl) (sc_at hx0 hx1 hl (by decide) (by decide)).1 (sc_at hx0 hx1 hl (by decide) (by decide)).2 ?_
    rw [e33]
    refine y_virt rfl rfl rfl rfl rfl (ySh.t hS rfl) (ySh.n hS rfl) ?_
    obtain ⟨r1, r2, r3, r4, r5, r6, r7, r8⟩ := hV.2.2.2.1.1.1.1.1.1.1
    refine yC.keep3 [(18, 4, 83), (18, 1, 83), (18, 8, 83), (3, 2, 88), (3, 2, 91), (3, 2, 92), (3, 2, 89), (3, 2, 90)] yLO6 rfl rfl rfl hS hV.2.2.1 ?_
    refine h_dividend hS hV.2.2.1 hk6  (fun hm_ v_b n1 tg1 I1 R1 c1 s1 a1 a2 a3 hth prf_ hc_b hs_b => ⟨a1, a3.2.1, fun hB_ h93_ hO_ hL_ => ?_⟩) (fun hm_ v_b n1 tg1 I1 R1 c1 s1 a1 a2 a3 hth prf_ hc_b hs_b => ⟨a1, a3.2.1, fun hB_ h93_ hO_ hL_ => ?_⟩) (fun hm_ v_b n1 tg1 I1 R1 c1 s1 a1 a2 a3 hth prf_ hc_b hs_b => ⟨a1, a3.2.1, fun hB_ h93_ hO_ hL_ => ?_⟩) (fun q_b e_b0 q_t e_t1 hm_ v_b n1 tg1 I1 R1 c1 s1 a1 a2 a3 hth pv_ px_ hc_b hs_b => ⟨a1, a3.2.1, fun hB_ h93_ hO_ hL_ => ?_⟩)
    · have e7_ : I 83 7 = I 77 2 := (rfl).trans hV.2.2.2.1.1.1.2.2.2.1.1.symm
      try rw [e7_] at hm_
      exfalso; omega
    · have kc34_9 := congrArg Int32.toInt (congrFun (a3.2.2.1 34 (by decide)) 9)
      have kc34_8 := congrArg Int32.toInt (congrFun (a3.2.2.1 34 (by decide)) 8)
      have kc38_0 := congrArg Int32.toInt (congrFun (a3.2.2.1 38 (by decide)) 0)
      have kc40_0 := congrArg Int32.toInt (congrFun (a3.2.2.1 40 (by decide)) 0)
      have kc69_0 := congrArg Int32.toInt (congrFun (a3.2.2.1 69 (by decide)) 0)
      have kc77_0 := congrArg Int32.toInt (congrFun (a3.2.2.1 77 (by decide)) 0)
      have kc48_0 := congrArg Int32.toInt (congrFun (a3.2.2.1 48 (by decide)) 0)
      have kc59_0 := congrArg Int32.toInt (congrFun (a3.2.2.1 59 (by decide)) 0)
      have hB_ : yKeep _ _ I1 := hB_
      obtain ⟨mb0, mb1, mb2, mb3, mb4, mb5, mb6, mb7, -⟩ := hB_
      have mb0 := congrArg Int32.toInt mb0
      have mb1 := congrArg Int32.toInt mb1
      have mb2 := congrArg Int32.toInt mb2
      have mb3 := congrArg Int32.toInt mb3
      have mb4 := congrArg Int32.toInt mb4
      have mb5 := congrArg Int32.toInt mb5
      have mb6 := congrArg Int32.toInt mb6
      have mb7 := congrArg Int32.toInt mb7
      have e7_ : I 83 7 = I 77 2 := (rfl).trans hV.2.2.2.1.1.1.2.2.2.1.1.symm
      try rw [e7_] at hm_
      have hrel : yRl I1 := ⟨by omega, by omega, by omega, by omega, by omega, by omega, by omega, by omega⟩
      have hr4 : yR6 I1 R1 := yR6.two hV.2.2.2.1.1.1.1 yFu.rf hV.2.2.1 hV.2.2.2.1.1.1.1.1.1.2.1 yLk.rf a3 (hO_.o5.ob45 hV.2.2.1) (hO_.o5.ob5 hV.2.2.1) (hO_.ob6 hV.2.2.1) hL_ hrel (by omega) (by omega) (by omega) (by omega)
      have hf7 : yF7 I1 R1 := hV.2.2.2.1.1.1.2.rf hV.2.2.1 prf_
      have hr7 : yR7 I1 R1 := ⟨hr4, hf7⟩
      have hr9 : yR9 (K + 1) I1 R1 := hV.2.2.2.1.rf hr7 hV.2.2.1 prf_ (Nat.le_succ K)
      have hV := hV.two hV.2.1 (fun _ _ => rfl) a1 a2 a3 hr9
      have hS := hV.1
      refine y_ret1 ?_
      refine y_istore (ls' := [some _, some _, some _, some _, some _, some _, some _]) rfl rfl rfl ?_
      refine y_goto rfl j_L_law_1673 ?_
      refine y_fgt (ls := [some _, some _, some _, some _, some _, none, none]) ⟨rfl, rfl, rfl, rfl, rfl, trivial⟩ ?_
      exact hN _ _ _ _ _ _ hV (by omega) (by omega)
    · have e7_ : I 83 7 = I 77 2 := (rfl).trans hV.2.2.2.1.1.1.2.2.2.1.1.symm
      try rw [e7_] at hm_
      exfalso; omega
    · have e7_ : I 83 7 = I 77 2 := (rfl).trans hV.2.2.2.1.1.1.2.2.2.1.1.symm
      try rw [e7_] at hm_
      exfalso; omega
  · have e33 : I 33 = I 33 := rfl
    refine y_ret1 ?_
    refine y_istore (ls' := [some _, some _, some _, some _, some _, some _, _]) rfl rfl rfl ?_
    refine y_aload_n rfl rfl ?_
    refine y_aload_n rfl rfl ?_
    refine y_iload rfl rfl ?_
    refine y_iconst rfl ?_
    refine y_iadd rfl ?_
    refine y_iaload rfl hV.2.2.2.2.2 (ySh.n hV.1 rfl) (sc_at hx0 hx1 hl (by decide) (by decide)).1 (sc_at hx0 hx1 hl (by decide) (by decide)).2 ?_
    rw [e33]
    refine y_aload_n rfl rfl ?_
    refine y_iload rfl rfl ?_
    refine y_iconst rfl ?_
    refine y_iadd rfl ?_
    refine y_iaload rfl hV.2.2.2.2.2 (ySh.n hV.1 rfl) (sc_at hx0 hx1 hl (by decide) (by decide)).1 (sc_at hx0 hx1 hl (by decide) (by decide)).2 ?_
    rw [e33]
    refine y_virt rfl rfl rfl rfl rfl (ySh.t hS rfl) (ySh.n hS rfl) ?_
    obtain ⟨r1, r2, r3, r4, r5, r6, r7, r8⟩ := hV.2.2.2.1.1.1.1.1.1.1
    refine yC.keep3 [(18, 4, 83), (18, 1, 83), (18, 8, 83), (3, 2, 88), (3, 2, 91), (3, 2, 92), (3, 2, 89), (3, 2, 90)] yLO6 rfl rfl rfl hS hV.2.2.1 ?_
    refine h_dividend hS hV.2.2.1 hk6  (fun hm_ v_b n1 tg1 I1 R1 c1 s1 a1 a2 a3 hth prf_ hc_b hs_b => ⟨a1, a3.2.1, fun hB_ h93_ hO_ hL_ => ?_⟩) (fun hm_ v_b n1 tg1 I1 R1 c1 s1 a1 a2 a3 hth prf_ hc_b hs_b => ⟨a1, a3.2.1, fun hB_ h93_ hO_ hL_ => ?_⟩) (fun hm_ v_b n1 tg1 I1 R1 c1 s1 a1 a2 a3 hth prf_ hc_b hs_b => ⟨a1, a3.2.1, fun hB_ h93_ hO_ hL_ => ?_⟩) (fun q_b e_b0 q_t e_t1 hm_ v_b n1 tg1 I1 R1 c1 s1 a1 a2 a3 hth pv_ px_ hc_b hs_b => ⟨a1, a3.2.1, fun hB_ h93_ hO_ hL_ => ?_⟩)
    · have e7_ : I 83 7 = I 77 2 := (rfl).trans hV.2.2.2.1.1.1.2.2.2.1.1.symm
      try rw [e7_] at hm_
      exfalso; omega
    · have e7_ : I 83 7 = I 77 2 := (rfl).trans hV.2.2.2.1.1.1.2.2.2.1.1.symm
      try rw [e7_] at hm_
      exfalso; omega
    · have kc34_9 := congrArg Int32.toInt (congrFun (a3.2.2.1 34 (by decide)) 9)
      have kc34_8 := congrArg Int32.toInt (congrFun (a3.2.2.1 34 (by decide)) 8)
      have kc38_0 := congrArg Int32.toInt (congrFun (a3.2.2.1 38 (by decide)) 0)
      have kc40_0 := congrArg Int32.toInt (congrFun (a3.2.2.1 40 (by decide)) 0)
      have kc69_0 := congrArg Int32.toInt (congrFun (a3.2.2.1 69 (by decide)) 0)
      have kc77_0 := congrArg Int32.toInt (congrFun (a3.2.2.1 77 (by decide)) 0)
      have kc48_0 := congrArg Int32.toInt (congrFun (a3.2.2.1 48 (by decide)) 0)
      have kc59_0 := congrArg Int32.toInt (congrFun (a3.2.2.1 59 (by decide)) 0)
      have hB_ : yKeep _ _ I1 := hB_
      obtain ⟨mb0, mb1, mb2, mb3, mb4, mb5, mb6, mb7, -⟩ := hB_
      have mb0 := congrArg Int32.toInt mb0
      have mb1 := congrArg Int32.toInt mb1
      have mb2 := congrArg Int32.toInt mb2
      have mb3 := congrArg Int32.toInt mb3
      have mb4 := congrArg Int32.toInt mb4
      have mb5 := congrArg Int32.toInt mb5
      have mb6 := congrArg Int32.toInt mb6
      have mb7 := congrArg Int32.toInt mb7
      have e7_ : I 83 7 = I 77 2 := (rfl).trans hV.2.2.2.1.1.1.2.2.2.1.1.symm
      try rw [e7_] at hm_
      have hrel : yRl I1 := ⟨by omega, by omega, by omega, by omega, by omega, by omega, by omega, by omega⟩
      have hr4 : yR6 I1 R1 := yR6.two hV.2.2.2.1.1.1.1 yFu.rf hV.2.2.1 hV.2.2.2.1.1.1.1.1.1.2.1 yLk.rf a3 (hO_.o5.ob45 hV.2.2.1) (hO_.o5.ob5 hV.2.2.1) (hO_.ob6 hV.2.2.1) hL_ hrel (by omega) (by omega) (by omega) (by omega)
      have hf7 : yF7 I1 R1 := hV.2.2.2.1.1.1.2.rf hV.2.2.1 prf_
      have hr7 : yR7 I1 R1 := ⟨hr4, hf7⟩
      have hr9 : yR9 (K + 1) I1 R1 := hV.2.2.2.1.rf hr7 hV.2.2.1 prf_ (Nat.le_succ K)
      have hV := hV.two hV.2.1 (fun _ _ => rfl) a1 a2 a3 hr9
      have hS := hV.1
      refine y_ret1 ?_
      refine y_istore (ls' := [some _, some _, some _, some _, some _, some _, some _]) rfl rfl rfl ?_
      refine y_goto rfl j_L_law_1673 ?_
      refine y_fgt (ls := [some _, some _, some _, some _, some _, none, none]) ⟨rfl, rfl, rfl, rfl, rfl, trivial⟩ ?_
      exact hN _ _ _ _ _ _ hV (by omega) (by omega)
    · have e7_ : I 83 7 = I 77 2 := (rfl).trans hV.2.2.2.1.1.1.2.2.2.1.1.symm
      try rw [e7_] at hm_
      exfalso; omega
  · have hFa : yFt I I_a := pa_1
    have e33 : I_a 33 = I 33 := funext fun k => hFa 33 k (.inl (by decide))
    have hS : ySh n tg R_a := by rw [eR]; exact hS.out
    have hRa : yRI K n tg I_a R_a := (hV.2.2.1.ft hFa).outR (fun a ha => by rw [eR]; exact upd2_row ha)
    refine y_ret1 ?_
    refine y_istore (ls' := [some _, some _, some _, some _, some _, some _, _]) rfl rfl rfl ?_
    refine y_aload_n rfl rfl ?_
    refine y_aload_n rfl rfl ?_
    refine y_iload rfl rfl ?_
    refine y_iconst rfl ?_
    refine y_iadd rfl ?_
    refine y_iaload rfl hV.2.2.2.2.2 (ySh.n hV.1 rfl) (sc_at hx0 hx1 hl (by decide) (by decide)).1 (sc_at hx0 hx1 hl (by decide) (by decide)).2 ?_
    rw [e33]
    refine y_aload_n rfl rfl ?_
    refine y_iload rfl rfl ?_
    refine y_iconst rfl ?_
    refine y_iadd rfl ?_
    refine y_iaload rfl hV.2.2.2.2.2 (ySh.n hV.1 rfl) (sc_at hx0 hx1 hl (by decide) (by decide)).1 (sc_at hx0 hx1 hl (by decide) (by decide)).2 ?_
    rw [e33]
    refine y_virt rfl rfl rfl rfl rfl (ySh.t hS rfl) (ySh.n hS rfl) ?_
    obtain ⟨r1, r2, r3, r4, r5, r6, r7, r8⟩ := hV.2.2.2.1.1.1.1.1.1.1
    have eM : ∀ l k, 83 ≤ l → (I_a l k).toInt = (I l k).toInt := fun l k hl => congrArg Int32.toInt (hFa l k (.inr (.inl hl)))
    have em83_4 := eM 83 4 (by decide)
    have em83_1 := eM 83 1 (by decide)
    have em83_8 := eM 83 8 (by decide)
    have em88_2 := eM 88 2 (by decide)
    have em91_2 := eM 91 2 (by decide)
    have em92_2 := eM 92 2 (by decide)
    have em89_2 := eM 89 2 (by decide)
    have em90_2 := eM 90 2 (by decide)
    have em83_7 := eM 83 7 (by decide)
    obtain ⟨kb0, kb1, kb2, kb3, kb4, kb5, kb6, kb7, -⟩ := hBa
    have kb0 := congrArg Int32.toInt kb0
    have kb1 := congrArg Int32.toInt kb1
    have kb2 := congrArg Int32.toInt kb2
    have kb3 := congrArg Int32.toInt kb3
    have kb4 := congrArg Int32.toInt kb4
    have kb5 := congrArg Int32.toInt kb5
    have kb6 := congrArg Int32.toInt kb6
    have kb7 := congrArg Int32.toInt kb7
    refine yC.keep3 [(18, 4, 83), (18, 1, 83), (18, 8, 83), (3, 2, 88), (3, 2, 91), (3, 2, 92), (3, 2, 89), (3, 2, 90)] yLO6 rfl rfl rfl hS hRa ?_
    refine h_dividend hS hRa hk6  (fun hm_ v_b n1 tg1 I1 R1 c1 s1 a1 a2 a3 hth prf_ hc_b hs_b => ⟨a1, a3.2.1, fun hB_ h93_ hO_ hL_ => ?_⟩) (fun hm_ v_b n1 tg1 I1 R1 c1 s1 a1 a2 a3 hth prf_ hc_b hs_b => ⟨a1, a3.2.1, fun hB_ h93_ hO_ hL_ => ?_⟩) (fun hm_ v_b n1 tg1 I1 R1 c1 s1 a1 a2 a3 hth prf_ hc_b hs_b => ⟨a1, a3.2.1, fun hB_ h93_ hO_ hL_ => ?_⟩) (fun q_b e_b0 q_t e_t1 hm_ v_b n1 tg1 I1 R1 c1 s1 a1 a2 a3 hth pv_ px_ hc_b hs_b => ⟨a1, a3.2.1, fun hB_ h93_ hO_ hL_ => ?_⟩)
    · have e7_ : I_a 83 7 = I 77 2 := (yext (by omega)).trans hV.2.2.2.1.1.1.2.2.2.1.1.symm
      try rw [e7_] at hm_
      exfalso; omega
    · have e7_ : I_a 83 7 = I 77 2 := (yext (by omega)).trans hV.2.2.2.1.1.1.2.2.2.1.1.symm
      try rw [e7_] at hm_
      exfalso; omega
    · have e7_ : I_a 83 7 = I 77 2 := (yext (by omega)).trans hV.2.2.2.1.1.1.2.2.2.1.1.symm
      try rw [e7_] at hm_
      exfalso; omega
    · have kc34_9 := congrArg Int32.toInt (congrFun (a3.2.2.1 34 (by decide)) 9)
      have kc34_8 := congrArg Int32.toInt (congrFun (a3.2.2.1 34 (by decide)) 8)
      have kc38_0 := congrArg Int32.toInt (congrFun (a3.2.2.1 38 (by decide)) 0)
      have kc40_0 := congrArg Int32.toInt (congrFun (a3.2.2.1 40 (by decide)) 0)
      have kc69_0 := congrArg Int32.toInt (congrFun (a3.2.2.1 69 (by decide)) 0)
      have kc77_0 := congrArg Int32.toInt (congrFun (a3.2.2.1 77 (by decide)) 0)
      have kc48_0 := congrArg Int32.toInt (congrFun (a3.2.2.1 48 (by decide)) 0)
      have kc59_0 := congrArg Int32.toInt (congrFun (a3.2.2.1 59 (by decide)) 0)
      have hB_ : yKeep _ _ I1 := hB_
      obtain ⟨mb0, mb1, mb2, mb3, mb4, mb5, mb6, mb7, -⟩ := hB_
      have mb0 := congrArg Int32.toInt mb0
      have mb1 := congrArg Int32.toInt mb1
      have mb2 := congrArg Int32.toInt mb2
      have mb3 := congrArg Int32.toInt mb3
      have mb4 := congrArg Int32.toInt mb4
      have mb5 := congrArg Int32.toInt mb5
      have mb6 := congrArg Int32.toInt mb6
      have mb7 := congrArg Int32.toInt mb7
      have e7_ : I_a 83 7 = I 77 2 := (yext (by omega)).trans hV.2.2.2.1.1.1.2.2.2.1.1.symm
      try rw [e7_] at hm_
      have hrel : yRl I1 := ⟨by omega, by omega, by omega, by omega, by omega, by omega, by omega, by omega⟩
      have hHa : yHr I_a R_a := by rw [eR]; exact yHr.a hV.2.2.2.1.1.1.1.1.1 hV.2.2.1 hFa
      have hLa : yLk I R R_a := by rw [eR]; exact yLk.out hV.2.2.1
      have hw_ : yFu I I_a := yFu.of fun a d1 d2 d3 d4 d5 d6 => by rw [pa_4]; repeat first | rw [upd2_row (by omega)] | rw [yAddC_row (by omega)]
      have hr4 : yR6 I1 R1 := yR6.two hV.2.2.2.1.1.1.1 hw_ hRa hHa hLa a3 (hO_.o5.ob45 hRa) (hO_.o5.ob5 hRa) (hO_.ob6 hRa) hL_ hrel (by omega) (by omega) (by omega) (by omega)
      have hL7_ : yLk I R R1 := fun l h1 h2 i hi => (hL_ l h1 h2 i (by rw [hFa.hi (show 83 ≤ l by omega)]; exact hi)).trans (hLa l h1 h2 i hi)
      have dt_ := div_tie hV.2.2.2.1.1.1 hV.2.2.1 (yFm.ft hFa) (show yLk I R R_a by rw [eR]; exact yLk.out hV.2.2.1) (x := (I 33 (x4 + Int32.ofInt 1).toInt.toNat).toInt.toNat) (by omega) e_b0
      obtain ⟨hb_, eb_, t0_, t3_⟩ := dt_
      have lb_ := hV.2.2.1.lo (l := 92) (by decide) (by decide) (by omega) hb_
      have h94_ : 94 ≤ n := hV.1.1
      have h7_ : I1 83 7 = I 83 7 := (congrFun (px_.n (show 83 < n by omega)) 7).trans (by repeat first | exact rfl | exact yext em83_7 | refine k7addC ?_ | refine k7shD ?_ | refine k7prD ?_ (by omega) | refine k7lsD ?_ (by omega) | refine k7up ?_ (by first | exact .inr (by decide) | exact .inl (by decide) | exact .inl (by omega)))
      have et_ : q_t = x_t := e_t1.trans (by rw [eb_, t0_, t3_, yTnt_eq]; exact pa_2.symm)
      have hf7 : yF7 I1 R1 := hV.2.2.2.1.1.1.2.div (t := x_t) hV.2.2.1 (x := (I 33 (x4 + Int32.ofInt 1).toInt.toNat).toInt.toNat) (by omega) hb_ (by omega) ((a3.2.2.1 77 (by decide)).trans (by rw [pa_4]; repeat first | rw [upd2_row (by decide)] | rw [yAddC_row (by decide)])) h7_ ⟨(a3.2.2.1 78 (by decide)).trans (by rw [pa_4]; repeat first | rw [upd2_row (by decide)] | rw [yAddC_row (by decide)]), (a3.2.2.1 79 (by decide)).trans (by rw [pa_4]; repeat first | rw [upd2_row (by decide)] | rw [yAddC_row (by decide)]), (a3.2.2.1 81 (by decide)).trans (by rw [pa_4]; repeat first | rw [upd2_row (by decide)] | rw [yAddC_row (by decide)]), (a3.2.2.1 82 (by decide)).trans (by rw [pa_4]; repeat first | rw [upd2_row (by decide)] | rw [yAddC_row (by decide)])⟩ ((a3.2.2.1 80 (by decide)).trans (by rw [pa_4]; refine upd2_cg ?_; repeat first | rw [upd2_row (by decide)] | rw [yAddC_row (by decide)])) hL7_ (fun a h1 h2 => by rw [px_.n h2, upd2_row (by omega), upd2_row (by omega), et_, eb_]; exact upd2_cgr ((upd2_row (by omega)).trans (hFa.hi (by omega))))
      have hr7 : yR7 I1 R1 := ⟨hr4, hf7⟩
      have hM8_ : yMn I I_a := hV.2.2.2.1.1.2.1.ia hFa
      have px8_ := px_
      rw [et_] at px8_
      have hmn_ : yMn I1 I1 := ((m9_dividend hM8_ lb_).ea pa_4).px a3 px8_ h94_
      have n9b_ := hV.2.2.1.n9 (l := 92) (by decide) (by decide) (by omega) hb_
      have hvn_ : yVn I1 I1 R1 := hV.2.2.2.1.1.2.2.1.st hV.2.2.1 (by omega) (fun a h1 h2 => (a3.2.2.1 a (by omega)).trans (by rw [pa_4]; repeat first | rw [upd2_row (by omega)] | rw [yAddC_row (by omega)])) hL7_ (yVm.x px_ (by repeat first | exact yVm.ft hFa | exact yVm.rr | refine yVm.addC ?_ | refine yVm.shD ?_ | refine yVm.up ?_ (by first | exact .inl (by decide) | exact .inr (by assumption))))
      have hmb_ : yMb (K + 1) I1 := hV.2.2.2.1.1.2.2.2.cg (Nat.le_succ K) (congrFun ((a3.2.2.1 74 (by decide)).trans (by rw [pa_4]; repeat first | rw [upd2_row (by omega)] | rw [yAddC_row (by omega)])) 2) ((a3.2.2.1 76 (by decide)).trans (by rw [pa_4]; repeat first | rw [upd2_row (by omega)] | rw [yAddC_row (by omega)])) (by omega)
      have hr8 : yR8 (K + 1) I1 R1 := ⟨hr7, hmn_, hvn_, hmb_⟩
      have hp9_ : yP9 I1 R1 := hV.2.2.2.1.2.1.kp hV.2.2.1 hFa hLa (by rw [pa_4]; repeat first | rw [upd2_row (by omega)] | rw [yAddC_row (by omega)]) (by omega) a3
      have hpd_ : yPdd I1 := hV.2.2.2.1.2.2.st (by omega) ((a3.2.2.1 54 (by decide)).trans (by rw [pa_4]; repeat first | rw [upd2_row (by omega)] | rw [yAddC_row (by omega)])) ((a3.2.2.1 55 (by decide)).trans (by rw [pa_4]; repeat first | rw [upd2_row (by omega)] | rw [yAddC_row (by omega)]))
      have hr9 : yR9 (K + 1) I1 R1 := ⟨hr8, hp9_, hpd_⟩
      have hV := hV.two pa_0 (fun a ha => funext fun k => hFa a k (.inl ha)) a1 a2 a3 hr9
      have hS := hV.1
      refine y_ret1 ?_
      refine y_istore (ls' := [some _, some _, some _, some _, some _, some _, some _]) rfl rfl rfl ?_
      refine y_goto rfl j_L_law_1673 ?_
      refine y_fgt (ls := [some _, some _, some _, some _, some _, none, none]) ⟨rfl, rfl, rfl, rfl, rfl, trivial⟩ ?_
      exact hN _ _ _ _ _ _ hV (by omega) (by omega)
theorem lc_20 (hV : yInv K n tg I R ln) (hk6 : K < 600) {x4 : Int32} (hx0 : 0 ≤ x4.toInt) (hx1 : x4.toInt + 7 ≤ (ln : Int)) (hl : ln ≤ 3584) (hN : ∀ n1 tg1 I1 R1 c1 s1, yInv (K + 1) n1 tg1 I1 R1 ln → c1 ≤ c + 790 → s1 ≤ s + 15250 → yW xm_L_law xc_L_law_1673 [some (.ref 33), some (.ref 34), some (.ref 83), some (.ref 93), some (.int x4), none, none] [] (n1, tg1, I1, R1) c1 s1 Q) : yW xm_L_law xc_L_law_1135 [some (.ref 33), some (.ref 34), some (.ref 83), some (.ref 93), some (.int x4), none, none] [] (n, tg, I, R) c s Q := by
  have hS := hV.1
  refine y_aload_n rfl rfl ?_
  refine y_aload_n rfl rfl ?_
  refine y_iload rfl rfl ?_
  refine y_iconst rfl ?_
  refine y_iadd rfl ?_
  refine y_iaload rfl hV.2.2.2.2.2 (ySh.n hV.1 rfl) (sc_at hx0 hx1 hl (by decide) (by decide)).1 (sc_at hx0 hx1 hl (by decide) (by decide)).2 ?_
  refine y_aload_n rfl rfl ?_
  refine y_static rfl rfl rfl rfl rfl ?_
  refine v_pass hS hV.2.1 (fun hc_ => ?_) (fun hc_ => ?_) (fun hc_ v_a I_a pa_0 pa_1 pa_2 pa_3 hBa R_a eR => ?_)
  · have e33 : I 33 = I 33 := rfl
    refine y_ret1 ?_
    refine y_istore (ls' := [some _, some _, some _, some _, some _, some _, _]) rfl rfl rfl ?_
    refine y_aload_n rfl rfl ?_
    refine y_aload_n rfl rfl ?_
    refine y_iload rfl rfl ?_
    refine y_iconst rfl ?_
    refine y_iadd rfl ?_
    refine y_iaload rfl hV.2.2.2.2.2 (ySh.n hV.1 rfl) (sc_at hx0 hx1 hl (by decide) (by decide)).1 (sc_at hx0 hx1 hl (by decide) (by decide)).2 ?_
    rw [e33]
    refine y_virt rfl rfl rfl rfl rfl (ySh.t hS rfl) (ySh.n hS rfl) ?_
    obtain ⟨r1, r2, r3, r4, r5, r6, r7, r8⟩ := hV.2.2.2.1.1.1.1.1.1.1
    refine yC.keep [(18, 4, 83), (18, 8, 83), (3, 2, 88), (3, 2, 91), (3, 2, 92), (3, 2, 89), (3, 2, 90)] rfl rfl hS ?_
    refine h_pass hS hV.2.2.1 hk6  (fun hm_ v_b n1 tg1 I1 R1 c1 s1 a1 a2 a3 hth prf_ hc_b hs_b => ⟨a1, fun hB_ h93_ => ?_⟩) (fun hm_ v_b n1 tg1 I1 R1 c1 s1 a1 a2 a3 hth prf_ hc_b hs_b => ⟨a1, fun hB_ h93_ => ?_⟩) (fun hm_ v_b n1 tg1 I1 R1 c1 s1 a1 a2 a3 hth pv_ px_ hc_b hs_b => ⟨a1, fun hB_ h93_ => ?_⟩)
    · have kc34_9 := congrArg Int32.toInt (congrFun (a3.2.2.1 34 (by decide)) 9)
      have kc34_8 := congrArg Int32.toInt (congrFun (a3.2.2.1 34 (by decide)) 8)
      have kc38_0 := congrArg Int32.toInt (congrFun (a3.2.2.1 38 (by decide)) 0)
      have kc40_0 := congrArg Int32.toInt (congrFun (a3.2.2.1 40 (by decide)) 0)
      have kc69_0 := congrArg Int32.toInt (congrFun (a3.2.2.1 69 (by decide)) 0)
      have kc77_0 := congrArg Int32.toInt (congrFun (a3.2.2.1 77 (by decide)) 0)
      have kc48_0 := congrArg Int32.toInt (congrFun (a3.2.2.1 48 (by decide)) 0)
      have kc59_0 := congrArg Int32.toInt (congrFun (a3.2.2.1 59 (by decide)) 0)
      have hB_ : yKeep _ _ I1 := hB_
      obtain ⟨mb0, mb1, mb2, mb3, mb4, mb5, mb6, -⟩ := hB_
      have mb0 := congrArg Int32.toInt mb0
      have mb1 := congrArg Int32.toInt mb1
      have mb2 := congrArg Int32.toInt mb2
      have mb3 := congrArg Int32.toInt mb3
      have mb4 := congrArg Int32.toInt mb4
      have mb5 := congrArg Int32.toInt mb5
      have mb6 := congrArg Int32.toInt mb6
      have pg_ : yGm n I1 I := fun a h1 h2 => prf_.1 a h2 (by omega)
      have hL_ : yLk I R R1 := yLk.oldR hV.2.2.1 prf_.2.2
      have mbd := congrArg Int32.toInt (prf_.2.1 1 (by decide))
      have hrel : yRl I1 := ⟨by omega, by omega, by omega, by omega, by omega, by omega, by omega, by omega⟩
      have hr4 : yR6 I1 R1 := yR6.two hV.2.2.2.1.1.1.1 yFu.rf hV.2.2.1 hV.2.2.2.1.1.1.1.1.1.2.1 yLk.rf a3 (yR4.ob hV.2.2.1 pg_) (yS5.ob hV.2.2.1 pg_) (yL6.ob hV.2.2.1 pg_) hL_ hrel (by omega) (by omega) (by omega) (by omega)
      have hf7 : yF7 I1 R1 := hV.2.2.2.1.1.1.2.rf hV.2.2.1 prf_
      have hr7 : yR7 I1 R1 := ⟨hr4, hf7⟩
      have hr9 : yR9 (K + 1) I1 R1 := hV.2.2.2.1.rf hr7 hV.2.2.1 prf_ (Nat.le_succ K)
      have hV := hV.two hV.2.1 (fun _ _ => rfl) a1 a2 a3 hr9
      have hS := hV.1
      refine y_ret1 ?_
      refine y_istore (ls' := [some _, some _, some _, some _, some _, some _, some _]) rfl rfl rfl ?_
      refine y_goto rfl j_L_law_1673 ?_
      refine y_fgt (ls := [some _, some _, some _, some _, some _, none, none]) ⟨rfl, rfl, rfl, rfl, rfl, trivial⟩ ?_
      exact hN _ _ _ _ _ _ hV (by omega) (by omega)
    · exfalso; omega
    · exfalso; omega
  · have e33 : I 33 = I 33 := rfl
    refine y_ret1 ?_
    refine y_istore (ls' := [some _, some _, some _, some _, some _, some _, _]) rfl rfl rfl ?_
    refine y_aload_n rfl rfl ?_
    refine y_aload_n rfl rfl ?_
    refine y_iload rfl rfl ?_
    refine y_iconst rfl ?_
    refine y_iadd rfl ?_
    refine y_iaload rfl hV.2.2.2.2.2 (ySh.n hV.1 rfl) (sc_at hx0 hx1 hl (by decide) (by decide)).1 (sc_at hx0 hx1 hl (by decide) (by decide)).2 ?_
    rw [e33]
    refine y_virt rfl rfl rfl rfl rfl (ySh.t hS rfl) (ySh.n hS rfl) ?_
    obtain ⟨r1, r2, r3, r4, r5, r6, r7, r8⟩ := hV.2.2.2.1.1.1.1.1.1.1
    refine yC.keep [(18, 4, 83), (18, 8, 83), (3, 2, 88), (3, 2, 91), (3, 2, 92), (3, 2, 89), (3, 2, 90)] rfl rfl hS ?_
    refine h_pass hS hV.2.2.1 hk6  (fun hm_ v_b n1 tg1 I1 R1 c1 s1 a1 a2 a3 hth prf_ hc_b hs_b => ⟨a1, fun hB_ h93_ => ?_⟩) (fun hm_ v_b n1 tg1 I1 R1 c1 s1 a1 a2 a3 hth prf_ hc_b hs_b => ⟨a1, fun hB_ h93_ => ?_⟩) (fun hm_ v_b n1 tg1 I1 R1 c1 s1 a1 a2 a3 hth pv_ px_ hc_b hs_b => ⟨a1, fun hB_ h93_ => ?_⟩)
    · exfalso; omega
    · have kc34_9 := congrArg Int32.toInt (congrFun (a3.2.2.1 34 (by decide)) 9)
      have kc34_8 := congrArg Int32.toInt (congrFun (a3.2.2.1 34 (by decide)) 8)
      have kc38_0 := congrArg Int32.toInt (congrFun (a3.2.2.1 38 (by decide)) 0)
      have kc40_0 := congrArg Int32.toInt (congrFun (a3.2.2.1 40 (by decide)) 0)
      have kc69_0 := congrArg Int32.toInt (congrFun (a3.2.2.1 69 (by decide)) 0)
      have kc77_0 := congrArg Int32.toInt (congrFun (a3.2.2.1 77 (by decide)) 0)
      have kc48_0 := congrArg Int32.toInt (congrFun (a3.2.2.1 48 (by decide)) 0)
      have kc59_0 := congrArg Int32.toInt (congrFun (a3.2.2.1 59 (by decide)) 0)
      have hB_ : yKeep _ _ I1 := hB_
      obtain ⟨mb0, mb1, mb2, mb3, mb4, mb5, mb6, -⟩ := hB_
      have mb0 := congrArg Int32.toInt mb0
      have mb1 := congrArg Int32.toInt mb1
      have mb2 := congrArg Int32.toInt mb2
      have mb3 := congrArg Int32.toInt mb3
      have mb4 := congrArg Int32.toInt mb4
      have mb5 := congrArg Int32.toInt mb5
      have mb6 := congrArg Int32.toInt mb6
      have pg_ : yGm n I1 I := fun a h1 h2 => prf_.1 a h2 (by omega)
      have hL_ : yLk I R R1 := yLk.oldR hV.2.2.1 prf_.2.2
      have mbd := congrArg Int32.toInt (prf_.2.1 1 (by decide))
      have hrel : yRl I1 := ⟨by omega, by omega, by omega, by omega, by omega, by omega, by omega, by omega⟩
      have hr4 : yR6 I1 R1 := yR6.two hV.2.2.2.1.1.1.1 yFu.rf hV.2.2.1 hV.2.2.2.1.1.1.1.1.1.2.1 yLk.rf a3 (yR4.ob hV.2.2.1 pg_) (yS5.ob hV.2.2.1 pg_) (yL6.ob hV.2.2.1 pg_) hL_ hrel (by omega) (by omega) (by omega) (by omega)
      have hf7 : yF7 I1 R1 := hV.2.2.2.1.1.1.2.rf hV.2.2.1 prf_
      have hr7 : yR7 I1 R1 := ⟨hr4, hf7⟩
      have hr9 : yR9 (K + 1) I1 R1 := hV.2.2.2.1.rf hr7 hV.2.2.1 prf_ (Nat.le_succ K)
      have hV := hV.two hV.2.1 (fun _ _ => rfl) a1 a2 a3 hr9
      have hS := hV.1
      refine y_ret1 ?_
      refine y_istore (ls' := [some _, some _, some _, some _, some _, some _, some _]) rfl rfl rfl ?_
      refine y_goto rfl j_L_law_1673 ?_
      refine y_fgt (ls := [some _, some _, some _, some _, some _, none, none]) ⟨rfl, rfl, rfl, rfl, rfl, trivial⟩ ?_
      exact hN _ _ _ _ _ _ hV (by omega) (by omega)
    · exfalso; omega
  · have hFa : yFt I I_a := pa_1
    have e33 : I_a 33 = I 33 := funext fun k => hFa 33 k (.inl (by decide))
    have hS : ySh n tg R_a := by rw [eR]; exact hS.out
    have hRa : yRI K n tg I_a R_a := (hV.2.2.1.ft hFa).outR (fun a ha => by rw [eR]; exact upd2_row ha)
    refine y_ret1 ?_
    refine y_istore (ls' := [some _, some _, some _, some _, some _, some _, _]) rfl rfl rfl ?_
    refine y_aload_n rfl rfl ?_
    refine y_aload_n rfl rfl ?_
    refine y_iload rfl rfl ?_
    refine y_iconst rfl ?_
    refine y_iadd rfl ?_
    refine y_iaload rfl hV.2.2.2.2.2 (ySh.n hV.1 rfl) (sc_at hx0 hx1 hl (by decide) (by decide)).1 (sc_at hx0 hx1 hl (by decide) (by decide)).2 ?_
    rw [e33]
    refine y_virt rfl rfl rfl rfl rfl (ySh.t hS rfl) (ySh.n hS rfl) ?_
    obtain ⟨r1, r2, r3, r4, r5, r6, r7, r8⟩ := hV.2.2.2.1.1.1.1.1.1.1
    have eM : ∀ l k, 83 ≤ l → (I_a l k).toInt = (I l k).toInt := fun l k hl => congrArg Int32.toInt (hFa l k (.inr (.inl hl)))
    have em83_4 := eM 83 4 (by decide)
    have em83_1 := eM 83 1 (by decide)
    have em83_8 := eM 83 8 (by decide)
    have em88_2 := eM 88 2 (by decide)
    have em91_2 := eM 91 2 (by decide)
    have em92_2 := eM 92 2 (by decide)
    have em89_2 := eM 89 2 (by decide)
    have em90_2 := eM 90 2 (by decide)
    have em83_7 := eM 83 7 (by decide)
    obtain ⟨kb0, kb1, kb2, kb3, kb4, kb5, kb6, -⟩ := hBa
    have kb0 := congrArg Int32.toInt kb0
    have kb1 := congrArg Int32.toInt kb1
    have kb2 := congrArg Int32.toInt kb2
    have kb3 := congrArg Int32.toInt kb3
    have kb4 := congrArg Int32.toInt kb4
    have kb5 := congrArg Int32.toInt kb5
    have kb6 := congrArg Int32.toInt kb6
    refine yC.keep [(18, 4, 83), (18, 8, 83), (3, 2, 88), (3, 2, 91), (3, 2, 92), (3, 2, 89), (3, 2, 90)] rfl rfl hS ?_
    refine h_pass hS hRa hk6  (fun hm_ v_b n1 tg1 I1 R1 c1 s1 a1 a2 a3 hth prf_ hc_b hs_b => ⟨a1, fun hB_ h93_ => ?_⟩) (fun hm_ v_b n1 tg1 I1 R1 c1 s1 a1 a2 a3 hth prf_ hc_b hs_b => ⟨a1, fun hB_ h93_ => ?_⟩) (fun hm_ v_b n1 tg1 I1 R1 c1 s1 a1 a2 a3 hth pv_ px_ hc_b hs_b => ⟨a1, fun hB_ h93_ => ?_⟩)
    · subst eR
      exfalso; omega
    · subst eR
      exfalso; omega
    · have kc34_9 := congrArg Int32.toInt (congrFun (a3.2.2.1 34 (by decide)) 9)
      have kc34_8 := congrArg Int32.toInt (congrFun (a3.2.2.1 34 (by decide)) 8)
      have kc38_0 := congrArg Int32.toInt (congrFun (a3.2.2.1 38 (by decide)) 0)
      have kc40_0 := congrArg Int32.toInt (congrFun (a3.2.2.1 40 (by decide)) 0)
      have kc69_0 := congrArg Int32.toInt (congrFun (a3.2.2.1 69 (by decide)) 0)
      have kc77_0 := congrArg Int32.toInt (congrFun (a3.2.2.1 77 (by decide)) 0)
      have kc48_0 := congrArg Int32.toInt (congrFun (a3.2.2.1 48 (by decide)) 0)
      have kc59_0 := congrArg Int32.toInt (congrFun (a3.2.2.1 59 (by decide)) 0)
      have hB_ : yKeep _ _ I1 := hB_
      obtain ⟨mb0, mb1, mb2, mb3, mb4, mb5, mb6, -⟩ := hB_
      have mb0 := congrArg Int32.toInt mb0
      have mb1 := congrArg Int32.toInt mb1
      have mb2 := congrArg Int32.toInt mb2
      have mb3 := congrArg Int32.toInt mb3
      have mb4 := congrArg Int32.toInt mb4
      have mb5 := congrArg Int32.toInt mb5
      have mb6 := congrArg Int32.toInt mb6
      subst eR
      have hr4 : yR6 I1 R1 := yR6.pass hV.2.2.2.1.1.1.1 hV.2.2.1 (by omega) pa_3 rfl a3 px_
      have hf7 : yF7 I1 R1 := yF7.pass hV.2.2.2.1.1.1.2 hV.2.2.1 (by omega) pa_3 rfl a3 px_
      have hr7 : yR7 I1 R1 := ⟨hr4, hf7⟩
      have hr8 : yR8 (K + 1) I1 R1 := hV.2.2.2.1.1.pass hr7 hV.2.2.1 (by omega) pa_3 rfl a3 px_
      have hr9 : yR9 (K + 1) I1 R1 := ⟨hr8, hV.2.2.2.1.2.1.pass hV.2.2.2.1.1.1.1.1.1 hV.2.2.1 (by omega) pa_3 rfl a3, hV.2.2.2.1.2.2.st (congrArg Int32.toInt (congrFun ((a3.2.2.1 48 (by decide)).trans (by rw [pa_3]; exact yDys_row (by decide))) 0)) ((a3.2.2.1 54 (by decide)).trans (by rw [pa_3]; exact yDys_row (by decide))) ((a3.2.2.1 55 (by decide)).trans (by rw [pa_3]; exact yDys_row (by decide)))⟩
      have hV := hV.two pa_0 (fun a ha => funext fun k => hFa a k (.inl ha)) a1 a2 a3 hr9
      have hS := hV.1
      refine y_ret1 ?_
      refine y_istore (ls' := [some _, some _, some _, some _, some _, some _, some _]) rfl rfl rfl ?_
      refine y_goto rfl j_L_law_1673 ?_
      refine y_fgt (ls := [some _, some _, some _, some _, some _, none, none]) ⟨rfl, rfl, rfl, rfl, rfl, trivial⟩ ?_
      exact hN _ _ _ _ _ _ hV (by omega) (by omega)
theorem lc_21 (hV : yInv K n tg I R ln) (hk6 : K < 600) {x4 : Int32} (hx0 : 0 ≤ x4.toInt) (hx1 : x4.toInt + 7 ≤ (ln : Int)) (hl : ln ≤ 3584) (hN : ∀ n1 tg1 I1 R1 c1 s1, yInv (K + 1) n1 tg1 I1 R1 ln → c1 ≤ c + 790 → s1 ≤ s + 15250 → yW xm_L_law xc_L_law_1673 [some (.ref 33), some (.ref 34), some (.ref 83), some (.ref 93), some (.int x4), none, none] [] (n1, tg1, I1, R1) c1 s1 Q) : yW xm_L_law xc_L_law_1163 [some (.ref 33), some (.ref 34), some (.ref 83), some (.ref 93), some (.int x4), none, none] [] (n, tg, I, R) c s Q := by
  have hS := hV.1
  refine y_aload_n rfl rfl ?_
  refine y_aload_n rfl rfl ?_
  refine y_iload rfl rfl ?_
  refine y_iconst rfl ?_
  refine y_iadd rfl ?_
  refine y_iaload rfl hV.2.2.2.2.2 (ySh.n hV.1 rfl) (sc_at hx0 hx1 hl (by decide) (by decide)).1 (sc_at hx0 hx1 hl (by decide) (by decide)).2 ?_
  refine y_aload_n rfl rfl ?_
  refine y_iload rfl rfl ?_
  refine y_iconst rfl ?_
  refine y_iadd rfl ?_
  refine y_iaload rfl hV.2.2.2.2.2 (ySh.n hV.1 rfl) (sc_at hx0 hx1 hl (by decide) (by decide)).1 (sc_at hx0 hx1 hl (by decide) (by decide)).2 ?_
  refine y_aload_n rfl rfl ?_
  refine y_static rfl rfl rfl rfl rfl ?_
  refine w_ofPerson hV (fun v_a n_a tg_a I_a R_a c_a s_a hV hc_a hs_a => ?_)
  have hS := hV.1
  refine y_ret1 ?_
  refine y_istore (ls' := [some _, some _, some _, some _, some _, some _, _]) rfl rfl rfl ?_
  refine y_aload_n rfl rfl ?_
  refine y_aload_n rfl rfl ?_
  refine y_iload rfl rfl ?_
  refine y_iconst rfl ?_
  refine y_iadd rfl ?_
  refine y_iaload rfl hV.2.2.2.2.2 (ySh.n hV.1 rfl) (sc_at hx0 hx1 hl (by decide) (by decide)).1 (sc_at hx0 hx1 hl (by decide) (by decide)).2 ?_
  refine y_aload_n rfl rfl ?_
  refine y_iload rfl rfl ?_
  refine y_iconst rfl ?_
  refine y_iadd rfl ?_
  refine y_iaload rfl hV.2.2.2.2.2 (ySh.n hV.1 rfl) (sc_at hx0 hx1 hl (by decide) (by decide)).1 (sc_at hx0 hx1 hl (by decide) (by decide)).2 ?_
  refine y_virt rfl rfl rfl rfl rfl (ySh.t hS rfl) (ySh.n hS rfl) ?_
  refine yC.keep3 yMF4 yLO6 rfl rfl rfl hS hV.2.2.1 ?_
  refine k_ofPerson hV.1 hV.2.2.1 hk6 (fun v_b n_b tg_b I_b R_b c_b s_b hSb hRb hKb hr_ hc_b hs_b => ⟨hSb, hKb.2.1, fun hB_ _ hO_ hL_ => ?_⟩)
  have hV := hV.kp hSb hRb hKb hB_ hO_ hL_ (hr_.2.1 7 (by decide)) (yFm.rf hr_) hr_
  have hS := hV.1
  refine y_ret1 ?_
  refine y_istore (ls' := [some _, some _, some _, some _, some _, some _, some _]) rfl rfl rfl ?_
  refine y_goto rfl j_L_law_1673 ?_
  refine y_fgt (ls := [some _, some _, some _, some _, some _, none, none]) ⟨rfl, rfl, rfl, rfl, rfl, trivial⟩ ?_
  exact hN _ _ _ _ _ _ hV (by omega) (by omega)
theorem lc_22 (hV : yInv K n tg I R ln) (hk6 : K < 600) {x4 : Int32} (hx0 : 0 ≤ x4.toInt) (hx1 : x4.toInt + 7 ≤ (ln : Int)) (hl : ln ≤ 3584) (hN : ∀ n1 tg1 I1 R1 c1 s1, yInv (K + 1) n1 tg1 I1 R1 ln → c1 ≤ c + 790 → s1 ≤ s + 15250 → yW xm_L_law xc_L_law_1673 [some (.ref 33), some (.ref 34), some (.ref 83), some (.ref 93), some (.int x4), none, none] [] (n1, tg1, I1, R1) c1 s1 Q) : yW xm_L_law xc_L_law_1203 [some (.ref 33), some (.ref 34), some (.ref 83), some (.ref 93), some (.int x4), none, none] [] (n, tg, I, R) c s Q := by
  have hS := hV.1
  refine y_aload_n rfl rfl ?_
  refine y_aload_n rfl rfl ?_
  refine y_iload rfl rfl ?_
  refine y_iconst rfl ?_
  refine y_iadd rfl ?_
  refine y_iaload rfl hV.2.2.2.2.2 (ySh.n hV.1 rfl) (sc_at hx0 hx1 hl (by decide) (by decide)).1 (sc_at hx0 hx1 hl (by decide) (by decide)).2 ?_
  refine y_aload_n rfl rfl ?_
  refine y_iload rfl rfl ?_
  refine y_iconst rfl ?_
  refine y_iadd rfl ?_
  refine y_iaload rfl hV.2.2.2.2.2 (ySh.n hV.1 rfl) (sc_at hx0 hx1 hl (by decide) (by decide)).1 (sc_at hx0 hx1 hl (by decide) (by decide)).2 ?_
  refine y_aload_n rfl rfl ?_
  refine y_static rfl rfl rfl rfl rfl ?_
  refine w_ofThing hV (fun v_a n_a tg_a I_a R_a c_a s_a hV hc_a hs_a => ?_)
  have hS := hV.1
  refine y_ret1 ?_
  refine y_istore (ls' := [some _, some _, some _, some _, some _, some _, _]) rfl rfl rfl ?_
  refine y_aload_n rfl rfl ?_
  refine y_aload_n rfl rfl ?_
  refine y_iload rfl rfl ?_
  refine y_iconst rfl ?_
  refine y_iadd rfl ?_
  refine y_iaload rfl hV.2.2.2.2.2 (ySh.n hV.1 rfl) (sc_at hx0 hx1 hl (by decide) (by decide)).1 (sc_at hx0 hx1 hl (by decide) (by decide)).2 ?_
  refine y_aload_n rfl rfl ?_
  refine y_iload rfl rfl ?_
  refine y_iconst rfl ?_
  refine y_iadd rfl ?_
  refine y_iaload rfl hV.2.2.2.2.2 (ySh.n hV.1 rfl) (sc_at hx0 hx1 hl (by decide) (by decide)).1 (sc_at hx0 hx1 hl (by decide) (by decide)).2 ?_
  refine y_virt rfl rfl rfl rfl rfl (ySh.t hS rfl) (ySh.n hS rfl) ?_
  refine yC.keep3 yMF4 yLO6 rfl rfl rfl hS hV.2.2.1 ?_
  refine k_ofThing hV.1 hV.2.2.1 hk6 (fun v_b n_b tg_b I_b R_b c_b s_b hSb hRb hKb hr_ hc_b hs_b => ⟨hSb, hKb.2.1, fun hB_ _ hO_ hL_ => ?_⟩)
  have hV := hV.kp hSb hRb hKb hB_ hO_ hL_ (hr_.2.1 7 (by decide)) (yFm.rf hr_) hr_
  have hS := hV.1
  refine y_ret1 ?_
  refine y_istore (ls' := [some _, some _, some _, some _, some _, some _, some _]) rfl rfl rfl ?_
  refine y_goto rfl j_L_law_1673 ?_
  refine y_fgt (ls := [some _, some _, some _, some _, some _, none, none]) ⟨rfl, rfl, rfl, rfl, rfl, trivial⟩ ?_
  exact hN _ _ _ _ _ _ hV (by omega) (by omega)
theorem lc_23 (hV : yInv K n tg I R ln) (hk6 : K < 600) {x4 : Int32} (hx0 : 0 ≤ x4.toInt) (hx1 : x4.toInt + 7 ≤ (ln : Int)) (hl : ln ≤ 3584) (hN : ∀ n1 tg1 I1 R1 c1 s1, yInv (K + 1) n1 tg1 I1 R1 ln → c1 ≤ c + 790 → s1 ≤ s + 15250 → yW xm_L_law xc_L_law_1673 [some (.ref 33), some (.ref 34), some (.ref 83), some (.ref 93), some (.int x4), none, none] [] (n1, tg1, I1, R1) c1 s1 Q) : yW xm_L_law xc_L_law_1243 [some (.ref 33), some (.ref 34), some (.ref 83), some (.ref 93), some (.int x4), none, none] [] (n, tg, I, R) c s Q := by
  have hS := hV.1
  refine y_aload_n rfl rfl ?_
  refine y_aload_n rfl rfl ?_
  refine y_iload rfl rfl ?_
  refine y_iconst rfl ?_
  refine y_iadd rfl ?_
  refine y_iaload rfl hV.2.2.2.2.2 (ySh.n hV.1 rfl) (sc_at hx0 hx1 hl (by decide) (by decide)).1 (sc_at hx0 hx1 hl (by decide) (by decide)).2 ?_
  refine y_aload_n rfl rfl ?_
  refine y_iload rfl rfl ?_
  refine y_iconst rfl ?_
  refine y_iadd rfl ?_
  refine y_iaload rfl hV.2.2.2.2.2 (ySh.n hV.1 rfl) (sc_at hx0 hx1 hl (by decide) (by decide)).1 (sc_at hx0 hx1 hl (by decide) (by decide)).2 ?_
  refine y_aload_n rfl rfl ?_
  refine y_static rfl rfl rfl rfl rfl ?_
  refine w_ofSale hV (fun v_a n_a tg_a I_a R_a c_a s_a hV hc_a hs_a => ?_)
  have hS := hV.1
  refine y_ret1 ?_
  refine y_istore (ls' := [some _, some _, some _, some _, some _, some _, _]) rfl rfl rfl ?_
  refine y_aload_n rfl rfl ?_
  refine y_aload_n rfl rfl ?_
  refine y_iload rfl rfl ?_
  refine y_iconst rfl ?_
  refine y_iadd rfl ?_
  refine y_iaload rfl hV.2.2.2.2.2 (ySh.n hV.1 rfl) (sc_at hx0 hx1 hl (by decide) (by decide)).1 (sc_at hx0 hx1 hl (by decide) (by decide)).2 ?_
  refine y_aload_n rfl rfl ?_
  refine y_iload rfl rfl ?_
  refine y_iconst rfl ?_
  refine y_iadd rfl ?_
  refine y_iaload rfl hV.2.2.2.2.2 (ySh.n hV.1 rfl) (sc_at hx0 hx1 hl (by decide) (by decide)).1 (sc_at hx0 hx1 hl (by decide) (by decide)).2 ?_
  refine y_virt rfl rfl rfl rfl rfl (ySh.t hS rfl) (ySh.n hS rfl) ?_
  refine yC.keep3 yMF4 yLO6 rfl rfl rfl hS hV.2.2.1 ?_
  refine k_ofSale hV.1 hV.2.2.1 hk6 (fun v_b n_b tg_b I_b R_b c_b s_b hSb hRb hKb hr_ hc_b hs_b => ⟨hSb, hKb.2.1, fun hB_ _ hO_ hL_ => ?_⟩)
  have hV := hV.kp hSb hRb hKb hB_ hO_ hL_ (hr_.2.1 7 (by decide)) (yFm.rf hr_) hr_
  have hS := hV.1
  refine y_ret1 ?_
  refine y_istore (ls' := [some _, some _, some _, some _, some _, some _, some _]) rfl rfl rfl ?_
  refine y_goto rfl j_L_law_1673 ?_
  refine y_fgt (ls := [some _, some _, some _, some _, some _, none, none]) ⟨rfl, rfl, rfl, rfl, rfl, trivial⟩ ?_
  exact hN _ _ _ _ _ _ hV (by omega) (by omega)
theorem lc_24 (hV : yInv K n tg I R ln) (hk6 : K < 600) {x4 : Int32} (hx0 : 0 ≤ x4.toInt) (hx1 : x4.toInt + 7 ≤ (ln : Int)) (hl : ln ≤ 3584) (hN : ∀ n1 tg1 I1 R1 c1 s1, yInv (K + 1) n1 tg1 I1 R1 ln → c1 ≤ c + 790 → s1 ≤ s + 15250 → yW xm_L_law xc_L_law_1673 [some (.ref 33), some (.ref 34), some (.ref 83), some (.ref 93), some (.int x4), none, none] [] (n1, tg1, I1, R1) c1 s1 Q) : yW xm_L_law xc_L_law_1283 [some (.ref 33), some (.ref 34), some (.ref 83), some (.ref 93), some (.int x4), none, none] [] (n, tg, I, R) c s Q := by
  have hS := hV.1
  refine y_aload_n rfl rfl ?_
  refine y_aload_n rfl rfl ?_
  refine y_iload rfl rfl ?_
  refine y_iconst rfl ?_
  refine y_iadd rfl ?_
  refine y_iaload rfl hV.2.2.2.2.2 (ySh.n hV.1 rfl) (sc_at hx0 hx1 hl (by decide) (by decide)).1 (sc_at hx0 hx1 hl (by decide) (by decide)).2 ?_
  refine y_aload_n rfl rfl ?_
  refine y_iload rfl rfl ?_
  refine y_iconst rfl ?_
  refine y_iadd rfl ?_
  refine y_iaload rfl hV.2.2.2.2.2 (ySh.n hV.1 rfl) (sc_at hx0 hx1 hl (by decide) (by decide)).1 (sc_at hx0 hx1 hl (by decide) (by decide)).2 ?_
  refine y_aload_n rfl rfl ?_
  refine y_static rfl rfl rfl rfl rfl ?_
  refine w_ofLease hV (fun v_a n_a tg_a I_a R_a c_a s_a hV hc_a hs_a => ?_)
  have hS := hV.1
  refine y_ret1 ?_
  refine y_istore (ls' := [some _, some _, some _, some _, some _, some _, _]) rfl rfl rfl ?_
  refine y_aload_n rfl rfl ?_
  refine y_aload_n rfl rfl ?_
  refine y_iload rfl rfl ?_
  refine y_iconst rfl ?_
  refine y_iadd rfl ?_
  refine y_iaload rfl hV.2.2.2.2.2 (ySh.n hV.1 rfl) (sc_at hx0 hx1 hl (by decide) (by decide)).1 (sc_at hx0 hx1 hl (by decide) (by decide)).2 ?_
  refine y_aload_n rfl rfl ?_
  refine y_iload rfl rfl ?_
  refine y_iconst rfl ?_
  refine y_iadd rfl ?_
  refine y_iaload rfl hV.2.2.2.2.2 (ySh.n hV.1 rfl) (sc_at hx0 hx1 hl (by decide) (by decide)).1 (sc_at hx0 hx1 hl (by decide) (by decide)).2 ?_
  refine y_virt rfl rfl rfl rfl rfl (ySh.t hS rfl) (ySh.n hS rfl) ?_
  refine yC.keep3 yMF4 yLO6 rfl rfl rfl hS hV.2.2.1 ?_
  refine k_ofLease hV.1 hV.2.2.1 hk6 (fun v_b n_b tg_b I_b R_b c_b s_b hSb hRb hKb hr_ hc_b hs_b => ⟨hSb, hKb.2.1, fun hB_ _ hO_ hL_ => ?_⟩)
  have hV := hV.kp hSb hRb hKb hB_ hO_ hL_ (hr_.2.1 7 (by decide)) (yFm.rf hr_) hr_
  have hS := hV.1
  refine y_ret1 ?_
  refine y_istore (ls' := [some _, some _, some _, some _, some _, some _, some _]) rfl rfl rfl ?_
  refine y_goto rfl j_L_law_1673 ?_
  refine y_fgt (ls := [some _, some _, some _, some _, some _, none, none]) ⟨rfl, rfl, rfl, rfl, rfl, trivial⟩ ?_
  exact hN _ _ _ _ _ _ hV (by omega) (by omega)
theorem lc_25 (hV : yInv K n tg I R ln) (hk6 : K < 600) {x4 : Int32} (hx0 : 0 ≤ x4.toInt) (hx1 : x4.toInt + 7 ≤ (ln : Int)) (hl : ln ≤ 3584) (hN : ∀ n1 tg1 I1 R1 c1 s1, yInv (K + 1) n1 tg1 I1 R1 ln → c1 ≤ c + 790 → s1 ≤ s + 15250 → yW xm_L_law xc_L_law_1673 [some (.ref 33), some (.ref 34), some (.ref 83), some (.ref 93), some (.int x4), none, none] [] (n1, tg1, I1, R1) c1 s1 Q) : yW xm_L_law xc_L_law_1323 [some (.ref 33), some (.ref 34), some (.ref 83), some (.ref 93), some (.int x4), none, none] [] (n, tg, I, R) c s Q := by
  have hS := hV.1
  refine y_aload_n rfl rfl ?_
  refine y_aload_n rfl rfl ?_
  refine y_iload rfl rfl ?_
  refine y_iconst rfl ?_
  refine y_iadd rfl ?_
  refine y_iaload rfl hV.2.2.2.2.2 (ySh.n hV.1 rfl) (sc_at hx0 hx1 hl (by decide) (by decide)).1 (sc_at hx0 hx1 hl (by decide) (by decide)).2 ?_
  refine y_aload_n rfl rfl ?_
  refine y_iload rfl rfl ?_
  refine y_iconst rfl ?_
  refine y_iadd rfl ?_
  refine y_iaload rfl hV.2.2.2.2.2 (ySh.n hV.1 rfl) (sc_at hx0 hx1 hl (by decide) (by decide)).1 (sc_at hx0 hx1 hl (by decide) (by decide)).2 ?_
  refine y_aload_n rfl rfl ?_
  refine y_iload rfl rfl ?_
  refine y_iconst rfl ?_
  refine y_iadd rfl ?_
  refine y_iaload rfl hV.2.2.2.2.2 (ySh.n hV.1 rfl) (sc_at hx0 hx1 hl (by decide) (by decide)).1 (sc_at hx0 hx1 hl (by decide) (by decide)).2 ?_
  refine y_aload_n rfl rfl ?_
  refine y_static rfl rfl rfl rfl rfl ?_
  refine w_ofVenture hV (fun v_a n_a tg_a I_a R_a c_a s_a hV hc_a hs_a => ?_)
  have hS := hV.1
  refine y_ret1 ?_
  refine y_istore (ls' := [some _, some _, some _, some _, some _, some _, _]) rfl rfl rfl ?_
  refine y_aload_n rfl rfl ?_
  refine y_aload_n rfl rfl ?_
  refine y_iload rfl rfl ?_
  refine y_iconst rfl ?_
  refine y_iadd rfl ?_
  refine y_iaload rfl hV.2.2.2.2.2 (ySh.n hV.1 rfl) (sc_at hx0 hx1 hl (by decide) (by decide)).1 (sc_at hx0 hx1 hl (by decide) (by decide)).2 ?_
  refine y_aload_n rfl rfl ?_
  refine y_iload rfl rfl ?_
  refine y_iconst rfl ?_
  refine y_iadd rfl ?_
  refine y_iaload rfl hV.2.2.2.2.2 (ySh.n hV.1 rfl) (sc_at hx0 hx1 hl (by decide) (by decide)).1 (sc_at hx0 hx1 hl (by decide) (by decide)).2 ?_
  refine y_aload_n rfl rfl ?_
  refine y_iload rfl rfl ?_
  refine y_iconst rfl ?_
  refine y_iadd rfl ?_
  refine y_iaload rfl hV.2.2.2.2.2 (ySh.n hV.1 rfl) (sc_at hx0 hx1 hl (by decide) (by decide)).1 (sc_at hx0 hx1 hl (by decide) (by decide)).2 ?_
  refine y_virt rfl rfl rfl rfl rfl (ySh.t hS rfl) (ySh.n hS rfl) ?_
  refine yC.keep3 yMF4 yLO6 rfl rfl rfl hS hV.2.2.1 ?_
  refine k_ofVenture hV.1 hV.2.2.1 hk6 (fun v_b n_b tg_b I_b R_b c_b s_b hSb hRb hKb hr_ hc_b hs_b => ⟨hSb, hKb.2.1, fun hB_ _ hO_ hL_ => ?_⟩)
  have hV := hV.kp hSb hRb hKb hB_ hO_ hL_ (hr_.2.1 7 (by decide)) (yFm.rf hr_) hr_
  have hS := hV.1
  refine y_ret1 ?_
  refine y_istore (ls' := [some _, some _, some _, some _, some _, some _, some _]) rfl rfl rfl ?_
  refine y_goto rfl j_L_law_1673 ?_
  refine y_fgt (ls := [some _, some _, some _, some _, some _, none, none]) ⟨rfl, rfl, rfl, rfl, rfl, trivial⟩ ?_
  exact hN _ _ _ _ _ _ hV (by omega) (by omega)
theorem lc_26 (hV : yInv K n tg I R ln) (hk6 : K < 600) {x4 : Int32} (hx0 : 0 ≤ x4.toInt) (hx1 : x4.toInt + 7 ≤ (ln : Int)) (hl : ln ≤ 3584) (hN : ∀ n1 tg1 I1 R1 c1 s1, yInv (K + 1) n1 tg1 I1 R1 ln → c1 ≤ c + 790 → s1 ≤ s + 15250 → yW xm_L_law xc_L_law_1673 [some (.ref 33), some (.ref 34), some (.ref 83), some (.ref 93), some (.int x4), none, none] [] (n1, tg1, I1, R1) c1 s1 Q) : yW xm_L_law xc_L_law_1375 [some (.ref 33), some (.ref 34), some (.ref 83), some (.ref 93), some (.int x4), none, none] [] (n, tg, I, R) c s Q := by
  have hS := hV.1
  refine y_aload_n rfl rfl ?_
  refine y_aload_n rfl rfl ?_
  refine y_iload rfl rfl ?_
  refine y_iconst rfl ?_
  refine y_iadd rfl ?_
  refine y_iaload rfl hV.2.2.2.2.2 (ySh.n hV.1 rfl) (sc_at hx0 hx1 hl (by decide) (by decide)).1 (sc_at hx0 hx1 hl (by decide) (by decide)).2 ?_
  refine y_aload_n rfl rfl ?_
  refine y_iload rfl rfl ?_
  refine y_iconst rfl ?_
  refine y_iadd rfl ?_
  refine y_iaload rfl hV.2.2.2.2.2 (ySh.n hV.1 rfl) (sc_at hx0 hx1 hl (by decide) (by decide)).1 (sc_at hx0 hx1 hl (by decide) (by decide)).2 ?_
  refine y_aload_n rfl rfl ?_
  refine y_static rfl rfl rfl rfl rfl ?_
  refine w_ofFirm hV (fun v_a n_a tg_a I_a R_a c_a s_a hV hc_a hs_a => ?_)
  have hS := hV.1
  refine y_ret1 ?_
  refine y_istore (ls' := [some _, some _, some _, some _, some _, some _, _]) rfl rfl rfl ?_
  refine y_aload_n rfl rfl ?_
  refine y_aload_n rfl rfl ?_
  refine y_iload rfl rfl ?_
  refine y_iconst rfl ?_
  refine y_iadd rfl ?_
  refine y_iaload rfl hV.2.2.2.2.2 (ySh.n hV.1 rfl) (sc_at hx0 hx1 hl (by decide) (by decide)).1 (sc_at hx0 hx1 hl (by decide) (by decide)).2 ?_
  refine y_aload_n rfl rfl ?_
  refine y_iload rfl rfl ?_
  refine y_iconst rfl ?_
  refine y_iadd rfl ?_
  refine y_iaload rfl hV.2.2.2.2.2 (ySh.n hV.1 rfl) (sc_at hx0 hx1 hl (by decide) (by decide)).1 (sc_at hx0 hx1 hl (by decide) (by decide)).2 ?_
  refine y_virt rfl rfl rfl rfl rfl (ySh.t hS rfl) (ySh.n hS rfl) ?_
  refine yC.keep3 yMF4 yLO6 rfl rfl rfl hS hV.2.2.1 ?_
  refine k_ofFirm hV.1 hV.2.2.1 hk6 (fun v_b n_b tg_b I_b R_b c_b s_b hSb hRb hKb hr_ hc_b hs_b => ⟨hSb, hKb.2.1, fun hB_ _ hO_ hL_ => ?_⟩)
  have hV := hV.kp hSb hRb hKb hB_ hO_ hL_ (hr_.2.1 7 (by decide)) (yFm.rf hr_) hr_
  have hS := hV.1
  refine y_ret1 ?_
  refine y_istore (ls' := [some _, some _, some _, some _, some _, some _, some _]) rfl rfl rfl ?_
  refine y_goto rfl j_L_law_1673 ?_
  refine y_fgt (ls := [some _, some _, some _, some _, some _, none, none]) ⟨rfl, rfl, rfl, rfl, rfl, trivial⟩ ?_
  exact hN _ _ _ _ _ _ hV (by omega) (by omega)
theorem lc_27 (hV : yInv K n tg I R ln) (hk6 : K < 600) {x4 : Int32} (hx0 : 0 ≤ x4.toInt) (hx1 : x4.toInt + 7 ≤ (ln : Int)) (hl : ln ≤ 3584) (hN : ∀ n1 tg1 I1 R1 c1 s1, yInv (K + 1) n1 tg1 I1 R1 ln → c1 ≤ c + 790 → s1 ≤ s + 15250 → yW xm_L_law xc_L_law_1673 [some (.ref 33), some (.ref 34), some (.ref 83), some (.ref 93), some (.int x4), none, none] [] (n1, tg1, I1, R1) c1 s1 Q) : yW xm_L_law xc_L_law_1415 [some (.ref 33), some (.ref 34), some (.ref 83), some (.ref 93), some (.int x4), none, none] [] (n, tg, I, R) c s Q := by
  have hS := hV.1
  refine y_aload_n rfl rfl ?_
  refine y_aload_n rfl rfl ?_
  refine y_iload rfl rfl ?_
  refine y_iconst rfl ?_
  refine y_iadd rfl ?_
  refine y_iaload rfl hV.2.2.2.2.2 (ySh.n hV.1 rfl) (sc_at hx0 hx1 hl (by decide) (by decide)).1 (sc_at hx0 hx1 hl (by decide) (by decide)).2 ?_
  refine y_aload_n rfl rfl ?_
  refine y_iload rfl rfl ?_
  refine y_iconst rfl ?_
  refine y_iadd rfl ?_
  refine y_iaload rfl hV.2.2.2.2.2 (ySh.n hV.1 rfl) (sc_at hx0 hx1 hl (by decide) (by decide)).1 (sc_at hx0 hx1 hl (by decide) (by decide)).2 ?_
  refine y_aload_n rfl rfl ?_
  refine y_static rfl rfl rfl rfl rfl ?_
  refine w_allowed hV (fun v_a n_a tg_a I_a R_a c_a s_a hV hc_a hs_a => ?_)
  have hS := hV.1
  refine y_ret1 ?_
  refine y_istore (ls' := [some _, some _, some _, some _, some _, some _, _]) rfl rfl rfl ?_
  refine y_aload_n rfl rfl ?_
  refine y_aload_n rfl rfl ?_
  refine y_iload rfl rfl ?_
  refine y_iconst rfl ?_
  refine y_iadd rfl ?_
  refine y_iaload rfl hV.2.2.2.2.2 (ySh.n hV.1 rfl) (sc_at hx0 hx1 hl (by decide) (by decide)).1 (sc_at hx0 hx1 hl (by decide) (by decide)).2 ?_
  refine y_aload_n rfl rfl ?_
  refine y_iload rfl rfl ?_
  refine y_iconst rfl ?_
  refine y_iadd rfl ?_
  refine y_iaload rfl hV.2.2.2.2.2 (ySh.n hV.1 rfl) (sc_at hx0 hx1 hl (by decide) (by decide)).1 (sc_at hx0 hx1 hl (by decide) (by decide)).2 ?_
  refine y_virt rfl rfl rfl rfl rfl (ySh.t hS rfl) (ySh.n hS rfl) ?_
  refine yC.keep3 yMF4 yLO6 rfl rfl rfl hS hV.2.2.1 ?_
  refine k_allowed hV.1 hV.2.2.1 hk6 (fun n_b tg_b I_b R_b c_b s_b hSb hRb hKb hr_ hc_b hs_b => ⟨hSb, hKb.2.1, fun hB_ _ hO_ hL_ => ?_⟩) (fun n_b tg_b I_b R_b c_b s_b hSb hRb hKb hr_ hc_b hs_b => ⟨hSb, hKb.2.1, fun hB_ _ hO_ hL_ => ?_⟩)
  · have hV := hV.kp hSb hRb hKb hB_ hO_ hL_ (hr_.2.1 7 (by decide)) (yFm.rf hr_) hr_
    have hS := hV.1
    refine y_ret1 ?_
    refine y_istore (ls' := [some _, some _, some _, some _, some _, some _, some _]) rfl rfl rfl ?_
    refine y_goto rfl j_L_law_1673 ?_
    refine y_fgt (ls := [some _, some _, some _, some _, some _, none, none]) ⟨rfl, rfl, rfl, rfl, rfl, trivial⟩ ?_
    exact hN _ _ _ _ _ _ hV (by omega) (by omega)
  · have hV := hV.kp hSb hRb hKb hB_ hO_ hL_ (hr_.2.1 7 (by decide)) (yFm.rf hr_) hr_
    have hS := hV.1
    refine y_ret1 ?_
    refine y_istore (ls' := [some _, some _, some _, some _, some _, some _, some _]) rfl rfl rfl ?_
    refine y_goto rfl j_L_law_1673 ?_
    refine y_fgt (ls := [some _, some _, some _, some _, some _, none, none]) ⟨rfl, rfl, rfl, rfl, rfl, trivial⟩ ?_
    exact hN _ _ _ _ _ _ hV (by omega) (by omega)
theorem lc_28 (hV : yInv K n tg I R ln) (hk6 : K < 600) {x4 : Int32} (hx0 : 0 ≤ x4.toInt) (hx1 : x4.toInt + 7 ≤ (ln : Int)) (hl : ln ≤ 3584) (hN : ∀ n1 tg1 I1 R1 c1 s1, yInv (K + 1) n1 tg1 I1 R1 ln → c1 ≤ c + 790 → s1 ≤ s + 15250 → yW xm_L_law xc_L_law_1673 [some (.ref 33), some (.ref 34), some (.ref 83), some (.ref 93), some (.int x4), none, none] [] (n1, tg1, I1, R1) c1 s1 Q) : yW xm_L_law xc_L_law_1455 [some (.ref 33), some (.ref 34), some (.ref 83), some (.ref 93), some (.int x4), none, none] [] (n, tg, I, R) c s Q := by
  have hS := hV.1
  refine y_aload_n rfl rfl ?_
  refine y_aload_n rfl rfl ?_
  refine y_iload rfl rfl ?_
  refine y_iconst rfl ?_
  refine y_iadd rfl ?_
  refine y_iaload rfl hV.2.2.2.2.2 (ySh.n hV.1 rfl) (sc_at hx0 hx1 hl (by decide) (by decide)).1 (sc_at hx0 hx1 hl (by decide) (by decide)).2 ?_
  refine y_aload_n rfl rfl ?_
  refine y_static rfl rfl rfl rfl rfl ?_
  refine w_house hV (fun v_a n_a tg_a I_a R_a c_a s_a hV hc_a hs_a => ?_)
  have hS := hV.1
  refine y_ret1 ?_
  refine y_istore (ls' := [some _, some _, some _, some _, some _, some _, _]) rfl rfl rfl ?_
  refine y_aload_n rfl rfl ?_
  refine y_aload_n rfl rfl ?_
  refine y_iload rfl rfl ?_
  refine y_iconst rfl ?_
  refine y_iadd rfl ?_
  refine y_iaload rfl hV.2.2.2.2.2 (ySh.n hV.1 rfl) (sc_at hx0 hx1 hl (by decide) (by decide)).1 (sc_at hx0 hx1 hl (by decide) (by decide)).2 ?_
  refine y_virt rfl rfl rfl rfl rfl (ySh.t hS rfl) (ySh.n hS rfl) ?_
  refine yC.keep3 yMF4 yLO6 rfl rfl rfl hS hV.2.2.1 ?_
  refine k_house hV.1 hV.2.2.1 hk6 (fun v_b n_b tg_b I_b R_b c_b s_b hSb hRb hKb hr_ hc_b hs_b => ⟨hSb, hKb.2.1, fun hB_ _ hO_ hL_ => ?_⟩)
  have hV := hV.kp hSb hRb hKb hB_ hO_ hL_ (hr_.2.1 7 (by decide)) (yFm.rf hr_) hr_
  have hS := hV.1
  refine y_ret1 ?_
  refine y_istore (ls' := [some _, some _, some _, some _, some _, some _, some _]) rfl rfl rfl ?_
  refine y_goto rfl j_L_law_1673 ?_
  refine y_fgt (ls := [some _, some _, some _, some _, some _, none, none]) ⟨rfl, rfl, rfl, rfl, rfl, trivial⟩ ?_
  exact hN _ _ _ _ _ _ hV (by omega) (by omega)
theorem lc_29 (hV : yInv K n tg I R ln) (hk6 : K < 600) {x4 : Int32} (hx0 : 0 ≤ x4.toInt) (hx1 : x4.toInt + 7 ≤ (ln : Int)) (hl : ln ≤ 3584) (hN : ∀ n1 tg1 I1 R1 c1 s1, yInv (K + 1) n1 tg1 I1 R1 ln → c1 ≤ c + 790 → s1 ≤ s + 15250 → yW xm_L_law xc_L_law_1673 [some (.ref 33), some (.ref 34), some (.ref 83), some (.ref 93), some (.int x4), none, none] [] (n1, tg1, I1, R1) c1 s1 Q) : yW xm_L_law xc_L_law_1483 [some (.ref 33), some (.ref 34), some (.ref 83), some (.ref 93), some (.int x4), none, none] [] (n, tg, I, R) c s Q := by
  have hS := hV.1
  refine y_aload_n rfl rfl ?_
  refine y_aload_n rfl rfl ?_
  refine y_iload rfl rfl ?_
  refine y_iconst rfl ?_
  refine y_iadd rfl ?_
  refine y_iaload rfl hV.2.2.2.2.2 (ySh.n hV.1 rfl) (sc_at hx0 hx1 hl (by decide) (by decide)).1 (sc_at hx0 hx1 hl (by decide) (by decide)).2 ?_
  refine y_aload_n rfl rfl ?_
  refine y_static rfl rfl rfl rfl rfl ?_
  refine w_tell hV (fun v_a n_a tg_a I_a R_a c_a s_a hV hc_a hs_a => ?_)
  have hS := hV.1
  refine y_ret1 ?_
  refine y_istore (ls' := [some _, some _, some _, some _, some _, some _, _]) rfl rfl rfl ?_
  refine y_aload_n rfl rfl ?_
  refine y_aload_n rfl rfl ?_
  refine y_iload rfl rfl ?_
  refine y_iconst rfl ?_
  refine y_iadd rfl ?_
  refine y_iaload rfl hV.2.2.2.2.2 (ySh.n hV.1 rfl) (sc_at hx0 hx1 hl (by decide) (by decide)).1 (sc_at hx0 hx1 hl (by decide) (by decide)).2 ?_
  refine y_virt rfl rfl rfl rfl rfl (ySh.t hS rfl) (ySh.n hS rfl) ?_
  refine yC.keepO yMF4 yLO6 rfl rfl rfl hS ?_
  refine k_tell hV.1 hV.2.2.1 hk6 hV.2.2.2.2.1 (fun v_b n_b tg_b I_b R_b c_b s_b hSb hRb hKb hR_ hc_b hs_b => ⟨hSb, hKb.2.1, fun hB_ _ hO_ => ?_⟩)
  have hV := hV.kp hSb hRb hKb hB_ hO_ (yLk.oldR hV.2.2.1 hR_.2.2) (hR_.2.1 7 (by decide)) (yFm.rf hR_) hR_
  have hS := hV.1
  refine y_ret1 ?_
  refine y_astore (ls' := [some _, some _, some _, some _, some _, some _, some _]) rfl rfl rfl ?_
  refine y_goto rfl j_L_law_1673 ?_
  refine y_fgt (ls := [some _, some _, some _, some _, some _, none, none]) ⟨rfl, rfl, rfl, rfl, rfl, trivial⟩ ?_
  exact hN _ _ _ _ _ _ hV (by omega) (by omega)
theorem lc_30 (hV : yInv K n tg I R ln) (hk6 : K < 600) {x4 : Int32} (hx0 : 0 ≤ x4.toInt) (hx1 : x4.toInt + 7 ≤ (ln : Int)) (hl : ln ≤ 3584) (hN : ∀ n1 tg1 I1 R1 c1 s1, yInv (K + 1) n1 tg1 I1 R1 ln → c1 ≤ c + 790 → s1 ≤ s + 15250 → yW xm_L_law xc_L_law_1673 [some (.ref 33), some (.ref 34), some (.ref 83), some (.ref 93), some (.int x4), none, none] [] (n1, tg1, I1, R1) c1 s1 Q) : yW xm_L_law xc_L_law_1511 [some (.ref 33), some (.ref 34), some (.ref 83), some (.ref 93), some (.int x4), none, none] [] (n, tg, I, R) c s Q := by
  have hS := hV.1
  refine y_aload_n rfl rfl ?_
  refine y_aload_n rfl rfl ?_
  refine y_iload rfl rfl ?_
  refine y_iconst rfl ?_
  refine y_iadd rfl ?_
  refine y_iaload rfl hV.2.2.2.2.2 (ySh.n hV.1 rfl) (sc_at hx0 hx1 hl (by decide) (by decide)).1 (sc_at hx0 hx1 hl (by decide) (by decide)).2 ?_
  refine y_aload_n rfl rfl ?_
  refine y_iload rfl rfl ?_
  refine y_iconst rfl ?_
  refine y_iadd rfl ?_
  refine y_iaload rfl hV.2.2.2.2.2 (ySh.n hV.1 rfl) (sc_at hx0 hx1 hl (by decide) (by decide)).1 (sc_at hx0 hx1 hl (by decide) (by decide)).2 ?_
  refine y_aload_n rfl rfl ?_
  refine y_static rfl rfl rfl rfl rfl ?_
  refine w_pillars hV (fun v_a n_a tg_a I_a R_a c_a s_a hV hc_a hs_a => ?_)
  have hS := hV.1
  refine y_ret1 ?_
  refine y_istore (ls' := [some _, some _, some _, some _, some _, some _, _]) rfl rfl rfl ?_
  refine y_aload_n rfl rfl ?_
  refine y_aload_n rfl rfl ?_
  refine y_iload rfl rfl ?_
  refine y_iconst rfl ?_
  refine y_iadd rfl ?_
  refine y_iaload rfl hV.2.2.2.2.2 (ySh.n hV.1 rfl) (sc_at hx0 hx1 hl (by decide) (by decide)).1 (sc_at hx0 hx1 hl (by decide) (by decide)).2 ?_
  refine y_aload_n rfl rfl ?_
  refine y_iload rfl rfl ?_
  refine y_iconst rfl ?_
  refine y_iadd rfl ?_
  refine y_iaload rfl hV.2.2.2.2.2 (ySh.n hV.1 rfl) (sc_at hx0 hx1 hl (by decide) (by decide)).1 (sc_at hx0 hx1 hl (by decide) (by decide)).2 ?_
  refine y_virt rfl rfl rfl rfl rfl (ySh.t hS rfl) (ySh.n hS rfl) ?_
  refine yC.keep3 yMF4 yLO6 rfl rfl rfl hS hV.2.2.1 ?_
  refine k_pillars hV.1 hV.2.2.1 hk6 (fun v_b n_b tg_b I_b R_b c_b s_b hSb hRb hKb hr_ hc_b hs_b => ⟨hSb, hKb.2.1, fun hB_ _ hO_ hL_ => ?_⟩)
  have hV := hV.kp hSb hRb hKb hB_ hO_ hL_ (hr_.2.1 7 (by decide)) (yFm.rf hr_) hr_
  have hS := hV.1
  refine y_ret1 ?_
  refine y_istore (ls' := [some _, some _, some _, some _, some _, some _, some _]) rfl rfl rfl ?_
  refine y_goto rfl j_L_law_1673 ?_
  refine y_fgt (ls := [some _, some _, some _, some _, some _, none, none]) ⟨rfl, rfl, rfl, rfl, rfl, trivial⟩ ?_
  exact hN _ _ _ _ _ _ hV (by omega) (by omega)
theorem lc_31 (hV : yInv K n tg I R ln) (hk6 : K < 600) {x4 : Int32} (hx0 : 0 ≤ x4.toInt) (hx1 : x4.toInt + 7 ≤ (ln : Int)) (hl : ln ≤ 3584) (hN : ∀ n1 tg1 I1 R1 c1 s1, yInv (K + 1) n1 tg1 I1 R1 ln → c1 ≤ c + 790 → s1 ≤ s + 15250 → yW xm_L_law xc_L_law_1673 [some (.ref 33), some (.ref 34), some (.ref 83), some (.ref 93), some (.int x4), none, none] [] (n1, tg1, I1, R1) c1 s1 Q) : yW xm_L_law xc_L_law_1551 [some (.ref 33), some (.ref 34), some (.ref 83), some (.ref 93), some (.int x4), none, none] [] (n, tg, I, R) c s Q := by
  have hS := hV.1
  refine y_aload_n rfl rfl ?_
  refine y_aload_n rfl rfl ?_
  refine y_iload rfl rfl ?_
  refine y_iconst rfl ?_
  refine y_iadd rfl ?_
  refine y_iaload rfl hV.2.2.2.2.2 (ySh.n hV.1 rfl) (sc_at hx0 hx1 hl (by decide) (by decide)).1 (sc_at hx0 hx1 hl (by decide) (by decide)).2 ?_
  refine y_aload_n rfl rfl ?_
  refine y_iload rfl rfl ?_
  refine y_iconst rfl ?_
  refine y_iadd rfl ?_
  refine y_iaload rfl hV.2.2.2.2.2 (ySh.n hV.1 rfl) (sc_at hx0 hx1 hl (by decide) (by decide)).1 (sc_at hx0 hx1 hl (by decide) (by decide)).2 ?_
  refine y_if_eq rfl j_L_law_1571 (fun h_1 => ?_) (fun h_2 => ?_)
  · refine y_iconst rfl ?_
    refine y_aload_n rfl rfl ?_
    refine y_static rfl rfl rfl rfl rfl ?_
    refine w_best hV (fun v_a n_a tg_a I_a R_a c_a s_a hV hc_a hs_a => ?_)
    have hS := hV.1
    refine y_ret1 ?_
    refine y_istore (ls' := [some _, some _, some _, some _, some _, some _, _]) rfl rfl rfl ?_
    refine y_aload_n rfl rfl ?_
    refine y_aload_n rfl rfl ?_
    refine y_iload rfl rfl ?_
    refine y_iconst rfl ?_
    refine y_iadd rfl ?_
    refine y_iaload rfl hV.2.2.2.2.2 (ySh.n hV.1 rfl) (sc_at hx0 hx1 hl (by decide) (by decide)).1 (sc_at hx0 hx1 hl (by decide) (by decide)).2 ?_
    refine y_aload_n rfl rfl ?_
    refine y_iload rfl rfl ?_
    refine y_iconst rfl ?_
    refine y_iadd rfl ?_
    refine y_iaload rfl hV.2.2.2.2.2 (ySh.n hV.1 rfl) (sc_at hx0 hx1 hl (by decide) (by decide)).1 (sc_at hx0 hx1 hl (by decide) (by decide)).2 ?_
    refine y_if_eq rfl j_L_law_1598 (fun h_3 => ?_) (fun h_4 => ?_)
    · refine y_iconst rfl ?_
      refine y_virt rfl rfl rfl rfl rfl (ySh.t hS rfl) (ySh.n hS rfl) ?_
      refine yC.keep3 yMF4 yLO6 rfl rfl rfl hS hV.2.2.1 ?_
      refine k_best hV.1 hV.2.2.1 hk6 (fun v_b n_b tg_b I_b R_b c_b s_b hSb hRb hKb hr_ hc_b hs_b => ⟨hSb, hKb.2.1, fun hB_ _ hO_ hL_ => ?_⟩)
      have hV := hV.kp hSb hRb hKb hB_ hO_ hL_ (hr_.2.1 7 (by decide)) (yFm.rf hr_) hr_
      have hS := hV.1
      refine y_ret1 ?_
      refine y_istore (ls' := [some _, some _, some _, some _, some _, some _, some _]) rfl rfl rfl ?_
      refine y_goto rfl j_L_law_1673 ?_
      refine y_fgt (ls := [some _, some _, some _, some _, some _, none, none]) ⟨rfl, rfl, rfl, rfl, rfl, trivial⟩ ?_
      exact hN _ _ _ _ _ _ hV (by omega) (by omega)
    · refine y_iconst rfl ?_
      refine y_goto rfl j_L_law_1599 ?_
      refine y_virt rfl rfl rfl rfl rfl (ySh.t hS rfl) (ySh.n hS rfl) ?_
      refine yC.keep3 yMF4 yLO6 rfl rfl rfl hS hV.2.2.1 ?_
      refine k_best hV.1 hV.2.2.1 hk6 (fun v_b n_b tg_b I_b R_b c_b s_b hSb hRb hKb hr_ hc_b hs_b => ⟨hSb, hKb.2.1, fun hB_ _ hO_ hL_ => ?_⟩)
      have hV := hV.kp hSb hRb hKb hB_ hO_ hL_ (hr_.2.1 7 (by decide)) (yFm.rf hr_) hr_
      have hS := hV.1
      refine y_ret1 ?_
      refine y_istore (ls' := [some _, some _, some _, some _, some _, some _, some _]) rfl rfl rfl ?_
      refine y_goto rfl j_L_law_1673 ?_
      refine y_fgt (ls := [some _, some _, some _, some _, some _, none, none]) ⟨rfl, rfl, rfl, rfl, rfl, trivial⟩ ?_
      exact hN _ _ _ _ _ _ hV (by omega) (by omega)
  · refine y_iconst rfl ?_
    refine y_goto rfl j_L_law_1572 ?_
    refine y_aload_n rfl rfl ?_
    refine y_static rfl rfl rfl rfl rfl ?_
    refine w_best hV (fun v_a n_a tg_a I_a R_a c_a s_a hV hc_a hs_a => ?_)
    have hS := hV.1
    refine y_ret1 ?_
    refine y_istore (ls' := [some _, some _, some _, some _, some _, some _, _]) rfl rfl rfl ?_
    refine y_aload_n rfl rfl ?_
    refine y_aload_n rfl rfl ?_
    refine y_iload rfl rfl ?_
    refine y_iconst rfl ?_
    refine y_iadd rfl ?_
    refine y_iaload rfl hV.2.2.2.2.2 (ySh.n hV.1 rfl) (sc_at hx0 hx1 hl (by decide) (by decide)).1 (sc_at hx0 hx1 hl (by decide) (by decide)).2 ?_
    refine y_aload_n rfl rfl ?_
    refine y_iload rfl rfl ?_
    refine y_iconst rfl ?_
    refine y_iadd rfl ?_
    refine y_iaload rfl hV.2.2.2.2.2 (ySh.n hV.1 rfl) (sc_at hx0 hx1 hl (by decide) (by decide)).1 (sc_at hx0 hx1 hl (by decide) (by decide)).2 ?_
    refine y_if_eq rfl j_L_law_1598 (fun h_5 => ?_) (fun h_6 => ?_)
    · refine y_iconst rfl ?_
      refine y_virt rfl rfl rfl rfl rfl (ySh.t hS rfl) (ySh.n hS rfl) ?_
      refine yC.keep3 yMF4 yLO6 rfl rfl rfl hS hV.2.2.1 ?_
      refine k_best hV.1 hV.2.2.1 hk6 (fun v_b n_b tg_b I_b R_b c_b s_b hSb hRb hKb hr_ hc_b hs_b => ⟨hSb, hKb.2.1, fun hB_ _ hO_ hL_ => ?_⟩)
      have hV := hV.kp hSb hRb hKb hB_ hO_ hL_ (hr_.2.1 7 (by decide)) (yFm.rf hr_) hr_
      have hS := hV.1
      refine y_ret1 ?_
      refine y_istore (ls' := [some _, some _, some _, some _, some _, some _, some _]) rfl rfl rfl ?_
      refine y_goto rfl j_L_law_1673 ?_
      refine y_fgt (ls := [some _, some _, some _, some _, some _, none, none]) ⟨rfl, rfl, rfl, rfl, rfl, trivial⟩ ?_
      exact hN _ _ _ _ _ _ hV (by omega) (by omega)
    · refine y_iconst rfl ?_
      refine y_goto rfl j_L_law_1599 ?_
      refine y_virt rfl rfl rfl rfl rfl (ySh.t hS rfl) (ySh.n hS rfl) ?_
      refine yC.keep3 yMF4 yLO6 rfl rfl rfl hS hV.2.2.1 ?_
      refine k_best hV.1 hV.2.2.1 hk6 (fun v_b n_b tg_b I_b R_b c_b s_b hSb hRb hKb hr_ hc_b hs_b => ⟨hSb, hKb.2.1, fun hB_ _ hO_ hL_ => ?_⟩)
      have hV := hV.kp hSb hRb hKb hB_ hO_ hL_ (hr_.2.1 7 (by decide)) (yFm.rf hr_) hr_
      have hS := hV.1
      refine y_ret1 ?_
      refine y_istore (ls' := [some _, some _, some _, some _, some _, some _, some _]) rfl rfl rfl ?_
      refine y_goto rfl j_L_law_1673 ?_
      refine y_fgt (ls := [some _, some _, some _, some _, some _, none, none]) ⟨rfl, rfl, rfl, rfl, rfl, trivial⟩ ?_
      exact hN _ _ _ _ _ _ hV (by omega) (by omega)
theorem lc_32 (hV : yInv K n tg I R ln) (hk6 : K < 600) {x4 : Int32} (hx0 : 0 ≤ x4.toInt) (hx1 : x4.toInt + 7 ≤ (ln : Int)) (hl : ln ≤ 3584) (hN : ∀ n1 tg1 I1 R1 c1 s1, yInv (K + 1) n1 tg1 I1 R1 ln → c1 ≤ c + 790 → s1 ≤ s + 15250 → yW xm_L_law xc_L_law_1673 [some (.ref 33), some (.ref 34), some (.ref 83), some (.ref 93), some (.int x4), none, none] [] (n1, tg1, I1, R1) c1 s1 Q) : yW xm_L_law xc_L_law_1607 [some (.ref 33), some (.ref 34), some (.ref 83), some (.ref 93), some (.int x4), none, none] [] (n, tg, I, R) c s Q := by
  have hS := hV.1
  refine y_aload_n rfl rfl ?_
  refine y_aload_n rfl rfl ?_
  refine y_iload rfl rfl ?_
  refine y_iconst rfl ?_
  refine y_iadd rfl ?_
  refine y_iaload rfl hV.2.2.2.2.2 (ySh.n hV.1 rfl) (sc_at hx0 hx1 hl (by decide) (by decide)).1 (sc_at hx0 hx1 hl (by decide) (by decide)).2 ?_
  refine y_aload_n rfl rfl ?_
  refine y_iload rfl rfl ?_
  refine y_iconst rfl ?_
  refine y_iadd rfl ?_
  refine y_iaload rfl hV.2.2.2.2.2 (ySh.n hV.1 rfl) (sc_at hx0 hx1 hl (by decide) (by decide)).1 (sc_at hx0 hx1 hl (by decide) (by decide)).2 ?_
  refine y_aload_n rfl rfl ?_
  refine y_static rfl rfl rfl rfl rfl ?_
  refine w_wouldShare hV (fun v_a n_a tg_a I_a R_a c_a s_a hV hc_a hs_a => ?_)
  have hS := hV.1
  refine y_ret1 ?_
  refine y_istore (ls' := [some _, some _, some _, some _, some _, some _, _]) rfl rfl rfl ?_
  refine y_aload_n rfl rfl ?_
  refine y_aload_n rfl rfl ?_
  refine y_iload rfl rfl ?_
  refine y_iconst rfl ?_
  refine y_iadd rfl ?_
  refine y_iaload rfl hV.2.2.2.2.2 (ySh.n hV.1 rfl) (sc_at hx0 hx1 hl (by decide) (by decide)).1 (sc_at hx0 hx1 hl (by decide) (by decide)).2 ?_
  refine y_aload_n rfl rfl ?_
  refine y_iload rfl rfl ?_
  refine y_iconst rfl ?_
  refine y_iadd rfl ?_
  refine y_iaload rfl hV.2.2.2.2.2 (ySh.n hV.1 rfl) (sc_at hx0 hx1 hl (by decide) (by decide)).1 (sc_at hx0 hx1 hl (by decide) (by decide)).2 ?_
  refine y_virt rfl rfl rfl rfl rfl (ySh.t hS rfl) (ySh.n hS rfl) ?_
  refine yC.keep3 yMF4 yLO6 rfl rfl rfl hS hV.2.2.1 ?_
  refine k_wouldShare hV.1 hV.2.2.1 hk6 (fun v_b n_b tg_b I_b R_b c_b s_b hSb hRb hKb hr_ hc_b hs_b => ⟨hSb, hKb.2.1, fun hB_ _ hO_ hL_ => ?_⟩)
  have hV := hV.kp hSb hRb hKb hB_ hO_ hL_ (hr_.2.1 7 (by decide)) (yFm.rf hr_) hr_
  have hS := hV.1
  refine y_ret1 ?_
  refine y_istore (ls' := [some _, some _, some _, some _, some _, some _, some _]) rfl rfl rfl ?_
  refine y_goto rfl j_L_law_1673 ?_
  refine y_fgt (ls := [some _, some _, some _, some _, some _, none, none]) ⟨rfl, rfl, rfl, rfl, rfl, trivial⟩ ?_
  exact hN _ _ _ _ _ _ hV (by omega) (by omega)
theorem lc_33 (hV : yInv K n tg I R ln) (hk6 : K < 600) {x4 : Int32} (hx0 : 0 ≤ x4.toInt) (hx1 : x4.toInt + 7 ≤ (ln : Int)) (hl : ln ≤ 3584) (hN : ∀ n1 tg1 I1 R1 c1 s1, yInv (K + 1) n1 tg1 I1 R1 ln → c1 ≤ c + 790 → s1 ≤ s + 15250 → yW xm_L_law xc_L_law_1673 [some (.ref 33), some (.ref 34), some (.ref 83), some (.ref 93), some (.int x4), none, none] [] (n1, tg1, I1, R1) c1 s1 Q) : yW xm_L_law xc_L_law_1647 [some (.ref 33), some (.ref 34), some (.ref 83), some (.ref 93), some (.int x4), none, none] [] (n, tg, I, R) c s Q := by
  have hS := hV.1
  refine y_aload_n rfl rfl ?_
  refine y_virt rfl rfl rfl rfl rfl (ySh.t hS rfl) (ySh.n hS rfl) ?_
  refine m_isSound hV.1 hV.2.1 ?_ ?_
  · refine y_ret1 ?_
    refine y_pop rfl rfl ?_
    refine y_aload_n rfl rfl ?_
    refine y_virt rfl rfl rfl rfl rfl (ySh.t hS rfl) (ySh.n hS rfl) ?_
    refine yC.keep3 yMF4 yLO6 rfl rfl rfl hS hV.2.2.1 ?_
    refine k_isSound hV.1 hV.2.2.1 hk6 (fun n_b tg_b I_b R_b c_b s_b hSb hRb hKb hr_ hc_b hs_b => ⟨hSb, hKb.2.1, fun hB_ _ hO_ hL_ => ?_⟩) (fun n_b tg_b I_b R_b c_b s_b hSb hRb hKb hr_ hc_b hs_b => ⟨hSb, hKb.2.1, fun hB_ _ hO_ hL_ => ?_⟩)
    · have hV := hV.kp hSb hRb hKb hB_ hO_ hL_ (hr_.2.1 7 (by decide)) (yFm.rf hr_) hr_
      have hS := hV.1
      refine y_ret1 ?_
      refine y_pop rfl rfl ?_
      refine y_goto rfl j_L_law_1673 ?_
      exact hN _ _ _ _ _ _ hV (by omega) (by omega)
    · have hV := hV.kp hSb hRb hKb hB_ hO_ hL_ (hr_.2.1 7 (by decide)) (yFm.rf hr_) hr_
      have hS := hV.1
      refine y_ret1 ?_
      refine y_pop rfl rfl ?_
      refine y_goto rfl j_L_law_1673 ?_
      exact hN _ _ _ _ _ _ hV (by omega) (by omega)
  · refine y_ret1 ?_
    refine y_pop rfl rfl ?_
    refine y_aload_n rfl rfl ?_
    refine y_virt rfl rfl rfl rfl rfl (ySh.t hS rfl) (ySh.n hS rfl) ?_
    refine yC.keep3 yMF4 yLO6 rfl rfl rfl hS hV.2.2.1 ?_
    refine k_isSound hV.1 hV.2.2.1 hk6 (fun n_b tg_b I_b R_b c_b s_b hSb hRb hKb hr_ hc_b hs_b => ⟨hSb, hKb.2.1, fun hB_ _ hO_ hL_ => ?_⟩) (fun n_b tg_b I_b R_b c_b s_b hSb hRb hKb hr_ hc_b hs_b => ⟨hSb, hKb.2.1, fun hB_ _ hO_ hL_ => ?_⟩)
    · have hV := hV.kp hSb hRb hKb hB_ hO_ hL_ (hr_.2.1 7 (by decide)) (yFm.rf hr_) hr_
      have hS := hV.1
      refine y_ret1 ?_
      refine y_pop rfl rfl ?_
      refine y_goto rfl j_L_law_1673 ?_
      exact hN _ _ _ _ _ _ hV (by omega) (by omega)
    · have hV := hV.kp hSb hRb hKb hB_ hO_ hL_ (hr_.2.1 7 (by decide)) (yFm.rf hr_) hr_
      have hS := hV.1
      refine y_ret1 ?_
      refine y_pop rfl rfl ?_
      refine y_goto rfl j_L_law_1673 ?_
      exact hN _ _ _ _ _ _ hV (by omega) (by omega)
theorem lc_34 (hV : yInv K n tg I R ln) (hk6 : K < 600) {x4 : Int32} (hx0 : 0 ≤ x4.toInt) (hx1 : x4.toInt + 7 ≤ (ln : Int)) (hl : ln ≤ 3584) (hN : ∀ n1 tg1 I1 R1 c1 s1, yInv (K + 1) n1 tg1 I1 R1 ln → c1 ≤ c + 790 → s1 ≤ s + 15250 → yW xm_L_law xc_L_law_1673 [some (.ref 33), some (.ref 34), some (.ref 83), some (.ref 93), some (.int x4), none, none] [] (n1, tg1, I1, R1) c1 s1 Q) : yW xm_L_law xc_L_law_1660 [some (.ref 33), some (.ref 34), some (.ref 83), some (.ref 93), some (.int x4), none, none] [] (n, tg, I, R) c s Q := by
  have hS := hV.1
  refine y_aload_n rfl rfl ?_
  refine y_virt rfl rfl rfl rfl rfl (ySh.t hS rfl) (ySh.n hS rfl) ?_
  refine m_digest hV.1 hV.2.1 (fun v_ => ?_)
  refine y_ret1 ?_
  refine y_pop2 rfl rfl ?_
  refine y_aload_n rfl rfl ?_
  refine y_virt rfl rfl rfl rfl rfl (ySh.t hS rfl) (ySh.n hS rfl) ?_
  refine yC.keep3 yMF4 yLO6 rfl rfl rfl hS hV.2.2.1 ?_
  refine k_digest hV.1 hV.2.2.1 hk6 (fun v_b n_b tg_b I_b R_b c_b s_b hSb hRb hKb hr_ hc_b hs_b => ⟨hSb, hKb.2.1, fun hB_ _ hO_ hL_ => ?_⟩)
  have hV := hV.kp hSb hRb hKb hB_ hO_ hL_ (hr_.2.1 7 (by decide)) (yFm.rf hr_) hr_
  have hS := hV.1
  refine y_ret1 ?_
  refine y_pop2 rfl rfl ?_
  refine y_goto rfl j_L_law_1673 ?_
  exact hN _ _ _ _ _ _ hV (by omega) (by omega)
def yEnd : yQ := fun o _ c s => o = .inl (some (.int (Int32.ofInt 1))) ∧ c ≤ 413910 ∧ s ≤ 7854376
theorem law_loop (hl : ln ≤ 3584) : ∀ (m K n : Nat) (tg : Nat → yT) (I : Nat → Nat → Int32) (R : Nat → Nat → Value) (x4 : Int32) (c s : Nat), yInv K n tg I R ln → x4.toInt = 7 * (K : Int) → K ≤ 512 → c ≤ 60 + 790 * K → s ≤ 6754 + 15250 * K → 512 - K < m → yW xm_L_law xc_L_law_27 [some (.ref 33), some (.ref 34), some (.ref 83), some (.ref 93), some (.int x4), none, none] [] (n, tg, I, R) c s yEnd := by
  intro m
  induction m with
  | zero => intro K n tg I R x4 c s hV hx hK hc hs hm; omega
  | succ m ih =>
    intro K n tg I R x4 c s hV hx hK hc hs hm
    have hS := hV.1
    have hln : (Int32.ofNat ln).toInt = ln := ofNat32 (by omega)
    have hsub : (Int32.ofNat ln - Int32.ofInt 7).toInt = (ln : Int) - 7 := by rw [ysub (by rw [hln, yz_7]; omega) (by rw [hln, yz_7]; omega), hln, yz_7]
    refine y_iload rfl rfl ?_
    refine y_aload_n rfl rfl ?_
    refine y_alen rfl hV.2.2.2.2.2 rfl (ySh.n hS rfl) ?_
    refine y_bip rfl (by decide) ?_
    refine y_isub rfl ?_
    refine y_icmp_gt rfl j_L_law_1679 (fun h_0 => ?_) (fun h_0 => ?_)
    · refine y_iconst rfl ?_
      refine y_ireturn rfl rfl rfl ?_
      exact ⟨rfl, by omega, by omega⟩
    · rw [hsub] at h_0
      have hx0 : 0 ≤ x4.toInt := by omega
      have hx1 : x4.toInt + 7 ≤ (ln : Int) := by omega
      have hk6 : K < 600 := by omega
      clear hsub hln h_0
      have hN : ∀ n1 tg1 I1 R1 c1 s1, yInv (K + 1) n1 tg1 I1 R1 ln → c1 ≤ c + 790 → s1 ≤ s + 15250 → yW xm_L_law xc_L_law_1673 [some (.ref 33), some (.ref 34), some (.ref 83), some (.ref 93), some (.int x4), none, none] [] (n1, tg1, I1, R1) c1 s1 yEnd := fun n1 tg1 I1 R1 c1 s1 hV1 hc1 hs1 => by
        refine y_iinc (ls' := [some _, some _, some _, some _, some _, none, none]) rfl rfl rfl rfl ?_
        refine y_goto rfl j_L_law_27 ?_
        exact ih (K + 1) _ _ _ _ _ _ _ hV1 (x7_k hx hK) (lar1 hx hx1 hl) (lar2 hc hc1) (lar3 hs hs1) (lar4 hm (lar1 hx hx1 hl))
      refine y_aload_n rfl rfl ?_
      refine y_iload rfl rfl ?_
      refine y_iaload rfl hV.2.2.2.2.2 (ySh.n hV.1 rfl) hx0 (by omega) ?_
      refine y_bip rfl (by decide) ?_
      refine y_iand rfl ?_
      refine y_sw rfl (fun h_2 => ?_) (fun h_1 => ?_)
      · refine y_swOut rfl j_L_law_1673 h_2 ?_
        exact hN _ _ _ _ _ _ (hV.up hk6) (by omega) (by omega)
      rcases ySwC0_34 h_1 with h_1 | h_1 | h_1 | h_1 | h_1 | h_1 | h_1 | h_1 | h_1 | h_1 | h_1 | h_1 | h_1 | h_1 | h_1 | h_1 | h_1 | h_1 | h_1 | h_1 | h_1 | h_1 | h_1 | h_1 | h_1 | h_1 | h_1 | h_1 | h_1 | h_1 | h_1 | h_1 | h_1 | h_1 | h_1
      · refine y_swIn (j := 0) rfl h_1 (by decide) j_L_law_200 ?_
        exact lc_0 hV hk6 hx0 hx1 hl hN
      · refine y_swIn (j := 1) rfl h_1 (by decide) j_L_law_268 ?_
        exact lc_1 hV hk6 hx0 hx1 hl hN
      · refine y_swIn (j := 2) rfl h_1 (by decide) j_L_law_296 ?_
        exact lc_2 hV hk6 hx0 hx1 hl hN
      · refine y_swIn (j := 3) rfl h_1 (by decide) j_L_law_336 ?_
        exact lc_3 hV hk6 hx0 hx1 hl hN
      · refine y_swIn (j := 4) rfl h_1 (by decide) j_L_law_364 ?_
        exact lc_4 hV hk6 hx0 hx1 hl hN
      · refine y_swIn (j := 5) rfl h_1 (by decide) j_L_law_392 ?_
        exact lc_5 hV hk6 hx0 hx1 hl hN
      · refine y_swIn (j := 6) rfl h_1 (by decide) j_L_law_420 ?_
        exact lc_6 hV hk6 hx0 hx1 hl hN
      · refine y_swIn (j := 7) rfl h_1 (by decide) j_L_law_484 ?_
        exact lc_7 hV hk6 hx0 hx1 hl hN
      · refine y_swIn (j := 8) rfl h_1 (by decide) j_L_law_512 ?_
        exact lc_8 hV hk6 hx0 hx1 hl hN
      · refine y_swIn (j := 9) rfl h_1 (by decide) j_L_law_540 ?_
        exact lc_9 hV hk6 hx0 hx1 hl hN
      · refine y_swIn (j := 10) rfl h_1 (by decide) j_L_law_604 ?_
        exact lc_10 hV hk6 hx0 hx1 hl hN
      · refine y_swIn (j := 11) rfl h_1 (by decide) j_L_law_660 ?_
        exact lc_11 hV hk6 hx0 hx1 hl hN
      · refine y_swIn (j := 12) rfl h_1 (by decide) j_L_law_676 ?_
        exact lc_12 hV hk6 hx0 hx1 hl hN
      · refine y_swIn (j := 13) rfl h_1 (by decide) j_L_law_769 ?_
        exact lc_13 hV hk6 hx0 hx1 hl hN
      · refine y_swIn (j := 14) rfl h_1 (by decide) j_L_law_821 ?_
        exact lc_14 hV hk6 hx0 hx1 hl hN
      · refine y_swIn (j := 15) rfl h_1 (by decide) j_L_law_885 ?_
        exact lc_15 hV hk6 hx0 hx1 hl hN
      · refine y_swIn (j := 16) rfl h_1 (by decide) j_L_law_925 ?_
        exact lc_16 hV hk6 hx0 hx1 hl hN
      · refine y_swIn (j := 17) rfl h_1 (by decide) j_L_law_977 ?_
        exact lc_17 hV hk6 hx0 hx1 hl hN
      · refine y_swIn (j := 18) rfl h_1 (by decide) j_L_law_1067 ?_
        exact lc_18 hV hk6 hx0 hx1 hl hN
      · refine y_swIn (j := 19) rfl h_1 (by decide) j_L_law_1095 ?_
        exact lc_19 hV hk6 hx0 hx1 hl hN
      · refine y_swIn (j := 20) rfl h_1 (by decide) j_L_law_1135 ?_
        exact lc_20 hV hk6 hx0 hx1 hl hN
      · refine y_swIn (j := 21) rfl h_1 (by decide) j_L_law_1163 ?_
        exact lc_21 hV hk6 hx0 hx1 hl hN
      · refine y_swIn (j := 22) rfl h_1 (by decide) j_L_law_1203 ?_
        exact lc_22 hV hk6 hx0 hx1 hl hN
      · refine y_swIn (j := 23) rfl h_1 (by decide) j_L_law_1243 ?_
        exact lc_23 hV hk6 hx0 hx1 hl hN
      · refine y_swIn (j := 24) rfl h_1 (by decide) j_L_law_1283 ?_
        exact lc_24 hV hk6 hx0 hx1 hl hN
      · refine y_swIn (j := 25) rfl h_1 (by decide) j_L_law_1323 ?_
        exact lc_25 hV hk6 hx0 hx1 hl hN
      · refine y_swIn (j := 26) rfl h_1 (by decide) j_L_law_1375 ?_
        exact lc_26 hV hk6 hx0 hx1 hl hN
      · refine y_swIn (j := 27) rfl h_1 (by decide) j_L_law_1415 ?_
        exact lc_27 hV hk6 hx0 hx1 hl hN
      · refine y_swIn (j := 28) rfl h_1 (by decide) j_L_law_1455 ?_
        exact lc_28 hV hk6 hx0 hx1 hl hN
      · refine y_swIn (j := 29) rfl h_1 (by decide) j_L_law_1483 ?_
        exact lc_29 hV hk6 hx0 hx1 hl hN
      · refine y_swIn (j := 30) rfl h_1 (by decide) j_L_law_1511 ?_
        exact lc_30 hV hk6 hx0 hx1 hl hN
      · refine y_swIn (j := 31) rfl h_1 (by decide) j_L_law_1551 ?_
        exact lc_31 hV hk6 hx0 hx1 hl hN
      · refine y_swIn (j := 32) rfl h_1 (by decide) j_L_law_1607 ?_
        exact lc_32 hV hk6 hx0 hx1 hl hN
      · refine y_swIn (j := 33) rfl h_1 (by decide) j_L_law_1647 ?_
        exact lc_33 hV hk6 hx0 hx1 hl hN
      · refine y_swIn (j := 34) rfl h_1 (by decide) j_L_law_1660 ?_
        exact lc_34 hV hk6 hx0 hx1 hl hN
end YUH
