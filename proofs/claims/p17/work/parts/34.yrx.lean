/-! HOLD ON BOTH SIDES (by gen34.py) -/
theorem yHv_kp {n n1 : Nat} {tg tg1 : Nat → yT} {I I1 : Nat → Nat → Int32} {R R1 : Nat → Nat → Value} {q : Int} {j : Nat} (hK : yKp n tg I R n1 tg1 I1 R1) : yHv I1 R1 q j (I1 87 2).toInt.toNat = yHv I R q j (I 87 2).toInt.toNat := by
  obtain ⟨-, -, -, h4, h5, h6, h7, -⟩ := hK
  rw [h6]
  exact yHv_eq fun i hi => ⟨yAd_eq h4 h5, h7 i (by omega)⟩
theorem yHv_x {K nb n n1 : Nat} {tg tg1 : Nat → yT} {I I1 : Nat → Nat → Int32} {R R1 : Nat → Nat → Value} {q : Int} {j : Nat} (h : yRI K nb tg I R) (hn : nb ≤ n) (hX : yX n tg I R n1 tg1 I1 R1) : yHv I1 R1 q j (I1 87 2).toInt.toNat = yHv I R q j (I 87 2).toInt.toNat := yHv_kp (yKp.rf.x h hn hX)
theorem yHv_add {K nb n n1 x : Nat} {tg tg1 : Nat → yT} {I I1 : Nat → Nat → Int32} {R R1 : Nat → Nat → Value} (h : yRI K nb tg I R) (hn : nb ≤ n) (hx : 94 ≤ x) (hxn : x < n) (ha : yAdd n tg I R 87 x n1 tg1 I1 R1) (q : Int) (j : Nat) :
    yHv I1 R1 q j (I1 87 2).toInt.toNat = if (I x 2).toInt = q ∧ (I x 1).toInt = (j : Int) then (I x 3).toInt else yHv I R q j (I 87 2).toInt.toNat := by
  have h0 := h.l87.2.2.2.1
  have hI := ha.I
  have hsz := ha.sz
  obtain ⟨e1, m1, g1, g2, g3, g4, g5, g6, g7, g8, g9, g10, g11, g12, g13, g14, g15, g16⟩ := ha
  have hE : yEl R1 87 = e1 := by unfold yEl; rw [g6]; rfl
  have hAd : ∀ i : Nat, (i : Int) < (I 87 2).toInt → yAd R1 87 i = yAd R 87 i := fun i hi => by
    unfold yAd; rw [hE, g14 i hi]
  have hAx : x = yAd R1 87 (I 87 2).toInt.toNat := by unfold yAd; rw [hE, g15]; rfl
  rw [show (I1 87 2).toInt.toNat = (I 87 2).toInt.toNat + 1 by omega, yHv_step hAx, hI x hxn (by omega)]
  rw [yHv_eq (I := I) (R := R) (fun i hi => ⟨hAd i (by omega), hI _ (by have := (h.l87.2.2.2.2 i (by omega)).2.2.1; omega) (by have := (h.l87.2.2.2.2 i (by omega)).2.1; omega)⟩)]
def yVo (m x1 x3 : Int32) : Int32 := if x3.toInt = 0 then m &&& ((Int32.ofInt 1 <<< (x1 &&& 31)) ^^^ Int32.ofInt (-1)) else m ||| (Int32.ofInt 1 <<< (x1 &&& 31))
section YRX
variable {K nb n : Nat} {tg : Nat → yT} {I : Nat → Nat → Int32} {R : Nat → Nat → Value} {c s : Nat} {Q : yQ}
theorem s_isIn {v a b : Int32} {w : yS} (hQ1 : a.toInt ≤ v.toInt → v.toInt ≤ b.toInt → Q (.inl (some (.int (Int32.ofInt 1)))) w c s) (hQ0 : v.toInt < a.toInt ∨ b.toInt < v.toInt → Q (.inl (some (.int (Int32.ofInt 0)))) w c s) : yC 163 [.int v, .int a, .int b] w c s Q := by
  refine y_in (M := xm_X8_isIn) (ls := [some _, some _, some _]) rfl rfl rfl ?_
  refine y_iload_n rfl rfl ?_
  refine y_iload_n rfl rfl ?_
  refine y_icmp_lt rfl j_X8_isIn_14 (fun h_1 => ?_) (fun h_2 => ?_)
  · refine y_iconst rfl ?_
    refine y_ireturn rfl rfl rfl ?_
    exact hQ0 (by omega)
  · refine y_iload_n rfl rfl ?_
    refine y_iload_n rfl rfl ?_
    refine y_icmp_gt rfl j_X8_isIn_14 (fun h_3 => ?_) (fun h_4 => ?_)
    · refine y_iconst rfl ?_
      refine y_ireturn rfl rfl rfl ?_
      exact hQ0 (by omega)
    · refine y_iconst rfl ?_
      refine y_goto rfl j_X8_isIn_15 ?_
      refine y_ireturn rfl rfl rfl ?_
      exact hQ1 (by omega) (by omega)
theorem r_oneE {x1 : Int32} (hQ : ∀ v : Int32, v.toInt = (if x1.toInt = 0 then 0 else 1) → Q (.inl (some (.int v))) (n, tg, I, R) c s) : yC 184 [.int x1] (n, tg, I, R) c s Q := by
  refine y_in (M := xm_X14_one) (ls := [some _]) rfl rfl rfl ?_
  refine y_iload_n rfl rfl ?_
  refine y_if_eq rfl j_X14_one_8 (fun h_1 => ?_) (fun h_2 => ?_)
  · refine y_iconst rfl ?_
    refine y_ireturn rfl rfl rfl ?_
    exact hQ _ (by rw [if_pos h_1]; rfl)
  · refine y_iconst rfl ?_
    refine y_goto rfl j_X14_one_9 ?_
    refine y_ireturn rfl rfl rfl ?_
    exact hQ _ (by rw [if_neg h_2]; rfl)
theorem m_hold (hS : ySh n tg R) {x1 x2 x3 : Int32} (hE : ¬ ((0 ≤ x1.toInt ∧ x1.toInt ≤ 4) ∧ (0 ≤ x2.toInt ∧ x2.toInt ≤ 4)) → Q (.inr "java/lang/IndexOutOfBoundsException") (n, tg, I, R) (c + 1) (s + 6)) (hQ : (0 ≤ x1.toInt ∧ x1.toInt ≤ 4) → (0 ≤ x2.toInt ∧ x2.toInt ≤ 4) → ∀ I1, I1 = upd2 I 36 x2.toInt.toNat (yVo (I 36 x2.toInt.toNat) x1 x3) → Q (.inl (some (.int (yBC (I1 36 x2.toInt.toNat))))) (n, tg, I1, R) c s) : yC 121 [.ref 34, .int x1, .int x2, .int x3] (n, tg, I, R) c s Q := by
  refine y_in (M := xm_X8_hold) (ls := [some _, some _, some _, some _]) rfl rfl rfl ?_
  refine y_iload_n rfl rfl ?_
  refine y_iconst rfl ?_
  refine y_iconst rfl ?_
  refine y_static rfl rfl rfl rfl rfl ?_
  refine s_isIn (fun h_1 h_2 => ?_) (fun h_3 => ?_)
  · rw [yz_0] at h_1
    rw [yz_4] at h_2
    refine y_ret1 ?_
    refine y_if_eqF rfl (by decide) ?_
    refine y_iload_n rfl rfl ?_
    refine y_iconst rfl ?_
    refine y_iconst rfl ?_
    refine y_static rfl rfl rfl rfl rfl ?_
    refine s_isIn (fun h_4 h_5 => ?_) (fun h_6 => ?_)
    · rw [yz_0] at h_4
      rw [yz_4] at h_5
      refine y_ret1 ?_
      refine y_if_neT rfl j_X8_hold_28 (by decide) ?_
      refine y_aload_n rfl rfl ?_
      refine y_getR rfl (ySh.t hS rfl) (ySh.n hS rfl) rfl rfl (ySh.r hS rfl) ?_
      refine y_iload_n rfl rfl ?_
      refine y_iload_n rfl rfl ?_
      refine y_iload_n rfl rfl ?_
      refine y_virt rfl rfl rfl rfl rfl (ySh.t hS rfl) (ySh.n hS rfl) ?_
      refine y_in (M := xm_X0_vote) (ls := [some _, some _, some _, some _]) rfl rfl rfl ?_
      refine y_iload_n rfl rfl ?_
      refine y_if_eq rfl j_X0_vote_19 (fun h_7 => ?_) (fun h_8 => ?_)
      · refine y_aload_n rfl rfl ?_
        refine y_getR rfl (ySh.t hS rfl) (ySh.n hS rfl) rfl rfl (ySh.r hS rfl) ?_
        refine y_iload_n rfl rfl ?_
        refine y_dup2 rfl rfl rfl ?_
        refine y_iaload rfl (ySh.t hS rfl) (ySh.n hS rfl) (by omega) (by omega) ?_
        refine y_iconst rfl ?_
        refine y_iload_n rfl rfl ?_
        refine y_ishl rfl ?_
        refine y_iconst rfl ?_
        refine y_ixor rfl ?_
        refine y_iand rfl ?_
        refine y_iastore rfl (ySh.t hS rfl) (ySh.n hS rfl) (Nat.le_of_ble_eq_true rfl) (by omega) (by omega) ?_
        refine y_return rfl ?_
        refine y_ret0 ?_
        refine y_aload_n rfl rfl ?_
        refine y_getR rfl (ySh.t hS rfl) (ySh.n hS rfl) rfl rfl (ySh.r hS rfl) ?_
        refine y_iload_n rfl rfl ?_
        refine y_virt rfl rfl rfl rfl rfl (ySh.t hS rfl) (ySh.n hS rfl) ?_
        refine y_in (M := xm_X0_votesFor) (ls := [some _, some _]) rfl rfl rfl ?_
        refine y_aload_n rfl rfl ?_
        refine y_getR rfl (ySh.t hS rfl) (ySh.n hS rfl) rfl rfl (ySh.r hS rfl) ?_
        refine y_iload_n rfl rfl ?_
        refine y_iaload rfl (ySh.t hS rfl) (ySh.n hS rfl) (by omega) (by omega) ?_
        refine y_static rfl rfl rfl rfl rfl ?_
        refine sp_bitCount ?_
        refine y_ret1 ?_
        refine y_ireturn rfl rfl rfl ?_
        refine y_ret1 ?_
        refine y_ireturn rfl rfl rfl ?_
        exact hQ ⟨by omega, by omega⟩ ⟨by omega, by omega⟩ _ (by unfold yVo; first | rw [if_pos (by assumption)] | rw [if_neg (by assumption)])
      · refine y_aload_n rfl rfl ?_
        refine y_getR rfl (ySh.t hS rfl) (ySh.n hS rfl) rfl rfl (ySh.r hS rfl) ?_
        refine y_iload_n rfl rfl ?_
        refine y_dup2 rfl rfl rfl ?_
        refine y_iaload rfl (ySh.t hS rfl) (ySh.n hS rfl) (by omega) (by omega) ?_
        refine y_iconst rfl ?_
        refine y_iload_n rfl rfl ?_
        refine y_ishl rfl ?_
        refine y_ior rfl ?_
        refine y_iastore rfl (ySh.t hS rfl) (ySh.n hS rfl) (Nat.le_of_ble_eq_true rfl) (by omega) (by omega) ?_
        refine y_goto rfl j_X0_vote_33 ?_
        refine y_return rfl ?_
        refine y_ret0 ?_
        refine y_aload_n rfl rfl ?_
        refine y_getR rfl (ySh.t hS rfl) (ySh.n hS rfl) rfl rfl (ySh.r hS rfl) ?_
        refine y_iload_n rfl rfl ?_
        refine y_virt rfl rfl rfl rfl rfl (ySh.t hS rfl) (ySh.n hS rfl) ?_
        refine y_in (M := xm_X0_votesFor) (ls := [some _, some _]) rfl rfl rfl ?_
        refine y_aload_n rfl rfl ?_
        refine y_getR rfl (ySh.t hS rfl) (ySh.n hS rfl) rfl rfl (ySh.r hS rfl) ?_
        refine y_iload_n rfl rfl ?_
        refine y_iaload rfl (ySh.t hS rfl) (ySh.n hS rfl) (by omega) (by omega) ?_
        refine y_static rfl rfl rfl rfl rfl ?_
        refine sp_bitCount ?_
        refine y_ret1 ?_
        refine y_ireturn rfl rfl rfl ?_
        refine y_ret1 ?_
        refine y_ireturn rfl rfl rfl ?_
        exact hQ ⟨by omega, by omega⟩ ⟨by omega, by omega⟩ _ (by unfold yVo; first | rw [if_pos (by assumption)] | rw [if_neg (by assumption)])
    · rw [yz_0, yz_4] at h_6
      refine y_ret1 ?_
      refine y_if_neF rfl (by decide) ?_
      refine y_throw rfl rfl rfl ?_
      exact hE (by omega)
  · rw [yz_0, yz_4] at h_3
    refine y_ret1 ?_
    refine y_if_eqT rfl j_X8_hold_18 (by decide) ?_
    refine y_throw rfl rfl rfl ?_
    exact hE (by omega)
theorem n_hold (hS0 : ySh n tg R) (hR0 : yRI K n tg I R) (hk6 : K < 600) {x1 x2 x3 : Int32} (hE : ¬ ((0 ≤ x1.toInt ∧ x1.toInt ≤ 4) ∧ (0 ≤ x2.toInt ∧ x2.toInt ≤ 4)) → ∀ (v : Int32) n1 tg1 I1 R1 c1 s1, ySh n1 tg1 R1 → yRI (K + 1) n1 tg1 I1 R1 → yKp n tg I R n1 tg1 I1 R1 → I1 83 0 = Int32.ofInt 1 → c1 ≤ c + 0 → s1 ≤ s + 0 → Q (.inl (some (.int v))) (n1, tg1, I1, R1) c1 s1) (hQ : (0 ≤ x1.toInt ∧ x1.toInt ≤ 4) → (0 ≤ x2.toInt ∧ x2.toInt ≤ 4) → ∀ (v : Int32) n1 tg1 I1 R1 c1 s1, ySh n1 tg1 R1 → yRI (K + 1) n1 tg1 I1 R1 → n ≤ n1 → (∀ a, a < n → tg1 a = tg a) → (∀ a, a < 83 → I1 a = I a) → R1 93 = R 93 → I1 83 0 = Int32.ofInt 0 → (∀ (q : Int) (j : Nat), yHv I1 R1 q j (I1 87 2).toInt.toNat = if x2.toInt = q ∧ x1.toInt = (j : Int) then (if x3.toInt = 0 then 0 else 1) else yHv I R q j (I 87 2).toInt.toNat) → v.toInt = ySum (fun j => yHv I1 R1 x2.toInt j (I1 87 2).toInt.toNat) 5 → c1 ≤ c + 4 → s1 ≤ s + 1313 → Q (.inl (some (.int v))) (n1, tg1, I1, R1) c1 s1) : yC 194 [.ref 83, .int x1, .int x2, .int x3] (n, tg, I, R) c s Q := by
  have hno := Nat.le_refl n
  have hn := hno
  have hRo := hR0
  have hK : yKp n tg I R n tg I R := yKp.rf
  have hX : yX n tg I R n tg I R := yX.rf
  have hS := hS0
  have hR := hR0
  have h94 : 94 ≤ n := hS0.1
  have hz : ySz I I := hX.sz h94
  have hxn := hX.1
  have hN := hR0.1
  have hnb : 94 ≤ n := hR0.2.2.2.2.2.2
  refine y_in (M := xm_X14_hold) (ls := [some _, some _, some _, some _]) rfl rfl rfl ?_
  refine y_aload_n rfl rfl ?_
  refine y_iload_n rfl rfl ?_
  refine y_iconst rfl ?_
  refine y_iconst rfl ?_
  refine y_static rfl rfl rfl rfl rfl ?_
  refine r_isIn (fun h_1 h_2 => ?_) (fun h_3 => ?_)
  · rw [yz_0] at h_1
    rw [yz_4] at h_2
    refine y_ret1 ?_
    refine y_if_eqF rfl (by decide) ?_
    refine y_iload_n rfl rfl ?_
    refine y_iconst rfl ?_
    refine y_iconst rfl ?_
    refine y_static rfl rfl rfl rfl rfl ?_
    refine r_isIn (fun h_4 h_5 => ?_) (fun h_6 => ?_)
    · rw [yz_0] at h_4
      rw [yz_4] at h_5
      refine y_ret1 ?_
      refine y_if_neT rfl j_X14_hold_23 (by decide) ?_
      refine y_iconst rfl ?_
      refine y_iconst rfl ?_
      refine y_virt rfl rfl rfl rfl rfl (ySh.t hS rfl) (ySh.n hS rfl) ?_
      refine y_in (M := xm_X14_start) (ls := [some _, some _, some _]) rfl rfl rfl ?_
      refine y_aload_n rfl rfl ?_
      refine y_iconst rfl ?_
      refine y_putI rfl (ySh.t hS rfl) (ySh.n hS rfl) rfl (Nat.le_of_ble_eq_true rfl) rfl rfl ?_
      refine y_nameI (fun I7 e7 => ?_)
      have hR1 := (hR0.grow hX).mod0 e7 (by decide) (by decide)
      have hK := (hK.x hRo hno hX).upI (upI e7) (by decide) (by decide) (fun i hi => by have := (hRo.l87.2.2.2.2 i hi).2.1; omega) (by rw [e7, upd2_ne (.inr (by decide))]; exact Int.le_refl _)
      have hth : I7 83 0 = Int32.ofInt (0) := by rw [e7, upd2_self]
      have hzz : ySz8 I I7 := ySz8_of (upI e7) (by rw [e7]; exact ⟨upd2_ne (.inr (by decide)), upd2_ne (.inr (by decide))⟩)
      have hS0 := hS
      have hR0 := hR1
      have hn := Nat.le_refl n
      have h94 := hS0.1
      have hX := @yX.rf n tg I7 R
      have hS := hS0.x hX
      have hR := hR0.x hn hX
      have hz := hX.sz h94
      have hxn := hX.1
      have hN := hR0.1
      have hnb := hR0.2.2.2.2.2.2
      have hthB := hth
      refine y_aload_n rfl rfl ?_
      refine y_iload_n rfl rfl ?_
      refine y_iload_n rfl rfl ?_
      refine y_virt rfl rfl rfl rfl rfl (ySh.t hS rfl) (ySh.n hS rfl) ?_
      refine y_in (M := xm_X14_refuse) (ls := [some _, some _, some _]) rfl rfl rfl ?_
      refine y_iload_n rfl rfl ?_
      refine y_if_eqT rfl j_X14_refuse_16 (by decide) ?_
      refine y_aload_n rfl rfl ?_
      refine y_getIv (v := Int32.ofInt (0)) rfl (ySh.t hS rfl) (ySh.n hS rfl) rfl rfl hth ?_
      refine y_if_leT rfl j_X14_refuse_27 (by decide) ?_
      refine y_iconst rfl ?_
      refine y_ireturn rfl rfl rfl ?_
      refine y_ret1 ?_
      refine y_ireturn rfl rfl rfl ?_
      refine y_ret1 ?_
      refine y_if_eqT rfl j_X14_hold_33 (by decide) ?_
      refine y_aload_n rfl rfl ?_
      refine y_getR rfl (ySh.t hS rfl) (ySh.n hS rfl) rfl rfl (ySh.r hS rfl) ?_
      refine y_iconst rfl ?_
      refine y_newarrL (m := 4) rfl rfl (by decide) (by decide) rfl (fun n8 tg8 I8 R8 hA => ?_)
      have hnA := hA.1
      have ht_f9 : tg8 n = (0, 4) := hA.2.1
      have ha_f9 : n < n8 := by omega
      have hX := hX.trans (hA.x rfl)
      have hS := hS0.x hX
      have hR := hR0.x hn hX
      have hz := hX.sz h94
      have hxn := hX.1
      have hth := (congrFun ((hA.x rfl).2.1 83 (by omega)).2.1 0).trans hth
      refine y_dup rfl rfl ?_
      refine y_iconst rfl ?_
      refine y_aload_n rfl rfl ?_
      refine y_getI rfl (ySh.t hS rfl) (ySh.n hS rfl) rfl rfl ?_
      refine y_iastoreC (j := 0) rfl ht_f9 ha_f9 (Nat.le_trans (by decide) (by omega : 94 ≤ _)) (by decide) (by decide) rfl ?_
      refine y_nameI (fun I10 e10 => ?_)
      have hX := hX.upI (by omega) (upI e10)
      have hS := hS0.x hX
      have hR := hR0.x hn hX
      have hz := hX.sz h94
      have hxn := hX.1
      have hth := (congrFun (upI e10 83 (by omega)) 0).trans hth
      refine y_dup rfl rfl ?_
      refine y_iconst rfl ?_
      refine y_iload_n rfl rfl ?_
      refine y_iastoreC (j := 1) rfl ht_f9 ha_f9 (Nat.le_trans (by decide) (by omega : 94 ≤ _)) (by decide) (by decide) rfl ?_
      refine y_nameI (fun I11 e11 => ?_)
      have hX := hX.upI (by omega) (upI e11)
      have hS := hS0.x hX
      have hR := hR0.x hn hX
      have hz := hX.sz h94
      have hxn := hX.1
      have hth := (congrFun (upI e11 83 (by omega)) 0).trans hth
      refine y_dup rfl rfl ?_
      refine y_iconst rfl ?_
      refine y_iload_n rfl rfl ?_
      refine y_iastoreC (j := 2) rfl ht_f9 ha_f9 (Nat.le_trans (by decide) (by omega : 94 ≤ _)) (by decide) (by decide) rfl ?_
      refine y_nameI (fun I12 e12 => ?_)
      have hX := hX.upI (by omega) (upI e12)
      have hS := hS0.x hX
      have hR := hR0.x hn hX
      have hz := hX.sz h94
      have hxn := hX.1
      have hth := (congrFun (upI e12 83 (by omega)) 0).trans hth
      refine y_dup rfl rfl ?_
      refine y_iconst rfl ?_
      refine y_iload_n rfl rfl ?_
      refine y_static rfl rfl rfl rfl rfl ?_
      refine r_oneE (fun v_one hv_one => ?_)
      refine y_ret1 ?_
      refine y_iastoreC (j := 3) rfl ht_f9 ha_f9 (Nat.le_trans (by decide) (by omega : 94 ≤ _)) (by decide) (by decide) rfl ?_
      refine y_nameI (fun I13 e13 => ?_)
      have hX := hX.upI (by omega) (upI e13)
      have hS := hS0.x hX
      have hR := hR0.x hn hX
      have hz := hX.sz h94
      have hxn := hX.1
      have hth := (congrFun (upI e13 83 (by omega)) 0).trans hth
      refine y_virt rfl rfl rfl rfl rfl (ySh.t hS rfl) (ySh.n hS rfl) ?_
      have hnw : yNw n n8 tg8 n := fun a h1 h2 h3 => hX.2.2 a h1 h2
      have hKo := hK.x hRo hno hX
      refine l_add hS (by decide) (by decide) (ySh.t hS rfl) (Nat.le_trans hn hX.1) hR.l87 (by omega) (by omega) ha_f9 (fun n14 tg14 I14 R14 c_14 s_14 hAd hc_14 hs_14 => ?_)
      have hsA := hAd.sz
      have hnA := hAd.n
      have hNu : yNum (K + 1) I14 := yNum.add (K := K) hR.1 hAd (by omega) (by decide) (by decide) (Nat.le_succ K) (by omega) (fun _ => by omega) (fun h => by omega) (fun h => by omega) (fun h => by omega) (fun h => by omega) (fun h => by omega)
      have htx : tg14 n = (0, 4) := (hAd.tg _ ha_f9).trans ht_f9
      have hIx := hAd.I _ ha_f9 (by omega)
      have hOb : yOb (K + 1) n14 tg14 I14 R14 n := ⟨fun hq => absurd (show (0 : Nat) = 20 from congrArg Prod.fst (htx.symm.trans hq)) (by decide), fun hq => absurd (show (0 : Nat) = 19 from congrArg Prod.fst (htx.symm.trans hq)) (by decide), fun hq => absurd (show (0 : Nat) = 18 from congrArg Prod.fst (htx.symm.trans hq)) (by decide), fun hq => absurd (show (0 : Nat) = 21 from congrArg Prod.fst (htx.symm.trans hq)) (by decide)⟩
      have h83n : (83 : Nat) ≠ n := by omega
      have hw0 : I13 n 0 = I13 83 1 := by simp [e13, e12, e11, e10, upd2, h83n]
      have hw1 : I13 n 1 = x1 := by simp [e13, e12, e11, e10, upd2]
      have hw2 : I13 n 2 = x2 := by simp [e13, e12, e11, e10, upd2]
      have hw3 : (I13 n 3).toInt = if x3.toInt = 0 then 0 else 1 := by rw [show I13 n 3 = v_one by simp [e13, e12, e11, e10, upd2]]; exact hv_one
      have hwd : (87 : Nat) = 87 → (I13 n 0).toInt ≤ (I13 83 1).toInt ∧ (0 ≤ (I13 n 1).toInt ∧ (I13 n 1).toInt < 5) ∧ ((I13 n 3).toInt = 0 ∨ (I13 n 3).toInt = 1) := fun _ => ⟨by rw [hw0]; exact Int.le_refl _, by rw [hw1]; omega, by rw [hw3]; split <;> simp⟩
      have hR1 : yRI (K + 1) n14 tg14 I14 R14 := yRI.add hR (Nat.le_trans hn hX.1) hAd (by decide) (by decide) rfl (by omega) ha_f9 ht_f9 hnw (Nat.le_succ K) hNu hOb (fun h => absurd h (by decide)) hwd
      have hHv : ∀ (q : Int) (j : Nat), yHv I14 R14 q j (I14 87 2).toInt.toNat = if x2.toInt = q ∧ x1.toInt = (j : Int) then (if x3.toInt = 0 then 0 else 1) else yHv I R q j (I 87 2).toInt.toNat := fun q j => by
        rw [yHv_add hR (Nat.le_trans hn hX.1) (by omega) ha_f9 hAd q j, hw1, hw2, hw3, yHv_kp hKo]
      have h93 : R14 93 = R 93 := (hAd.R 93 (by omega) (by decide) (by have := hR.zl 87 (by decide) (by decide); omega)).trans (hX.2.1 93 (by omega)).2.2
      have h83 : ∀ a, a < 83 → I14 a = I a := fun a ha => (hAd.I a (by omega) (by omega)).trans (hKo.2.2.1 a ha)
      have htg : ∀ a, a < n → tg14 a = tg a := fun a ha => (hAd.tg a (by omega)).trans (hX.2.1 a ha).1
      have hth := (congrFun (hAd.I 83 (by omega) (by decide)) 0).trans hth
      have hS := hS.add hAd (by decide) (by decide) (hR.zl 87 (by decide) (by decide))
      have hS0 := hS
      have hR0 := hR1
      have hn := Nat.le_refl n14
      have h94 := hS0.1
      have hX := @yX.rf n14 tg14 I14 R14
      have hS := hS0.x hX
      have hR := hR0.x hn hX
      have hz := hX.sz h94
      have hxn := hX.1
      have hN := hR0.1
      have hnb := hR0.2.2.2.2.2.2
      refine y_ret1 ?_
      refine y_pop rfl rfl ?_
      refine y_aload_n rfl rfl ?_
      refine y_iload_n rfl rfl ?_
      refine y_aload_n rfl rfl ?_
      refine y_getI rfl (ySh.t hS rfl) (ySh.n hS rfl) rfl rfl ?_
      refine y_virt rfl rfl rfl rfl rfl (ySh.t hS rfl) (ySh.n hS rfl) ?_
      refine r_forItE hS hR (Nat.le_trans hn hX.1) (Int.le_refl _) (fun v n15 tg15 I15 R15 c_15 s_15 hv hX1 hc_15 hs_15 => ?_)
      have hxn1 := hX1.1
      refine y_ret1 ?_
      refine y_ireturn rfl rfl rfl ?_
      exact hQ ⟨by omega, by omega⟩ ⟨by omega, by omega⟩ _ _ _ _ _ _ _ (hS.x hX1) (hR0.grow hX1) (by omega) (fun a ha => (hX1.2.1 a (by omega)).1.trans (htg a ha)) (fun a ha => (hX1.2.1 a (by omega)).2.1.trans (h83 a ha)) ((hX1.2.1 93 (by omega)).2.2.trans h93) ((congrFun (hX1.2.1 83 (by omega)).2.1 0).trans hth) (fun q j => (yHv_x hR0 hn hX1).trans (hHv q j)) (hv.trans (ySum_eq fun j _ => (yHv_x hR0 hn hX1).symm)) (by omega) (by omega)
    · rw [yz_0] at h_6
      rw [yz_4] at h_6
      refine y_ret1 ?_
      refine y_if_neF rfl (by decide) ?_
      refine y_iconst rfl ?_
      refine y_goto rfl j_X14_hold_24 ?_
      refine y_iconst rfl ?_
      refine y_virt rfl rfl rfl rfl rfl (ySh.t hS rfl) (ySh.n hS rfl) ?_
      refine y_in (M := xm_X14_start) (ls := [some _, some _, some _]) rfl rfl rfl ?_
      refine y_aload_n rfl rfl ?_
      refine y_iconst rfl ?_
      refine y_putI rfl (ySh.t hS rfl) (ySh.n hS rfl) rfl (Nat.le_of_ble_eq_true rfl) rfl rfl ?_
      refine y_nameI (fun I16 e16 => ?_)
      have hR1 := (hR0.grow hX).mod0 e16 (by decide) (by decide)
      have hK := (hK.x hRo hno hX).upI (upI e16) (by decide) (by decide) (fun i hi => by have := (hRo.l87.2.2.2.2 i hi).2.1; omega) (by rw [e16, upd2_ne (.inr (by decide))]; exact Int.le_refl _)
      have hth : I16 83 0 = Int32.ofInt (0) := by rw [e16, upd2_self]
      have hzz : ySz8 I I16 := ySz8_of (upI e16) (by rw [e16]; exact ⟨upd2_ne (.inr (by decide)), upd2_ne (.inr (by decide))⟩)
      have hS0 := hS
      have hR0 := hR1
      have hn := Nat.le_refl n
      have h94 := hS0.1
      have hX := @yX.rf n tg I16 R
      have hS := hS0.x hX
      have hR := hR0.x hn hX
      have hz := hX.sz h94
      have hxn := hX.1
      have hN := hR0.1
      have hnb := hR0.2.2.2.2.2.2
      have hthB := hth
      refine y_aload_n rfl rfl ?_
      refine y_iload_n rfl rfl ?_
      refine y_iload_n rfl rfl ?_
      refine y_virt rfl rfl rfl rfl rfl (ySh.t hS rfl) (ySh.n hS rfl) ?_
      refine y_in (M := xm_X14_refuse) (ls := [some _, some _, some _]) rfl rfl rfl ?_
      refine y_iload_n rfl rfl ?_
      refine y_if_eqF rfl (by decide) ?_
      refine y_aload_n rfl rfl ?_
      refine y_getIv (v := Int32.ofInt (0)) rfl (ySh.t hS rfl) (ySh.n hS rfl) rfl rfl hth ?_
      refine y_if_neF rfl (by decide) ?_
      refine y_aload_n rfl rfl ?_
      refine y_iload_n rfl rfl ?_
      refine y_putI rfl (ySh.t hS rfl) (ySh.n hS rfl) rfl (Nat.le_of_ble_eq_true rfl) rfl rfl ?_
      refine y_nameI (fun I17 e17 => ?_)
      have hR1 := (hR0.grow hX).mod0 e17 (by decide) (by decide)
      have hK := (hK.x hRo hno hX).upI (upI e17) (by decide) (by decide) (fun i hi => by have := (hRo.l87.2.2.2.2 i hi).2.1; omega) (by rw [e17, upd2_ne (.inr (by decide))]; exact Int.le_refl _)
      have hth : I17 83 0 = Int32.ofInt (1) := by rw [e17, upd2_self]
      have hzz : ySz8 I16 I17 := ySz8_of (upI e17) (by rw [e17]; exact ⟨upd2_ne (.inr (by decide)), upd2_ne (.inr (by decide))⟩)
      have hS0 := hS
      have hR0 := hR1
      have hn := Nat.le_refl n
      have h94 := hS0.1
      have hX := @yX.rf n tg I17 R
      have hS := hS0.x hX
      have hR := hR0.x hn hX
      have hz := hX.sz h94
      have hxn := hX.1
      have hN := hR0.1
      have hnb := hR0.2.2.2.2.2.2
      have hthB := hth
      refine y_aload_n rfl rfl ?_
      refine y_getIv (v := Int32.ofInt (1)) rfl (ySh.t hS rfl) (ySh.n hS rfl) rfl rfl hth ?_
      refine y_if_leF rfl (by decide) ?_
      refine y_iconst rfl ?_
      refine y_goto rfl j_X14_refuse_28 ?_
      refine y_ireturn rfl rfl rfl ?_
      refine y_ret1 ?_
      refine y_ireturn rfl rfl rfl ?_
      refine y_ret1 ?_
      refine y_if_eqF rfl (by decide) ?_
      refine y_iconst rfl ?_
      refine y_ireturn rfl rfl rfl ?_
      exact hE (by omega) _ _ _ _ _ _ _ hS ((hR0.grow hX).up (Nat.le_succ K) hk6) (hK.x hRo hno hX) hth (by omega) (by omega)
  · rw [yz_0] at h_3
    rw [yz_4] at h_3
    refine y_ret1 ?_
    refine y_if_eqT rfl j_X14_hold_19 (by decide) ?_
    refine y_iconst rfl ?_
    refine y_goto rfl j_X14_hold_24 ?_
    refine y_iconst rfl ?_
    refine y_virt rfl rfl rfl rfl rfl (ySh.t hS rfl) (ySh.n hS rfl) ?_
    refine y_in (M := xm_X14_start) (ls := [some _, some _, some _]) rfl rfl rfl ?_
    refine y_aload_n rfl rfl ?_
    refine y_iconst rfl ?_
    refine y_putI rfl (ySh.t hS rfl) (ySh.n hS rfl) rfl (Nat.le_of_ble_eq_true rfl) rfl rfl ?_
    refine y_nameI (fun I18 e18 => ?_)
    have hR1 := (hR0.grow hX).mod0 e18 (by decide) (by decide)
    have hK := (hK.x hRo hno hX).upI (upI e18) (by decide) (by decide) (fun i hi => by have := (hRo.l87.2.2.2.2 i hi).2.1; omega) (by rw [e18, upd2_ne (.inr (by decide))]; exact Int.le_refl _)
    have hth : I18 83 0 = Int32.ofInt (0) := by rw [e18, upd2_self]
    have hzz : ySz8 I I18 := ySz8_of (upI e18) (by rw [e18]; exact ⟨upd2_ne (.inr (by decide)), upd2_ne (.inr (by decide))⟩)
    have hS0 := hS
    have hR0 := hR1
    have hn := Nat.le_refl n
    have h94 := hS0.1
    have hX := @yX.rf n tg I18 R
    have hS := hS0.x hX
    have hR := hR0.x hn hX
    have hz := hX.sz h94
    have hxn := hX.1
    have hN := hR0.1
    have hnb := hR0.2.2.2.2.2.2
    have hthB := hth
    refine y_aload_n rfl rfl ?_
    refine y_iload_n rfl rfl ?_
    refine y_iload_n rfl rfl ?_
    refine y_virt rfl rfl rfl rfl rfl (ySh.t hS rfl) (ySh.n hS rfl) ?_
    refine y_in (M := xm_X14_refuse) (ls := [some _, some _, some _]) rfl rfl rfl ?_
    refine y_iload_n rfl rfl ?_
    refine y_if_eqF rfl (by decide) ?_
    refine y_aload_n rfl rfl ?_
    refine y_getIv (v := Int32.ofInt (0)) rfl (ySh.t hS rfl) (ySh.n hS rfl) rfl rfl hth ?_
    refine y_if_neF rfl (by decide) ?_
    refine y_aload_n rfl rfl ?_
    refine y_iload_n rfl rfl ?_
    refine y_putI rfl (ySh.t hS rfl) (ySh.n hS rfl) rfl (Nat.le_of_ble_eq_true rfl) rfl rfl ?_
    refine y_nameI (fun I19 e19 => ?_)
    have hR1 := (hR0.grow hX).mod0 e19 (by decide) (by decide)
    have hK := (hK.x hRo hno hX).upI (upI e19) (by decide) (by decide) (fun i hi => by have := (hRo.l87.2.2.2.2 i hi).2.1; omega) (by rw [e19, upd2_ne (.inr (by decide))]; exact Int.le_refl _)
    have hth : I19 83 0 = Int32.ofInt (1) := by rw [e19, upd2_self]
    have hzz : ySz8 I18 I19 := ySz8_of (upI e19) (by rw [e19]; exact ⟨upd2_ne (.inr (by decide)), upd2_ne (.inr (by decide))⟩)
    have hS0 := hS
    have hR0 := hR1
    have hn := Nat.le_refl n
    have h94 := hS0.1
    have hX := @yX.rf n tg I19 R
    have hS := hS0.x hX
    have hR := hR0.x hn hX
    have hz := hX.sz h94
    have hxn := hX.1
    have hN := hR0.1
    have hnb := hR0.2.2.2.2.2.2
    have hthB := hth
    refine y_aload_n rfl rfl ?_
    refine y_getIv (v := Int32.ofInt (1)) rfl (ySh.t hS rfl) (ySh.n hS rfl) rfl rfl hth ?_
    refine y_if_leF rfl (by decide) ?_
    refine y_iconst rfl ?_
    refine y_goto rfl j_X14_refuse_28 ?_
    refine y_ireturn rfl rfl rfl ?_
    refine y_ret1 ?_
    refine y_ireturn rfl rfl rfl ?_
    refine y_ret1 ?_
    refine y_if_eqF rfl (by decide) ?_
    refine y_iconst rfl ?_
    refine y_ireturn rfl rfl rfl ?_
    exact hE (by omega) _ _ _ _ _ _ _ hS ((hR0.grow hX).up (Nat.le_succ K) hk6) (hK.x hRo hno hX) hth (by omega) (by omega)
end YRX
