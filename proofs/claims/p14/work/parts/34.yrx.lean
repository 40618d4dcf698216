/-! HOLD ON BOTH SIDES (by gen34.py) -/
theorem yHv_kp {n n1 : Nat} {tg tg1 : Nat → yT} {I I1 : Nat → Nat → Int32} {R R1 : Nat → Nat → Value} {q : Int} {j : Nat} (hK : yKp n tg I R n1 tg1 I1 R1) : yHv I1 R1 q j (I1 87 2).toInt.toNat = yHv I R q j (I 87 2).toInt.toNat := by
  obtain ⟨-, -, -, h4, h5, h6, h7, -⟩ := hK
  rw [h6]
  exact yHv_eq fun i hi => ⟨yAd_eq h4 h5, h7 i (by omega)⟩
theorem yHv_x {K nb n n1 : Nat} {tg tg1 : Nat → yT} {I I1 : Nat → Nat → Int32} {R R1 : Nat → Nat → Value} {q : Int} {j : Nat} (h : yRI K nb tg I R) (hn : nb ≤ n) (hX : yX n tg I R n1 tg1 I1 R1) : yHv I1 R1 q j (I1 87 2).toInt.toNat = yHv I R q j (I 87 2).toInt.toNat := yHv_kp (yKp.rf.x h hn hX)
theorem yHv_add {K nb n n1 x : Nat} {tg tg1 : Nat → yT} {I I1 : Nat → Nat → Int32} {R R1 : Nat → Nat → Value} (h : yRI K nb tg I R) (hn : nb ≤ n) (hx : 94 ≤ x) (hxn : x < n) (ha : yAdd n tg I R 87 x n1 tg1 I1 R1) (q : Int) (j : Nat) :
    yHv I1 R1 q j (I1 87 2).toInt.toNat = if (I x 2).toInt = q ∧ (I x 1).toInt = (j : Int) then (I x 3).toInt else yHv I R q j (I 87 2).toInt.toNat := by
  have h0 := h.l87.2.2.2.1
  have hI := ha.I
  have hsz := ha.sz
  obtain ⟨e1, m1, g1, g2, g3, g4, g5, g6, g7, g8, g9, g10, g11, g12, g13, g14, g15, g16⟩ := ha
  have hE : yEl R1 87 = e1 := by unfold yEl; rw [g6]; rfl
  have hAd : ∀ i : Nat, (i : Int) < (I 87 2).toInt → yAd R1 87 i = yAd R 87 i := fun i hi => by
    unfold yAd; rw [hE, g14 i hi]
  have hAx : x = yAd R1 87 (I 87 2).toInt.toNat := by unfold yAd; rw [hE, g15]; rfl
  rw [show (I1 87 2).toInt.toNat = (I 87 2).toInt.toNat + 1 by omega, yHv_step hAx, hI x hxn (by omega)]
  rw [yHv_eq (I := I) (R := R) (fun i hi => ⟨hAd i (by omega), hI _ (by have := (h.l87.2.2.2.2 i (by omega)).2.2.1; omega) (by have := (h.l87.2.2.2.2 i (by omega)).2.1; omega)⟩)]
def yVo (m x1 x3 : Int32) : Int32 := if x3.toInt = 0 then m &&& ((Int32.ofInt 1 <<< (x1 &&& 31)) ^^^ Int32.ofInt (-1)) else m ||| (Int32.ofInt 1 <<< (x1 &&& 31))
section YRX
variable {K nb n : Nat} {tg : Nat → yT} {I : Nat → Nat → Int32} {R : Nat → Nat → Value} {c s : Nat} {Q : yQ}
theorem s_isIn {v a b : Int32} {w : yS} (hQ1 : a.toInt ≤ v.toInt → v.toInt ≤ b.toInt → Q (.inl (some (.int (Int32.ofInt 1)))) w c s) (hQ0 : v.toInt < a.toInt ∨ b.toInt < v.toInt → Q (.inl (some (.int (Int32.ofInt 0)))) w c s) : yC 163 [.int v, .int a, .int b] w c s Q := by
  refine y_in (M := xm_X8_isIn) (ls := [some _, some _, some _]) rfl rfl rfl ?_
  refine y_iload_n rfl rfl ?_
  refine y_iload_n rfl rfl ?_
  refine y_icmp_lt rfl j_X8_isIn_14 (fun h_1 => ?_) (fun h_2 => ?_)
  · refine y_iconst rfl ?_
    refine y_ireturn rfl rfl rfl ?_
    exact hQ0 (by omega)
  · refine y_iload_n rfl rfl ?_
    refine y_iload_n rfl rfl ?_
    refine y_icmp_gt rfl j_X8_isIn_14 (fun h_3 => ?_) (fun h_4 => ?_)
    · refine y_iconst rfl ?_
      refine y_ireturn rfl rfl rfl ?_
      exact hQ0 (by omega)
    · refine y_iconst rfl ?_
      refine y_goto rfl j_X8_isIn_15 ?_
      refine y_ireturn rfl rfl rfl ?_
      exact hQ1 (by omega) (by omega)
theorem r_oneE {x1 : Int32} (hQ : ∀ v : Int32, v.toInt = (if x1.toInt = 0 then 0 else 1) → Q (.inl (some (.int v))) (n, tg, I, R) c s) : yC 184 [.int x1] (n, tg, I, R) c s Q := by
  refine y_in (M := xm_X14_one) (ls := [some _]) rfl rfl rfl ?_
  refine y_iload_n rfl rfl ?_
  refine y_if_eq rfl j_X14_one_8 (fun h_1 => ?_) (fun h_2 => ?_)
  · refine y_iconst rfl ?_
    refine y_ireturn rfl rfl rfl ?_
    exact hQ _ (by rw [if_pos h_1]; rfl)
  · refine y_iconst rfl ?_
    refine y_goto rfl j_X14_one_9 ?_
    refine y_ireturn rfl rfl rfl ?_
    exact hQ _ (by rw [if_neg h_2]; rfl)
theorem m_hold (hS : ySh n tg R) {x1 x2 x3 : Int32} (hE : ¬ ((0 ≤ x1.toInt ∧ x1.toInt ≤ 4) ∧ (0 ≤ x2.toInt ∧ x2.toInt ≤ 4)) → Q (.inr "java/lang/IndexOutOfBoundsException") (n, tg, I, R) (c + 1) (s + 6)) (hQ : (0 ≤ x1.toInt ∧ x1.toInt ≤ 4) → (0 ≤ x2.toInt ∧ x2.toInt ≤ 4) → ∀ I1, I1 = upd2 I 36 x2.toInt.toNat (yVo (I 36 x2.toInt.toNat) x1 x3) → Q (.inl (some (.int (yBC (I1 36 x2.toInt.toNat))))) (n, tg, I1, R) c s) : yC 121 [.ref 34, .int x1, .int x2, .int x3] (n, tg, I, R) c s Q := by
  refine y_in (M := xm_X8_hold) (ls := [some _, some _, some _, some _]) rfl rfl rfl ?_
  refine y_iload_n rfl rfl ?_
  refine y_iconst rfl ?_
  refine y_iconst rfl ?_
  refine y_static rfl rfl rfl rfl rfl ?_
  refine s_isIn (fun h_1 h_2 => ?_) (fun h_3 => ?_)
  · rw [yz_0] at h_1
    rw [yz_4] at h_2
    refine y_ret1 ?_
    refine y_if_eqF rfl (by decide) ?_
    refine y_iload_n rfl rfl ?_
    refine y_iconst rfl ?_
    refine y_iconst rfl ?_
    refine y_static rfl rfl rfl rfl rfl ?_
    refine s_isIn (fun h_4 h_5 => ?_) (fun h_6 => ?_)
    · rw [yz_0] at h_4
      rw [yz_4] at h_5
      refine y_ret1 ?_
      refine y_if_neT rfl j_X8_hold_28 (by decide) ?_
      refine y_aload_n rfl rfl ?_
      refine y_getR rfl (ySh.t hS rfl) (ySh.n hS rfl) rfl rfl (ySh.r hS rfl) ?_
      refine y_iload_n rfl rfl ?_
      refine y_iload_n rfl rfl ?_
      refine y_iload_n rfl rfl ?_
      refine y_virt rfl rfl rfl rfl rfl (ySh.t hS rfl) (ySh.n hS rfl) ?_
      refine y_in (M := xm_X0_vote) (ls := [some _, some _, some _, some _]) rfl rfl rfl ?_
      refine y_iload_n rfl rfl ?_
      refine y_if_eq rfl j_X0_vote_19 (fun h_7 => ?_) (fun h_8 => ?_)
      · refine y_aload_n rfl rfl ?_
        refine y_getR rfl (ySh.t hS rfl) (ySh.n hS rfl) rfl rfl (ySh.r hS rfl) ?_
        refine y_iload_n rfl rfl ?_
        refine y_dup2 rfl rfl rfl ?_
        refine y_iaload rfl (ySh.t hS rfl) (ySh.n hS rfl) (by omega) (by omega) ?_
        refine y_iconst rfl ?_
        refine y_iload_n rfl rfl ?_
        refine y_ishl rfl ?_
        refine y_iconst rfl ?_
        refine y_ixor rfl ?_
        refine y_iand rfl ?_
        refine y_iastore rfl (ySh.t hS rfl) (ySh.n hS rfl) (Nat.le_of_ble_eq_true rfl) (by omega) (by omega) ?_
        refine y_return rfl ?_
        refine y_ret0 ?_
        refine y_aload_n rfl rfl ?_
        refine y_getR rfl (ySh.t hS rfl) (ySh.n hS rfl) rfl rfl (ySh.r hS rfl) ?_
        refine y_iload_n rfl rfl ?_
        refine y_virt rfl rfl rfl rfl rfl (ySh.t hS rfl) (ySh.n hS rfl) ?_
        refine y_in (M := xm_X0_votesFor) (ls := [some _, some _]) rfl rfl rfl ?_
        refine y_aload_n rfl rfl ?_
        refine y_getR rfl (ySh.t hS rfl) (ySh.n hS rfl) rfl rfl (ySh.r hS rfl) ?_
        refine y_iload_n rfl rfl ?_
        refine y_iaload rfl (ySh.t hS rfl) (ySh.n hS rfl) (by omega) (by omega) ?_
        refine y_static rfl rfl rfl rfl rfl ?_
        refine sp_bitCount ?_
        refine y_ret1 ?_
        refine y_ireturn rfl rfl rfl ?_
        refine y_ret1 ?_
        refine y_ireturn rfl rfl rfl ?_
        exact hQ ⟨by omega, by omega⟩ ⟨by omega, by omega⟩ _ (by unfold yVo; first | rw [if_pos (by assumption)] | rw [if_neg (by assumption)])
      · refine y_aload_n rfl rfl ?_
        refine y_getR rfl (ySh.t hS rfl) (ySh.n hS rfl) rfl rfl (ySh.r hS rfl) ?_
        refine y_iload_n rfl rfl ?_
        refine y_dup2 rfl rfl rfl ?_
        refine y_iaload rfl (ySh.t hS rfl) (ySh.n hS rfl) (by omega) (by omega) ?_
        refine y_iconst rfl ?_
        refine y_iload_n rfl rfl ?_
        refine y_ishl rfl ?_
        refine y_ior rfl ?_
        refine y_iastore rfl (ySh.t hS rfl) (ySh.n hS rfl) (Nat.le_of_ble_eq_true rfl) (by omega) (by omega) ?_
        refine y_goto rfl j_X0_vote_33 ?_
        refine y_return rfl ?_
        refine y_ret0 ?_
        refine y_aload_n rfl rfl ?_
        refine y_getR rfl (ySh.t hS rfl) (ySh.n hS rfl) rfl rfl (ySh.r hS rfl) ?_
        refine y_iload_n rfl rfl ?_
        refine y_virt rfl rfl rfl rfl rfl (ySh.t hS rfl) (ySh.n hS rfl) ?_
        refine y_in (M := xm_X0_votesFor) (ls := [some _, some _]) rfl rfl rfl ?_
        refine y_aload_n rfl rfl ?_
        refine y_getR rfl (ySh.t hS rfl) (ySh.n hS rfl) rfl rfl (ySh.r hS rfl) ?_
        refine y_iload_n rfl rfl ?_
        refine y_iaload rfl (ySh.t hS rfl) (ySh.n hS rfl) (by omega) (by omega) ?_
        refine y_static rfl rfl rfl rfl rfl ?_
        refine sp_bitCount ?_
        refine y_ret1 ?_
        refine y_ireturn rfl rfl rfl ?_
        refine y_ret1 ?_
        refine y_ireturn rfl rfl rfl ?_
        exact hQ ⟨by omega, by omega⟩ ⟨by omega, by omega⟩ _ (by unfold yVo; first | rw [if_pos (by assumption)] | rw [if_neg (by assumption)])
    · rw [yz_0, yz_4] at h_6
      refine y_ret1 ?_
      refine y_if_neF rfl (by decide) ?_
      refine y_throw rfl rfl rfl ?_
      exact hE (by omega)
  · rw [yz_0, yz_4] at h_3
    refine y_ret1 ?_
    refine y_if_eqT rfl j_X8_hold_18 (by decide) ?_
    refine y_throw rfl rfl rfl ?_
    exact hE (by omega)
end YRX
