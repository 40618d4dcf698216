/-! THE CLASS'S POOL, EXACTLY (by ex7p.py) -/
/-- a profit smoothed: rest, target, reserve, how many are for a reserve -/
def ySmo (rest tgt rsv : Int32) (al : Int) : Int32 := if 3 ≤ al then (if tgt.toInt < rest.toInt then tgt else rest + yMnn (tgt - rest) rsv) else rest
/-- weights together -/
def yWsum (J : Nat → Nat → Int32) : Nat → Int64
  | 0 => Int64.ofNat 0
  | k + 1 => yWsum J k + (J 76 k).toInt64
theorem yWsum_nx {J : Nat → Nat → Int32} {x : Int32} {q q' : Int64} (h0 : 0 ≤ x.toInt ∧ x.toInt < 2147483647) (hq : q = yWsum J x.toInt.toNat) (hs : q' = q + (J 76 x.toInt.toNat).toInt64) : q' = yWsum J (x + Int32.ofInt 1).toInt.toNat := by
  rw [yinc h0.2, show (x.toInt + 1).toNat = x.toInt.toNat + 1 by omega, hs, hq]; rfl
def yPoP (J : Nat → Nat → Int32) (sh : Int32) (w : Int64) (p : Nat) : Int32 := yMnn (yPor sh.toInt64 (J 76 p).toInt64 w) (Int32.ofInt 99999 - J 75 p)
def yPoS (sh : Int32) (w : Int64) (J : Nat → Nat → Int32) (p : Nat) : Nat → Nat → Int32 := upd2 (upd2 J 75 p (J 75 p + yPoP J sh w p)) 76 p (Int32.ofInt 0)
theorem yPoS_row {sh : Int32} {w : Int64} {J : Nat → Nat → Int32} {p a : Nat} (h5 : a ≠ 75) (h6 : a ≠ 76) : yPoS sh w J p a = J a := by
  unfold yPoS
  rw [upd2_row h6, upd2_row h5]
def yPoG (I : Nat → Nat → Int32) (sh : Int32) (w : Int64) : Nat → Int32
  | 0 => Int32.ofInt 0
  | p + 1 => yPoG I sh w p + yPoP (yRec (yPoS sh w) I p) sh w p
section YXP
variable {n : Nat} {tg : Nat → yT} {I : Nat → Nat → Int32} {R : Nat → Nat → Value} {c s : Nat} {Q : yQ}
theorem lp_weightsX (hS : ySh n tg R) (hQ : Q (.inl (some (.long (yWsum I 8)))) (n, tg, I, R) c s) : ∀ (m : Nat) (x1 : Int64) (x3 : Int32), (0 ≤ x3.toInt) → (x3.toInt ≤ 8) → (x1 = yWsum I x3.toInt.toNat) → 8 - x3.toInt < m → yW xm_X3_weights xc_X3_weights_4 [some (.ref 74), some (.long x1), none, some (.int x3)] [] (n, tg, I, R) c s Q := by
  intro m
  induction m with
  | zero => intro x1 x3 i0 i1 i2 hm; exfalso; omega
  | succ m ih =>
    intro x1 x3 i0 i1 i2 hm
    refine y_iload_n rfl rfl ?_
    refine y_bip rfl (by decide) ?_
    refine y_icmp_ge rfl j_X3_weights_26 (fun h_1 => ?_) (fun h_2 => ?_)
    · rw [yz_8] at h_1
      refine y_lload_n rfl rfl ?_
      refine y_lreturn rfl ?_
      exact (show x1 = yWsum I 8 by have h8 : x3.toInt.toNat = 8 := (by omega); rw [h8] at i2; exact i2) ▸ hQ
    · rw [yz_8] at h_2
      refine y_lload_n rfl rfl ?_
      refine y_aload_n rfl rfl ?_
      refine y_getR rfl (ySh.t hS rfl) (ySh.n hS rfl) rfl rfl (ySh.r hS rfl) ?_
      refine y_iload_n rfl rfl ?_
      refine y_iaload rfl (ySh.t hS rfl) (ySh.n hS rfl) (by omega) (by omega) ?_
      refine y_i2l rfl ?_
      refine y_ladd rfl ?_
      refine y_lstore_n (ls' := [some _, some _, _, some _]) rfl rfl rfl ?_
      refine y_iinc (ls' := [some _, some _, _, some _]) rfl rfl rfl rfl ?_
      refine y_goto rfl j_X3_weights_4 ?_
      exact ih _ _ (by first | omega | (rw [yinc (by omega)]; omega)) (by first | omega | (rw [yinc (by omega)]; omega)) (yWsum_nx (by omega) (by assumption) rfl) (by first | omega | (rw [yinc (by omega)]; omega))
theorem sx_weights (hS : ySh n tg R) (hQ : Q (.inl (some (.long (yWsum I 8)))) (n, tg, I, R) c s) : yC 63 [.ref 74] (n, tg, I, R) c s Q := by
  refine y_in (M := xm_X3_weights) (ls := [some _, _, _, _]) rfl rfl rfl ?_
  refine y_lconst rfl ?_
  refine y_lstore_n (ls' := [some _, some _, _, _]) rfl rfl rfl ?_
  refine y_iconst rfl ?_
  refine y_istore_n (ls' := [some _, some _, _, some _]) rfl rfl rfl ?_
  exact lp_weightsX hS hQ 100 _ _ (by decide) (by decide) rfl (by decide)
theorem sx_portionOf (hS : ySh n tg R) {x1 x2 : Int32} {x3 : Int64} (hv0 : 0 ≤ x1.toInt) (hv1 : x1.toInt < 8) (hQ : Q (.inl (some (.int (yPoP I x2 x3 x1.toInt.toNat)))) (n, tg, I, R) c s) : yC 64 [.ref 74, .int x1, .int x2, .long x3] (n, tg, I, R) c s Q := by
  refine y_in (M := xm_X3_portionOf) (ls := [some _, some _, some _, some _, _]) rfl rfl rfl ?_
  refine y_iload_n rfl rfl ?_
  refine y_i2l rfl ?_
  refine y_aload_n rfl rfl ?_
  refine y_getR rfl (ySh.t hS rfl) (ySh.n hS rfl) rfl rfl (ySh.r hS rfl) ?_
  refine y_iload_n rfl rfl ?_
  refine y_ialoadv (J := I 76) rfl (ySh.t hS rfl) (ySh.n hS rfl) (by omega) (by omega) rfl ?_
  refine y_i2l rfl ?_
  refine y_lload_n rfl rfl ?_
  refine y_static rfl rfl rfl rfl rfl ?_
  refine sp_portion ?_
  refine y_ret1 ?_
  refine y_ldcI (v := (99999 : Int)) rfl rfl rfl (by decide) ?_
  refine y_aload_n rfl rfl ?_
  refine y_getR rfl (ySh.t hS rfl) (ySh.n hS rfl) rfl rfl (ySh.r hS rfl) ?_
  refine y_iload_n rfl rfl ?_
  refine y_ialoadv (J := I 75) rfl (ySh.t hS rfl) (ySh.n hS rfl) (by omega) (by omega) rfl ?_
  refine y_isub rfl ?_
  refine y_min rfl rfl ?_
  refine y_ireturn rfl rfl rfl ?_
  exact hQ
theorem lx_payOut {I0 : Nat → Nat → Int32} (hS : ySh n tg R) {x1 : Int32} {x2 : Int64} (hQ : ∀ (v : Int32) I1, yCI I1 → yFr I0 I1 → v = yPoG I0 x1 x2 8 → I1 = yRec (yPoS x1 x2) I0 8 → Q (.inl (some (.int v))) (n, tg, I1, R) c s) : ∀ (m : Nat) (x4 x5 : Int32) (I : Nat → Nat → Int32), yCI I → yFr I0 I → I = yRec (yPoS x1 x2) I0 x5.toInt.toNat → x4 = yPoG I0 x1 x2 x5.toInt.toNat → 0 ≤ x5.toInt → x5.toInt ≤ 8 → 8 - x5.toInt < m → yW xm_X3_payOut xc_X3_payOut_11 [some (.ref 74), some (.int x1), some (.long x2), none, some (.int x4), some (.int x5), none] [] (n, tg, I, R) c s Q := by
  intro m
  induction m with
  | zero => intro x4 x5 I hC hF0 hI i0 i1 i2 hm; exfalso; omega
  | succ m ih =>
    intro x4 x5 I hC hF0 hI i0 i1 i2 hm
    have hF : yFr I I := yFr.rf
    refine y_iload rfl rfl ?_
    refine y_bip rfl (by decide) ?_
    refine y_icmp_ge rfl j_X3_payOut_61 (fun h_1 => ?_) (fun h_2 => ?_)
    · rw [yz_8] at h_1
      refine y_iload rfl rfl ?_
      refine y_ireturn rfl rfl rfl ?_
      exact hQ _ _ hC hF0 (by have h8 : x5.toInt.toNat = 8 := (by omega); rw [h8] at i0; exact i0) (by have h8 : x5.toInt.toNat = 8 := (by omega); rw [h8] at hI; exact hI)
    · rw [yz_8] at h_2
      refine y_aload_n rfl rfl ?_
      refine y_iload rfl rfl ?_
      refine y_iload_n rfl rfl ?_
      refine y_lload_n rfl rfl ?_
      refine y_virt rfl rfl rfl rfl rfl (ySh.t hS rfl) (ySh.n hS rfl) ?_
      refine sx_portionOf hS (by omega) (by omega) ?_
      refine y_ret1 ?_
      refine y_istore (ls' := [some _, some _, some _, _, some _, some _, some _]) rfl rfl rfl ?_
      refine y_aload_n rfl rfl ?_
      refine y_getR rfl (ySh.t hS rfl) (ySh.n hS rfl) rfl rfl (ySh.r hS rfl) ?_
      refine y_iload rfl rfl ?_
      refine y_dup2 rfl rfl rfl ?_
      refine y_ialoadv (J := I 75) rfl (ySh.t hS rfl) (ySh.n hS rfl) (by omega) (by omega) rfl ?_
      refine y_iload rfl rfl ?_
      refine y_iadd rfl ?_
      refine y_iastore rfl (ySh.t hS rfl) (ySh.n hS rfl) (Nat.le_of_ble_eq_true rfl) (by omega) (by omega) ?_
      refine y_nameI (fun I3 e3 => ?_)
      have hC : yCI I3 := by rw [e3]; exact hC
      have hF : yFr I I3 := by rw [e3]; exact hF.upd (by decide)
      refine y_aload_n rfl rfl ?_
      refine y_getR rfl (ySh.t hS rfl) (ySh.n hS rfl) rfl rfl (ySh.r hS rfl) ?_
      refine y_iload rfl rfl ?_
      refine y_iconst rfl ?_
      refine y_iastore rfl (ySh.t hS rfl) (ySh.n hS rfl) (Nat.le_of_ble_eq_true rfl) (by omega) (by omega) ?_
      refine y_nameI (fun I4 e4 => ?_)
      have hC : yCI I4 := by rw [e4]; exact hC
      have hF : yFr I I4 := by rw [e4]; exact hF.upd (by decide)
      refine y_iload rfl rfl ?_
      refine y_iload rfl rfl ?_
      refine y_iadd rfl ?_
      refine y_istore (ls' := [some _, some _, some _, _, some _, some _, some _]) rfl rfl rfl ?_
      refine y_iinc (ls' := [some _, some _, some _, _, some _, some _, some _]) rfl rfl rfl rfl ?_
      refine y_goto rfl j_X3_payOut_11 ?_
      refine y_fgt (ls := [some _, some _, some _, none, some _, some _, none]) ⟨rfl, rfl, rfl, rfl, rfl, trivial⟩ ?_
      exact ih _ _ _ hC (hF0.trans hF) (yRec_nx (by omega) hI (by rw [e4, e3]; rfl)) (by rw [yinc (by omega), show (x5.toInt + 1).toNat = x5.toInt.toNat + 1 by omega, i0]; show _ = yPoG I0 x1 x2 x5.toInt.toNat + _; rw [← hI]) (by first | omega | (rw [yinc (by omega)]; omega)) (by first | omega | (rw [yinc (by omega)]; omega)) (by first | omega | (rw [yinc (by omega)]; omega))
theorem sx_payOut (hS : ySh n tg R) (hC : yCI I) {x1 : Int32} (hQ : ∀ (v : Int32) I1, yCI I1 → yFr I I1 → v = yPoG I x1 (yWsum I 8) 8 → I1 = yRec (yPoS x1 (yWsum I 8)) I 8 → Q (.inl (some (.int v))) (n, tg, I1, R) c s) : yC 65 [.ref 74, .int x1] (n, tg, I, R) c s Q := by
  refine y_in (M := xm_X3_payOut) (ls := [some _, some _, _, _, _, _, _]) rfl rfl rfl ?_
  refine y_aload_n rfl rfl ?_
  refine y_virt rfl rfl rfl rfl rfl (ySh.t hS rfl) (ySh.n hS rfl) ?_
  refine sx_weights hS ?_
  refine y_ret1 ?_
  refine y_lstore_n (ls' := [some _, some _, some _, _, _, _, _]) rfl rfl rfl ?_
  refine y_iconst rfl ?_
  refine y_istore (ls' := [some _, some _, some _, _, some _, _, _]) rfl rfl rfl ?_
  refine y_iconst rfl ?_
  refine y_istore (ls' := [some _, some _, some _, _, some _, some _, _]) rfl rfl rfl ?_
  exact lx_payOut hS hQ 100 _ _ _ hC yFr.rf rfl rfl (by decide) (by decide) (by decide)
theorem sx_smoothed1 (hS : ySh n tg R) {x1 : Int32} (hQ : Q (.inl (some (.int (if (I 74 3).toInt < x1.toInt then I 74 3 else x1 + yMnn (I 74 3 - x1) (I 74 2))))) (n, tg, I, R) c s) : yC 62 [.ref 74, .int x1, .int (Int32.ofInt 1)] (n, tg, I, R) c s Q := by
  refine y_in (M := xm_X3_smoothed) (ls := [some _, some _, some _]) rfl rfl rfl ?_
  refine y_iload_n rfl rfl ?_
  refine y_if_neT rfl j_X3_smoothed_6 (by decide) ?_
  refine y_iload_n rfl rfl ?_
  refine y_aload_n rfl rfl ?_
  refine y_getIv (v := I 74 3) rfl (ySh.t hS rfl) (ySh.n hS rfl) rfl rfl rfl ?_
  refine y_icmp_le rfl j_X3_smoothed_21 (fun h_1 => ?_) (fun h_2 => ?_)
  · refine y_iload_n rfl rfl ?_
    refine y_aload_n rfl rfl ?_
    refine y_getIv (v := I 74 3) rfl (ySh.t hS rfl) (ySh.n hS rfl) rfl rfl rfl ?_
    refine y_iload_n rfl rfl ?_
    refine y_isub rfl ?_
    refine y_aload_n rfl rfl ?_
    refine y_getIv (v := I 74 2) rfl (ySh.t hS rfl) (ySh.n hS rfl) rfl rfl rfl ?_
    refine y_min rfl rfl ?_
    refine y_iadd rfl ?_
    refine y_ireturn rfl rfl rfl ?_
    first | (rw [if_pos (by omega)] at hQ; exact hQ) | (rw [if_neg (by omega)] at hQ; exact hQ)
  · refine y_aload_n rfl rfl ?_
    refine y_getIv (v := I 74 3) rfl (ySh.t hS rfl) (ySh.n hS rfl) rfl rfl rfl ?_
    refine y_goto rfl j_X3_smoothed_36 ?_
    refine y_ireturn rfl rfl rfl ?_
    first | (rw [if_pos (by omega)] at hQ; exact hQ) | (rw [if_neg (by omega)] at hQ; exact hQ)
theorem sx_smoothed0 (hS : ySh n tg R) {x1 : Int32} (hQ : Q (.inl (some (.int x1))) (n, tg, I, R) c s) : yC 62 [.ref 74, .int x1, .int (Int32.ofInt 0)] (n, tg, I, R) c s Q := by
  refine y_in (M := xm_X3_smoothed) (ls := [some _, some _, some _]) rfl rfl rfl ?_
  refine y_iload_n rfl rfl ?_
  refine y_if_neF rfl (by decide) ?_
  refine y_iload_n rfl rfl ?_
  refine y_ireturn rfl rfl rfl ?_
  exact hQ
theorem sx_left (hS : ySh n tg R) {x1 : Int32} (hQ : Q (.inl (some (.int (x1 - x1 * I 74 4 / Int32.ofInt 100)))) (n, tg, I, R) c s) : yC 61 [.ref 74, .int x1] (n, tg, I, R) c s Q := by
  refine y_in (M := xm_X3_leftByManagement) (ls := [some _, some _]) rfl rfl rfl ?_
  refine y_iload_n rfl rfl ?_
  refine y_iload_n rfl rfl ?_
  refine y_aload_n rfl rfl ?_
  refine y_getIv (v := I 74 4) rfl (ySh.t hS rfl) (ySh.n hS rfl) rfl rfl rfl ?_
  refine y_imul rfl ?_
  refine y_bip rfl (by decide) ?_
  refine y_idiv rfl (by decide) ?_
  refine y_isub rfl ?_
  refine y_ireturn rfl rfl rfl ?_
  exact hQ
theorem g_share (hS : ySh n tg R) (hC : yCI I) {x1 x2 x3 : Int32} (hE1 : ¬ ((0 ≤ x1.toInt ∧ x1.toInt ≤ 9999) ∧ (0 ≤ x2.toInt ∧ x2.toInt ≤ 999) ∧ (0 ≤ x3.toInt ∧ x3.toInt ≤ 50)) → Q (.inr "java/lang/IllegalArgumentException") (n, tg, I, R) (c + 1) (s + 6)) (hQ : ((0 ≤ x1.toInt ∧ x1.toInt ≤ 9999) ∧ (0 ≤ x2.toInt ∧ x2.toInt ≤ 999) ∧ (0 ≤ x3.toInt ∧ x3.toInt ≤ 50)) → ∀ rest sh g : Int32, rest = x1 - x1 * x3 / Int32.ofInt 100 → sh = ySmo rest x2 (I 74 2) (yBC (I 36 4)).toInt → g = yPoG (upd2 (upd2 (upd2 I 74 3 x2) 74 4 x3) 74 2 (I 74 2 + (rest - sh))) sh (yWsum (upd2 (upd2 (upd2 I 74 3 x2) 74 4 x3) 74 2 (I 74 2 + (rest - sh))) 8) 8 → ∀ (v : Int32) (I1 : Nat → Nat → Int32), yCI I1 → yFt I I1 → v = g → I1 = (upd2 (yAddC (yRec (yPoS sh (yWsum (upd2 (upd2 (upd2 I 74 3 x2) 74 4 x3) 74 2 (I 74 2 + (rest - sh))) 8)) (upd2 (upd2 (upd2 I 74 3 x2) 74 4 x3) 74 2 (I 74 2 + (rest - sh))) 8) (Int32.ofInt 8) (x1 - rest)) 38 1 (I 38 1 + (sh - g))) → Q (.inl (some (.int v))) (n, tg, I1, R) c s) : yC 137 [.ref 34, .int x1, .int x2, .int x3] (n, tg, I, R) c s Q := by
  have hF : yFt I I := yFt.rf
  refine y_in (M := xm_X8_share) (ls := [some _, some _, some _, some _, _, _, _]) rfl rfl rfl ?_
  refine y_iload_n rfl rfl ?_
  refine y_iconst rfl ?_
  refine y_sip rfl (by decide) ?_
  refine y_static rfl rfl rfl rfl rfl ?_
  refine s_isIn (fun h_1 h_2 => ?_) (fun h_3 => ?_)
  · rw [yz_0] at h_1
    rw [yz_9999] at h_2
    refine y_ret1 ?_
    refine y_if_eqF rfl (by decide) ?_
    refine y_iload_n rfl rfl ?_
    refine y_iconst rfl ?_
    refine y_sip rfl (by decide) ?_
    refine y_static rfl rfl rfl rfl rfl ?_
    refine s_isIn (fun h_4 h_5 => ?_) (fun h_6 => ?_)
    · rw [yz_0] at h_4
      rw [yz_999] at h_5
      refine y_ret1 ?_
      refine y_if_eqF rfl (by decide) ?_
      refine y_iload_n rfl rfl ?_
      refine y_iconst rfl ?_
      refine y_bip rfl (by decide) ?_
      refine y_static rfl rfl rfl rfl rfl ?_
      refine s_isIn (fun h_7 h_8 => ?_) (fun h_9 => ?_)
      · rw [yz_0] at h_7
        rw [yz_50] at h_8
        refine y_ret1 ?_
        refine y_if_neT rfl j_X8_share_43 (by decide) ?_
        refine y_aload_n rfl rfl ?_
        refine y_getR rfl (ySh.t hS rfl) (ySh.n hS rfl) rfl rfl (ySh.r hS rfl) ?_
        refine y_iload_n rfl rfl ?_
        refine y_putI rfl (ySh.t hS rfl) (ySh.n hS rfl) rfl (Nat.le_of_ble_eq_true rfl) rfl rfl ?_
        refine y_nameI (fun I10 e10 => ?_)
        have hC : yCI I10 := by rw [e10]; exact hC
        have hF : yFt I I10 := by rw [e10]; exact hF.upd (by decide)
        refine y_aload_n rfl rfl ?_
        refine y_getR rfl (ySh.t hS rfl) (ySh.n hS rfl) rfl rfl (ySh.r hS rfl) ?_
        refine y_iload_n rfl rfl ?_
        refine y_putI rfl (ySh.t hS rfl) (ySh.n hS rfl) rfl (Nat.le_of_ble_eq_true rfl) rfl rfl ?_
        refine y_nameI (fun I11 e11 => ?_)
        have hC : yCI I11 := by rw [e11]; exact hC
        have hF : yFt I I11 := by rw [e11]; exact hF.upd (by decide)
        refine y_aload_n rfl rfl ?_
        refine y_getR rfl (ySh.t hS rfl) (ySh.n hS rfl) rfl rfl (ySh.r hS rfl) ?_
        refine y_iload_n rfl rfl ?_
        refine y_virt rfl rfl rfl rfl rfl (ySh.t hS rfl) (ySh.n hS rfl) ?_
        refine sx_left hS ?_
        rw [show I11 74 4 = x3 by rw [e11, e10]; rfl]
        refine y_ret1 ?_
        refine y_istore (ls' := [some _, some _, some _, some _, some _, _, _]) rfl rfl rfl ?_
        refine y_aload_n rfl rfl ?_
        refine y_getR rfl (ySh.t hS rfl) (ySh.n hS rfl) rfl rfl (ySh.r hS rfl) ?_
        refine y_iload rfl rfl ?_
        refine y_aload_n rfl rfl ?_
        refine y_getR rfl (ySh.t hS rfl) (ySh.n hS rfl) rfl rfl (ySh.r hS rfl) ?_
        refine y_iconst rfl ?_
        refine y_virt rfl rfl rfl rfl rfl (ySh.t hS rfl) (ySh.n hS rfl) ?_
        refine sp_isAllowedNow hS (by decide) (by decide) (fun h_12 => ?_) (fun h_13 => ?_)
        · rw [show I11 36 = I 36 from (by rw [e11, upd2_row (by decide), e10, upd2_row (by decide)])] at h_12
          rw [show (Int32.ofInt 4).toInt.toNat = 4 by decide] at h_12
          refine y_ret1 ?_
          refine y_virt rfl rfl rfl rfl rfl (ySh.t hS rfl) (ySh.n hS rfl) ?_
          refine sx_smoothed1 hS ?_
          rw [show I11 74 3 = x2 by rw [e11, e10]; rfl]
          rw [show I11 74 2 = I 74 2 by rw [e11, e10]; rfl]
          refine y_ret1 ?_
          refine y_istore (ls' := [some _, some _, some _, some _, some _, some _, _]) rfl rfl rfl ?_
          refine y_aload_n rfl rfl ?_
          refine y_getR rfl (ySh.t hS rfl) (ySh.n hS rfl) rfl rfl (ySh.r hS rfl) ?_
          refine y_dup rfl rfl ?_
          refine y_getIv (v := I 74 2) rfl (ySh.t hS rfl) (ySh.n hS rfl) rfl rfl (by rw [e11, upd2_ne (.inr (by decide)), e10, upd2_ne (.inr (by decide))]) ?_
          refine y_iload rfl rfl ?_
          refine y_iload rfl rfl ?_
          refine y_isub rfl ?_
          refine y_iadd rfl ?_
          refine y_putI rfl (ySh.t hS rfl) (ySh.n hS rfl) rfl (Nat.le_of_ble_eq_true rfl) rfl rfl ?_
          refine y_nameI (fun I14 e14 => ?_)
          have hC : yCI I14 := by rw [e14]; exact hC
          have hF : yFt I I14 := by rw [e14]; exact hF.upd (by decide)
          refine y_aload_n rfl rfl ?_
          refine y_getR rfl (ySh.t hS rfl) (ySh.n hS rfl) rfl rfl (ySh.r hS rfl) ?_
          refine y_iload rfl rfl ?_
          refine y_virt rfl rfl rfl rfl rfl (ySh.t hS rfl) (ySh.n hS rfl) ?_
          refine sx_payOut hS hC (fun v_p J15 hC hF1 hv_p eJ15 => ?_)
          have hF : yFt I J15 := hF.trans hF1.t
          refine y_ret1 ?_
          refine y_istore (ls' := [some _, some _, some _, some _, some _, some _, some _]) rfl rfl rfl ?_
          refine y_aload_n rfl rfl ?_
          refine y_getR rfl (ySh.t hS rfl) (ySh.n hS rfl) rfl rfl (ySh.r hS rfl) ?_
          refine y_bip rfl (by decide) ?_
          refine y_iload_n rfl rfl ?_
          refine y_iload rfl rfl ?_
          refine y_isub rfl ?_
          refine y_virt rfl rfl rfl rfl rfl (ySh.t hS rfl) (ySh.n hS rfl) ?_
          refine spx_add hS ?_
          refine y_ret0 ?_
          refine y_nameI (fun I16 e16 => ?_)
          have hC : yCI I16 := by rw [e16]; exact yCI.addC hC
          have hF : yFt I I16 := by rw [e16]; exact hF.addC
          refine y_aload_n rfl rfl ?_
          refine y_getR rfl (ySh.t hS rfl) (ySh.n hS rfl) rfl rfl (ySh.r hS rfl) ?_
          refine y_dup rfl rfl ?_
          refine y_getIv (v := I 38 1) rfl (ySh.t hS rfl) (ySh.n hS rfl) rfl rfl (by rw [e16, yAddC_row (by decide), eJ15, yRec_keep (a := 38) (fun J_ k_ _ _ => yPoS_row (by decide) (by decide)), e14, upd2_ne (.inl (by decide)), e11, upd2_ne (.inl (by decide)), e10, upd2_ne (.inl (by decide))]) ?_
          refine y_iload rfl rfl ?_
          refine y_iload rfl rfl ?_
          refine y_isub rfl ?_
          refine y_iadd rfl ?_
          refine y_putI rfl (ySh.t hS rfl) (ySh.n hS rfl) rfl (Nat.le_of_ble_eq_true rfl) rfl rfl ?_
          refine y_nameI (fun I17 e17 => ?_)
          have hC : yCI I17 := by rw [e17]; exact hC
          have hF : yFt I I17 := by rw [e17]; exact hF.upd (by decide)
          refine y_iload rfl rfl ?_
          refine y_ireturn rfl rfl rfl ?_
          first | (exfalso; omega) | (exact hQ (by omega) _ _ _ rfl (if_pos (by omega)).symm (by rw [hv_p, e14, e11, e10]) _ _ hC hF rfl (by first | (rw [e17, e16, eJ15, e14, e11, e10]; done) | (rw [e17, e16, eJ15, e14, e11, e10]; rfl)))
        · rw [show I11 36 = I 36 from (by rw [e11, upd2_row (by decide), e10, upd2_row (by decide)])] at h_13
          rw [show (Int32.ofInt 4).toInt.toNat = 4 by decide] at h_13
          refine y_ret1 ?_
          refine y_virt rfl rfl rfl rfl rfl (ySh.t hS rfl) (ySh.n hS rfl) ?_
          refine sx_smoothed0 hS ?_
          refine y_ret1 ?_
          refine y_istore (ls' := [some _, some _, some _, some _, some _, some _, _]) rfl rfl rfl ?_
          refine y_aload_n rfl rfl ?_
          refine y_getR rfl (ySh.t hS rfl) (ySh.n hS rfl) rfl rfl (ySh.r hS rfl) ?_
          refine y_dup rfl rfl ?_
          refine y_getIv (v := I 74 2) rfl (ySh.t hS rfl) (ySh.n hS rfl) rfl rfl (by rw [e11, upd2_ne (.inr (by decide)), e10, upd2_ne (.inr (by decide))]) ?_
          refine y_iload rfl rfl ?_
          refine y_iload rfl rfl ?_
          refine y_isub rfl ?_
          refine y_iadd rfl ?_
          refine y_putI rfl (ySh.t hS rfl) (ySh.n hS rfl) rfl (Nat.le_of_ble_eq_true rfl) rfl rfl ?_
          refine y_nameI (fun I18 e18 => ?_)
          have hC : yCI I18 := by rw [e18]; exact hC
          have hF : yFt I I18 := by rw [e18]; exact hF.upd (by decide)
          refine y_aload_n rfl rfl ?_
          refine y_getR rfl (ySh.t hS rfl) (ySh.n hS rfl) rfl rfl (ySh.r hS rfl) ?_
          refine y_iload rfl rfl ?_
          refine y_virt rfl rfl rfl rfl rfl (ySh.t hS rfl) (ySh.n hS rfl) ?_
          refine sx_payOut hS hC (fun v_p J19 hC hF1 hv_p eJ19 => ?_)
          have hF : yFt I J19 := hF.trans hF1.t
          refine y_ret1 ?_
          refine y_istore (ls' := [some _, some _, some _, some _, some _, some _, some _]) rfl rfl rfl ?_
          refine y_aload_n rfl rfl ?_
          refine y_getR rfl (ySh.t hS rfl) (ySh.n hS rfl) rfl rfl (ySh.r hS rfl) ?_
          refine y_bip rfl (by decide) ?_
          refine y_iload_n rfl rfl ?_
          refine y_iload rfl rfl ?_
          refine y_isub rfl ?_
          refine y_virt rfl rfl rfl rfl rfl (ySh.t hS rfl) (ySh.n hS rfl) ?_
          refine spx_add hS ?_
          refine y_ret0 ?_
          refine y_nameI (fun I20 e20 => ?_)
          have hC : yCI I20 := by rw [e20]; exact yCI.addC hC
          have hF : yFt I I20 := by rw [e20]; exact hF.addC
          refine y_aload_n rfl rfl ?_
          refine y_getR rfl (ySh.t hS rfl) (ySh.n hS rfl) rfl rfl (ySh.r hS rfl) ?_
          refine y_dup rfl rfl ?_
          refine y_getIv (v := I 38 1) rfl (ySh.t hS rfl) (ySh.n hS rfl) rfl rfl (by rw [e20, yAddC_row (by decide), eJ19, yRec_keep (a := 38) (fun J_ k_ _ _ => yPoS_row (by decide) (by decide)), e18, upd2_ne (.inl (by decide)), e11, upd2_ne (.inl (by decide)), e10, upd2_ne (.inl (by decide))]) ?_
          refine y_iload rfl rfl ?_
          refine y_iload rfl rfl ?_
          refine y_isub rfl ?_
          refine y_iadd rfl ?_
          refine y_putI rfl (ySh.t hS rfl) (ySh.n hS rfl) rfl (Nat.le_of_ble_eq_true rfl) rfl rfl ?_
          refine y_nameI (fun I21 e21 => ?_)
          have hC : yCI I21 := by rw [e21]; exact hC
          have hF : yFt I I21 := by rw [e21]; exact hF.upd (by decide)
          refine y_iload rfl rfl ?_
          refine y_ireturn rfl rfl rfl ?_
          first | (exfalso; omega) | (exact hQ (by omega) _ _ _ rfl (if_neg (by omega)).symm (by rw [hv_p, e18, e11, e10]) _ _ hC hF rfl (by first | (rw [e21, e20, eJ19, e18, e11, e10]; done) | (rw [e21, e20, eJ19, e18, e11, e10]; rfl)))
      · rw [yz_0] at h_9
        rw [yz_50] at h_9
        refine y_ret1 ?_
        refine y_if_neF rfl (by decide) ?_
        refine y_throw rfl rfl rfl ?_
        exact hE1 (by omega)
    · rw [yz_0] at h_6
      rw [yz_999] at h_6
      refine y_ret1 ?_
      refine y_if_eqT rfl j_X8_share_32 (by decide) ?_
      refine y_throw rfl rfl rfl ?_
      exact hE1 (by omega)
  · rw [yz_0] at h_3
    rw [yz_9999] at h_3
    refine y_ret1 ?_
    refine y_if_eqT rfl j_X8_share_32 (by decide) ?_
    refine y_throw rfl rfl rfl ?_
    exact hE1 (by omega)
end YXP
