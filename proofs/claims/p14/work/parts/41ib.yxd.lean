/-! THE CLASS'S DAYS, EXACTLY (by ex6c.py) -/
/-- a step of all numbers done k times, each told which one it is -/
def yRec (S : (Nat → Nat → Int32) → Nat → Nat → Nat → Int32) (I : Nat → Nat → Int32) : Nat → Nat → Nat → Int32
  | 0 => I
  | k + 1 => S (yRec S I k) k
theorem yRec_nx {S : (Nat → Nat → Int32) → Nat → Nat → Nat → Int32} {I J J' : Nat → Nat → Int32} {x : Int32} (h0 : 0 ≤ x.toInt ∧ x.toInt < 2147483647) (hJ : J = yRec S I x.toInt.toNat) (hs : J' = S J x.toInt.toNat) : J' = yRec S I (x + Int32.ofInt 1).toInt.toNat := by
  rw [yinc h0.2, show (x.toInt + 1).toNat = x.toInt.toNat + 1 by omega, hs, hJ]; rfl
theorem yRec_keep {S : (Nat → Nat → Int32) → Nat → Nat → Nat → Int32} {I : Nat → Nat → Int32} {a : Nat} : ∀ {m : Nat}, (∀ J k, k < m → J a = I a → S J k a = J a) → yRec S I m a = I a
  | 0, _ => rfl
  | m + 1, h => by
    have hm : yRec S I m a = I a := yRec_keep fun J k hk hJ => h J k (by omega) hJ
    exact (h _ m (Nat.lt_succ_self m) hm).trans hm
theorem yRec_ind {S : (Nat → Nat → Int32) → Nat → Nat → Nat → Int32} {I : Nat → Nat → Int32} {P : (Nat → Nat → Int32) → Prop} : ∀ {m : Nat}, P I → (∀ J k, k < m → P J → P (S J k)) → P (yRec S I m)
  | 0, h, _ => h
  | m + 1, h, hs => hs _ m (Nat.lt_succ_self m) (yRec_ind h fun J k hk hJ => hs J k (by omega) hJ)
/-- the board's set of what is allowed, question by question -/
def yQs (I : Nat → Nat → Int32) : Nat → Int32
  | 0 => Int32.ofInt 0
  | k + 1 => if 3 ≤ (yBC (I 36 k)).toInt then yQs I k ||| Int32.ofInt 1 <<< (Int32.ofInt (k : Int) &&& 31) else yQs I k
theorem yQs_nx {I : Nat → Nat → Int32} {x q q' : Int32} (h0 : 0 ≤ x.toInt ∧ x.toInt < 2147483647) (hq : q = yQs I x.toInt.toNat) (hs : q' = if 3 ≤ (yBC (I 36 x.toInt.toNat)).toInt then q ||| Int32.ofInt 1 <<< (x &&& 31) else q) : q' = yQs I (x + Int32.ofInt 1).toInt.toNat := by
  rw [yinc h0.2, show (x.toInt + 1).toNat = x.toInt.toNat + 1 by omega, hs, hq]
  show _ = if 3 ≤ (yBC (I 36 x.toInt.toNat)).toInt then yQs I x.toInt.toNat ||| Int32.ofInt 1 <<< (Int32.ofInt (x.toInt.toNat : Int) &&& 31) else yQs I x.toInt.toNat
  rw [show Int32.ofInt (x.toInt.toNat : Int) = x by rw [Int.toNat_of_nonneg h0.1]; exact Int32.ofInt_toInt x]
def yMxx (x y : Int32) : Int32 := if x < y then y else x
def yMnn (x y : Int32) : Int32 := if y < x then y else x
/-- a rent -/
def yRn (w b f c : Int32) : Int32 := w * yMnn (yMxx b f) c / Int32.ofInt 1000
def yWeS (J : Nat → Nat → Int32) (k : Nat) : Nat → Nat → Int32 := upd2 J 76 k (J 76 k + J 75 k)
def yCoS (J : Nat → Nat → Int32) (k : Nat) : Nat → Nat → Int32 := if (J 65 k).toInt = 0 ∧ (J 66 k).toInt = (J 34 8).toInt then yAddC (yAddC (upd2 (upd2 (upd2 J 66 k (J 66 k + Int32.ofInt 30)) 67 k (J 67 k + Int32.ofInt 1)) 68 k (J 68 k + yRn (J 61 k) (J 34 9) (J 63 k) (J 64 k))) (J 62 k) (-(yRn (J 61 k) (J 34 9) (J 63 k) (J 64 k)))) (Int32.ofInt 8) (yRn (J 61 k) (J 34 9) (J 63 k) (J 64 k)) else J
def yAlS (J : Nat → Nat → Int32) (k : Nat) : Nat → Nat → Int32 := if 85 ≤ (J 39 k).toInt then upd2 (upd2 J 39 k (J 39 k + -(J 39 k / Int32.ofInt 40))) 38 1 (J 38 1 + J 39 k / Int32.ofInt 40) else J
/-- a day's last part: alms -/
def yAlm (K : Nat → Nat → Int32) : Nat → Nat → Int32 := if (K 34 8 - K 34 8 / Int32.ofInt 354 * Int32.ofInt 354).toInt = 0 then yRec yAlS K (K 38 0).toInt.toNat else K
/-- its first: what was allowed, the weights, the day -/
def yDyB (I : Nat → Nat → Int32) : Nat → Nat → Int32 := yRec yWeS (upd2 I 37 (I 34 8).toInt.toNat (yQs I 5).toInt8.toInt32) 8
def yDyD (J : Nat → Nat → Int32) : Nat → Nat → Int32 := upd2 J 34 8 (J 34 8 + Int32.ofInt 1)
def yDyC (J : Nat → Nat → Int32) : Nat → Nat → Int32 := yRec yCoS J (J 59 0).toInt.toNat
def yDy (I : Nat → Nat → Int32) (_ : Nat) : Nat → Nat → Int32 := yAlm (yDyC (yDyD (yDyB I)))
section YXD
variable {n : Nat} {tg : Nat → yT} {I : Nat → Nat → Int32} {R : Nat → Nat → Value} {c s : Nat} {Q : yQ}
theorem yFr.addC {I I' : Nat → Nat → Int32} {p x : Int32} (h : yFr I I') : yFr I (yAddC I' p x) := by
  unfold yAddC
  split
  · exact h.upd (by decide)
  · exact h
theorem lx_endDay0 (hS : ySh n tg R) (hC : yCI I) {x1 : Int32} (hv0 : 0 ≤ x1.toInt) (hv1 : x1.toInt < 4001) (hQ : ∀ I1, yCI I1 → yFr I I1 → I1 = upd2 I 37 x1.toInt.toNat (yQs I 5).toInt8.toInt32 → Q (.inl none) (n, tg, I1, R) c s) : ∀ (m : Nat) (x2 x3 : Int32), x2 = yQs I x3.toInt.toNat → 0 ≤ x3.toInt → x3.toInt ≤ 5 → 5 - x3.toInt < m → yW xm_X0_endDay xc_X0_endDay_4 [some (.ref 35), some (.int x1), some (.int x2), some (.int x3)] [] (n, tg, I, R) c s Q := by
  intro m
  induction m with
  | zero => intro x2 x3 i0 i1 i2 hm; exfalso; omega
  | succ m ih =>
    intro x2 x3 i0 i1 i2 hm
    have hF : yFr I I := yFr.rf
    refine y_iload_n rfl rfl ?_
    refine y_iconst rfl ?_
    refine y_icmp_ge rfl j_X0_endDay_29 (fun h_1 => ?_) (fun h_2 => ?_)
    · rw [yz_5] at h_1
      refine y_aload_n rfl rfl ?_
      refine y_getR rfl (ySh.t hS rfl) (ySh.n hS rfl) rfl rfl (ySh.r hS rfl) ?_
      refine y_iload_n rfl rfl ?_
      refine y_iload_n rfl rfl ?_
      refine y_i2b rfl ?_
      refine y_bastore rfl (ySh.t hS rfl) (ySh.n hS rfl) (Nat.le_of_ble_eq_true rfl) (by omega) (by omega) (vp_nar_b _) ?_
      refine y_nameI (fun I3 e3 => ?_)
      have hC : yCI I3 := by rw [e3]; exact hC
      have hF : yFr I I3 := by rw [e3]; exact hF.upd (by decide)
      refine y_return rfl ?_
      exact hQ _ hC hF (by rw [e3, show x2 = yQs I 5 from i0.trans (by rw [show x3.toInt.toNat = 5 by omega])])
    · rw [yz_5] at h_2
      refine y_aload_n rfl rfl ?_
      refine y_iload_n rfl rfl ?_
      refine y_virt rfl rfl rfl rfl rfl (ySh.t hS rfl) (ySh.n hS rfl) ?_
      refine sp_isAllowedNow hS (by omega) (by omega) (fun h_4 => ?_) (fun h_5 => ?_)
      · refine y_ret1 ?_
        refine y_if_eqF rfl (by decide) ?_
        refine y_iload_n rfl rfl ?_
        refine y_iconst rfl ?_
        refine y_iload_n rfl rfl ?_
        refine y_ishl rfl ?_
        refine y_ior rfl ?_
        refine y_istore_n (ls' := [some _, some _, some _, some _]) rfl rfl rfl ?_
        refine y_iinc (ls' := [some _, some _, some _, some _]) rfl rfl rfl rfl ?_
        refine y_goto rfl j_X0_endDay_4 ?_
        exact ih _ _ (yQs_nx (by omega) i0 (by first | exact (if_pos (by omega)).symm | exact (if_neg (by omega)).symm)) (by first | omega | (rw [yinc (by omega)]; omega)) (by first | omega | (rw [yinc (by omega)]; omega)) (by first | omega | (rw [yinc (by omega)]; omega))
      · refine y_ret1 ?_
        refine y_if_eqT rfl j_X0_endDay_23 (by decide) ?_
        refine y_iinc (ls' := [some _, some _, some _, some _]) rfl rfl rfl rfl ?_
        refine y_goto rfl j_X0_endDay_4 ?_
        exact ih _ _ (yQs_nx (by omega) i0 (by first | exact (if_pos (by omega)).symm | exact (if_neg (by omega)).symm)) (by first | omega | (rw [yinc (by omega)]; omega)) (by first | omega | (rw [yinc (by omega)]; omega)) (by first | omega | (rw [yinc (by omega)]; omega))
theorem sx_endDay0 (hS : ySh n tg R) (hC : yCI I) {x1 : Int32} (hv0 : 0 ≤ x1.toInt) (hv1 : x1.toInt < 4001) (hQ : ∀ I1, yCI I1 → yFr I I1 → I1 = upd2 I 37 x1.toInt.toNat (yQs I 5).toInt8.toInt32 → Q (.inl none) (n, tg, I1, R) c s) : yC 39 [.ref 35, .int x1] (n, tg, I, R) c s Q := by
  refine y_in (M := xm_X0_endDay) (ls := [some _, some _, _, _]) rfl rfl rfl ?_
  refine y_iconst rfl ?_
  refine y_istore_n (ls' := [some _, some _, some _, _]) rfl rfl rfl ?_
  refine y_iconst rfl ?_
  refine y_istore_n (ls' := [some _, some _, some _, some _]) rfl rfl rfl ?_
  exact lx_endDay0 hS hC hv0 hv1 hQ 100 _ _ rfl (by decide) (by decide) (by decide)
theorem lp_x_endDay3 {I0 : Nat → Nat → Int32} (hS : ySh n tg R) (hQ : ∀ I1, yCI I1 → yFr I0 I1 → I1 = yRec yWeS I0 8 → Q (.inl none) (n, tg, I1, R) c s) : ∀ (m : Nat) (x1 : Int32) (I : Nat → Nat → Int32), yCI I → yFr I0 I → I = yRec yWeS I0 x1.toInt.toNat → (0 ≤ x1.toInt) → (x1.toInt ≤ 8) → 8 - x1.toInt < m → yW xm_X3_endDay xc_X3_endDay_2 [some (.ref 74), some (.int x1)] [] (n, tg, I, R) c s Q := by
  intro m
  induction m with
  | zero => intro x1 I hC hF0 hI i0 i1 hm; exfalso; omega
  | succ m ih =>
    intro x1 I hC hF0 hI i0 i1 hm
    have hF : yFr I I := yFr.rf
    refine y_iload_n rfl rfl ?_
    refine y_bip rfl (by decide) ?_
    refine y_icmp_ge rfl j_X3_endDay_29 (fun h_1 => ?_) (fun h_2 => ?_)
    · rw [yz_8] at h_1
      refine y_return rfl ?_
      exact hQ _ hC hF0 (by rw [show (8 : Nat) = x1.toInt.toNat by omega]; exact hI)
    · rw [yz_8] at h_2
      refine y_aload_n rfl rfl ?_
      refine y_getR rfl (ySh.t hS rfl) (ySh.n hS rfl) rfl rfl (ySh.r hS rfl) ?_
      refine y_iload_n rfl rfl ?_
      refine y_dup2 rfl rfl rfl ?_
      refine y_ialoadv (J := I 76) rfl (ySh.t hS rfl) (ySh.n hS rfl) (by omega) (by omega) rfl ?_
      refine y_aload_n rfl rfl ?_
      refine y_getR rfl (ySh.t hS rfl) (ySh.n hS rfl) rfl rfl (ySh.r hS rfl) ?_
      refine y_iload_n rfl rfl ?_
      refine y_ialoadv (J := I 75) rfl (ySh.t hS rfl) (ySh.n hS rfl) (by omega) (by omega) rfl ?_
      refine y_iadd rfl ?_
      refine y_iastore rfl (ySh.t hS rfl) (ySh.n hS rfl) (Nat.le_of_ble_eq_true rfl) (by omega) (by omega) ?_
      refine y_nameI (fun I3 e3 => ?_)
      have hC : yCI I3 := by rw [e3]; exact hC
      have hF : yFr I I3 := by rw [e3]; exact hF.upd (by decide)
      refine y_iinc (ls' := [some _, some _]) rfl rfl rfl rfl ?_
      refine y_goto rfl j_X3_endDay_2 ?_
      exact ih _ _ hC (hF0.trans hF) (yRec_nx (by omega) hI (by rw [e3]; exact rfl)) (by first | omega | (rw [yinc (by omega)]; omega)) (by first | omega | (rw [yinc (by omega)]; omega)) (by first | omega | (rw [yinc (by omega)]; omega))
theorem sx_endDay3 (hS : ySh n tg R) (hC : yCI I) (hQ : ∀ I1, yCI I1 → yFr I I1 → I1 = yRec yWeS I 8 → Q (.inl none) (n, tg, I1, R) c s) : yC 60 [.ref 74] (n, tg, I, R) c s Q := by
  refine y_in (M := xm_X3_endDay) (ls := [some _, _]) rfl rfl rfl ?_
  refine y_iconst rfl ?_
  refine y_istore_n (ls' := [some _, some _]) rfl rfl rfl ?_
  exact lp_x_endDay3 hS hQ 100 _ _ hC yFr.rf rfl (by decide) (by decide) (by decide)
theorem lp_x_collect {I0 : Nat → Nat → Int32} (hS : ySh n tg R) (hQ : ∀ I1, yCI I1 → yFr I0 I1 → I1 = yRec yCoS I0 (I0 59 0).toInt.toNat → Q (.inl none) (n, tg, I1, R) c s) : ∀ (m : Nat) (x1 : Int32) (I : Nat → Nat → Int32), yCI I → yFr I0 I → I = yRec yCoS I0 x1.toInt.toNat → ((I 59 0).toInt = (I0 59 0).toInt) → (0 ≤ x1.toInt) → (x1.toInt ≤ (I0 59 0).toInt) → (I0 59 0).toInt - x1.toInt < m → yW xm_X8_collectRents xc_X8_collectRents_2 [some (.ref 34), some (.int x1), none] [] (n, tg, I, R) c s Q := by
  intro m
  induction m with
  | zero => intro x1 I hC hF0 hI i0 i1 i2 hm; exfalso; omega
  | succ m ih =>
    intro x1 I hC hF0 hI i0 i1 i2 hm
    have hF : yFr I I := yFr.rf
    refine y_iload_n rfl rfl ?_
    refine y_aload_n rfl rfl ?_
    refine y_getR rfl (ySh.t hS rfl) (ySh.n hS rfl) rfl rfl (ySh.r hS rfl) ?_
    refine y_getIv (v := I 59 0) rfl (ySh.t hS rfl) (ySh.n hS rfl) rfl rfl rfl ?_
    refine y_icmp_ge rfl j_X8_collectRents_66 (fun h_1 => ?_) (fun h_2 => ?_)
    · refine y_return rfl ?_
      exact hQ _ hC hF0 (by rw [show (I0 59 0).toInt.toNat = x1.toInt.toNat by omega]; exact hI)
    · refine y_aload_n rfl rfl ?_
      refine y_getR rfl (ySh.t hS rfl) (ySh.n hS rfl) rfl rfl (ySh.r hS rfl) ?_
      refine y_iload_n rfl rfl ?_
      refine y_aload_n rfl rfl ?_
      refine y_getIv (v := I 34 8) rfl (ySh.t hS rfl) (ySh.n hS rfl) rfl rfl rfl ?_
      refine y_virt rfl rfl rfl rfl rfl (ySh.t hS rfl) (ySh.n hS rfl) ?_
      refine y_in (M := xm_X2_isDue) (ls := [some _, some _, some _]) rfl rfl rfl ?_
      refine y_aload_n rfl rfl ?_
      refine y_getR rfl (ySh.t hS rfl) (ySh.n hS rfl) rfl rfl (ySh.r hS rfl) ?_
      refine y_iload_n rfl rfl ?_
      refine y_baloadv (J := I 65) rfl (ySh.t hS rfl) rfl (ySh.n hS rfl) (by omega) (by omega) rfl ?_
      refine y_if_ne rfl j_X2_isDue_23 (fun h_3 => ?_) (fun h_4 => ?_)
      · refine y_iconst rfl ?_
        refine y_ireturn rfl rfl rfl ?_
        refine y_ret1 ?_
        refine y_if_eqT rfl j_X8_collectRents_60 (by decide) ?_
        refine y_iinc (ls' := [some _, some _, _]) rfl rfl rfl rfl ?_
        refine y_goto rfl j_X8_collectRents_2 ?_
        exact ih _ _ hC (hF0.trans hF) (yRec_nx (by omega) hI (by exact (if_neg (by omega)).symm)) ((congrArg Int32.toInt rfl).trans i0) (by first | omega | (rw [yinc (by omega)]; omega)) (by first | omega | (rw [yinc (by omega)]; omega)) (by first | omega | (rw [yinc (by omega)]; omega))
      · refine y_aload_n rfl rfl ?_
        refine y_getR rfl (ySh.t hS rfl) (ySh.n hS rfl) rfl rfl (ySh.r hS rfl) ?_
        refine y_iload_n rfl rfl ?_
        refine y_ialoadv (J := I 66) rfl (ySh.t hS rfl) (ySh.n hS rfl) (by omega) (by omega) rfl ?_
        refine y_iload_n rfl rfl ?_
        refine y_icmp_ne rfl j_X2_isDue_23 (fun h_5 => ?_) (fun h_6 => ?_)
        · refine y_iconst rfl ?_
          refine y_ireturn rfl rfl rfl ?_
          refine y_ret1 ?_
          refine y_if_eqT rfl j_X8_collectRents_60 (by decide) ?_
          refine y_iinc (ls' := [some _, some _, _]) rfl rfl rfl rfl ?_
          refine y_goto rfl j_X8_collectRents_2 ?_
          exact ih _ _ hC (hF0.trans hF) (yRec_nx (by omega) hI (by exact (if_neg (by omega)).symm)) ((congrArg Int32.toInt rfl).trans i0) (by first | omega | (rw [yinc (by omega)]; omega)) (by first | omega | (rw [yinc (by omega)]; omega)) (by first | omega | (rw [yinc (by omega)]; omega))
        · refine y_iconst rfl ?_
          refine y_goto rfl j_X2_isDue_24 ?_
          refine y_ireturn rfl rfl rfl ?_
          refine y_ret1 ?_
          refine y_if_eqF rfl (by decide) ?_
          refine y_aload_n rfl rfl ?_
          refine y_getR rfl (ySh.t hS rfl) (ySh.n hS rfl) rfl rfl (ySh.r hS rfl) ?_
          refine y_iload_n rfl rfl ?_
          refine y_aload_n rfl rfl ?_
          refine y_getIv (v := I 34 9) rfl (ySh.t hS rfl) (ySh.n hS rfl) rfl rfl rfl ?_
          refine y_virt rfl rfl rfl rfl rfl (ySh.t hS rfl) (ySh.n hS rfl) ?_
          refine y_in (M := xm_X2_collect) (ls := [some _, some _, some _, _, _]) rfl rfl rfl ?_
          refine y_iload_n rfl rfl ?_
          refine y_aload_n rfl rfl ?_
          refine y_getR rfl (ySh.t hS rfl) (ySh.n hS rfl) rfl rfl (ySh.r hS rfl) ?_
          refine y_iload_n rfl rfl ?_
          refine y_ialoadv (J := I 63) rfl (ySh.t hS rfl) (ySh.n hS rfl) (by omega) (by omega) rfl ?_
          refine y_max rfl rfl ?_
          refine y_aload_n rfl rfl ?_
          refine y_getR rfl (ySh.t hS rfl) (ySh.n hS rfl) rfl rfl (ySh.r hS rfl) ?_
          refine y_iload_n rfl rfl ?_
          refine y_ialoadv (J := I 64) rfl (ySh.t hS rfl) (ySh.n hS rfl) (by omega) (by omega) rfl ?_
          refine y_min rfl rfl ?_
          refine y_istore_n (ls' := [some _, some _, some _, some _, _]) rfl rfl rfl ?_
          refine y_aload_n rfl rfl ?_
          refine y_getR rfl (ySh.t hS rfl) (ySh.n hS rfl) rfl rfl (ySh.r hS rfl) ?_
          refine y_iload_n rfl rfl ?_
          refine y_ialoadv (J := I 61) rfl (ySh.t hS rfl) (ySh.n hS rfl) (by omega) (by omega) rfl ?_
          refine y_iload_n rfl rfl ?_
          refine y_imul rfl ?_
          refine y_sip rfl (by decide) ?_
          refine y_idiv rfl (by decide) ?_
          refine y_istore (ls' := [some _, some _, some _, some _, some _]) rfl rfl rfl ?_
          refine y_aload_n rfl rfl ?_
          refine y_getR rfl (ySh.t hS rfl) (ySh.n hS rfl) rfl rfl (ySh.r hS rfl) ?_
          refine y_iload_n rfl rfl ?_
          refine y_dup2 rfl rfl rfl ?_
          refine y_ialoadv (J := I 66) rfl (ySh.t hS rfl) (ySh.n hS rfl) (by omega) (by omega) rfl ?_
          refine y_bip rfl (by decide) ?_
          refine y_iadd rfl ?_
          refine y_iastore rfl (ySh.t hS rfl) (ySh.n hS rfl) (Nat.le_of_ble_eq_true rfl) (by omega) (by omega) ?_
          refine y_nameI (fun I7 e7 => ?_)
          have hC : yCI I7 := by rw [e7]; exact hC
          have hF : yFr I I7 := by rw [e7]; exact hF.upd (by decide)
          refine y_aload_n rfl rfl ?_
          refine y_getR rfl (ySh.t hS rfl) (ySh.n hS rfl) rfl rfl (ySh.r hS rfl) ?_
          refine y_iload_n rfl rfl ?_
          refine y_dup2 rfl rfl rfl ?_
          refine y_ialoadv (J := I 67) rfl (ySh.t hS rfl) (ySh.n hS rfl) (by omega) (by omega) (by rw [e7, upd2_row (by decide)]) ?_
          refine y_iconst rfl ?_
          refine y_iadd rfl ?_
          refine y_iastore rfl (ySh.t hS rfl) (ySh.n hS rfl) (Nat.le_of_ble_eq_true rfl) (by omega) (by omega) ?_
          refine y_nameI (fun I8 e8 => ?_)
          have hC : yCI I8 := by rw [e8]; exact hC
          have hF : yFr I I8 := by rw [e8]; exact hF.upd (by decide)
          refine y_aload_n rfl rfl ?_
          refine y_getR rfl (ySh.t hS rfl) (ySh.n hS rfl) rfl rfl (ySh.r hS rfl) ?_
          refine y_iload_n rfl rfl ?_
          refine y_dup2 rfl rfl rfl ?_
          refine y_ialoadv (J := I 68) rfl (ySh.t hS rfl) (ySh.n hS rfl) (by omega) (by omega) (by rw [e8, upd2_row (by decide), e7, upd2_row (by decide)]) ?_
          refine y_iload rfl rfl ?_
          refine y_iadd rfl ?_
          refine y_iastore rfl (ySh.t hS rfl) (ySh.n hS rfl) (Nat.le_of_ble_eq_true rfl) (by omega) (by omega) ?_
          refine y_nameI (fun I9 e9 => ?_)
          have hC : yCI I9 := by rw [e9]; exact hC
          have hF : yFr I I9 := by rw [e9]; exact hF.upd (by decide)
          refine y_iload rfl rfl ?_
          refine y_ireturn rfl rfl rfl ?_
          refine y_ret1 ?_
          refine y_istore_n (ls' := [some _, some _, some _]) rfl rfl rfl ?_
          refine y_aload_n rfl rfl ?_
          refine y_getR rfl (ySh.t hS rfl) (ySh.n hS rfl) rfl rfl (ySh.r hS rfl) ?_
          refine y_aload_n rfl rfl ?_
          refine y_getR rfl (ySh.t hS rfl) (ySh.n hS rfl) rfl rfl (ySh.r hS rfl) ?_
          refine y_getR rfl (ySh.t hS rfl) (ySh.n hS rfl) rfl rfl (ySh.r hS rfl) ?_
          refine y_iload_n rfl rfl ?_
          refine y_ialoadv (J := I 62) rfl (ySh.t hS rfl) (ySh.n hS rfl) (by omega) (by omega) (by rw [e9, upd2_row (by decide), e8, upd2_row (by decide), e7, upd2_row (by decide)]) ?_
          refine y_bip rfl (by decide) ?_
          refine y_iload_n rfl rfl ?_
          refine y_virt rfl rfl rfl rfl rfl (ySh.t hS rfl) (ySh.n hS rfl) ?_
          refine y_in (M := xm_X4_move) (ls := [some _, some _, some _, some _]) rfl rfl rfl ?_
          refine y_aload_n rfl rfl ?_
          refine y_iload_n rfl rfl ?_
          refine y_iload_n rfl rfl ?_
          refine y_ineg rfl ?_
          refine y_virt rfl rfl rfl rfl rfl (ySh.t hS rfl) (ySh.n hS rfl) ?_
          refine spx_add hS ?_
          refine y_ret0 ?_
          refine y_nameI (fun I10 e10 => ?_)
          have hC : yCI I10 := by rw [e10]; exact yCI.addC hC
          have hF : yFr I I10 := by rw [e10]; exact hF.addC
          refine y_aload_n rfl rfl ?_
          refine y_iload_n rfl rfl ?_
          refine y_iload_n rfl rfl ?_
          refine y_virt rfl rfl rfl rfl rfl (ySh.t hS rfl) (ySh.n hS rfl) ?_
          refine spx_add hS ?_
          refine y_ret0 ?_
          refine y_nameI (fun I11 e11 => ?_)
          have hC : yCI I11 := by rw [e11]; exact yCI.addC hC
          have hF : yFr I I11 := by rw [e11]; exact hF.addC
          refine y_return rfl ?_
          refine y_ret0 ?_
          refine y_iinc (ls' := [some _, some _, some _]) rfl rfl rfl rfl ?_
          refine y_goto rfl j_X8_collectRents_2 ?_
          refine y_fgt (ls := [some _, some _, none]) ⟨rfl, rfl, trivial⟩ ?_
          exact ih _ _ hC (hF0.trans hF) (yRec_nx (by omega) hI (by rw [e11, e10, e9, e8, e7]; exact (if_pos (by omega)).symm)) ((congrArg Int32.toInt (by rw [e11, yAddC_row (by decide), e10, yAddC_row (by decide), e9, upd2_ne (.inl (by decide)), e8, upd2_ne (.inl (by decide)), e7, upd2_ne (.inl (by decide))])).trans i0) (by first | omega | (rw [yinc (by omega)]; omega)) (by first | omega | (rw [yinc (by omega)]; omega)) (by first | omega | (rw [yinc (by omega)]; omega))
theorem sx_collect (hS : ySh n tg R) (hC : yCI I) (hQ : ∀ I1, yCI I1 → yFr I I1 → I1 = yDyC I → Q (.inl none) (n, tg, I1, R) c s) : yC 171 [.ref 34] (n, tg, I, R) c s Q := by
  refine y_in (M := xm_X8_collectRents) (ls := [some _, _, _]) rfl rfl rfl ?_
  refine y_iconst rfl ?_
  refine y_istore_n (ls' := [some _, some _, _]) rfl rfl rfl ?_
  exact lp_x_collect hS hQ 100 _ _ hC yFr.rf rfl rfl (by decide) (by rw [yz_0]; omega) (by rw [yz_0]; omega)
theorem lp_x_alms {I0 : Nat → Nat → Int32} (hS : ySh n tg R) (hQ : ∀ I1, yCI I1 → yFr I0 I1 → I1 = yRec yAlS I0 (I0 38 0).toInt.toNat → Q (.inl none) (n, tg, I1, R) c s) : ∀ (m : Nat) (x1 : Int32) (I : Nat → Nat → Int32), yCI I → yFr I0 I → I = yRec yAlS I0 x1.toInt.toNat → ((I 38 0).toInt = (I0 38 0).toInt) → (0 ≤ x1.toInt) → (x1.toInt ≤ (I0 38 0).toInt) → (I0 38 0).toInt - x1.toInt < m → yW xm_X4_giveAlms xc_X4_giveAlms_2 [some (.ref 38), some (.int x1)] [] (n, tg, I, R) c s Q := by
  intro m
  induction m with
  | zero => intro x1 I hC hF0 hI i0 i1 i2 hm; exfalso; omega
  | succ m ih =>
    intro x1 I hC hF0 hI i0 i1 i2 hm
    have hF : yFr I I := yFr.rf
    refine y_iload_n rfl rfl ?_
    refine y_aload_n rfl rfl ?_
    refine y_getIv (v := I 38 0) rfl (ySh.t hS rfl) (ySh.n hS rfl) rfl rfl rfl ?_
    refine y_icmp_ge rfl j_X4_giveAlms_41 (fun h_1 => ?_) (fun h_2 => ?_)
    · refine y_return rfl ?_
      exact hQ _ hC hF0 (by rw [show (I0 38 0).toInt.toNat = x1.toInt.toNat by omega]; exact hI)
    · refine y_aload_n rfl rfl ?_
      refine y_getR rfl (ySh.t hS rfl) (ySh.n hS rfl) rfl rfl (ySh.r hS rfl) ?_
      refine y_iload_n rfl rfl ?_
      refine y_ialoadv (J := I 39) rfl (ySh.t hS rfl) (ySh.n hS rfl) (by omega) (by omega) rfl ?_
      refine y_bip rfl (by decide) ?_
      refine y_icmp_lt rfl j_X4_giveAlms_35 (fun h_3 => ?_) (fun h_4 => ?_)
      · rw [yz_85] at h_3
        refine y_iinc (ls' := [some _, some _]) rfl rfl rfl rfl ?_
        refine y_goto rfl j_X4_giveAlms_2 ?_
        exact ih _ _ hC (hF0.trans hF) (yRec_nx (by omega) hI (by exact (if_neg (by omega)).symm)) ((congrArg Int32.toInt rfl).trans i0) (by first | omega | (rw [yinc (by omega)]; omega)) (by first | omega | (rw [yinc (by omega)]; omega)) (by first | omega | (rw [yinc (by omega)]; omega))
      · rw [yz_85] at h_4
        refine y_aload_n rfl rfl ?_
        refine y_iload_n rfl rfl ?_
        refine y_aload_n rfl rfl ?_
        refine y_getR rfl (ySh.t hS rfl) (ySh.n hS rfl) rfl rfl (ySh.r hS rfl) ?_
        refine y_iload_n rfl rfl ?_
        refine y_ialoadv (J := I 39) rfl (ySh.t hS rfl) (ySh.n hS rfl) (by omega) (by omega) rfl ?_
        refine y_bip rfl (by decide) ?_
        refine y_idiv rfl (by decide) ?_
        refine y_virt rfl rfl rfl rfl rfl (ySh.t hS rfl) (ySh.n hS rfl) ?_
        refine y_in (M := xm_X4_giveAway) (ls := [some _, some _, some _]) rfl rfl rfl ?_
        refine y_aload_n rfl rfl ?_
        refine y_iload_n rfl rfl ?_
        refine y_iload_n rfl rfl ?_
        refine y_ineg rfl ?_
        refine y_virt rfl rfl rfl rfl rfl (ySh.t hS rfl) (ySh.n hS rfl) ?_
        refine spx_add hS ?_
        rw [yAddC, if_pos ⟨by omega, by omega⟩]
        refine y_ret0 ?_
        refine y_nameI (fun I5 e5 => ?_)
        have hC : yCI I5 := by rw [e5]; exact hC
        have hF : yFr I I5 := by rw [e5]; exact hF.upd (by decide)
        refine y_aload_n rfl rfl ?_
        refine y_dup rfl rfl ?_
        refine y_getIv (v := I 38 1) rfl (ySh.t hS rfl) (ySh.n hS rfl) rfl rfl (by rw [e5, upd2_ne (.inl (by decide))]) ?_
        refine y_iload_n rfl rfl ?_
        refine y_iadd rfl ?_
        refine y_putI rfl (ySh.t hS rfl) (ySh.n hS rfl) rfl (Nat.le_of_ble_eq_true rfl) rfl rfl ?_
        refine y_nameI (fun I6 e6 => ?_)
        have hC : yCI I6 := by rw [e6]; exact hC
        have hF : yFr I I6 := by rw [e6]; exact hF.upd (by decide)
        refine y_return rfl ?_
        refine y_ret0 ?_
        refine y_iinc (ls' := [some _, some _]) rfl rfl rfl rfl ?_
        refine y_goto rfl j_X4_giveAlms_2 ?_
        exact ih _ _ hC (hF0.trans hF) (yRec_nx (by omega) hI (by rw [e6, e5]; exact (if_pos (by omega)).symm)) ((congrArg Int32.toInt (by rw [e6, upd2_ne (.inr (by decide)), e5, upd2_ne (.inl (by decide))])).trans i0) (by first | omega | (rw [yinc (by omega)]; omega)) (by first | omega | (rw [yinc (by omega)]; omega)) (by first | omega | (rw [yinc (by omega)]; omega))
theorem sx_alms (hS : ySh n tg R) (hC : yCI I) (hQ : ∀ I1, yCI I1 → yFr I I1 → I1 = yRec yAlS I (I 38 0).toInt.toNat → Q (.inl none) (n, tg, I1, R) c s) : yC 74 [.ref 38] (n, tg, I, R) c s Q := by
  refine y_in (M := xm_X4_giveAlms) (ls := [some _, _]) rfl rfl rfl ?_
  refine y_iconst rfl ?_
  refine y_istore_n (ls' := [some _, some _]) rfl rfl rfl ?_
  exact lp_x_alms hS hQ 100 _ _ hC yFr.rf rfl rfl (by decide) (by rw [yz_0]; omega) (by rw [yz_0]; omega)
theorem lx_pass {I0 : Nat → Nat → Int32} (hS : ySh n tg R) {x1 : Int32} (hv0 : 1 ≤ x1.toInt) (hv1 : x1.toInt ≤ 400) (hT0 : (I0 34 8).toInt + x1.toInt ≤ 4000) (hQ : ∀ (v : Int32) (I1 : Nat → Nat → Int32), yCI I1 → yFt I0 I1 → v.toInt = (I0 34 8).toInt + x1.toInt → I1 = yRec yDy I0 x1.toInt.toNat → Q (.inl (some (.int v))) (n, tg, I1, R) c s) : ∀ (m : Nat) (x2 : Int32) (I : Nat → Nat → Int32), yCI I → yFt I0 I → I = yRec yDy I0 x2.toInt.toNat → 0 ≤ x2.toInt → x2.toInt ≤ x1.toInt → (I 34 8).toInt = (I0 34 8).toInt + x2.toInt → x1.toInt - x2.toInt < m → yW xm_X8_pass xc_X8_pass_47 [some (.ref 34), some (.int x1), some (.int x2)] [] (n, tg, I, R) c s Q := by
  intro m
  induction m with
  | zero => intro x2 I hC hF hI i0 i1 i2 hm; exfalso; omega
  | succ m ih =>
    intro x2 I hC hF hI i0 i1 i2 hm
    refine y_iload_n rfl rfl ?_
    refine y_iload_n rfl rfl ?_
    refine y_icmp_ge rfl j_X8_pass_108 (fun h_1 => ?_) (fun h_2 => ?_)
    · refine y_aload_n rfl rfl ?_
      refine y_getI rfl (ySh.t hS rfl) (ySh.n hS rfl) rfl rfl ?_
      refine y_ireturn rfl rfl rfl ?_
      exact hQ _ _ hC hF (by omega) (by rw [show x1.toInt.toNat = x2.toInt.toNat by omega]; exact hI)
    · refine y_aload_n rfl rfl ?_
      refine y_getR rfl (ySh.t hS rfl) (ySh.n hS rfl) rfl rfl (ySh.r hS rfl) ?_
      refine y_aload_n rfl rfl ?_
      refine y_getI rfl (ySh.t hS rfl) (ySh.n hS rfl) rfl rfl ?_
      refine y_virt rfl rfl rfl rfl rfl (ySh.t hS rfl) (ySh.n hS rfl) ?_
      refine sx_endDay0 hS hC (by omega) (by omega) (fun J3 hC hF1 e3 => ?_)
      have hF : yFt I0 J3 := yFt.trans (by repeat (first | exact hF | refine yFt.upd ?_ (by decide))) hF1.t
      have hd : (J3 34 8).toInt = (I 34 8).toInt := congrArg Int32.toInt (hF1 34 8 (Or.inl (by decide)))
      refine y_ret0 ?_
      refine y_aload_n rfl rfl ?_
      refine y_getR rfl (ySh.t hS rfl) (ySh.n hS rfl) rfl rfl (ySh.r hS rfl) ?_
      refine y_virt rfl rfl rfl rfl rfl (ySh.t hS rfl) (ySh.n hS rfl) ?_
      refine sx_endDay3 hS hC (fun J4 hC hF1 e4 => ?_)
      have hF : yFt I0 J4 := yFt.trans (by repeat (first | exact hF | refine yFt.upd ?_ (by decide))) hF1.t
      have hd : (J4 34 8).toInt = (J3 34 8).toInt := congrArg Int32.toInt (hF1 34 8 (Or.inl (by decide)))
      refine y_ret0 ?_
      refine y_aload_n rfl rfl ?_
      refine y_dup rfl rfl ?_
      refine y_getI rfl (ySh.t hS rfl) (ySh.n hS rfl) rfl rfl ?_
      refine y_iconst rfl ?_
      refine y_iadd rfl ?_
      refine y_putI rfl (ySh.t hS rfl) (ySh.n hS rfl) rfl (Nat.le_of_ble_eq_true rfl) rfl rfl ?_
      refine y_setC (yCI.inc34 hC (by show (J4 34 8).toInt < 4000; omega)) (fun hC => ?_)
      refine y_aload_n rfl rfl ?_
      refine y_virt rfl rfl rfl rfl rfl (ySh.t hS rfl) (ySh.n hS rfl) ?_
      refine y_setCC (by exact hC) (fun hC => ?_)
      refine sx_collect hS hC (fun J5 hC hF1 e5 => ?_)
      have hF : yFt I0 J5 := yFt.trans (by repeat (first | exact hF | refine yFt.upd ?_ (by decide))) hF1.t
      have hd : (J5 34 8).toInt = (J4 34 8).toInt + 1 := (congrArg Int32.toInt (hF1 34 8 (Or.inl (by decide)))).trans (yinc (by omega))
      refine y_ret0 ?_
      refine y_aload_n rfl rfl ?_
      refine y_getI rfl (ySh.t hS rfl) (ySh.n hS rfl) rfl rfl ?_
      refine y_sip rfl (by decide) ?_
      refine y_irem rfl (by decide) ?_
      refine y_if_ne rfl j_X8_pass_102 (fun h_6 => ?_) (fun h_7 => ?_)
      · have hal := h_6
        refine y_iinc (ls' := [some _, some _, some _]) rfl rfl rfl rfl ?_
        refine y_goto rfl j_X8_pass_47 ?_
        exact ih _ _ hC (by repeat (first | exact hF | refine yFt.upd ?_ (by decide))) (yRec_nx (by omega) hI (by show _ = yAlm (yDyC (yDyD (yDyB I))); rw [show yDyC (yDyD (yDyB I)) = J5 by rw [e5, e4, e3]; rfl]; exact (if_neg hal).symm)) (by first | omega | (rw [yinc (by omega)]; omega)) (by first | omega | (rw [yinc (by omega)]; omega)) (by first | omega | (rw [yinc (by omega)]; omega)) (by first | omega | (rw [yinc (by omega)]; omega))
      · have hal := h_7
        refine y_aload_n rfl rfl ?_
        refine y_getR rfl (ySh.t hS rfl) (ySh.n hS rfl) rfl rfl (ySh.r hS rfl) ?_
        refine y_virt rfl rfl rfl rfl rfl (ySh.t hS rfl) (ySh.n hS rfl) ?_
        refine sx_alms hS hC (fun J8 hC hF1 e8 => ?_)
        have hF : yFt I0 J8 := yFt.trans (by repeat (first | exact hF | refine yFt.upd ?_ (by decide))) hF1.t
        have hd : (J8 34 8).toInt = (J5 34 8).toInt := congrArg Int32.toInt (hF1 34 8 (Or.inl (by decide)))
        refine y_ret0 ?_
        refine y_iinc (ls' := [some _, some _, some _]) rfl rfl rfl rfl ?_
        refine y_goto rfl j_X8_pass_47 ?_
        exact ih _ _ hC (by repeat (first | exact hF | refine yFt.upd ?_ (by decide))) (yRec_nx (by omega) hI (by show _ = yAlm (yDyC (yDyD (yDyB I))); rw [show yDyC (yDyD (yDyB I)) = J5 by rw [e5, e4, e3]; rfl]; rw [e8]; exact (if_pos hal).symm)) (by first | omega | (rw [yinc (by omega)]; omega)) (by first | omega | (rw [yinc (by omega)]; omega)) (by first | omega | (rw [yinc (by omega)]; omega)) (by first | omega | (rw [yinc (by omega)]; omega))
theorem g_pass (hS : ySh n tg R) (hC : yCI I) {x1 : Int32} (hE1 : ¬ (1 ≤ x1.toInt ∧ x1.toInt ≤ 400) → Q (.inr "java/lang/IllegalArgumentException") (n, tg, I, R) (c + 1) (s + 6)) (hE2 : (1 ≤ x1.toInt ∧ x1.toInt ≤ 400) ∧ 4000 < (I 34 8).toInt + x1.toInt → Q (.inr "java/lang/IllegalStateException") (n, tg, I, R) (c + 1) (s + 6)) (hQ : (1 ≤ x1.toInt ∧ x1.toInt ≤ 400) ∧ (I 34 8).toInt + x1.toInt ≤ 4000 → ∀ (v : Int32) (I1 : Nat → Nat → Int32), yCI I1 → yFt I I1 → v.toInt = (I 34 8).toInt + x1.toInt → I1 = yRec yDy I x1.toInt.toNat → Q (.inl (some (.int v))) (n, tg, I1, R) c s) : yC 141 [.ref 34, .int x1] (n, tg, I, R) c s Q := by
  have hF : yFt I I := yFt.rf
  refine y_in (M := xm_X8_pass) (ls := [some _, some _, _]) rfl rfl rfl ?_
  refine y_iload_n rfl rfl ?_
  refine y_iconst rfl ?_
  refine y_sip rfl (by decide) ?_
  refine y_static rfl rfl rfl rfl rfl ?_
  refine y_in (M := xm_X8_isIn) (ls := [some _, some _, some _]) rfl rfl rfl ?_
  refine y_iload_n rfl rfl ?_
  refine y_iload_n rfl rfl ?_
  refine y_icmp_lt rfl j_X8_isIn_14 (fun h_1 => ?_) (fun h_2 => ?_)
  · rw [yz_1] at h_1
    refine y_iconst rfl ?_
    refine y_ireturn rfl rfl rfl ?_
    refine y_ret1 ?_
    refine y_if_neF rfl (by decide) ?_
    refine y_throw rfl rfl rfl ?_
    exact hE1 (by omega)
  · rw [yz_1] at h_2
    refine y_iload_n rfl rfl ?_
    refine y_iload_n rfl rfl ?_
    refine y_icmp_gt rfl j_X8_isIn_14 (fun h_3 => ?_) (fun h_4 => ?_)
    · rw [yz_400] at h_3
      refine y_iconst rfl ?_
      refine y_ireturn rfl rfl rfl ?_
      refine y_ret1 ?_
      refine y_if_neF rfl (by decide) ?_
      refine y_throw rfl rfl rfl ?_
      exact hE1 (by omega)
    · rw [yz_400] at h_4
      refine y_iconst rfl ?_
      refine y_goto rfl j_X8_isIn_15 ?_
      refine y_ireturn rfl rfl rfl ?_
      refine y_ret1 ?_
      refine y_if_neT rfl j_X8_pass_22 (by decide) ?_
      refine y_aload_n rfl rfl ?_
      refine y_getI rfl (ySh.t hS rfl) (ySh.n hS rfl) rfl rfl ?_
      refine y_iload_n rfl rfl ?_
      refine y_iadd rfl ?_
      refine y_sip rfl (by decide) ?_
      refine y_icmp_le rfl j_X8_pass_45 (fun h_5 => ?_) (fun h_6 => ?_)
      · rw [yz_4000] at h_5
        rw [yadd (by omega) (by omega)] at h_5
        refine y_iconst rfl ?_
        refine y_istore_n (ls' := [some _, some _, some _]) rfl rfl rfl ?_
        exact lx_pass hS (by omega) (by omega) (by omega) (hQ (by omega)) 1000 _ _ hC yFt.rf rfl (by decide) (by rw [yz_0]; omega) (by rw [yz_0]; omega) (by rw [yz_0]; omega)
      · rw [yz_4000] at h_6
        rw [yadd (by omega) (by omega)] at h_6
        refine y_throw rfl rfl rfl ?_
        exact hE2 (by omega)
end YXD
