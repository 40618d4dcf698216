/-! THE CLASS'S VENTURES, EXACTLY (by ex7v.py) -/
/-- a place of a venture -/
def yAtI (v p : Int32) : Int32 := Int32.ofInt (v.toInt * 9 + p.toInt)
theorem yAtI_v {v p : Int32} (h0 : 0 ≤ v.toInt) (h1 : v.toInt < 6) (h2 : 0 ≤ p.toInt) (h3 : p.toInt < 9) : (yAtI v p).toInt = v.toInt * 9 + p.toInt := by
  unfold yAtI
  exact Int32.toInt_ofInt_of_le (by omega) (by omega)
def ySeat (p : Int32) : Int32 := if p.toInt = -1 then Int32.ofInt 8 else p
/-- a sum over a venture's places -/
def yVs (I : Nat → Nat → Int32) (a : Nat) (v : Int32) : Int32 := yFz (fun j => I a (v.toInt.toNat * 9 + j)) 9
section YXV
variable {n : Nat} {tg : Nat → yT} {I : Nat → Nat → Int32} {R : Nat → Nat → Value} {c s : Nat} {Q : yQ}
theorem spx_at {v p : Int32} {st : yS} (h0 : 0 ≤ v.toInt) (h1 : v.toInt < 6) (h2 : 0 ≤ p.toInt) (h3 : p.toInt < 9) (hQ : (yAtI v p).toInt = v.toInt * 9 + p.toInt → Q (.inl (some (.int (yAtI v p)))) st c s) : yC 107 [.ref 69, .int v, .int p] st c s Q := by
  refine sp_at h0 h1 h2 h3 (fun z hz => ?_)
  have e := yAtI_v h0 h1 h2 h3
  rw [show z = yAtI v p from yext (by rw [hz, e])]
  exact hQ e
theorem lp_sharesX (hS : ySh n tg R) {x1 : Int32} (hv0 : 0 ≤ x1.toInt) (hv1 : x1.toInt < 6) (hQ : ∀ v : Int32, v = yVs I 72 x1 → Q (.inl (some (.int v))) (n, tg, I, R) c s) : ∀ (m : Nat) (x2 : Int32) (x3 : Int32), (0 ≤ x3.toInt) → (x3.toInt ≤ 9) → (x2 = yFz (fun j => I 72 (x1.toInt.toNat * 9 + j)) x3.toInt.toNat) → 9 - x3.toInt < m → yW xm_X7_shares xc_X7_shares_4 [some (.ref 69), some (.int x1), some (.int x2), some (.int x3)] [] (n, tg, I, R) c s Q := by
  intro m
  induction m with
  | zero => intro x2 x3 i0 i1 i2 hm; exfalso; omega
  | succ m ih =>
    intro x2 x3 i0 i1 i2 hm
    refine y_iload_n rfl rfl ?_
    refine y_bip rfl (by decide) ?_
    refine y_icmp_ge rfl j_X7_shares_25 (fun h_1 => ?_) (fun h_2 => ?_)
    · rw [yz_9] at h_1
      refine y_iload_n rfl rfl ?_
      refine y_ireturn rfl rfl rfl ?_
      exact hQ _ (by have h9 : x3.toInt.toNat = 9 := (by omega); rw [h9] at i2; exact i2)
    · rw [yz_9] at h_2
      refine y_iload_n rfl rfl ?_
      refine y_aload_n rfl rfl ?_
      refine y_iload_n rfl rfl ?_
      refine y_iload_n rfl rfl ?_
      refine y_virt rfl rfl rfl rfl rfl (ySh.t hS rfl) (ySh.n hS rfl) ?_
      refine y_in (M := xm_X7_shareOf) (ls := [some _, some _, some _]) rfl rfl rfl ?_
      refine y_aload_n rfl rfl ?_
      refine y_getR rfl (ySh.t hS rfl) (ySh.n hS rfl) rfl rfl (ySh.r hS rfl) ?_
      refine y_aload_n rfl rfl ?_
      refine y_iload_n rfl rfl ?_
      refine y_iload_n rfl rfl ?_
      refine y_virt rfl rfl rfl rfl rfl (ySh.t hS rfl) (ySh.n hS rfl) ?_
      refine spx_at (by omega) (by omega) (by omega) (by omega) (fun hz3 => ?_)
      refine y_ret1 ?_
      refine y_iaload rfl (ySh.t hS rfl) (ySh.n hS rfl) (by omega) (by omega) ?_
      refine y_ireturn rfl rfl rfl ?_
      refine y_ret1 ?_
      refine y_iadd rfl ?_
      refine y_istore_n (ls' := [some _, some _, some _, some _]) rfl rfl rfl ?_
      refine y_iinc (ls' := [some _, some _, some _, some _]) rfl rfl rfl rfl ?_
      refine y_goto rfl j_X7_shares_4 ?_
      exact ih _ _ (by first | omega | (rw [yinc (by omega)]; omega)) (by first | omega | (rw [yinc (by omega)]; omega)) (yFs_nx (by omega) (by assumption) (congrArg (I 72) (by omega))) (by first | omega | (rw [yinc (by omega)]; omega))
theorem sx_shares (hS : ySh n tg R) {x1 : Int32} (hv0 : 0 ≤ x1.toInt) (hv1 : x1.toInt < 6) (hQ : ∀ v : Int32, v = yVs I 72 x1 → Q (.inl (some (.int v))) (n, tg, I, R) c s) : yC 117 [.ref 69, .int x1] (n, tg, I, R) c s Q := by
  refine y_in (M := xm_X7_shares) (ls := [some _, some _, _, _]) rfl rfl rfl ?_
  refine y_iconst rfl ?_
  refine y_istore_n (ls' := [some _, some _, some _, _]) rfl rfl rfl ?_
  refine y_iconst rfl ?_
  refine y_istore_n (ls' := [some _, some _, some _, some _]) rfl rfl rfl ?_
  exact lp_sharesX hS hv0 hv1 hQ 100 _ _ (by decide) (by decide) rfl (by decide)
theorem lp_capitalsX (hS : ySh n tg R) {x1 : Int32} (hv0 : 0 ≤ x1.toInt) (hv1 : x1.toInt < 6) (hQ : ∀ v : Int32, v = yVs I 71 x1 → Q (.inl (some (.int v))) (n, tg, I, R) c s) : ∀ (m : Nat) (x2 : Int32) (x3 : Int32), (0 ≤ x3.toInt) → (x3.toInt ≤ 9) → (x2 = yFz (fun j => I 71 (x1.toInt.toNat * 9 + j)) x3.toInt.toNat) → 9 - x3.toInt < m → yW xm_X7_capitals xc_X7_capitals_4 [some (.ref 69), some (.int x1), some (.int x2), some (.int x3)] [] (n, tg, I, R) c s Q := by
  intro m
  induction m with
  | zero => intro x2 x3 i0 i1 i2 hm; exfalso; omega
  | succ m ih =>
    intro x2 x3 i0 i1 i2 hm
    refine y_iload_n rfl rfl ?_
    refine y_bip rfl (by decide) ?_
    refine y_icmp_ge rfl j_X7_capitals_25 (fun h_1 => ?_) (fun h_2 => ?_)
    · rw [yz_9] at h_1
      refine y_iload_n rfl rfl ?_
      refine y_ireturn rfl rfl rfl ?_
      exact hQ _ (by have h9 : x3.toInt.toNat = 9 := (by omega); rw [h9] at i2; exact i2)
    · rw [yz_9] at h_2
      refine y_iload_n rfl rfl ?_
      refine y_aload_n rfl rfl ?_
      refine y_iload_n rfl rfl ?_
      refine y_iload_n rfl rfl ?_
      refine y_virt rfl rfl rfl rfl rfl (ySh.t hS rfl) (ySh.n hS rfl) ?_
      refine y_in (M := xm_X7_capitalOf) (ls := [some _, some _, some _]) rfl rfl rfl ?_
      refine y_aload_n rfl rfl ?_
      refine y_getR rfl (ySh.t hS rfl) (ySh.n hS rfl) rfl rfl (ySh.r hS rfl) ?_
      refine y_aload_n rfl rfl ?_
      refine y_iload_n rfl rfl ?_
      refine y_iload_n rfl rfl ?_
      refine y_virt rfl rfl rfl rfl rfl (ySh.t hS rfl) (ySh.n hS rfl) ?_
      refine spx_at (by omega) (by omega) (by omega) (by omega) (fun hz3 => ?_)
      refine y_ret1 ?_
      refine y_iaload rfl (ySh.t hS rfl) (ySh.n hS rfl) (by omega) (by omega) ?_
      refine y_ireturn rfl rfl rfl ?_
      refine y_ret1 ?_
      refine y_iadd rfl ?_
      refine y_istore_n (ls' := [some _, some _, some _, some _]) rfl rfl rfl ?_
      refine y_iinc (ls' := [some _, some _, some _, some _]) rfl rfl rfl rfl ?_
      refine y_goto rfl j_X7_capitals_4 ?_
      exact ih _ _ (by first | omega | (rw [yinc (by omega)]; omega)) (by first | omega | (rw [yinc (by omega)]; omega)) (yFs_nx (by omega) (by assumption) (congrArg (I 71) (by omega))) (by first | omega | (rw [yinc (by omega)]; omega))
theorem sx_capitals (hS : ySh n tg R) {x1 : Int32} (hv0 : 0 ≤ x1.toInt) (hv1 : x1.toInt < 6) (hQ : ∀ v : Int32, v = yVs I 71 x1 → Q (.inl (some (.int v))) (n, tg, I, R) c s) : yC 116 [.ref 69, .int x1] (n, tg, I, R) c s Q := by
  refine y_in (M := xm_X7_capitals) (ls := [some _, some _, _, _]) rfl rfl rfl ?_
  refine y_iconst rfl ?_
  refine y_istore_n (ls' := [some _, some _, some _, _]) rfl rfl rfl ?_
  refine y_iconst rfl ?_
  refine y_istore_n (ls' := [some _, some _, some _, some _]) rfl rfl rfl ?_
  exact lp_capitalsX hS hv0 hv1 hQ 100 _ _ (by decide) (by decide) rfl (by decide)
theorem g_join (hS : ySh n tg R) (hC : yCI I) {x1 x2 x3 x4 : Int32} (hE0 : ¬ ((0 ≤ x1.toInt ∧ x1.toInt < (I 69 0).toInt) ∧ (x2.toInt = -1 ∨ 0 ≤ x2.toInt ∧ x2.toInt < (I 38 0).toInt)) → Q (.inr "java/lang/IndexOutOfBoundsException") (n, tg, I, R) (c + 1) (s + 6)) (hE1 : ((0 ≤ x1.toInt ∧ x1.toInt < (I 69 0).toInt) ∧ (x2.toInt = -1 ∨ 0 ≤ x2.toInt ∧ x2.toInt < (I 38 0).toInt)) ∧ ¬ ((1 ≤ x3.toInt ∧ x3.toInt ≤ 999) ∧ (0 ≤ x4.toInt ∧ x4.toInt ≤ 100)) → Q (.inr "java/lang/IllegalArgumentException") (n, tg, I, R) (c + 1) (s + 6)) (hE2 : ((0 ≤ x1.toInt ∧ x1.toInt < (I 69 0).toInt) ∧ (x2.toInt = -1 ∨ 0 ≤ x2.toInt ∧ x2.toInt < (I 38 0).toInt)) ∧ ((1 ≤ x3.toInt ∧ x3.toInt ≤ 999) ∧ (0 ≤ x4.toInt ∧ x4.toInt ≤ 100)) ∧ ¬ ((I 70 (yAtI x1 (ySeat x2)).toInt.toNat).toInt = 0 ∧ x3.toInt ≤ (I 39 (ySeat x2).toInt.toNat).toInt ∧ (yVs I 72 x1 + x4).toInt ≤ 100) → Q (.inr "java/lang/IllegalStateException") (n, tg, I, R) (c + 1) (s + 6)) (hQ : ((0 ≤ x1.toInt ∧ x1.toInt < (I 69 0).toInt) ∧ (x2.toInt = -1 ∨ 0 ≤ x2.toInt ∧ x2.toInt < (I 38 0).toInt)) ∧ ((1 ≤ x3.toInt ∧ x3.toInt ≤ 999) ∧ (0 ≤ x4.toInt ∧ x4.toInt ≤ 100)) ∧ ((I 70 (yAtI x1 (ySeat x2)).toInt.toNat).toInt = 0 ∧ x3.toInt ≤ (I 39 (ySeat x2).toInt.toNat).toInt ∧ (yVs I 72 x1 + x4).toInt ≤ 100) → ∀ (v : Int32) (I1 : Nat → Nat → Int32), yCI I1 → yFt I I1 → v = yVs I1 72 x1 → I1 = (upd2 (upd2 (upd2 (yAddC I (ySeat x2) (-x3)) 70 (yAtI x1 (ySeat x2)).toInt.toNat (Int32.ofInt 1)) 71 (yAtI x1 (ySeat x2)).toInt.toNat x3) 72 (yAtI x1 (ySeat x2)).toInt.toNat x4) → Q (.inl (some (.int v))) (n, tg, I1, R) c s) : yC 133 [.ref 34, .int x1, .int x2, .int x3, .int x4] (n, tg, I, R) c s Q := by
  have hF : yFt I I := yFt.rf
  refine y_in (M := xm_X8_join) (ls := [some _, some _, some _, some _, some _, _]) rfl rfl rfl ?_
  refine y_aload_n rfl rfl ?_
  refine y_getR rfl (ySh.t hS rfl) (ySh.n hS rfl) rfl rfl (ySh.r hS rfl) ?_
  refine y_iload_n rfl rfl ?_
  refine y_virt rfl rfl rfl rfl rfl (ySh.t hS rfl) (ySh.n hS rfl) ?_
  refine y_in (M := xm_X7_has) (ls := [some _, some _]) rfl rfl rfl ?_
  refine y_iload_n rfl rfl ?_
  refine y_if_lt rfl j_X7_has_16 (fun h_1 => ?_) (fun h_2 => ?_)
  · refine y_iconst rfl ?_
    refine y_ireturn rfl rfl rfl ?_
    refine y_ret1 ?_
    refine y_if_eqT rfl j_X8_join_19 (by decide) ?_
    refine y_throw rfl rfl rfl ?_
    exact hE0 (by (first | omega | (simp only [show ySeat x2 = x2 from if_neg (by omega)]; omega) | (simp only [show ySeat x2 = Int32.ofInt 8 from if_pos (by omega)]; omega)))
  · refine y_iload_n rfl rfl ?_
    refine y_aload_n rfl rfl ?_
    refine y_getIv (v := I 69 0) rfl (ySh.t hS rfl) (ySh.n hS rfl) rfl rfl rfl ?_
    refine y_icmp_ge rfl j_X7_has_16 (fun h_3 => ?_) (fun h_4 => ?_)
    · refine y_iconst rfl ?_
      refine y_ireturn rfl rfl rfl ?_
      refine y_ret1 ?_
      refine y_if_eqT rfl j_X8_join_19 (by decide) ?_
      refine y_throw rfl rfl rfl ?_
      exact hE0 (by (first | omega | (simp only [show ySeat x2 = x2 from if_neg (by omega)]; omega) | (simp only [show ySeat x2 = Int32.ofInt 8 from if_pos (by omega)]; omega)))
    · refine y_iconst rfl ?_
      refine y_goto rfl j_X7_has_17 ?_
      refine y_ireturn rfl rfl rfl ?_
      refine y_ret1 ?_
      refine y_if_eqF rfl (by decide) ?_
      refine y_aload_n rfl rfl ?_
      refine y_iload_n rfl rfl ?_
      refine y_virt rfl rfl rfl rfl rfl (ySh.t hS rfl) (ySh.n hS rfl) ?_
      refine y_in (M := xm_X8_isParty) (ls := [some _, some _]) rfl rfl rfl ?_
      refine y_iload_n rfl rfl ?_
      refine y_iconst rfl ?_
      refine y_icmp_eq rfl j_X8_isParty_16 (fun h_5 => ?_) (fun h_6 => ?_)
      · rw [yz_m1] at h_5
        refine y_iconst rfl ?_
        refine y_goto rfl j_X8_isParty_21 ?_
        refine y_ireturn rfl rfl rfl ?_
        refine y_ret1 ?_
        refine y_if_neT rfl j_X8_join_30 (by decide) ?_
        refine y_iload_n rfl rfl ?_
        refine y_iconst rfl ?_
        refine y_sip rfl (by decide) ?_
        refine y_static rfl rfl rfl rfl rfl ?_
        refine s_isIn (fun h_7 h_8 => ?_) (fun h_9 => ?_)
        · rw [yz_1] at h_7
          rw [yz_999] at h_8
          refine y_ret1 ?_
          refine y_if_eqF rfl (by decide) ?_
          refine y_iload rfl rfl ?_
          refine y_iconst rfl ?_
          refine y_bip rfl (by decide) ?_
          refine y_static rfl rfl rfl rfl rfl ?_
          refine s_isIn (fun h_10 h_11 => ?_) (fun h_12 => ?_)
          · rw [yz_0] at h_10
            rw [yz_100] at h_11
            refine y_ret1 ?_
            refine y_if_neT rfl j_X8_join_63 (by decide) ?_
            refine y_iload_n rfl rfl ?_
            refine y_static rfl rfl rfl rfl rfl ?_
            refine y_in (M := xm_X8_placeOf) (ls := [some _]) rfl rfl rfl ?_
            refine y_iload_n rfl rfl ?_
            refine y_iconst rfl ?_
            refine y_icmp_ne rfl j_X8_placeOf_10 (fun h_13 => ?_) (fun h_14 => ?_)
            · rw [yz_m1] at h_13
              refine y_iload_n rfl rfl ?_
              refine y_ireturn rfl rfl rfl ?_
              refine y_ret1 ?_
              refine y_istore (ls' := [some _, some _, some _, some _, some _, some _]) rfl rfl rfl ?_
              refine y_aload_n rfl rfl ?_
              refine y_getR rfl (ySh.t hS rfl) (ySh.n hS rfl) rfl rfl (ySh.r hS rfl) ?_
              refine y_iload_n rfl rfl ?_
              refine y_iload rfl rfl ?_
              refine y_virt rfl rfl rfl rfl rfl (ySh.t hS rfl) (ySh.n hS rfl) ?_
              refine y_in (M := xm_X7_isPartner) (ls := [some _, some _, some _]) rfl rfl rfl ?_
              refine y_aload_n rfl rfl ?_
              refine y_getR rfl (ySh.t hS rfl) (ySh.n hS rfl) rfl rfl (ySh.r hS rfl) ?_
              refine y_aload_n rfl rfl ?_
              refine y_iload_n rfl rfl ?_
              refine y_iload_n rfl rfl ?_
              refine y_virt rfl rfl rfl rfl rfl (ySh.t hS rfl) (ySh.n hS rfl) ?_
              refine spx_at (by omega) (by omega) (by omega) (by omega) (fun hz15 => ?_)
              refine y_ret1 ?_
              refine y_baloadv (J := I 70) rfl (ySh.t hS rfl) rfl (ySh.n hS rfl) (by omega) (by omega) rfl ?_
              refine y_ireturn rfl rfl (xfit_z (hC.p _)) ?_
              refine y_ret1 ?_
              refine y_if_ne rfl j_X8_join_112 (fun h_16 => ?_) (fun h_17 => ?_)
              · refine y_throw rfl rfl rfl ?_
                exact hE2 (by (first | omega | (simp only [show ySeat x2 = x2 from if_neg (by omega)]; omega) | (simp only [show ySeat x2 = Int32.ofInt 8 from if_pos (by omega)]; omega)))
              · refine y_aload_n rfl rfl ?_
                refine y_getR rfl (ySh.t hS rfl) (ySh.n hS rfl) rfl rfl (ySh.r hS rfl) ?_
                refine y_getR rfl (ySh.t hS rfl) (ySh.n hS rfl) rfl rfl (ySh.r hS rfl) ?_
                refine y_iload rfl rfl ?_
                refine y_ialoadv (J := I 39) rfl (ySh.t hS rfl) (ySh.n hS rfl) (by omega) (by omega) rfl ?_
                refine y_iload_n rfl rfl ?_
                refine y_icmp_lt rfl j_X8_join_112 (fun h_18 => ?_) (fun h_19 => ?_)
                · refine y_throw rfl rfl rfl ?_
                  exact hE2 (by (first | omega | (simp only [show ySeat x2 = x2 from if_neg (by omega)]; omega) | (simp only [show ySeat x2 = Int32.ofInt 8 from if_pos (by omega)]; omega)))
                · refine y_aload_n rfl rfl ?_
                  refine y_getR rfl (ySh.t hS rfl) (ySh.n hS rfl) rfl rfl (ySh.r hS rfl) ?_
                  refine y_iload_n rfl rfl ?_
                  refine y_virt rfl rfl rfl rfl rfl (ySh.t hS rfl) (ySh.n hS rfl) ?_
                  refine sx_shares hS (by omega) (by omega) (fun v_20 hv_20 => ?_)
                  subst hv_20
                  refine y_ret1 ?_
                  refine y_iload rfl rfl ?_
                  refine y_iadd rfl ?_
                  refine y_bip rfl (by decide) ?_
                  refine y_icmp_le rfl j_X8_join_123 (fun h_21 => ?_) (fun h_22 => ?_)
                  · rw [yz_100] at h_21
                    refine y_aload_n rfl rfl ?_
                    refine y_getR rfl (ySh.t hS rfl) (ySh.n hS rfl) rfl rfl (ySh.r hS rfl) ?_
                    refine y_iload rfl rfl ?_
                    refine y_iload_n rfl rfl ?_
                    refine y_ineg rfl ?_
                    refine y_virt rfl rfl rfl rfl rfl (ySh.t hS rfl) (ySh.n hS rfl) ?_
                    refine spx_add hS ?_
                    refine y_ret0 ?_
                    refine y_nameI (fun I23 e23 => ?_)
                    have hC : yCI I23 := by rw [e23]; exact yCI.addC hC
                    have hF : yFt I I23 := by rw [e23]; exact hF.addC
                    refine y_aload_n rfl rfl ?_
                    refine y_getR rfl (ySh.t hS rfl) (ySh.n hS rfl) rfl rfl (ySh.r hS rfl) ?_
                    refine y_iload_n rfl rfl ?_
                    refine y_iload rfl rfl ?_
                    refine y_iload_n rfl rfl ?_
                    refine y_iload rfl rfl ?_
                    refine y_virt rfl rfl rfl rfl rfl (ySh.t hS rfl) (ySh.n hS rfl) ?_
                    refine y_in (M := xm_X7_admit) (ls := [some _, some _, some _, some _, some _, _]) rfl rfl rfl ?_
                    refine y_aload_n rfl rfl ?_
                    refine y_iload_n rfl rfl ?_
                    refine y_iload_n rfl rfl ?_
                    refine y_virt rfl rfl rfl rfl rfl (ySh.t hS rfl) (ySh.n hS rfl) ?_
                    refine spx_at (by omega) (by omega) (by omega) (by omega) (fun hz24 => ?_)
                    refine y_ret1 ?_
                    refine y_istore (ls' := [some _, some _, some _, some _, some _, some _]) rfl rfl rfl ?_
                    refine y_aload_n rfl rfl ?_
                    refine y_getR rfl (ySh.t hS rfl) (ySh.n hS rfl) rfl rfl (ySh.r hS rfl) ?_
                    refine y_iload rfl rfl ?_
                    refine y_iconst rfl ?_
                    refine y_zastore rfl (ySh.t hS rfl) (ySh.n hS rfl) (Nat.le_of_ble_eq_true rfl) (by omega) (by omega) rfl ?_
                    refine y_nameI (fun I25 e25 => ?_)
                    have hC : yCI I25 := by rw [e25]; exact yCI.par hC (.inr (by decide))
                    have hF : yFt I I25 := by rw [e25]; exact hF.upd (by decide)
                    refine y_aload_n rfl rfl ?_
                    refine y_getR rfl (ySh.t hS rfl) (ySh.n hS rfl) rfl rfl (ySh.r hS rfl) ?_
                    refine y_iload rfl rfl ?_
                    refine y_iload_n rfl rfl ?_
                    refine y_iastore rfl (ySh.t hS rfl) (ySh.n hS rfl) (Nat.le_of_ble_eq_true rfl) (by omega) (by omega) ?_
                    refine y_nameI (fun I26 e26 => ?_)
                    have hC : yCI I26 := by rw [e26]; exact hC
                    have hF : yFt I I26 := by rw [e26]; exact hF.upd (by decide)
                    refine y_aload_n rfl rfl ?_
                    refine y_getR rfl (ySh.t hS rfl) (ySh.n hS rfl) rfl rfl (ySh.r hS rfl) ?_
                    refine y_iload rfl rfl ?_
                    refine y_iload rfl rfl ?_
                    refine y_iastore rfl (ySh.t hS rfl) (ySh.n hS rfl) (Nat.le_of_ble_eq_true rfl) (by omega) (by omega) ?_
                    refine y_nameI (fun I27 e27 => ?_)
                    have hC : yCI I27 := by rw [e27]; exact hC
                    have hF : yFt I I27 := by rw [e27]; exact hF.upd (by decide)
                    refine y_return rfl ?_
                    refine y_ret0 ?_
                    refine y_aload_n rfl rfl ?_
                    refine y_getR rfl (ySh.t hS rfl) (ySh.n hS rfl) rfl rfl (ySh.r hS rfl) ?_
                    refine y_iload_n rfl rfl ?_
                    refine y_virt rfl rfl rfl rfl rfl (ySh.t hS rfl) (ySh.n hS rfl) ?_
                    refine sx_shares hS (by omega) (by omega) (fun v_28 hv_28 => ?_)
                    subst hv_28
                    refine y_ret1 ?_
                    refine y_ireturn rfl rfl rfl ?_
                    first | (exfalso; omega) | (exact hQ (by (first | omega | (simp only [show ySeat x2 = x2 from if_neg (by omega)]; omega) | (simp only [show ySeat x2 = Int32.ofInt 8 from if_pos (by omega)]; omega))) _ _ hC hF rfl (by first | (simp only [show ySeat x2 = x2 from if_neg (by omega)]; first | (rw [e27, e26, e25, e23]; done) | (rw [e27, e26, e25, e23]; rfl)) | (simp only [show ySeat x2 = Int32.ofInt 8 from if_pos (by omega)]; first | (rw [e27, e26, e25, e23]; done) | (rw [e27, e26, e25, e23]; rfl))))
                  · rw [yz_100] at h_22
                    refine y_throw rfl rfl rfl ?_
                    exact hE2 (by (first | omega | (simp only [show ySeat x2 = x2 from if_neg (by omega)]; omega) | (simp only [show ySeat x2 = Int32.ofInt 8 from if_pos (by omega)]; omega)))
            · rw [yz_m1] at h_14
              refine y_bip rfl (by decide) ?_
              refine y_goto rfl j_X8_placeOf_11 ?_
              refine y_ireturn rfl rfl rfl ?_
              refine y_ret1 ?_
              refine y_istore (ls' := [some _, some _, some _, some _, some _, some _]) rfl rfl rfl ?_
              refine y_aload_n rfl rfl ?_
              refine y_getR rfl (ySh.t hS rfl) (ySh.n hS rfl) rfl rfl (ySh.r hS rfl) ?_
              refine y_iload_n rfl rfl ?_
              refine y_iload rfl rfl ?_
              refine y_virt rfl rfl rfl rfl rfl (ySh.t hS rfl) (ySh.n hS rfl) ?_
              refine y_in (M := xm_X7_isPartner) (ls := [some _, some _, some _]) rfl rfl rfl ?_
              refine y_aload_n rfl rfl ?_
              refine y_getR rfl (ySh.t hS rfl) (ySh.n hS rfl) rfl rfl (ySh.r hS rfl) ?_
              refine y_aload_n rfl rfl ?_
              refine y_iload_n rfl rfl ?_
              refine y_iload_n rfl rfl ?_
              refine y_virt rfl rfl rfl rfl rfl (ySh.t hS rfl) (ySh.n hS rfl) ?_
              refine spx_at (by omega) (by omega) (by decide) (by decide) (fun hz29 => ?_)
              rw [yz_8] at hz29
              refine y_ret1 ?_
              refine y_baloadv (J := I 70) rfl (ySh.t hS rfl) rfl (ySh.n hS rfl) (by omega) (by omega) rfl ?_
              refine y_ireturn rfl rfl (xfit_z (hC.p _)) ?_
              refine y_ret1 ?_
              refine y_if_ne rfl j_X8_join_112 (fun h_30 => ?_) (fun h_31 => ?_)
              · refine y_throw rfl rfl rfl ?_
                exact hE2 (by (first | omega | (simp only [show ySeat x2 = x2 from if_neg (by omega)]; omega) | (simp only [show ySeat x2 = Int32.ofInt 8 from if_pos (by omega)]; omega)))
              · refine y_aload_n rfl rfl ?_
                refine y_getR rfl (ySh.t hS rfl) (ySh.n hS rfl) rfl rfl (ySh.r hS rfl) ?_
                refine y_getR rfl (ySh.t hS rfl) (ySh.n hS rfl) rfl rfl (ySh.r hS rfl) ?_
                refine y_iload rfl rfl ?_
                refine y_ialoadv (J := I 39) rfl (ySh.t hS rfl) (ySh.n hS rfl) (by decide) (by decide) rfl ?_
                refine y_iload_n rfl rfl ?_
                refine y_icmp_lt rfl j_X8_join_112 (fun h_32 => ?_) (fun h_33 => ?_)
                · refine y_throw rfl rfl rfl ?_
                  exact hE2 (by (first | omega | (simp only [show ySeat x2 = x2 from if_neg (by omega)]; omega) | (simp only [show ySeat x2 = Int32.ofInt 8 from if_pos (by omega)]; omega)))
                · refine y_aload_n rfl rfl ?_
                  refine y_getR rfl (ySh.t hS rfl) (ySh.n hS rfl) rfl rfl (ySh.r hS rfl) ?_
                  refine y_iload_n rfl rfl ?_
                  refine y_virt rfl rfl rfl rfl rfl (ySh.t hS rfl) (ySh.n hS rfl) ?_
                  refine sx_shares hS (by omega) (by omega) (fun v_34 hv_34 => ?_)
                  subst hv_34
                  refine y_ret1 ?_
                  refine y_iload rfl rfl ?_
                  refine y_iadd rfl ?_
                  refine y_bip rfl (by decide) ?_
                  refine y_icmp_le rfl j_X8_join_123 (fun h_35 => ?_) (fun h_36 => ?_)
                  · rw [yz_100] at h_35
                    refine y_aload_n rfl rfl ?_
                    refine y_getR rfl (ySh.t hS rfl) (ySh.n hS rfl) rfl rfl (ySh.r hS rfl) ?_
                    refine y_iload rfl rfl ?_
                    refine y_iload_n rfl rfl ?_
                    refine y_ineg rfl ?_
                    refine y_virt rfl rfl rfl rfl rfl (ySh.t hS rfl) (ySh.n hS rfl) ?_
                    refine spx_add hS ?_
                    refine y_ret0 ?_
                    refine y_nameI (fun I37 e37 => ?_)
                    have hC : yCI I37 := by rw [e37]; exact yCI.addC hC
                    have hF : yFt I I37 := by rw [e37]; exact hF.addC
                    refine y_aload_n rfl rfl ?_
                    refine y_getR rfl (ySh.t hS rfl) (ySh.n hS rfl) rfl rfl (ySh.r hS rfl) ?_
                    refine y_iload_n rfl rfl ?_
                    refine y_iload rfl rfl ?_
                    refine y_iload_n rfl rfl ?_
                    refine y_iload rfl rfl ?_
                    refine y_virt rfl rfl rfl rfl rfl (ySh.t hS rfl) (ySh.n hS rfl) ?_
                    refine y_in (M := xm_X7_admit) (ls := [some _, some _, some _, some _, some _, _]) rfl rfl rfl ?_
                    refine y_aload_n rfl rfl ?_
                    refine y_iload_n rfl rfl ?_
                    refine y_iload_n rfl rfl ?_
                    refine y_virt rfl rfl rfl rfl rfl (ySh.t hS rfl) (ySh.n hS rfl) ?_
                    refine spx_at (by omega) (by omega) (by decide) (by decide) (fun hz38 => ?_)
                    rw [yz_8] at hz38
                    refine y_ret1 ?_
                    refine y_istore (ls' := [some _, some _, some _, some _, some _, some _]) rfl rfl rfl ?_
                    refine y_aload_n rfl rfl ?_
                    refine y_getR rfl (ySh.t hS rfl) (ySh.n hS rfl) rfl rfl (ySh.r hS rfl) ?_
                    refine y_iload rfl rfl ?_
                    refine y_iconst rfl ?_
                    refine y_zastore rfl (ySh.t hS rfl) (ySh.n hS rfl) (Nat.le_of_ble_eq_true rfl) (by omega) (by omega) rfl ?_
                    refine y_nameI (fun I39 e39 => ?_)
                    have hC : yCI I39 := by rw [e39]; exact yCI.par hC (.inr (by decide))
                    have hF : yFt I I39 := by rw [e39]; exact hF.upd (by decide)
                    refine y_aload_n rfl rfl ?_
                    refine y_getR rfl (ySh.t hS rfl) (ySh.n hS rfl) rfl rfl (ySh.r hS rfl) ?_
                    refine y_iload rfl rfl ?_
                    refine y_iload_n rfl rfl ?_
                    refine y_iastore rfl (ySh.t hS rfl) (ySh.n hS rfl) (Nat.le_of_ble_eq_true rfl) (by omega) (by omega) ?_
                    refine y_nameI (fun I40 e40 => ?_)
                    have hC : yCI I40 := by rw [e40]; exact hC
                    have hF : yFt I I40 := by rw [e40]; exact hF.upd (by decide)
                    refine y_aload_n rfl rfl ?_
                    refine y_getR rfl (ySh.t hS rfl) (ySh.n hS rfl) rfl rfl (ySh.r hS rfl) ?_
                    refine y_iload rfl rfl ?_
                    refine y_iload rfl rfl ?_
                    refine y_iastore rfl (ySh.t hS rfl) (ySh.n hS rfl) (Nat.le_of_ble_eq_true rfl) (by omega) (by omega) ?_
                    refine y_nameI (fun I41 e41 => ?_)
                    have hC : yCI I41 := by rw [e41]; exact hC
                    have hF : yFt I I41 := by rw [e41]; exact hF.upd (by decide)
                    refine y_return rfl ?_
                    refine y_ret0 ?_
                    refine y_aload_n rfl rfl ?_
                    refine y_getR rfl (ySh.t hS rfl) (ySh.n hS rfl) rfl rfl (ySh.r hS rfl) ?_
                    refine y_iload_n rfl rfl ?_
                    refine y_virt rfl rfl rfl rfl rfl (ySh.t hS rfl) (ySh.n hS rfl) ?_
                    refine sx_shares hS (by omega) (by omega) (fun v_42 hv_42 => ?_)
                    subst hv_42
                    refine y_ret1 ?_
                    refine y_ireturn rfl rfl rfl ?_
                    first | (exfalso; omega) | (exact hQ (by (first | omega | (simp only [show ySeat x2 = x2 from if_neg (by omega)]; omega) | (simp only [show ySeat x2 = Int32.ofInt 8 from if_pos (by omega)]; omega))) _ _ hC hF rfl (by first | (simp only [show ySeat x2 = x2 from if_neg (by omega)]; first | (rw [e41, e40, e39, e37]; done) | (rw [e41, e40, e39, e37]; rfl)) | (simp only [show ySeat x2 = Int32.ofInt 8 from if_pos (by omega)]; first | (rw [e41, e40, e39, e37]; done) | (rw [e41, e40, e39, e37]; rfl))))
                  · rw [yz_100] at h_36
                    refine y_throw rfl rfl rfl ?_
                    exact hE2 (by (first | omega | (simp only [show ySeat x2 = x2 from if_neg (by omega)]; omega) | (simp only [show ySeat x2 = Int32.ofInt 8 from if_pos (by omega)]; omega)))
          · rw [yz_0] at h_12
            rw [yz_100] at h_12
            refine y_ret1 ?_
            refine y_if_neF rfl (by decide) ?_
            refine y_throw rfl rfl rfl ?_
            exact hE1 (by (first | omega | (simp only [show ySeat x2 = x2 from if_neg (by omega)]; omega) | (simp only [show ySeat x2 = Int32.ofInt 8 from if_pos (by omega)]; omega)))
        · rw [yz_1] at h_9
          rw [yz_999] at h_9
          refine y_ret1 ?_
          refine y_if_eqT rfl j_X8_join_52 (by decide) ?_
          refine y_throw rfl rfl rfl ?_
          exact hE1 (by (first | omega | (simp only [show ySeat x2 = x2 from if_neg (by omega)]; omega) | (simp only [show ySeat x2 = Int32.ofInt 8 from if_pos (by omega)]; omega)))
      · rw [yz_m1] at h_6
        refine y_aload_n rfl rfl ?_
        refine y_getR rfl (ySh.t hS rfl) (ySh.n hS rfl) rfl rfl (ySh.r hS rfl) ?_
        refine y_iload_n rfl rfl ?_
        refine y_virt rfl rfl rfl rfl rfl (ySh.t hS rfl) (ySh.n hS rfl) ?_
        refine y_in (M := xm_X4_has) (ls := [some _, some _]) rfl rfl rfl ?_
        refine y_iload_n rfl rfl ?_
        refine y_if_lt rfl j_X4_has_16 (fun h_43 => ?_) (fun h_44 => ?_)
        · refine y_iconst rfl ?_
          refine y_ireturn rfl rfl rfl ?_
          refine y_ret1 ?_
          refine y_if_eqT rfl j_X8_isParty_20 (by decide) ?_
          refine y_iconst rfl ?_
          refine y_ireturn rfl rfl rfl ?_
          refine y_ret1 ?_
          refine y_if_neF rfl (by decide) ?_
          refine y_throw rfl rfl rfl ?_
          exact hE0 (by (first | omega | (simp only [show ySeat x2 = x2 from if_neg (by omega)]; omega) | (simp only [show ySeat x2 = Int32.ofInt 8 from if_pos (by omega)]; omega)))
        · refine y_iload_n rfl rfl ?_
          refine y_aload_n rfl rfl ?_
          refine y_getIv (v := I 38 0) rfl (ySh.t hS rfl) (ySh.n hS rfl) rfl rfl rfl ?_
          refine y_icmp_ge rfl j_X4_has_16 (fun h_45 => ?_) (fun h_46 => ?_)
          · refine y_iconst rfl ?_
            refine y_ireturn rfl rfl rfl ?_
            refine y_ret1 ?_
            refine y_if_eqT rfl j_X8_isParty_20 (by decide) ?_
            refine y_iconst rfl ?_
            refine y_ireturn rfl rfl rfl ?_
            refine y_ret1 ?_
            refine y_if_neF rfl (by decide) ?_
            refine y_throw rfl rfl rfl ?_
            exact hE0 (by (first | omega | (simp only [show ySeat x2 = x2 from if_neg (by omega)]; omega) | (simp only [show ySeat x2 = Int32.ofInt 8 from if_pos (by omega)]; omega)))
          · refine y_iconst rfl ?_
            refine y_goto rfl j_X4_has_17 ?_
            refine y_ireturn rfl rfl rfl ?_
            refine y_ret1 ?_
            refine y_if_eqF rfl (by decide) ?_
            refine y_iconst rfl ?_
            refine y_goto rfl j_X8_isParty_21 ?_
            refine y_ireturn rfl rfl rfl ?_
            refine y_ret1 ?_
            refine y_if_neT rfl j_X8_join_30 (by decide) ?_
            refine y_iload_n rfl rfl ?_
            refine y_iconst rfl ?_
            refine y_sip rfl (by decide) ?_
            refine y_static rfl rfl rfl rfl rfl ?_
            refine s_isIn (fun h_47 h_48 => ?_) (fun h_49 => ?_)
            · rw [yz_1] at h_47
              rw [yz_999] at h_48
              refine y_ret1 ?_
              refine y_if_eqF rfl (by decide) ?_
              refine y_iload rfl rfl ?_
              refine y_iconst rfl ?_
              refine y_bip rfl (by decide) ?_
              refine y_static rfl rfl rfl rfl rfl ?_
              refine s_isIn (fun h_50 h_51 => ?_) (fun h_52 => ?_)
              · rw [yz_0] at h_50
                rw [yz_100] at h_51
                refine y_ret1 ?_
                refine y_if_neT rfl j_X8_join_63 (by decide) ?_
                refine y_iload_n rfl rfl ?_
                refine y_static rfl rfl rfl rfl rfl ?_
                refine y_in (M := xm_X8_placeOf) (ls := [some _]) rfl rfl rfl ?_
                refine y_iload_n rfl rfl ?_
                refine y_iconst rfl ?_
                refine y_icmp_ne rfl j_X8_placeOf_10 (fun h_53 => ?_) (fun h_54 => ?_)
                · rw [yz_m1] at h_53
                  refine y_iload_n rfl rfl ?_
                  refine y_ireturn rfl rfl rfl ?_
                  refine y_ret1 ?_
                  refine y_istore (ls' := [some _, some _, some _, some _, some _, some _]) rfl rfl rfl ?_
                  refine y_aload_n rfl rfl ?_
                  refine y_getR rfl (ySh.t hS rfl) (ySh.n hS rfl) rfl rfl (ySh.r hS rfl) ?_
                  refine y_iload_n rfl rfl ?_
                  refine y_iload rfl rfl ?_
                  refine y_virt rfl rfl rfl rfl rfl (ySh.t hS rfl) (ySh.n hS rfl) ?_
                  refine y_in (M := xm_X7_isPartner) (ls := [some _, some _, some _]) rfl rfl rfl ?_
                  refine y_aload_n rfl rfl ?_
                  refine y_getR rfl (ySh.t hS rfl) (ySh.n hS rfl) rfl rfl (ySh.r hS rfl) ?_
                  refine y_aload_n rfl rfl ?_
                  refine y_iload_n rfl rfl ?_
                  refine y_iload_n rfl rfl ?_
                  refine y_virt rfl rfl rfl rfl rfl (ySh.t hS rfl) (ySh.n hS rfl) ?_
                  refine spx_at (by omega) (by omega) (by omega) (by omega) (fun hz55 => ?_)
                  refine y_ret1 ?_
                  refine y_baloadv (J := I 70) rfl (ySh.t hS rfl) rfl (ySh.n hS rfl) (by omega) (by omega) rfl ?_
                  refine y_ireturn rfl rfl (xfit_z (hC.p _)) ?_
                  refine y_ret1 ?_
                  refine y_if_ne rfl j_X8_join_112 (fun h_56 => ?_) (fun h_57 => ?_)
                  · refine y_throw rfl rfl rfl ?_
                    exact hE2 (by (first | omega | (simp only [show ySeat x2 = x2 from if_neg (by omega)]; omega) | (simp only [show ySeat x2 = Int32.ofInt 8 from if_pos (by omega)]; omega)))
                  · refine y_aload_n rfl rfl ?_
                    refine y_getR rfl (ySh.t hS rfl) (ySh.n hS rfl) rfl rfl (ySh.r hS rfl) ?_
                    refine y_getR rfl (ySh.t hS rfl) (ySh.n hS rfl) rfl rfl (ySh.r hS rfl) ?_
                    refine y_iload rfl rfl ?_
                    refine y_ialoadv (J := I 39) rfl (ySh.t hS rfl) (ySh.n hS rfl) (by omega) (by omega) rfl ?_
                    refine y_iload_n rfl rfl ?_
                    refine y_icmp_lt rfl j_X8_join_112 (fun h_58 => ?_) (fun h_59 => ?_)
                    · refine y_throw rfl rfl rfl ?_
                      exact hE2 (by (first | omega | (simp only [show ySeat x2 = x2 from if_neg (by omega)]; omega) | (simp only [show ySeat x2 = Int32.ofInt 8 from if_pos (by omega)]; omega)))
                    · refine y_aload_n rfl rfl ?_
                      refine y_getR rfl (ySh.t hS rfl) (ySh.n hS rfl) rfl rfl (ySh.r hS rfl) ?_
                      refine y_iload_n rfl rfl ?_
                      refine y_virt rfl rfl rfl rfl rfl (ySh.t hS rfl) (ySh.n hS rfl) ?_
                      refine sx_shares hS (by omega) (by omega) (fun v_60 hv_60 => ?_)
                      subst hv_60
                      refine y_ret1 ?_
                      refine y_iload rfl rfl ?_
                      refine y_iadd rfl ?_
                      refine y_bip rfl (by decide) ?_
                      refine y_icmp_le rfl j_X8_join_123 (fun h_61 => ?_) (fun h_62 => ?_)
                      · rw [yz_100] at h_61
                        refine y_aload_n rfl rfl ?_
                        refine y_getR rfl (ySh.t hS rfl) (ySh.n hS rfl) rfl rfl (ySh.r hS rfl) ?_
                        refine y_iload rfl rfl ?_
                        refine y_iload_n rfl rfl ?_
                        refine y_ineg rfl ?_
                        refine y_virt rfl rfl rfl rfl rfl (ySh.t hS rfl) (ySh.n hS rfl) ?_
                        refine spx_add hS ?_
                        refine y_ret0 ?_
                        refine y_nameI (fun I63 e63 => ?_)
                        have hC : yCI I63 := by rw [e63]; exact yCI.addC hC
                        have hF : yFt I I63 := by rw [e63]; exact hF.addC
                        refine y_aload_n rfl rfl ?_
                        refine y_getR rfl (ySh.t hS rfl) (ySh.n hS rfl) rfl rfl (ySh.r hS rfl) ?_
                        refine y_iload_n rfl rfl ?_
                        refine y_iload rfl rfl ?_
                        refine y_iload_n rfl rfl ?_
                        refine y_iload rfl rfl ?_
                        refine y_virt rfl rfl rfl rfl rfl (ySh.t hS rfl) (ySh.n hS rfl) ?_
                        refine y_in (M := xm_X7_admit) (ls := [some _, some _, some _, some _, some _, _]) rfl rfl rfl ?_
                        refine y_aload_n rfl rfl ?_
                        refine y_iload_n rfl rfl ?_
                        refine y_iload_n rfl rfl ?_
                        refine y_virt rfl rfl rfl rfl rfl (ySh.t hS rfl) (ySh.n hS rfl) ?_
                        refine spx_at (by omega) (by omega) (by omega) (by omega) (fun hz64 => ?_)
                        refine y_ret1 ?_
                        refine y_istore (ls' := [some _, some _, some _, some _, some _, some _]) rfl rfl rfl ?_
                        refine y_aload_n rfl rfl ?_
                        refine y_getR rfl (ySh.t hS rfl) (ySh.n hS rfl) rfl rfl (ySh.r hS rfl) ?_
                        refine y_iload rfl rfl ?_
                        refine y_iconst rfl ?_
                        refine y_zastore rfl (ySh.t hS rfl) (ySh.n hS rfl) (Nat.le_of_ble_eq_true rfl) (by omega) (by omega) rfl ?_
                        refine y_nameI (fun I65 e65 => ?_)
                        have hC : yCI I65 := by rw [e65]; exact yCI.par hC (.inr (by decide))
                        have hF : yFt I I65 := by rw [e65]; exact hF.upd (by decide)
                        refine y_aload_n rfl rfl ?_
                        refine y_getR rfl (ySh.t hS rfl) (ySh.n hS rfl) rfl rfl (ySh.r hS rfl) ?_
                        refine y_iload rfl rfl ?_
                        refine y_iload_n rfl rfl ?_
                        refine y_iastore rfl (ySh.t hS rfl) (ySh.n hS rfl) (Nat.le_of_ble_eq_true rfl) (by omega) (by omega) ?_
                        refine y_nameI (fun I66 e66 => ?_)
                        have hC : yCI I66 := by rw [e66]; exact hC
                        have hF : yFt I I66 := by rw [e66]; exact hF.upd (by decide)
                        refine y_aload_n rfl rfl ?_
                        refine y_getR rfl (ySh.t hS rfl) (ySh.n hS rfl) rfl rfl (ySh.r hS rfl) ?_
                        refine y_iload rfl rfl ?_
                        refine y_iload rfl rfl ?_
                        refine y_iastore rfl (ySh.t hS rfl) (ySh.n hS rfl) (Nat.le_of_ble_eq_true rfl) (by omega) (by omega) ?_
                        refine y_nameI (fun I67 e67 => ?_)
                        have hC : yCI I67 := by rw [e67]; exact hC
                        have hF : yFt I I67 := by rw [e67]; exact hF.upd (by decide)
                        refine y_return rfl ?_
                        refine y_ret0 ?_
                        refine y_aload_n rfl rfl ?_
                        refine y_getR rfl (ySh.t hS rfl) (ySh.n hS rfl) rfl rfl (ySh.r hS rfl) ?_
                        refine y_iload_n rfl rfl ?_
                        refine y_virt rfl rfl rfl rfl rfl (ySh.t hS rfl) (ySh.n hS rfl) ?_
                        refine sx_shares hS (by omega) (by omega) (fun v_68 hv_68 => ?_)
                        subst hv_68
                        refine y_ret1 ?_
                        refine y_ireturn rfl rfl rfl ?_
                        first | (exfalso; omega) | (exact hQ (by (first | omega | (simp only [show ySeat x2 = x2 from if_neg (by omega)]; omega) | (simp only [show ySeat x2 = Int32.ofInt 8 from if_pos (by omega)]; omega))) _ _ hC hF rfl (by first | (simp only [show ySeat x2 = x2 from if_neg (by omega)]; first | (rw [e67, e66, e65, e63]; done) | (rw [e67, e66, e65, e63]; rfl)) | (simp only [show ySeat x2 = Int32.ofInt 8 from if_pos (by omega)]; first | (rw [e67, e66, e65, e63]; done) | (rw [e67, e66, e65, e63]; rfl))))
                      · rw [yz_100] at h_62
                        refine y_throw rfl rfl rfl ?_
                        exact hE2 (by (first | omega | (simp only [show ySeat x2 = x2 from if_neg (by omega)]; omega) | (simp only [show ySeat x2 = Int32.ofInt 8 from if_pos (by omega)]; omega)))
                · rw [yz_m1] at h_54
                  refine y_bip rfl (by decide) ?_
                  refine y_goto rfl j_X8_placeOf_11 ?_
                  refine y_ireturn rfl rfl rfl ?_
                  refine y_ret1 ?_
                  refine y_istore (ls' := [some _, some _, some _, some _, some _, some _]) rfl rfl rfl ?_
                  refine y_aload_n rfl rfl ?_
                  refine y_getR rfl (ySh.t hS rfl) (ySh.n hS rfl) rfl rfl (ySh.r hS rfl) ?_
                  refine y_iload_n rfl rfl ?_
                  refine y_iload rfl rfl ?_
                  refine y_virt rfl rfl rfl rfl rfl (ySh.t hS rfl) (ySh.n hS rfl) ?_
                  refine y_in (M := xm_X7_isPartner) (ls := [some _, some _, some _]) rfl rfl rfl ?_
                  refine y_aload_n rfl rfl ?_
                  refine y_getR rfl (ySh.t hS rfl) (ySh.n hS rfl) rfl rfl (ySh.r hS rfl) ?_
                  refine y_aload_n rfl rfl ?_
                  refine y_iload_n rfl rfl ?_
                  refine y_iload_n rfl rfl ?_
                  refine y_virt rfl rfl rfl rfl rfl (ySh.t hS rfl) (ySh.n hS rfl) ?_
                  refine spx_at (by omega) (by omega) (by decide) (by decide) (fun hz69 => ?_)
                  rw [yz_8] at hz69
                  refine y_ret1 ?_
                  refine y_baloadv (J := I 70) rfl (ySh.t hS rfl) rfl (ySh.n hS rfl) (by omega) (by omega) rfl ?_
                  refine y_ireturn rfl rfl (xfit_z (hC.p _)) ?_
                  refine y_ret1 ?_
                  refine y_if_ne rfl j_X8_join_112 (fun h_70 => ?_) (fun h_71 => ?_)
                  · refine y_throw rfl rfl rfl ?_
                    exact hE2 (by (first | omega | (simp only [show ySeat x2 = x2 from if_neg (by omega)]; omega) | (simp only [show ySeat x2 = Int32.ofInt 8 from if_pos (by omega)]; omega)))
                  · refine y_aload_n rfl rfl ?_
                    refine y_getR rfl (ySh.t hS rfl) (ySh.n hS rfl) rfl rfl (ySh.r hS rfl) ?_
                    refine y_getR rfl (ySh.t hS rfl) (ySh.n hS rfl) rfl rfl (ySh.r hS rfl) ?_
                    refine y_iload rfl rfl ?_
                    refine y_ialoadv (J := I 39) rfl (ySh.t hS rfl) (ySh.n hS rfl) (by decide) (by decide) rfl ?_
                    refine y_iload_n rfl rfl ?_
                    refine y_icmp_lt rfl j_X8_join_112 (fun h_72 => ?_) (fun h_73 => ?_)
                    · refine y_throw rfl rfl rfl ?_
                      exact hE2 (by (first | omega | (simp only [show ySeat x2 = x2 from if_neg (by omega)]; omega) | (simp only [show ySeat x2 = Int32.ofInt 8 from if_pos (by omega)]; omega)))
                    · refine y_aload_n rfl rfl ?_
                      refine y_getR rfl (ySh.t hS rfl) (ySh.n hS rfl) rfl rfl (ySh.r hS rfl) ?_
                      refine y_iload_n rfl rfl ?_
                      refine y_virt rfl rfl rfl rfl rfl (ySh.t hS rfl) (ySh.n hS rfl) ?_
                      refine sx_shares hS (by omega) (by omega) (fun v_74 hv_74 => ?_)
                      subst hv_74
                      refine y_ret1 ?_
                      refine y_iload rfl rfl ?_
                      refine y_iadd rfl ?_
                      refine y_bip rfl (by decide) ?_
                      refine y_icmp_le rfl j_X8_join_123 (fun h_75 => ?_) (fun h_76 => ?_)
                      · rw [yz_100] at h_75
                        refine y_aload_n rfl rfl ?_
                        refine y_getR rfl (ySh.t hS rfl) (ySh.n hS rfl) rfl rfl (ySh.r hS rfl) ?_
                        refine y_iload rfl rfl ?_
                        refine y_iload_n rfl rfl ?_
                        refine y_ineg rfl ?_
                        refine y_virt rfl rfl rfl rfl rfl (ySh.t hS rfl) (ySh.n hS rfl) ?_
                        refine spx_add hS ?_
                        refine y_ret0 ?_
                        refine y_nameI (fun I77 e77 => ?_)
                        have hC : yCI I77 := by rw [e77]; exact yCI.addC hC
                        have hF : yFt I I77 := by rw [e77]; exact hF.addC
                        refine y_aload_n rfl rfl ?_
                        refine y_getR rfl (ySh.t hS rfl) (ySh.n hS rfl) rfl rfl (ySh.r hS rfl) ?_
                        refine y_iload_n rfl rfl ?_
                        refine y_iload rfl rfl ?_
                        refine y_iload_n rfl rfl ?_
                        refine y_iload rfl rfl ?_
                        refine y_virt rfl rfl rfl rfl rfl (ySh.t hS rfl) (ySh.n hS rfl) ?_
                        refine y_in (M := xm_X7_admit) (ls := [some _, some _, some _, some _, some _, _]) rfl rfl rfl ?_
                        refine y_aload_n rfl rfl ?_
                        refine y_iload_n rfl rfl ?_
                        refine y_iload_n rfl rfl ?_
                        refine y_virt rfl rfl rfl rfl rfl (ySh.t hS rfl) (ySh.n hS rfl) ?_
                        refine spx_at (by omega) (by omega) (by decide) (by decide) (fun hz78 => ?_)
                        rw [yz_8] at hz78
                        refine y_ret1 ?_
                        refine y_istore (ls' := [some _, some _, some _, some _, some _, some _]) rfl rfl rfl ?_
                        refine y_aload_n rfl rfl ?_
                        refine y_getR rfl (ySh.t hS rfl) (ySh.n hS rfl) rfl rfl (ySh.r hS rfl) ?_
                        refine y_iload rfl rfl ?_
                        refine y_iconst rfl ?_
                        refine y_zastore rfl (ySh.t hS rfl) (ySh.n hS rfl) (Nat.le_of_ble_eq_true rfl) (by omega) (by omega) rfl ?_
                        refine y_nameI (fun I79 e79 => ?_)
                        have hC : yCI I79 := by rw [e79]; exact yCI.par hC (.inr (by decide))
                        have hF : yFt I I79 := by rw [e79]; exact hF.upd (by decide)
                        refine y_aload_n rfl rfl ?_
                        refine y_getR rfl (ySh.t hS rfl) (ySh.n hS rfl) rfl rfl (ySh.r hS rfl) ?_
                        refine y_iload rfl rfl ?_
                        refine y_iload_n rfl rfl ?_
                        refine y_iastore rfl (ySh.t hS rfl) (ySh.n hS rfl) (Nat.le_of_ble_eq_true rfl) (by omega) (by omega) ?_
                        refine y_nameI (fun I80 e80 => ?_)
                        have hC : yCI I80 := by rw [e80]; exact hC
                        have hF : yFt I I80 := by rw [e80]; exact hF.upd (by decide)
                        refine y_aload_n rfl rfl ?_
                        refine y_getR rfl (ySh.t hS rfl) (ySh.n hS rfl) rfl rfl (ySh.r hS rfl) ?_
                        refine y_iload rfl rfl ?_
                        refine y_iload rfl rfl ?_
                        refine y_iastore rfl (ySh.t hS rfl) (ySh.n hS rfl) (Nat.le_of_ble_eq_true rfl) (by omega) (by omega) ?_
                        refine y_nameI (fun I81 e81 => ?_)
                        have hC : yCI I81 := by rw [e81]; exact hC
                        have hF : yFt I I81 := by rw [e81]; exact hF.upd (by decide)
                        refine y_return rfl ?_
                        refine y_ret0 ?_
                        refine y_aload_n rfl rfl ?_
                        refine y_getR rfl (ySh.t hS rfl) (ySh.n hS rfl) rfl rfl (ySh.r hS rfl) ?_
                        refine y_iload_n rfl rfl ?_
                        refine y_virt rfl rfl rfl rfl rfl (ySh.t hS rfl) (ySh.n hS rfl) ?_
                        refine sx_shares hS (by omega) (by omega) (fun v_82 hv_82 => ?_)
                        subst hv_82
                        refine y_ret1 ?_
                        refine y_ireturn rfl rfl rfl ?_
                        first | (exfalso; omega) | (exact hQ (by (first | omega | (simp only [show ySeat x2 = x2 from if_neg (by omega)]; omega) | (simp only [show ySeat x2 = Int32.ofInt 8 from if_pos (by omega)]; omega))) _ _ hC hF rfl (by first | (simp only [show ySeat x2 = x2 from if_neg (by omega)]; first | (rw [e81, e80, e79, e77]; done) | (rw [e81, e80, e79, e77]; rfl)) | (simp only [show ySeat x2 = Int32.ofInt 8 from if_pos (by omega)]; first | (rw [e81, e80, e79, e77]; done) | (rw [e81, e80, e79, e77]; rfl))))
                      · rw [yz_100] at h_76
                        refine y_throw rfl rfl rfl ?_
                        exact hE2 (by (first | omega | (simp only [show ySeat x2 = x2 from if_neg (by omega)]; omega) | (simp only [show ySeat x2 = Int32.ofInt 8 from if_pos (by omega)]; omega)))
              · rw [yz_0] at h_52
                rw [yz_100] at h_52
                refine y_ret1 ?_
                refine y_if_neF rfl (by decide) ?_
                refine y_throw rfl rfl rfl ?_
                exact hE1 (by (first | omega | (simp only [show ySeat x2 = x2 from if_neg (by omega)]; omega) | (simp only [show ySeat x2 = Int32.ofInt 8 from if_pos (by omega)]; omega)))
            · rw [yz_1] at h_49
              rw [yz_999] at h_49
              refine y_ret1 ?_
              refine y_if_eqT rfl j_X8_join_52 (by decide) ?_
              refine y_throw rfl rfl rfl ?_
              exact hE1 (by (first | omega | (simp only [show ySeat x2 = x2 from if_neg (by omega)]; omega) | (simp only [show ySeat x2 = Int32.ofInt 8 from if_pos (by omega)]; omega)))
theorem g_buyOut (hS : ySh n tg R) (hC : yCI I) {x1 x2 x3 x4 : Int32} (hE0 : ¬ ((0 ≤ x1.toInt ∧ x1.toInt < (I 69 0).toInt) ∧ (x2.toInt = -1 ∨ 0 ≤ x2.toInt ∧ x2.toInt < (I 38 0).toInt) ∧ (x3.toInt = -1 ∨ 0 ≤ x3.toInt ∧ x3.toInt < (I 38 0).toInt)) → Q (.inr "java/lang/IndexOutOfBoundsException") (n, tg, I, R) (c + 1) (s + 6)) (hE1 : ((0 ≤ x1.toInt ∧ x1.toInt < (I 69 0).toInt) ∧ (x2.toInt = -1 ∨ 0 ≤ x2.toInt ∧ x2.toInt < (I 38 0).toInt) ∧ (x3.toInt = -1 ∨ 0 ≤ x3.toInt ∧ x3.toInt < (I 38 0).toInt)) ∧ ¬ (¬ x2.toInt = x3.toInt ∧ (1 ≤ x4.toInt ∧ x4.toInt ≤ 999)) → Q (.inr "java/lang/IllegalArgumentException") (n, tg, I, R) (c + 1) (s + 6)) (hE2 : ((0 ≤ x1.toInt ∧ x1.toInt < (I 69 0).toInt) ∧ (x2.toInt = -1 ∨ 0 ≤ x2.toInt ∧ x2.toInt < (I 38 0).toInt) ∧ (x3.toInt = -1 ∨ 0 ≤ x3.toInt ∧ x3.toInt < (I 38 0).toInt)) ∧ (¬ x2.toInt = x3.toInt ∧ (1 ≤ x4.toInt ∧ x4.toInt ≤ 999)) ∧ ¬ (¬ (I 70 (yAtI x1 (ySeat x2)).toInt.toNat).toInt = 0 ∧ ¬ (I 70 (yAtI x1 (ySeat x3)).toInt.toNat).toInt = 0 ∧ x4.toInt ≤ (I 71 (yAtI x1 (ySeat x2)).toInt.toNat).toInt ∧ x4.toInt ≤ (I 39 (ySeat x3).toInt.toNat).toInt) → Q (.inr "java/lang/IllegalStateException") (n, tg, I, R) (c + 1) (s + 6)) (hQ : ((0 ≤ x1.toInt ∧ x1.toInt < (I 69 0).toInt) ∧ (x2.toInt = -1 ∨ 0 ≤ x2.toInt ∧ x2.toInt < (I 38 0).toInt) ∧ (x3.toInt = -1 ∨ 0 ≤ x3.toInt ∧ x3.toInt < (I 38 0).toInt)) ∧ (¬ x2.toInt = x3.toInt ∧ (1 ≤ x4.toInt ∧ x4.toInt ≤ 999)) ∧ (¬ (I 70 (yAtI x1 (ySeat x2)).toInt.toNat).toInt = 0 ∧ ¬ (I 70 (yAtI x1 (ySeat x3)).toInt.toNat).toInt = 0 ∧ x4.toInt ≤ (I 71 (yAtI x1 (ySeat x2)).toInt.toNat).toInt ∧ x4.toInt ≤ (I 39 (ySeat x3).toInt.toNat).toInt) → ∀ (v : Int32) (I1 : Nat → Nat → Int32), yCI I1 → yFt I I1 → v = I1 71 (yAtI x1 (ySeat x2)).toInt.toNat → I1 = (upd2 (upd2 (yAddC (yAddC I (ySeat x3) (-x4)) (ySeat x2) x4) 71 (yAtI x1 (ySeat x2)).toInt.toNat (I 71 (yAtI x1 (ySeat x2)).toInt.toNat - x4)) 71 (yAtI x1 (ySeat x3)).toInt.toNat ((upd2 (yAddC (yAddC I (ySeat x3) (-x4)) (ySeat x2) x4) 71 (yAtI x1 (ySeat x2)).toInt.toNat (I 71 (yAtI x1 (ySeat x2)).toInt.toNat - x4)) 71 (yAtI x1 (ySeat x3)).toInt.toNat + x4)) → Q (.inl (some (.int v))) (n, tg, I1, R) c s) : yC 135 [.ref 34, .int x1, .int x2, .int x3, .int x4] (n, tg, I, R) c s Q := by
  have hF : yFt I I := yFt.rf
  refine y_in (M := xm_X8_buyOut) (ls := [some _, some _, some _, some _, some _, _, _]) rfl rfl rfl ?_
  refine y_aload_n rfl rfl ?_
  refine y_getR rfl (ySh.t hS rfl) (ySh.n hS rfl) rfl rfl (ySh.r hS rfl) ?_
  refine y_iload_n rfl rfl ?_
  refine y_virt rfl rfl rfl rfl rfl (ySh.t hS rfl) (ySh.n hS rfl) ?_
  refine y_in (M := xm_X7_has) (ls := [some _, some _]) rfl rfl rfl ?_
  refine y_iload_n rfl rfl ?_
  refine y_if_lt rfl j_X7_has_16 (fun h_1 => ?_) (fun h_2 => ?_)
  · refine y_iconst rfl ?_
    refine y_ireturn rfl rfl rfl ?_
    refine y_ret1 ?_
    refine y_if_eqT rfl j_X8_buyOut_27 (by decide) ?_
    refine y_throw rfl rfl rfl ?_
    exact hE0 (by (first | omega | (simp only [show ySeat x2 = x2 from if_neg (by omega), show ySeat x3 = x3 from if_neg (by omega)]; omega) | (simp only [show ySeat x2 = x2 from if_neg (by omega), show ySeat x3 = Int32.ofInt 8 from if_pos (by omega)]; omega) | (simp only [show ySeat x2 = Int32.ofInt 8 from if_pos (by omega), show ySeat x3 = x3 from if_neg (by omega)]; omega) | (simp only [show ySeat x2 = Int32.ofInt 8 from if_pos (by omega), show ySeat x3 = Int32.ofInt 8 from if_pos (by omega)]; omega)))
  · refine y_iload_n rfl rfl ?_
    refine y_aload_n rfl rfl ?_
    refine y_getIv (v := I 69 0) rfl (ySh.t hS rfl) (ySh.n hS rfl) rfl rfl rfl ?_
    refine y_icmp_ge rfl j_X7_has_16 (fun h_3 => ?_) (fun h_4 => ?_)
    · refine y_iconst rfl ?_
      refine y_ireturn rfl rfl rfl ?_
      refine y_ret1 ?_
      refine y_if_eqT rfl j_X8_buyOut_27 (by decide) ?_
      refine y_throw rfl rfl rfl ?_
      exact hE0 (by (first | omega | (simp only [show ySeat x2 = x2 from if_neg (by omega), show ySeat x3 = x3 from if_neg (by omega)]; omega) | (simp only [show ySeat x2 = x2 from if_neg (by omega), show ySeat x3 = Int32.ofInt 8 from if_pos (by omega)]; omega) | (simp only [show ySeat x2 = Int32.ofInt 8 from if_pos (by omega), show ySeat x3 = x3 from if_neg (by omega)]; omega) | (simp only [show ySeat x2 = Int32.ofInt 8 from if_pos (by omega), show ySeat x3 = Int32.ofInt 8 from if_pos (by omega)]; omega)))
    · refine y_iconst rfl ?_
      refine y_goto rfl j_X7_has_17 ?_
      refine y_ireturn rfl rfl rfl ?_
      refine y_ret1 ?_
      refine y_if_eqF rfl (by decide) ?_
      refine y_aload_n rfl rfl ?_
      refine y_iload_n rfl rfl ?_
      refine y_virt rfl rfl rfl rfl rfl (ySh.t hS rfl) (ySh.n hS rfl) ?_
      refine y_in (M := xm_X8_isParty) (ls := [some _, some _]) rfl rfl rfl ?_
      refine y_iload_n rfl rfl ?_
      refine y_iconst rfl ?_
      refine y_icmp_eq rfl j_X8_isParty_16 (fun h_5 => ?_) (fun h_6 => ?_)
      · rw [yz_m1] at h_5
        refine y_iconst rfl ?_
        refine y_goto rfl j_X8_isParty_21 ?_
        refine y_ireturn rfl rfl rfl ?_
        refine y_ret1 ?_
        refine y_if_eqF rfl (by decide) ?_
        refine y_aload_n rfl rfl ?_
        refine y_iload_n rfl rfl ?_
        refine y_virt rfl rfl rfl rfl rfl (ySh.t hS rfl) (ySh.n hS rfl) ?_
        refine y_in (M := xm_X8_isParty) (ls := [some _, some _]) rfl rfl rfl ?_
        refine y_iload_n rfl rfl ?_
        refine y_iconst rfl ?_
        refine y_icmp_eq rfl j_X8_isParty_16 (fun h_7 => ?_) (fun h_8 => ?_)
        · rw [yz_m1] at h_7
          refine y_iconst rfl ?_
          refine y_goto rfl j_X8_isParty_21 ?_
          refine y_ireturn rfl rfl rfl ?_
          refine y_ret1 ?_
          refine y_if_neT rfl j_X8_buyOut_38 (by decide) ?_
          refine y_iload_n rfl rfl ?_
          refine y_iload_n rfl rfl ?_
          refine y_icmp_eq rfl j_X8_buyOut_55 (fun h_9 => ?_) (fun h_10 => ?_)
          · refine y_throw rfl rfl rfl ?_
            exact hE1 (by (first | omega | (simp only [show ySeat x2 = x2 from if_neg (by omega), show ySeat x3 = x3 from if_neg (by omega)]; omega) | (simp only [show ySeat x2 = x2 from if_neg (by omega), show ySeat x3 = Int32.ofInt 8 from if_pos (by omega)]; omega) | (simp only [show ySeat x2 = Int32.ofInt 8 from if_pos (by omega), show ySeat x3 = x3 from if_neg (by omega)]; omega) | (simp only [show ySeat x2 = Int32.ofInt 8 from if_pos (by omega), show ySeat x3 = Int32.ofInt 8 from if_pos (by omega)]; omega)))
          · refine y_iload rfl rfl ?_
            refine y_iconst rfl ?_
            refine y_sip rfl (by decide) ?_
            refine y_static rfl rfl rfl rfl rfl ?_
            refine s_isIn (fun h_11 h_12 => ?_) (fun h_13 => ?_)
            · rw [yz_1] at h_11
              rw [yz_999] at h_12
              refine y_ret1 ?_
              refine y_if_neT rfl j_X8_buyOut_66 (by decide) ?_
              refine y_iload_n rfl rfl ?_
              refine y_static rfl rfl rfl rfl rfl ?_
              refine y_in (M := xm_X8_placeOf) (ls := [some _]) rfl rfl rfl ?_
              refine y_iload_n rfl rfl ?_
              refine y_iconst rfl ?_
              refine y_icmp_ne rfl j_X8_placeOf_10 (fun h_14 => ?_) (fun h_15 => ?_)
              · rw [yz_m1] at h_14
                refine y_iload_n rfl rfl ?_
                refine y_ireturn rfl rfl rfl ?_
                refine y_ret1 ?_
                refine y_istore (ls' := [some _, some _, some _, some _, some _, some _, _]) rfl rfl rfl ?_
                refine y_iload_n rfl rfl ?_
                refine y_static rfl rfl rfl rfl rfl ?_
                refine y_in (M := xm_X8_placeOf) (ls := [some _]) rfl rfl rfl ?_
                refine y_iload_n rfl rfl ?_
                refine y_iconst rfl ?_
                refine y_icmp_ne rfl j_X8_placeOf_10 (fun h_16 => ?_) (fun h_17 => ?_)
                · rw [yz_m1] at h_16
                  refine y_iload_n rfl rfl ?_
                  refine y_ireturn rfl rfl rfl ?_
                  refine y_ret1 ?_
                  refine y_istore (ls' := [some _, some _, some _, some _, some _, some _, some _]) rfl rfl rfl ?_
                  refine y_aload_n rfl rfl ?_
                  refine y_getR rfl (ySh.t hS rfl) (ySh.n hS rfl) rfl rfl (ySh.r hS rfl) ?_
                  refine y_iload_n rfl rfl ?_
                  refine y_iload rfl rfl ?_
                  refine y_virt rfl rfl rfl rfl rfl (ySh.t hS rfl) (ySh.n hS rfl) ?_
                  refine y_in (M := xm_X7_isPartner) (ls := [some _, some _, some _]) rfl rfl rfl ?_
                  refine y_aload_n rfl rfl ?_
                  refine y_getR rfl (ySh.t hS rfl) (ySh.n hS rfl) rfl rfl (ySh.r hS rfl) ?_
                  refine y_aload_n rfl rfl ?_
                  refine y_iload_n rfl rfl ?_
                  refine y_iload_n rfl rfl ?_
                  refine y_virt rfl rfl rfl rfl rfl (ySh.t hS rfl) (ySh.n hS rfl) ?_
                  refine spx_at (by omega) (by omega) (by omega) (by omega) (fun hz18 => ?_)
                  refine y_ret1 ?_
                  refine y_baloadv (J := I 70) rfl (ySh.t hS rfl) rfl (ySh.n hS rfl) (by omega) (by omega) rfl ?_
                  refine y_ireturn rfl rfl (xfit_z (hC.p _)) ?_
                  refine y_ret1 ?_
                  refine y_if_eq rfl j_X8_buyOut_134 (fun h_19 => ?_) (fun h_20 => ?_)
                  · refine y_throw rfl rfl rfl ?_
                    exact hE2 (by (first | omega | (simp only [show ySeat x2 = x2 from if_neg (by omega), show ySeat x3 = x3 from if_neg (by omega)]; omega) | (simp only [show ySeat x2 = x2 from if_neg (by omega), show ySeat x3 = Int32.ofInt 8 from if_pos (by omega)]; omega) | (simp only [show ySeat x2 = Int32.ofInt 8 from if_pos (by omega), show ySeat x3 = x3 from if_neg (by omega)]; omega) | (simp only [show ySeat x2 = Int32.ofInt 8 from if_pos (by omega), show ySeat x3 = Int32.ofInt 8 from if_pos (by omega)]; omega)))
                  · refine y_aload_n rfl rfl ?_
                    refine y_getR rfl (ySh.t hS rfl) (ySh.n hS rfl) rfl rfl (ySh.r hS rfl) ?_
                    refine y_iload_n rfl rfl ?_
                    refine y_iload rfl rfl ?_
                    refine y_virt rfl rfl rfl rfl rfl (ySh.t hS rfl) (ySh.n hS rfl) ?_
                    refine y_in (M := xm_X7_isPartner) (ls := [some _, some _, some _]) rfl rfl rfl ?_
                    refine y_aload_n rfl rfl ?_
                    refine y_getR rfl (ySh.t hS rfl) (ySh.n hS rfl) rfl rfl (ySh.r hS rfl) ?_
                    refine y_aload_n rfl rfl ?_
                    refine y_iload_n rfl rfl ?_
                    refine y_iload_n rfl rfl ?_
                    refine y_virt rfl rfl rfl rfl rfl (ySh.t hS rfl) (ySh.n hS rfl) ?_
                    refine spx_at (by omega) (by omega) (by omega) (by omega) (fun hz21 => ?_)
                    refine y_ret1 ?_
                    refine y_baloadv (J := I 70) rfl (ySh.t hS rfl) rfl (ySh.n hS rfl) (by omega) (by omega) rfl ?_
                    refine y_ireturn rfl rfl (xfit_z (hC.p _)) ?_
                    refine y_ret1 ?_
                    refine y_if_eq rfl j_X8_buyOut_134 (fun h_22 => ?_) (fun h_23 => ?_)
                    · refine y_throw rfl rfl rfl ?_
                      exact hE2 (by (first | omega | (simp only [show ySeat x2 = x2 from if_neg (by omega), show ySeat x3 = x3 from if_neg (by omega)]; omega) | (simp only [show ySeat x2 = x2 from if_neg (by omega), show ySeat x3 = Int32.ofInt 8 from if_pos (by omega)]; omega) | (simp only [show ySeat x2 = Int32.ofInt 8 from if_pos (by omega), show ySeat x3 = x3 from if_neg (by omega)]; omega) | (simp only [show ySeat x2 = Int32.ofInt 8 from if_pos (by omega), show ySeat x3 = Int32.ofInt 8 from if_pos (by omega)]; omega)))
                    · refine y_aload_n rfl rfl ?_
                      refine y_getR rfl (ySh.t hS rfl) (ySh.n hS rfl) rfl rfl (ySh.r hS rfl) ?_
                      refine y_iload_n rfl rfl ?_
                      refine y_iload rfl rfl ?_
                      refine y_virt rfl rfl rfl rfl rfl (ySh.t hS rfl) (ySh.n hS rfl) ?_
                      refine y_in (M := xm_X7_capitalOf) (ls := [some _, some _, some _]) rfl rfl rfl ?_
                      refine y_aload_n rfl rfl ?_
                      refine y_getR rfl (ySh.t hS rfl) (ySh.n hS rfl) rfl rfl (ySh.r hS rfl) ?_
                      refine y_aload_n rfl rfl ?_
                      refine y_iload_n rfl rfl ?_
                      refine y_iload_n rfl rfl ?_
                      refine y_virt rfl rfl rfl rfl rfl (ySh.t hS rfl) (ySh.n hS rfl) ?_
                      refine spx_at (by omega) (by omega) (by omega) (by omega) (fun hz24 => ?_)
                      refine y_ret1 ?_
                      refine y_ialoadv (J := I 71) rfl (ySh.t hS rfl) (ySh.n hS rfl) (by omega) (by omega) rfl ?_
                      refine y_ireturn rfl rfl rfl ?_
                      refine y_ret1 ?_
                      refine y_iload rfl rfl ?_
                      refine y_icmp_lt rfl j_X8_buyOut_134 (fun h_25 => ?_) (fun h_26 => ?_)
                      · refine y_throw rfl rfl rfl ?_
                        exact hE2 (by (first | omega | (simp only [show ySeat x2 = x2 from if_neg (by omega), show ySeat x3 = x3 from if_neg (by omega)]; omega) | (simp only [show ySeat x2 = x2 from if_neg (by omega), show ySeat x3 = Int32.ofInt 8 from if_pos (by omega)]; omega) | (simp only [show ySeat x2 = Int32.ofInt 8 from if_pos (by omega), show ySeat x3 = x3 from if_neg (by omega)]; omega) | (simp only [show ySeat x2 = Int32.ofInt 8 from if_pos (by omega), show ySeat x3 = Int32.ofInt 8 from if_pos (by omega)]; omega)))
                      · refine y_aload_n rfl rfl ?_
                        refine y_getR rfl (ySh.t hS rfl) (ySh.n hS rfl) rfl rfl (ySh.r hS rfl) ?_
                        refine y_getR rfl (ySh.t hS rfl) (ySh.n hS rfl) rfl rfl (ySh.r hS rfl) ?_
                        refine y_iload rfl rfl ?_
                        refine y_ialoadv (J := I 39) rfl (ySh.t hS rfl) (ySh.n hS rfl) (by omega) (by omega) rfl ?_
                        refine y_iload rfl rfl ?_
                        refine y_icmp_ge rfl j_X8_buyOut_145 (fun h_27 => ?_) (fun h_28 => ?_)
                        · refine y_aload_n rfl rfl ?_
                          refine y_getR rfl (ySh.t hS rfl) (ySh.n hS rfl) rfl rfl (ySh.r hS rfl) ?_
                          refine y_iload rfl rfl ?_
                          refine y_iload rfl rfl ?_
                          refine y_iload rfl rfl ?_
                          refine y_virt rfl rfl rfl rfl rfl (ySh.t hS rfl) (ySh.n hS rfl) ?_
                          refine y_in (M := xm_X4_move) (ls := [some _, some _, some _, some _]) rfl rfl rfl ?_
                          refine y_aload_n rfl rfl ?_
                          refine y_iload_n rfl rfl ?_
                          refine y_iload_n rfl rfl ?_
                          refine y_ineg rfl ?_
                          refine y_virt rfl rfl rfl rfl rfl (ySh.t hS rfl) (ySh.n hS rfl) ?_
                          refine spx_add hS ?_
                          refine y_ret0 ?_
                          refine y_nameI (fun I29 e29 => ?_)
                          have hC : yCI I29 := by rw [e29]; exact yCI.addC hC
                          have hF : yFt I I29 := by rw [e29]; exact hF.addC
                          refine y_aload_n rfl rfl ?_
                          refine y_iload_n rfl rfl ?_
                          refine y_iload_n rfl rfl ?_
                          refine y_virt rfl rfl rfl rfl rfl (ySh.t hS rfl) (ySh.n hS rfl) ?_
                          refine spx_add hS ?_
                          refine y_ret0 ?_
                          refine y_nameI (fun I30 e30 => ?_)
                          have hC : yCI I30 := by rw [e30]; exact yCI.addC hC
                          have hF : yFt I I30 := by rw [e30]; exact hF.addC
                          refine y_return rfl ?_
                          refine y_ret0 ?_
                          refine y_aload_n rfl rfl ?_
                          refine y_getR rfl (ySh.t hS rfl) (ySh.n hS rfl) rfl rfl (ySh.r hS rfl) ?_
                          refine y_iload_n rfl rfl ?_
                          refine y_iload rfl rfl ?_
                          refine y_iload rfl rfl ?_
                          refine y_iload rfl rfl ?_
                          refine y_virt rfl rfl rfl rfl rfl (ySh.t hS rfl) (ySh.n hS rfl) ?_
                          refine y_in (M := xm_X7_moveCapital) (ls := [some _, some _, some _, some _, some _]) rfl rfl rfl ?_
                          refine y_aload_n rfl rfl ?_
                          refine y_getR rfl (ySh.t hS rfl) (ySh.n hS rfl) rfl rfl (ySh.r hS rfl) ?_
                          refine y_aload_n rfl rfl ?_
                          refine y_iload_n rfl rfl ?_
                          refine y_iload_n rfl rfl ?_
                          refine y_virt rfl rfl rfl rfl rfl (ySh.t hS rfl) (ySh.n hS rfl) ?_
                          refine spx_at (by omega) (by omega) (by omega) (by omega) (fun hz31 => ?_)
                          refine y_ret1 ?_
                          refine y_dup2 rfl rfl rfl ?_
                          refine y_ialoadv (J := I 71) rfl (ySh.t hS rfl) (ySh.n hS rfl) (by omega) (by omega) (by rw [e30, yAddC_row (by decide), e29, yAddC_row (by decide)]) ?_
                          refine y_iload rfl rfl ?_
                          refine y_isub rfl ?_
                          refine y_iastore rfl (ySh.t hS rfl) (ySh.n hS rfl) (Nat.le_of_ble_eq_true rfl) (by omega) (by omega) ?_
                          refine y_nameI (fun I32 e32 => ?_)
                          have hC : yCI I32 := by rw [e32]; exact hC
                          have hF : yFt I I32 := by rw [e32]; exact hF.upd (by decide)
                          refine y_aload_n rfl rfl ?_
                          refine y_getR rfl (ySh.t hS rfl) (ySh.n hS rfl) rfl rfl (ySh.r hS rfl) ?_
                          refine y_aload_n rfl rfl ?_
                          refine y_iload_n rfl rfl ?_
                          refine y_iload_n rfl rfl ?_
                          refine y_virt rfl rfl rfl rfl rfl (ySh.t hS rfl) (ySh.n hS rfl) ?_
                          refine spx_at (by omega) (by omega) (by omega) (by omega) (fun hz33 => ?_)
                          refine y_ret1 ?_
                          refine y_dup2 rfl rfl rfl ?_
                          refine y_iaload rfl (ySh.t hS rfl) (ySh.n hS rfl) (by omega) (by omega) ?_
                          refine y_iload rfl rfl ?_
                          refine y_iadd rfl ?_
                          refine y_iastore rfl (ySh.t hS rfl) (ySh.n hS rfl) (Nat.le_of_ble_eq_true rfl) (by omega) (by omega) ?_
                          refine y_nameI (fun I34 e34 => ?_)
                          have hC : yCI I34 := by rw [e34]; exact hC
                          have hF : yFt I I34 := by rw [e34]; exact hF.upd (by decide)
                          refine y_return rfl ?_
                          refine y_ret0 ?_
                          refine y_aload_n rfl rfl ?_
                          refine y_getR rfl (ySh.t hS rfl) (ySh.n hS rfl) rfl rfl (ySh.r hS rfl) ?_
                          refine y_iload_n rfl rfl ?_
                          refine y_iload rfl rfl ?_
                          refine y_virt rfl rfl rfl rfl rfl (ySh.t hS rfl) (ySh.n hS rfl) ?_
                          refine y_in (M := xm_X7_capitalOf) (ls := [some _, some _, some _]) rfl rfl rfl ?_
                          refine y_aload_n rfl rfl ?_
                          refine y_getR rfl (ySh.t hS rfl) (ySh.n hS rfl) rfl rfl (ySh.r hS rfl) ?_
                          refine y_aload_n rfl rfl ?_
                          refine y_iload_n rfl rfl ?_
                          refine y_iload_n rfl rfl ?_
                          refine y_virt rfl rfl rfl rfl rfl (ySh.t hS rfl) (ySh.n hS rfl) ?_
                          refine spx_at (by omega) (by omega) (by omega) (by omega) (fun hz35 => ?_)
                          refine y_ret1 ?_
                          refine y_iaload rfl (ySh.t hS rfl) (ySh.n hS rfl) (by omega) (by omega) ?_
                          refine y_ireturn rfl rfl rfl ?_
                          refine y_ret1 ?_
                          refine y_ireturn rfl rfl rfl ?_
                          first | (exfalso; omega) | (exact hQ (by (first | omega | (simp only [show ySeat x2 = x2 from if_neg (by omega), show ySeat x3 = x3 from if_neg (by omega)]; omega) | (simp only [show ySeat x2 = x2 from if_neg (by omega), show ySeat x3 = Int32.ofInt 8 from if_pos (by omega)]; omega) | (simp only [show ySeat x2 = Int32.ofInt 8 from if_pos (by omega), show ySeat x3 = x3 from if_neg (by omega)]; omega) | (simp only [show ySeat x2 = Int32.ofInt 8 from if_pos (by omega), show ySeat x3 = Int32.ofInt 8 from if_pos (by omega)]; omega))) _ _ hC hF (by first | rfl | (simp only [show ySeat x2 = x2 from if_neg (by omega), show ySeat x3 = x3 from if_neg (by omega)]; done) | (simp only [show ySeat x2 = x2 from if_neg (by omega), show ySeat x3 = Int32.ofInt 8 from if_pos (by omega)]; done) | (simp only [show ySeat x2 = Int32.ofInt 8 from if_pos (by omega), show ySeat x3 = x3 from if_neg (by omega)]; done) | (simp only [show ySeat x2 = Int32.ofInt 8 from if_pos (by omega), show ySeat x3 = Int32.ofInt 8 from if_pos (by omega)]; done)) (by first | (simp only [show ySeat x2 = x2 from if_neg (by omega), show ySeat x3 = x3 from if_neg (by omega)]; first | (rw [e34, e32, e30, e29]; done) | (rw [e34, e32, e30, e29]; rfl)) | (simp only [show ySeat x2 = x2 from if_neg (by omega), show ySeat x3 = Int32.ofInt 8 from if_pos (by omega)]; first | (rw [e34, e32, e30, e29]; done) | (rw [e34, e32, e30, e29]; rfl)) | (simp only [show ySeat x2 = Int32.ofInt 8 from if_pos (by omega), show ySeat x3 = x3 from if_neg (by omega)]; first | (rw [e34, e32, e30, e29]; done) | (rw [e34, e32, e30, e29]; rfl)) | (simp only [show ySeat x2 = Int32.ofInt 8 from if_pos (by omega), show ySeat x3 = Int32.ofInt 8 from if_pos (by omega)]; first | (rw [e34, e32, e30, e29]; done) | (rw [e34, e32, e30, e29]; rfl))))
                        · refine y_throw rfl rfl rfl ?_
                          exact hE2 (by (first | omega | (simp only [show ySeat x2 = x2 from if_neg (by omega), show ySeat x3 = x3 from if_neg (by omega)]; omega) | (simp only [show ySeat x2 = x2 from if_neg (by omega), show ySeat x3 = Int32.ofInt 8 from if_pos (by omega)]; omega) | (simp only [show ySeat x2 = Int32.ofInt 8 from if_pos (by omega), show ySeat x3 = x3 from if_neg (by omega)]; omega) | (simp only [show ySeat x2 = Int32.ofInt 8 from if_pos (by omega), show ySeat x3 = Int32.ofInt 8 from if_pos (by omega)]; omega)))
                · rw [yz_m1] at h_17
                  refine y_bip rfl (by decide) ?_
                  refine y_goto rfl j_X8_placeOf_11 ?_
                  refine y_ireturn rfl rfl rfl ?_
                  refine y_ret1 ?_
                  refine y_istore (ls' := [some _, some _, some _, some _, some _, some _, some _]) rfl rfl rfl ?_
                  refine y_aload_n rfl rfl ?_
                  refine y_getR rfl (ySh.t hS rfl) (ySh.n hS rfl) rfl rfl (ySh.r hS rfl) ?_
                  refine y_iload_n rfl rfl ?_
                  refine y_iload rfl rfl ?_
                  refine y_virt rfl rfl rfl rfl rfl (ySh.t hS rfl) (ySh.n hS rfl) ?_
                  refine y_in (M := xm_X7_isPartner) (ls := [some _, some _, some _]) rfl rfl rfl ?_
                  refine y_aload_n rfl rfl ?_
                  refine y_getR rfl (ySh.t hS rfl) (ySh.n hS rfl) rfl rfl (ySh.r hS rfl) ?_
                  refine y_aload_n rfl rfl ?_
                  refine y_iload_n rfl rfl ?_
                  refine y_iload_n rfl rfl ?_
                  refine y_virt rfl rfl rfl rfl rfl (ySh.t hS rfl) (ySh.n hS rfl) ?_
                  refine spx_at (by omega) (by omega) (by omega) (by omega) (fun hz36 => ?_)
                  refine y_ret1 ?_
                  refine y_baloadv (J := I 70) rfl (ySh.t hS rfl) rfl (ySh.n hS rfl) (by omega) (by omega) rfl ?_
                  refine y_ireturn rfl rfl (xfit_z (hC.p _)) ?_
                  refine y_ret1 ?_
                  refine y_if_eq rfl j_X8_buyOut_134 (fun h_37 => ?_) (fun h_38 => ?_)
                  · refine y_throw rfl rfl rfl ?_
                    exact hE2 (by (first | omega | (simp only [show ySeat x2 = x2 from if_neg (by omega), show ySeat x3 = x3 from if_neg (by omega)]; omega) | (simp only [show ySeat x2 = x2 from if_neg (by omega), show ySeat x3 = Int32.ofInt 8 from if_pos (by omega)]; omega) | (simp only [show ySeat x2 = Int32.ofInt 8 from if_pos (by omega), show ySeat x3 = x3 from if_neg (by omega)]; omega) | (simp only [show ySeat x2 = Int32.ofInt 8 from if_pos (by omega), show ySeat x3 = Int32.ofInt 8 from if_pos (by omega)]; omega)))
                  · refine y_aload_n rfl rfl ?_
                    refine y_getR rfl (ySh.t hS rfl) (ySh.n hS rfl) rfl rfl (ySh.r hS rfl) ?_
                    refine y_iload_n rfl rfl ?_
                    refine y_iload rfl rfl ?_
                    refine y_virt rfl rfl rfl rfl rfl (ySh.t hS rfl) (ySh.n hS rfl) ?_
                    refine y_in (M := xm_X7_isPartner) (ls := [some _, some _, some _]) rfl rfl rfl ?_
                    refine y_aload_n rfl rfl ?_
                    refine y_getR rfl (ySh.t hS rfl) (ySh.n hS rfl) rfl rfl (ySh.r hS rfl) ?_
                    refine y_aload_n rfl rfl ?_
                    refine y_iload_n rfl rfl ?_
                    refine y_iload_n rfl rfl ?_
                    refine y_virt rfl rfl rfl rfl rfl (ySh.t hS rfl) (ySh.n hS rfl) ?_
                    refine spx_at (by omega) (by omega) (by decide) (by decide) (fun hz39 => ?_)
                    rw [yz_8] at hz39
                    refine y_ret1 ?_
                    refine y_baloadv (J := I 70) rfl (ySh.t hS rfl) rfl (ySh.n hS rfl) (by omega) (by omega) rfl ?_
                    refine y_ireturn rfl rfl (xfit_z (hC.p _)) ?_
                    refine y_ret1 ?_
                    refine y_if_eq rfl j_X8_buyOut_134 (fun h_40 => ?_) (fun h_41 => ?_)
                    · refine y_throw rfl rfl rfl ?_
                      exact hE2 (by (first | omega | (simp only [show ySeat x2 = x2 from if_neg (by omega), show ySeat x3 = x3 from if_neg (by omega)]; omega) | (simp only [show ySeat x2 = x2 from if_neg (by omega), show ySeat x3 = Int32.ofInt 8 from if_pos (by omega)]; omega) | (simp only [show ySeat x2 = Int32.ofInt 8 from if_pos (by omega), show ySeat x3 = x3 from if_neg (by omega)]; omega) | (simp only [show ySeat x2 = Int32.ofInt 8 from if_pos (by omega), show ySeat x3 = Int32.ofInt 8 from if_pos (by omega)]; omega)))
                    · refine y_aload_n rfl rfl ?_
                      refine y_getR rfl (ySh.t hS rfl) (ySh.n hS rfl) rfl rfl (ySh.r hS rfl) ?_
                      refine y_iload_n rfl rfl ?_
                      refine y_iload rfl rfl ?_
                      refine y_virt rfl rfl rfl rfl rfl (ySh.t hS rfl) (ySh.n hS rfl) ?_
                      refine y_in (M := xm_X7_capitalOf) (ls := [some _, some _, some _]) rfl rfl rfl ?_
                      refine y_aload_n rfl rfl ?_
                      refine y_getR rfl (ySh.t hS rfl) (ySh.n hS rfl) rfl rfl (ySh.r hS rfl) ?_
                      refine y_aload_n rfl rfl ?_
                      refine y_iload_n rfl rfl ?_
                      refine y_iload_n rfl rfl ?_
                      refine y_virt rfl rfl rfl rfl rfl (ySh.t hS rfl) (ySh.n hS rfl) ?_
                      refine spx_at (by omega) (by omega) (by omega) (by omega) (fun hz42 => ?_)
                      refine y_ret1 ?_
                      refine y_ialoadv (J := I 71) rfl (ySh.t hS rfl) (ySh.n hS rfl) (by omega) (by omega) rfl ?_
                      refine y_ireturn rfl rfl rfl ?_
                      refine y_ret1 ?_
                      refine y_iload rfl rfl ?_
                      refine y_icmp_lt rfl j_X8_buyOut_134 (fun h_43 => ?_) (fun h_44 => ?_)
                      · refine y_throw rfl rfl rfl ?_
                        exact hE2 (by (first | omega | (simp only [show ySeat x2 = x2 from if_neg (by omega), show ySeat x3 = x3 from if_neg (by omega)]; omega) | (simp only [show ySeat x2 = x2 from if_neg (by omega), show ySeat x3 = Int32.ofInt 8 from if_pos (by omega)]; omega) | (simp only [show ySeat x2 = Int32.ofInt 8 from if_pos (by omega), show ySeat x3 = x3 from if_neg (by omega)]; omega) | (simp only [show ySeat x2 = Int32.ofInt 8 from if_pos (by omega), show ySeat x3 = Int32.ofInt 8 from if_pos (by omega)]; omega)))
                      · refine y_aload_n rfl rfl ?_
                        refine y_getR rfl (ySh.t hS rfl) (ySh.n hS rfl) rfl rfl (ySh.r hS rfl) ?_
                        refine y_getR rfl (ySh.t hS rfl) (ySh.n hS rfl) rfl rfl (ySh.r hS rfl) ?_
                        refine y_iload rfl rfl ?_
                        refine y_ialoadv (J := I 39) rfl (ySh.t hS rfl) (ySh.n hS rfl) (by decide) (by decide) rfl ?_
                        refine y_iload rfl rfl ?_
                        refine y_icmp_ge rfl j_X8_buyOut_145 (fun h_45 => ?_) (fun h_46 => ?_)
                        · refine y_aload_n rfl rfl ?_
                          refine y_getR rfl (ySh.t hS rfl) (ySh.n hS rfl) rfl rfl (ySh.r hS rfl) ?_
                          refine y_iload rfl rfl ?_
                          refine y_iload rfl rfl ?_
                          refine y_iload rfl rfl ?_
                          refine y_virt rfl rfl rfl rfl rfl (ySh.t hS rfl) (ySh.n hS rfl) ?_
                          refine y_in (M := xm_X4_move) (ls := [some _, some _, some _, some _]) rfl rfl rfl ?_
                          refine y_aload_n rfl rfl ?_
                          refine y_iload_n rfl rfl ?_
                          refine y_iload_n rfl rfl ?_
                          refine y_ineg rfl ?_
                          refine y_virt rfl rfl rfl rfl rfl (ySh.t hS rfl) (ySh.n hS rfl) ?_
                          refine spx_add hS ?_
                          refine y_ret0 ?_
                          refine y_nameI (fun I47 e47 => ?_)
                          have hC : yCI I47 := by rw [e47]; exact yCI.addC hC
                          have hF : yFt I I47 := by rw [e47]; exact hF.addC
                          refine y_aload_n rfl rfl ?_
                          refine y_iload_n rfl rfl ?_
                          refine y_iload_n rfl rfl ?_
                          refine y_virt rfl rfl rfl rfl rfl (ySh.t hS rfl) (ySh.n hS rfl) ?_
                          refine spx_add hS ?_
                          refine y_ret0 ?_
                          refine y_nameI (fun I48 e48 => ?_)
                          have hC : yCI I48 := by rw [e48]; exact yCI.addC hC
                          have hF : yFt I I48 := by rw [e48]; exact hF.addC
                          refine y_return rfl ?_
                          refine y_ret0 ?_
                          refine y_aload_n rfl rfl ?_
                          refine y_getR rfl (ySh.t hS rfl) (ySh.n hS rfl) rfl rfl (ySh.r hS rfl) ?_
                          refine y_iload_n rfl rfl ?_
                          refine y_iload rfl rfl ?_
                          refine y_iload rfl rfl ?_
                          refine y_iload rfl rfl ?_
                          refine y_virt rfl rfl rfl rfl rfl (ySh.t hS rfl) (ySh.n hS rfl) ?_
                          refine y_in (M := xm_X7_moveCapital) (ls := [some _, some _, some _, some _, some _]) rfl rfl rfl ?_
                          refine y_aload_n rfl rfl ?_
                          refine y_getR rfl (ySh.t hS rfl) (ySh.n hS rfl) rfl rfl (ySh.r hS rfl) ?_
                          refine y_aload_n rfl rfl ?_
                          refine y_iload_n rfl rfl ?_
                          refine y_iload_n rfl rfl ?_
                          refine y_virt rfl rfl rfl rfl rfl (ySh.t hS rfl) (ySh.n hS rfl) ?_
                          refine spx_at (by omega) (by omega) (by omega) (by omega) (fun hz49 => ?_)
                          refine y_ret1 ?_
                          refine y_dup2 rfl rfl rfl ?_
                          refine y_ialoadv (J := I 71) rfl (ySh.t hS rfl) (ySh.n hS rfl) (by omega) (by omega) (by rw [e48, yAddC_row (by decide), e47, yAddC_row (by decide)]) ?_
                          refine y_iload rfl rfl ?_
                          refine y_isub rfl ?_
                          refine y_iastore rfl (ySh.t hS rfl) (ySh.n hS rfl) (Nat.le_of_ble_eq_true rfl) (by omega) (by omega) ?_
                          refine y_nameI (fun I50 e50 => ?_)
                          have hC : yCI I50 := by rw [e50]; exact hC
                          have hF : yFt I I50 := by rw [e50]; exact hF.upd (by decide)
                          refine y_aload_n rfl rfl ?_
                          refine y_getR rfl (ySh.t hS rfl) (ySh.n hS rfl) rfl rfl (ySh.r hS rfl) ?_
                          refine y_aload_n rfl rfl ?_
                          refine y_iload_n rfl rfl ?_
                          refine y_iload_n rfl rfl ?_
                          refine y_virt rfl rfl rfl rfl rfl (ySh.t hS rfl) (ySh.n hS rfl) ?_
                          refine spx_at (by omega) (by omega) (by decide) (by decide) (fun hz51 => ?_)
                          rw [yz_8] at hz51
                          refine y_ret1 ?_
                          refine y_dup2 rfl rfl rfl ?_
                          refine y_iaload rfl (ySh.t hS rfl) (ySh.n hS rfl) (by omega) (by omega) ?_
                          refine y_iload rfl rfl ?_
                          refine y_iadd rfl ?_
                          refine y_iastore rfl (ySh.t hS rfl) (ySh.n hS rfl) (Nat.le_of_ble_eq_true rfl) (by omega) (by omega) ?_
                          refine y_nameI (fun I52 e52 => ?_)
                          have hC : yCI I52 := by rw [e52]; exact hC
                          have hF : yFt I I52 := by rw [e52]; exact hF.upd (by decide)
                          refine y_return rfl ?_
                          refine y_ret0 ?_
                          refine y_aload_n rfl rfl ?_
                          refine y_getR rfl (ySh.t hS rfl) (ySh.n hS rfl) rfl rfl (ySh.r hS rfl) ?_
                          refine y_iload_n rfl rfl ?_
                          refine y_iload rfl rfl ?_
                          refine y_virt rfl rfl rfl rfl rfl (ySh.t hS rfl) (ySh.n hS rfl) ?_
                          refine y_in (M := xm_X7_capitalOf) (ls := [some _, some _, some _]) rfl rfl rfl ?_
                          refine y_aload_n rfl rfl ?_
                          refine y_getR rfl (ySh.t hS rfl) (ySh.n hS rfl) rfl rfl (ySh.r hS rfl) ?_
                          refine y_aload_n rfl rfl ?_
                          refine y_iload_n rfl rfl ?_
                          refine y_iload_n rfl rfl ?_
                          refine y_virt rfl rfl rfl rfl rfl (ySh.t hS rfl) (ySh.n hS rfl) ?_
                          refine spx_at (by omega) (by omega) (by omega) (by omega) (fun hz53 => ?_)
                          refine y_ret1 ?_
                          refine y_iaload rfl (ySh.t hS rfl) (ySh.n hS rfl) (by omega) (by omega) ?_
                          refine y_ireturn rfl rfl rfl ?_
                          refine y_ret1 ?_
                          refine y_ireturn rfl rfl rfl ?_
                          first | (exfalso; omega) | (exact hQ (by (first | omega | (simp only [show ySeat x2 = x2 from if_neg (by omega), show ySeat x3 = x3 from if_neg (by omega)]; omega) | (simp only [show ySeat x2 = x2 from if_neg (by omega), show ySeat x3 = Int32.ofInt 8 from if_pos (by omega)]; omega) | (simp only [show ySeat x2 = Int32.ofInt 8 from if_pos (by omega), show ySeat x3 = x3 from if_neg (by omega)]; omega) | (simp only [show ySeat x2 = Int32.ofInt 8 from if_pos (by omega), show ySeat x3 = Int32.ofInt 8 from if_pos (by omega)]; omega))) _ _ hC hF (by first | rfl | (simp only [show ySeat x2 = x2 from if_neg (by omega), show ySeat x3 = x3 from if_neg (by omega)]; done) | (simp only [show ySeat x2 = x2 from if_neg (by omega), show ySeat x3 = Int32.ofInt 8 from if_pos (by omega)]; done) | (simp only [show ySeat x2 = Int32.ofInt 8 from if_pos (by omega), show ySeat x3 = x3 from if_neg (by omega)]; done) | (simp only [show ySeat x2 = Int32.ofInt 8 from if_pos (by omega), show ySeat x3 = Int32.ofInt 8 from if_pos (by omega)]; done)) (by first | (simp only [show ySeat x2 = x2 from if_neg (by omega), show ySeat x3 = x3 from if_neg (by omega)]; first | (rw [e52, e50, e48, e47]; done) | (rw [e52, e50, e48, e47]; rfl)) | (simp only [show ySeat x2 = x2 from if_neg (by omega), show ySeat x3 = Int32.ofInt 8 from if_pos (by omega)]; first | (rw [e52, e50, e48, e47]; done) | (rw [e52, e50, e48, e47]; rfl)) | (simp only [show ySeat x2 = Int32.ofInt 8 from if_pos (by omega), show ySeat x3 = x3 from if_neg (by omega)]; first | (rw [e52, e50, e48, e47]; done) | (rw [e52, e50, e48, e47]; rfl)) | (simp only [show ySeat x2 = Int32.ofInt 8 from if_pos (by omega), show ySeat x3 = Int32.ofInt 8 from if_pos (by omega)]; first | (rw [e52, e50, e48, e47]; done) | (rw [e52, e50, e48, e47]; rfl))))
                        · refine y_throw rfl rfl rfl ?_
                          exact hE2 (by (first | omega | (simp only [show ySeat x2 = x2 from if_neg (by omega), show ySeat x3 = x3 from if_neg (by omega)]; omega) | (simp only [show ySeat x2 = x2 from if_neg (by omega), show ySeat x3 = Int32.ofInt 8 from if_pos (by omega)]; omega) | (simp only [show ySeat x2 = Int32.ofInt 8 from if_pos (by omega), show ySeat x3 = x3 from if_neg (by omega)]; omega) | (simp only [show ySeat x2 = Int32.ofInt 8 from if_pos (by omega), show ySeat x3 = Int32.ofInt 8 from if_pos (by omega)]; omega)))
              · rw [yz_m1] at h_15
                refine y_bip rfl (by decide) ?_
                refine y_goto rfl j_X8_placeOf_11 ?_
                refine y_ireturn rfl rfl rfl ?_
                refine y_ret1 ?_
                refine y_istore (ls' := [some _, some _, some _, some _, some _, some _, _]) rfl rfl rfl ?_
                refine y_iload_n rfl rfl ?_
                refine y_static rfl rfl rfl rfl rfl ?_
                refine y_in (M := xm_X8_placeOf) (ls := [some _]) rfl rfl rfl ?_
                refine y_iload_n rfl rfl ?_
                refine y_iconst rfl ?_
                refine y_icmp_ne rfl j_X8_placeOf_10 (fun h_54 => ?_) (fun h_55 => ?_)
                · rw [yz_m1] at h_54
                  refine y_iload_n rfl rfl ?_
                  refine y_ireturn rfl rfl rfl ?_
                  refine y_ret1 ?_
                  refine y_istore (ls' := [some _, some _, some _, some _, some _, some _, some _]) rfl rfl rfl ?_
                  refine y_aload_n rfl rfl ?_
                  refine y_getR rfl (ySh.t hS rfl) (ySh.n hS rfl) rfl rfl (ySh.r hS rfl) ?_
                  refine y_iload_n rfl rfl ?_
                  refine y_iload rfl rfl ?_
                  refine y_virt rfl rfl rfl rfl rfl (ySh.t hS rfl) (ySh.n hS rfl) ?_
                  refine y_in (M := xm_X7_isPartner) (ls := [some _, some _, some _]) rfl rfl rfl ?_
                  refine y_aload_n rfl rfl ?_
                  refine y_getR rfl (ySh.t hS rfl) (ySh.n hS rfl) rfl rfl (ySh.r hS rfl) ?_
                  refine y_aload_n rfl rfl ?_
                  refine y_iload_n rfl rfl ?_
                  refine y_iload_n rfl rfl ?_
                  refine y_virt rfl rfl rfl rfl rfl (ySh.t hS rfl) (ySh.n hS rfl) ?_
                  refine spx_at (by omega) (by omega) (by decide) (by decide) (fun hz56 => ?_)
                  rw [yz_8] at hz56
                  refine y_ret1 ?_
                  refine y_baloadv (J := I 70) rfl (ySh.t hS rfl) rfl (ySh.n hS rfl) (by omega) (by omega) rfl ?_
                  refine y_ireturn rfl rfl (xfit_z (hC.p _)) ?_
                  refine y_ret1 ?_
                  refine y_if_eq rfl j_X8_buyOut_134 (fun h_57 => ?_) (fun h_58 => ?_)
                  · refine y_throw rfl rfl rfl ?_
                    exact hE2 (by (first | omega | (simp only [show ySeat x2 = x2 from if_neg (by omega), show ySeat x3 = x3 from if_neg (by omega)]; omega) | (simp only [show ySeat x2 = x2 from if_neg (by omega), show ySeat x3 = Int32.ofInt 8 from if_pos (by omega)]; omega) | (simp only [show ySeat x2 = Int32.ofInt 8 from if_pos (by omega), show ySeat x3 = x3 from if_neg (by omega)]; omega) | (simp only [show ySeat x2 = Int32.ofInt 8 from if_pos (by omega), show ySeat x3 = Int32.ofInt 8 from if_pos (by omega)]; omega)))
                  · refine y_aload_n rfl rfl ?_
                    refine y_getR rfl (ySh.t hS rfl) (ySh.n hS rfl) rfl rfl (ySh.r hS rfl) ?_
                    refine y_iload_n rfl rfl ?_
                    refine y_iload rfl rfl ?_
                    refine y_virt rfl rfl rfl rfl rfl (ySh.t hS rfl) (ySh.n hS rfl) ?_
                    refine y_in (M := xm_X7_isPartner) (ls := [some _, some _, some _]) rfl rfl rfl ?_
                    refine y_aload_n rfl rfl ?_
                    refine y_getR rfl (ySh.t hS rfl) (ySh.n hS rfl) rfl rfl (ySh.r hS rfl) ?_
                    refine y_aload_n rfl rfl ?_
                    refine y_iload_n rfl rfl ?_
                    refine y_iload_n rfl rfl ?_
                    refine y_virt rfl rfl rfl rfl rfl (ySh.t hS rfl) (ySh.n hS rfl) ?_
                    refine spx_at (by omega) (by omega) (by omega) (by omega) (fun hz59 => ?_)
                    refine y_ret1 ?_
                    refine y_baloadv (J := I 70) rfl (ySh.t hS rfl) rfl (ySh.n hS rfl) (by omega) (by omega) rfl ?_
                    refine y_ireturn rfl rfl (xfit_z (hC.p _)) ?_
                    refine y_ret1 ?_
                    refine y_if_eq rfl j_X8_buyOut_134 (fun h_60 => ?_) (fun h_61 => ?_)
                    · refine y_throw rfl rfl rfl ?_
                      exact hE2 (by (first | omega | (simp only [show ySeat x2 = x2 from if_neg (by omega), show ySeat x3 = x3 from if_neg (by omega)]; omega) | (simp only [show ySeat x2 = x2 from if_neg (by omega), show ySeat x3 = Int32.ofInt 8 from if_pos (by omega)]; omega) | (simp only [show ySeat x2 = Int32.ofInt 8 from if_pos (by omega), show ySeat x3 = x3 from if_neg (by omega)]; omega) | (simp only [show ySeat x2 = Int32.ofInt 8 from if_pos (by omega), show ySeat x3 = Int32.ofInt 8 from if_pos (by omega)]; omega)))
                    · refine y_aload_n rfl rfl ?_
                      refine y_getR rfl (ySh.t hS rfl) (ySh.n hS rfl) rfl rfl (ySh.r hS rfl) ?_
                      refine y_iload_n rfl rfl ?_
                      refine y_iload rfl rfl ?_
                      refine y_virt rfl rfl rfl rfl rfl (ySh.t hS rfl) (ySh.n hS rfl) ?_
                      refine y_in (M := xm_X7_capitalOf) (ls := [some _, some _, some _]) rfl rfl rfl ?_
                      refine y_aload_n rfl rfl ?_
                      refine y_getR rfl (ySh.t hS rfl) (ySh.n hS rfl) rfl rfl (ySh.r hS rfl) ?_
                      refine y_aload_n rfl rfl ?_
                      refine y_iload_n rfl rfl ?_
                      refine y_iload_n rfl rfl ?_
                      refine y_virt rfl rfl rfl rfl rfl (ySh.t hS rfl) (ySh.n hS rfl) ?_
                      refine spx_at (by omega) (by omega) (by decide) (by decide) (fun hz62 => ?_)
                      rw [yz_8] at hz62
                      refine y_ret1 ?_
                      refine y_ialoadv (J := I 71) rfl (ySh.t hS rfl) (ySh.n hS rfl) (by omega) (by omega) rfl ?_
                      refine y_ireturn rfl rfl rfl ?_
                      refine y_ret1 ?_
                      refine y_iload rfl rfl ?_
                      refine y_icmp_lt rfl j_X8_buyOut_134 (fun h_63 => ?_) (fun h_64 => ?_)
                      · refine y_throw rfl rfl rfl ?_
                        exact hE2 (by (first | omega | (simp only [show ySeat x2 = x2 from if_neg (by omega), show ySeat x3 = x3 from if_neg (by omega)]; omega) | (simp only [show ySeat x2 = x2 from if_neg (by omega), show ySeat x3 = Int32.ofInt 8 from if_pos (by omega)]; omega) | (simp only [show ySeat x2 = Int32.ofInt 8 from if_pos (by omega), show ySeat x3 = x3 from if_neg (by omega)]; omega) | (simp only [show ySeat x2 = Int32.ofInt 8 from if_pos (by omega), show ySeat x3 = Int32.ofInt 8 from if_pos (by omega)]; omega)))
                      · refine y_aload_n rfl rfl ?_
                        refine y_getR rfl (ySh.t hS rfl) (ySh.n hS rfl) rfl rfl (ySh.r hS rfl) ?_
                        refine y_getR rfl (ySh.t hS rfl) (ySh.n hS rfl) rfl rfl (ySh.r hS rfl) ?_
                        refine y_iload rfl rfl ?_
                        refine y_ialoadv (J := I 39) rfl (ySh.t hS rfl) (ySh.n hS rfl) (by omega) (by omega) rfl ?_
                        refine y_iload rfl rfl ?_
                        refine y_icmp_ge rfl j_X8_buyOut_145 (fun h_65 => ?_) (fun h_66 => ?_)
                        · refine y_aload_n rfl rfl ?_
                          refine y_getR rfl (ySh.t hS rfl) (ySh.n hS rfl) rfl rfl (ySh.r hS rfl) ?_
                          refine y_iload rfl rfl ?_
                          refine y_iload rfl rfl ?_
                          refine y_iload rfl rfl ?_
                          refine y_virt rfl rfl rfl rfl rfl (ySh.t hS rfl) (ySh.n hS rfl) ?_
                          refine y_in (M := xm_X4_move) (ls := [some _, some _, some _, some _]) rfl rfl rfl ?_
                          refine y_aload_n rfl rfl ?_
                          refine y_iload_n rfl rfl ?_
                          refine y_iload_n rfl rfl ?_
                          refine y_ineg rfl ?_
                          refine y_virt rfl rfl rfl rfl rfl (ySh.t hS rfl) (ySh.n hS rfl) ?_
                          refine spx_add hS ?_
                          refine y_ret0 ?_
                          refine y_nameI (fun I67 e67 => ?_)
                          have hC : yCI I67 := by rw [e67]; exact yCI.addC hC
                          have hF : yFt I I67 := by rw [e67]; exact hF.addC
                          refine y_aload_n rfl rfl ?_
                          refine y_iload_n rfl rfl ?_
                          refine y_iload_n rfl rfl ?_
                          refine y_virt rfl rfl rfl rfl rfl (ySh.t hS rfl) (ySh.n hS rfl) ?_
                          refine spx_add hS ?_
                          refine y_ret0 ?_
                          refine y_nameI (fun I68 e68 => ?_)
                          have hC : yCI I68 := by rw [e68]; exact yCI.addC hC
                          have hF : yFt I I68 := by rw [e68]; exact hF.addC
                          refine y_return rfl ?_
                          refine y_ret0 ?_
                          refine y_aload_n rfl rfl ?_
                          refine y_getR rfl (ySh.t hS rfl) (ySh.n hS rfl) rfl rfl (ySh.r hS rfl) ?_
                          refine y_iload_n rfl rfl ?_
                          refine y_iload rfl rfl ?_
                          refine y_iload rfl rfl ?_
                          refine y_iload rfl rfl ?_
                          refine y_virt rfl rfl rfl rfl rfl (ySh.t hS rfl) (ySh.n hS rfl) ?_
                          refine y_in (M := xm_X7_moveCapital) (ls := [some _, some _, some _, some _, some _]) rfl rfl rfl ?_
                          refine y_aload_n rfl rfl ?_
                          refine y_getR rfl (ySh.t hS rfl) (ySh.n hS rfl) rfl rfl (ySh.r hS rfl) ?_
                          refine y_aload_n rfl rfl ?_
                          refine y_iload_n rfl rfl ?_
                          refine y_iload_n rfl rfl ?_
                          refine y_virt rfl rfl rfl rfl rfl (ySh.t hS rfl) (ySh.n hS rfl) ?_
                          refine spx_at (by omega) (by omega) (by decide) (by decide) (fun hz69 => ?_)
                          rw [yz_8] at hz69
                          refine y_ret1 ?_
                          refine y_dup2 rfl rfl rfl ?_
                          refine y_ialoadv (J := I 71) rfl (ySh.t hS rfl) (ySh.n hS rfl) (by omega) (by omega) (by rw [e68, yAddC_row (by decide), e67, yAddC_row (by decide)]) ?_
                          refine y_iload rfl rfl ?_
                          refine y_isub rfl ?_
                          refine y_iastore rfl (ySh.t hS rfl) (ySh.n hS rfl) (Nat.le_of_ble_eq_true rfl) (by omega) (by omega) ?_
                          refine y_nameI (fun I70 e70 => ?_)
                          have hC : yCI I70 := by rw [e70]; exact hC
                          have hF : yFt I I70 := by rw [e70]; exact hF.upd (by decide)
                          refine y_aload_n rfl rfl ?_
                          refine y_getR rfl (ySh.t hS rfl) (ySh.n hS rfl) rfl rfl (ySh.r hS rfl) ?_
                          refine y_aload_n rfl rfl ?_
                          refine y_iload_n rfl rfl ?_
                          refine y_iload_n rfl rfl ?_
                          refine y_virt rfl rfl rfl rfl rfl (ySh.t hS rfl) (ySh.n hS rfl) ?_
                          refine spx_at (by omega) (by omega) (by omega) (by omega) (fun hz71 => ?_)
                          refine y_ret1 ?_
                          refine y_dup2 rfl rfl rfl ?_
                          refine y_iaload rfl (ySh.t hS rfl) (ySh.n hS rfl) (by omega) (by omega) ?_
                          refine y_iload rfl rfl ?_
                          refine y_iadd rfl ?_
                          refine y_iastore rfl (ySh.t hS rfl) (ySh.n hS rfl) (Nat.le_of_ble_eq_true rfl) (by omega) (by omega) ?_
                          refine y_nameI (fun I72 e72 => ?_)
                          have hC : yCI I72 := by rw [e72]; exact hC
                          have hF : yFt I I72 := by rw [e72]; exact hF.upd (by decide)
                          refine y_return rfl ?_
                          refine y_ret0 ?_
                          refine y_aload_n rfl rfl ?_
                          refine y_getR rfl (ySh.t hS rfl) (ySh.n hS rfl) rfl rfl (ySh.r hS rfl) ?_
                          refine y_iload_n rfl rfl ?_
                          refine y_iload rfl rfl ?_
                          refine y_virt rfl rfl rfl rfl rfl (ySh.t hS rfl) (ySh.n hS rfl) ?_
                          refine y_in (M := xm_X7_capitalOf) (ls := [some _, some _, some _]) rfl rfl rfl ?_
                          refine y_aload_n rfl rfl ?_
                          refine y_getR rfl (ySh.t hS rfl) (ySh.n hS rfl) rfl rfl (ySh.r hS rfl) ?_
                          refine y_aload_n rfl rfl ?_
                          refine y_iload_n rfl rfl ?_
                          refine y_iload_n rfl rfl ?_
                          refine y_virt rfl rfl rfl rfl rfl (ySh.t hS rfl) (ySh.n hS rfl) ?_
                          refine spx_at (by omega) (by omega) (by decide) (by decide) (fun hz73 => ?_)
                          rw [yz_8] at hz73
                          refine y_ret1 ?_
                          refine y_iaload rfl (ySh.t hS rfl) (ySh.n hS rfl) (by omega) (by omega) ?_
                          refine y_ireturn rfl rfl rfl ?_
                          refine y_ret1 ?_
                          refine y_ireturn rfl rfl rfl ?_
                          first | (exfalso; omega) | (exact hQ (by (first | omega | (simp only [show ySeat x2 = x2 from if_neg (by omega), show ySeat x3 = x3 from if_neg (by omega)]; omega) | (simp only [show ySeat x2 = x2 from if_neg (by omega), show ySeat x3 = Int32.ofInt 8 from if_pos (by omega)]; omega) | (simp only [show ySeat x2 = Int32.ofInt 8 from if_pos (by omega), show ySeat x3 = x3 from if_neg (by omega)]; omega) | (simp only [show ySeat x2 = Int32.ofInt 8 from if_pos (by omega), show ySeat x3 = Int32.ofInt 8 from if_pos (by omega)]; omega))) _ _ hC hF (by first | rfl | (simp only [show ySeat x2 = x2 from if_neg (by omega), show ySeat x3 = x3 from if_neg (by omega)]; done) | (simp only [show ySeat x2 = x2 from if_neg (by omega), show ySeat x3 = Int32.ofInt 8 from if_pos (by omega)]; done) | (simp only [show ySeat x2 = Int32.ofInt 8 from if_pos (by omega), show ySeat x3 = x3 from if_neg (by omega)]; done) | (simp only [show ySeat x2 = Int32.ofInt 8 from if_pos (by omega), show ySeat x3 = Int32.ofInt 8 from if_pos (by omega)]; done)) (by first | (simp only [show ySeat x2 = x2 from if_neg (by omega), show ySeat x3 = x3 from if_neg (by omega)]; first | (rw [e72, e70, e68, e67]; done) | (rw [e72, e70, e68, e67]; rfl)) | (simp only [show ySeat x2 = x2 from if_neg (by omega), show ySeat x3 = Int32.ofInt 8 from if_pos (by omega)]; first | (rw [e72, e70, e68, e67]; done) | (rw [e72, e70, e68, e67]; rfl)) | (simp only [show ySeat x2 = Int32.ofInt 8 from if_pos (by omega), show ySeat x3 = x3 from if_neg (by omega)]; first | (rw [e72, e70, e68, e67]; done) | (rw [e72, e70, e68, e67]; rfl)) | (simp only [show ySeat x2 = Int32.ofInt 8 from if_pos (by omega), show ySeat x3 = Int32.ofInt 8 from if_pos (by omega)]; first | (rw [e72, e70, e68, e67]; done) | (rw [e72, e70, e68, e67]; rfl))))
                        · refine y_throw rfl rfl rfl ?_
                          exact hE2 (by (first | omega | (simp only [show ySeat x2 = x2 from if_neg (by omega), show ySeat x3 = x3 from if_neg (by omega)]; omega) | (simp only [show ySeat x2 = x2 from if_neg (by omega), show ySeat x3 = Int32.ofInt 8 from if_pos (by omega)]; omega) | (simp only [show ySeat x2 = Int32.ofInt 8 from if_pos (by omega), show ySeat x3 = x3 from if_neg (by omega)]; omega) | (simp only [show ySeat x2 = Int32.ofInt 8 from if_pos (by omega), show ySeat x3 = Int32.ofInt 8 from if_pos (by omega)]; omega)))
                · rw [yz_m1] at h_55
                  refine y_bip rfl (by decide) ?_
                  refine y_goto rfl j_X8_placeOf_11 ?_
                  refine y_ireturn rfl rfl rfl ?_
                  refine y_ret1 ?_
                  refine y_istore (ls' := [some _, some _, some _, some _, some _, some _, some _]) rfl rfl rfl ?_
                  refine y_aload_n rfl rfl ?_
                  refine y_getR rfl (ySh.t hS rfl) (ySh.n hS rfl) rfl rfl (ySh.r hS rfl) ?_
                  refine y_iload_n rfl rfl ?_
                  refine y_iload rfl rfl ?_
                  refine y_virt rfl rfl rfl rfl rfl (ySh.t hS rfl) (ySh.n hS rfl) ?_
                  refine y_in (M := xm_X7_isPartner) (ls := [some _, some _, some _]) rfl rfl rfl ?_
                  refine y_aload_n rfl rfl ?_
                  refine y_getR rfl (ySh.t hS rfl) (ySh.n hS rfl) rfl rfl (ySh.r hS rfl) ?_
                  refine y_aload_n rfl rfl ?_
                  refine y_iload_n rfl rfl ?_
                  refine y_iload_n rfl rfl ?_
                  refine y_virt rfl rfl rfl rfl rfl (ySh.t hS rfl) (ySh.n hS rfl) ?_
                  refine spx_at (by omega) (by omega) (by decide) (by decide) (fun hz74 => ?_)
                  rw [yz_8] at hz74
                  refine y_ret1 ?_
                  refine y_baloadv (J := I 70) rfl (ySh.t hS rfl) rfl (ySh.n hS rfl) (by omega) (by omega) rfl ?_
                  refine y_ireturn rfl rfl (xfit_z (hC.p _)) ?_
                  refine y_ret1 ?_
                  refine y_if_eq rfl j_X8_buyOut_134 (fun h_75 => ?_) (fun h_76 => ?_)
                  · refine y_throw rfl rfl rfl ?_
                    exact hE2 (by (first | omega | (simp only [show ySeat x2 = x2 from if_neg (by omega), show ySeat x3 = x3 from if_neg (by omega)]; omega) | (simp only [show ySeat x2 = x2 from if_neg (by omega), show ySeat x3 = Int32.ofInt 8 from if_pos (by omega)]; omega) | (simp only [show ySeat x2 = Int32.ofInt 8 from if_pos (by omega), show ySeat x3 = x3 from if_neg (by omega)]; omega) | (simp only [show ySeat x2 = Int32.ofInt 8 from if_pos (by omega), show ySeat x3 = Int32.ofInt 8 from if_pos (by omega)]; omega)))
                  · refine y_aload_n rfl rfl ?_
                    refine y_getR rfl (ySh.t hS rfl) (ySh.n hS rfl) rfl rfl (ySh.r hS rfl) ?_
                    refine y_iload_n rfl rfl ?_
                    refine y_iload rfl rfl ?_
                    refine y_virt rfl rfl rfl rfl rfl (ySh.t hS rfl) (ySh.n hS rfl) ?_
                    refine y_in (M := xm_X7_isPartner) (ls := [some _, some _, some _]) rfl rfl rfl ?_
                    refine y_aload_n rfl rfl ?_
                    refine y_getR rfl (ySh.t hS rfl) (ySh.n hS rfl) rfl rfl (ySh.r hS rfl) ?_
                    refine y_aload_n rfl rfl ?_
                    refine y_iload_n rfl rfl ?_
                    refine y_iload_n rfl rfl ?_
                    refine y_virt rfl rfl rfl rfl rfl (ySh.t hS rfl) (ySh.n hS rfl) ?_
                    refine spx_at (by omega) (by omega) (by decide) (by decide) (fun hz77 => ?_)
                    rw [yz_8] at hz77
                    refine y_ret1 ?_
                    refine y_baloadv (J := I 70) rfl (ySh.t hS rfl) rfl (ySh.n hS rfl) (by omega) (by omega) rfl ?_
                    refine y_ireturn rfl rfl (xfit_z (hC.p _)) ?_
                    refine y_ret1 ?_
                    refine y_if_eq rfl j_X8_buyOut_134 (fun h_78 => ?_) (fun h_79 => ?_)
                    · refine y_throw rfl rfl rfl ?_
                      exact hE2 (by (first | omega | (simp only [show ySeat x2 = x2 from if_neg (by omega), show ySeat x3 = x3 from if_neg (by omega)]; omega) | (simp only [show ySeat x2 = x2 from if_neg (by omega), show ySeat x3 = Int32.ofInt 8 from if_pos (by omega)]; omega) | (simp only [show ySeat x2 = Int32.ofInt 8 from if_pos (by omega), show ySeat x3 = x3 from if_neg (by omega)]; omega) | (simp only [show ySeat x2 = Int32.ofInt 8 from if_pos (by omega), show ySeat x3 = Int32.ofInt 8 from if_pos (by omega)]; omega)))
                    · refine y_aload_n rfl rfl ?_
                      refine y_getR rfl (ySh.t hS rfl) (ySh.n hS rfl) rfl rfl (ySh.r hS rfl) ?_
                      refine y_iload_n rfl rfl ?_
                      refine y_iload rfl rfl ?_
                      refine y_virt rfl rfl rfl rfl rfl (ySh.t hS rfl) (ySh.n hS rfl) ?_
                      refine y_in (M := xm_X7_capitalOf) (ls := [some _, some _, some _]) rfl rfl rfl ?_
                      refine y_aload_n rfl rfl ?_
                      refine y_getR rfl (ySh.t hS rfl) (ySh.n hS rfl) rfl rfl (ySh.r hS rfl) ?_
                      refine y_aload_n rfl rfl ?_
                      refine y_iload_n rfl rfl ?_
                      refine y_iload_n rfl rfl ?_
                      refine y_virt rfl rfl rfl rfl rfl (ySh.t hS rfl) (ySh.n hS rfl) ?_
                      refine spx_at (by omega) (by omega) (by decide) (by decide) (fun hz80 => ?_)
                      rw [yz_8] at hz80
                      refine y_ret1 ?_
                      refine y_ialoadv (J := I 71) rfl (ySh.t hS rfl) (ySh.n hS rfl) (by omega) (by omega) rfl ?_
                      refine y_ireturn rfl rfl rfl ?_
                      refine y_ret1 ?_
                      refine y_iload rfl rfl ?_
                      refine y_icmp_lt rfl j_X8_buyOut_134 (fun h_81 => ?_) (fun h_82 => ?_)
                      · refine y_throw rfl rfl rfl ?_
                        exact hE2 (by (first | omega | (simp only [show ySeat x2 = x2 from if_neg (by omega), show ySeat x3 = x3 from if_neg (by omega)]; omega) | (simp only [show ySeat x2 = x2 from if_neg (by omega), show ySeat x3 = Int32.ofInt 8 from if_pos (by omega)]; omega) | (simp only [show ySeat x2 = Int32.ofInt 8 from if_pos (by omega), show ySeat x3 = x3 from if_neg (by omega)]; omega) | (simp only [show ySeat x2 = Int32.ofInt 8 from if_pos (by omega), show ySeat x3 = Int32.ofInt 8 from if_pos (by omega)]; omega)))
                      · refine y_aload_n rfl rfl ?_
                        refine y_getR rfl (ySh.t hS rfl) (ySh.n hS rfl) rfl rfl (ySh.r hS rfl) ?_
                        refine y_getR rfl (ySh.t hS rfl) (ySh.n hS rfl) rfl rfl (ySh.r hS rfl) ?_
                        refine y_iload rfl rfl ?_
                        refine y_ialoadv (J := I 39) rfl (ySh.t hS rfl) (ySh.n hS rfl) (by decide) (by decide) rfl ?_
                        refine y_iload rfl rfl ?_
                        refine y_icmp_ge rfl j_X8_buyOut_145 (fun h_83 => ?_) (fun h_84 => ?_)
                        · refine y_aload_n rfl rfl ?_
                          refine y_getR rfl (ySh.t hS rfl) (ySh.n hS rfl) rfl rfl (ySh.r hS rfl) ?_
                          refine y_iload rfl rfl ?_
                          refine y_iload rfl rfl ?_
                          refine y_iload rfl rfl ?_
                          refine y_virt rfl rfl rfl rfl rfl (ySh.t hS rfl) (ySh.n hS rfl) ?_
                          refine y_in (M := xm_X4_move) (ls := [some _, some _, some _, some _]) rfl rfl rfl ?_
                          refine y_aload_n rfl rfl ?_
                          refine y_iload_n rfl rfl ?_
                          refine y_iload_n rfl rfl ?_
                          refine y_ineg rfl ?_
                          refine y_virt rfl rfl rfl rfl rfl (ySh.t hS rfl) (ySh.n hS rfl) ?_
                          refine spx_add hS ?_
                          refine y_ret0 ?_
                          refine y_nameI (fun I85 e85 => ?_)
                          have hC : yCI I85 := by rw [e85]; exact yCI.addC hC
                          have hF : yFt I I85 := by rw [e85]; exact hF.addC
                          refine y_aload_n rfl rfl ?_
                          refine y_iload_n rfl rfl ?_
                          refine y_iload_n rfl rfl ?_
                          refine y_virt rfl rfl rfl rfl rfl (ySh.t hS rfl) (ySh.n hS rfl) ?_
                          refine spx_add hS ?_
                          refine y_ret0 ?_
                          refine y_nameI (fun I86 e86 => ?_)
                          have hC : yCI I86 := by rw [e86]; exact yCI.addC hC
                          have hF : yFt I I86 := by rw [e86]; exact hF.addC
                          refine y_return rfl ?_
                          refine y_ret0 ?_
                          refine y_aload_n rfl rfl ?_
                          refine y_getR rfl (ySh.t hS rfl) (ySh.n hS rfl) rfl rfl (ySh.r hS rfl) ?_
                          refine y_iload_n rfl rfl ?_
                          refine y_iload rfl rfl ?_
                          refine y_iload rfl rfl ?_
                          refine y_iload rfl rfl ?_
                          refine y_virt rfl rfl rfl rfl rfl (ySh.t hS rfl) (ySh.n hS rfl) ?_
                          refine y_in (M := xm_X7_moveCapital) (ls := [some _, some _, some _, some _, some _]) rfl rfl rfl ?_
                          refine y_aload_n rfl rfl ?_
                          refine y_getR rfl (ySh.t hS rfl) (ySh.n hS rfl) rfl rfl (ySh.r hS rfl) ?_
                          refine y_aload_n rfl rfl ?_
                          refine y_iload_n rfl rfl ?_
                          refine y_iload_n rfl rfl ?_
                          refine y_virt rfl rfl rfl rfl rfl (ySh.t hS rfl) (ySh.n hS rfl) ?_
                          refine spx_at (by omega) (by omega) (by decide) (by decide) (fun hz87 => ?_)
                          rw [yz_8] at hz87
                          refine y_ret1 ?_
                          refine y_dup2 rfl rfl rfl ?_
                          refine y_ialoadv (J := I 71) rfl (ySh.t hS rfl) (ySh.n hS rfl) (by omega) (by omega) (by rw [e86, yAddC_row (by decide), e85, yAddC_row (by decide)]) ?_
                          refine y_iload rfl rfl ?_
                          refine y_isub rfl ?_
                          refine y_iastore rfl (ySh.t hS rfl) (ySh.n hS rfl) (Nat.le_of_ble_eq_true rfl) (by omega) (by omega) ?_
                          refine y_nameI (fun I88 e88 => ?_)
                          have hC : yCI I88 := by rw [e88]; exact hC
                          have hF : yFt I I88 := by rw [e88]; exact hF.upd (by decide)
                          refine y_aload_n rfl rfl ?_
                          refine y_getR rfl (ySh.t hS rfl) (ySh.n hS rfl) rfl rfl (ySh.r hS rfl) ?_
                          refine y_aload_n rfl rfl ?_
                          refine y_iload_n rfl rfl ?_
                          refine y_iload_n rfl rfl ?_
                          refine y_virt rfl rfl rfl rfl rfl (ySh.t hS rfl) (ySh.n hS rfl) ?_
                          refine spx_at (by omega) (by omega) (by decide) (by decide) (fun hz89 => ?_)
                          rw [yz_8] at hz89
                          refine y_ret1 ?_
                          refine y_dup2 rfl rfl rfl ?_
                          refine y_iaload rfl (ySh.t hS rfl) (ySh.n hS rfl) (by omega) (by omega) ?_
                          refine y_iload rfl rfl ?_
                          refine y_iadd rfl ?_
                          refine y_iastore rfl (ySh.t hS rfl) (ySh.n hS rfl) (Nat.le_of_ble_eq_true rfl) (by omega) (by omega) ?_
                          refine y_nameI (fun I90 e90 => ?_)
                          have hC : yCI I90 := by rw [e90]; exact hC
                          have hF : yFt I I90 := by rw [e90]; exact hF.upd (by decide)
                          refine y_return rfl ?_
                          refine y_ret0 ?_
                          refine y_aload_n rfl rfl ?_
                          refine y_getR rfl (ySh.t hS rfl) (ySh.n hS rfl) rfl rfl (ySh.r hS rfl) ?_
                          refine y_iload_n rfl rfl ?_
                          refine y_iload rfl rfl ?_
                          refine y_virt rfl rfl rfl rfl rfl (ySh.t hS rfl) (ySh.n hS rfl) ?_
                          refine y_in (M := xm_X7_capitalOf) (ls := [some _, some _, some _]) rfl rfl rfl ?_
                          refine y_aload_n rfl rfl ?_
                          refine y_getR rfl (ySh.t hS rfl) (ySh.n hS rfl) rfl rfl (ySh.r hS rfl) ?_
                          refine y_aload_n rfl rfl ?_
                          refine y_iload_n rfl rfl ?_
                          refine y_iload_n rfl rfl ?_
                          refine y_virt rfl rfl rfl rfl rfl (ySh.t hS rfl) (ySh.n hS rfl) ?_
                          refine spx_at (by omega) (by omega) (by decide) (by decide) (fun hz91 => ?_)
                          rw [yz_8] at hz91
                          refine y_ret1 ?_
                          refine y_iaload rfl (ySh.t hS rfl) (ySh.n hS rfl) (by omega) (by omega) ?_
                          refine y_ireturn rfl rfl rfl ?_
                          refine y_ret1 ?_
                          refine y_ireturn rfl rfl rfl ?_
                          first | (exfalso; omega) | (exact hQ (by (first | omega | (simp only [show ySeat x2 = x2 from if_neg (by omega), show ySeat x3 = x3 from if_neg (by omega)]; omega) | (simp only [show ySeat x2 = x2 from if_neg (by omega), show ySeat x3 = Int32.ofInt 8 from if_pos (by omega)]; omega) | (simp only [show ySeat x2 = Int32.ofInt 8 from if_pos (by omega), show ySeat x3 = x3 from if_neg (by omega)]; omega) | (simp only [show ySeat x2 = Int32.ofInt 8 from if_pos (by omega), show ySeat x3 = Int32.ofInt 8 from if_pos (by omega)]; omega))) _ _ hC hF (by first | rfl | (simp only [show ySeat x2 = x2 from if_neg (by omega), show ySeat x3 = x3 from if_neg (by omega)]; done) | (simp only [show ySeat x2 = x2 from if_neg (by omega), show ySeat x3 = Int32.ofInt 8 from if_pos (by omega)]; done) | (simp only [show ySeat x2 = Int32.ofInt 8 from if_pos (by omega), show ySeat x3 = x3 from if_neg (by omega)]; done) | (simp only [show ySeat x2 = Int32.ofInt 8 from if_pos (by omega), show ySeat x3 = Int32.ofInt 8 from if_pos (by omega)]; done)) (by first | (simp only [show ySeat x2 = x2 from if_neg (by omega), show ySeat x3 = x3 from if_neg (by omega)]; first | (rw [e90, e88, e86, e85]; done) | (rw [e90, e88, e86, e85]; rfl)) | (simp only [show ySeat x2 = x2 from if_neg (by omega), show ySeat x3 = Int32.ofInt 8 from if_pos (by omega)]; first | (rw [e90, e88, e86, e85]; done) | (rw [e90, e88, e86, e85]; rfl)) | (simp only [show ySeat x2 = Int32.ofInt 8 from if_pos (by omega), show ySeat x3 = x3 from if_neg (by omega)]; first | (rw [e90, e88, e86, e85]; done) | (rw [e90, e88, e86, e85]; rfl)) | (simp only [show ySeat x2 = Int32.ofInt 8 from if_pos (by omega), show ySeat x3 = Int32.ofInt 8 from if_pos (by omega)]; first | (rw [e90, e88, e86, e85]; done) | (rw [e90, e88, e86, e85]; rfl))))
                        · refine y_throw rfl rfl rfl ?_
                          exact hE2 (by (first | omega | (simp only [show ySeat x2 = x2 from if_neg (by omega), show ySeat x3 = x3 from if_neg (by omega)]; omega) | (simp only [show ySeat x2 = x2 from if_neg (by omega), show ySeat x3 = Int32.ofInt 8 from if_pos (by omega)]; omega) | (simp only [show ySeat x2 = Int32.ofInt 8 from if_pos (by omega), show ySeat x3 = x3 from if_neg (by omega)]; omega) | (simp only [show ySeat x2 = Int32.ofInt 8 from if_pos (by omega), show ySeat x3 = Int32.ofInt 8 from if_pos (by omega)]; omega)))
            · rw [yz_1] at h_13
              rw [yz_999] at h_13
              refine y_ret1 ?_
              refine y_if_neF rfl (by decide) ?_
              refine y_throw rfl rfl rfl ?_
              exact hE1 (by (first | omega | (simp only [show ySeat x2 = x2 from if_neg (by omega), show ySeat x3 = x3 from if_neg (by omega)]; omega) | (simp only [show ySeat x2 = x2 from if_neg (by omega), show ySeat x3 = Int32.ofInt 8 from if_pos (by omega)]; omega) | (simp only [show ySeat x2 = Int32.ofInt 8 from if_pos (by omega), show ySeat x3 = x3 from if_neg (by omega)]; omega) | (simp only [show ySeat x2 = Int32.ofInt 8 from if_pos (by omega), show ySeat x3 = Int32.ofInt 8 from if_pos (by omega)]; omega)))
        · rw [yz_m1] at h_8
          refine y_aload_n rfl rfl ?_
          refine y_getR rfl (ySh.t hS rfl) (ySh.n hS rfl) rfl rfl (ySh.r hS rfl) ?_
          refine y_iload_n rfl rfl ?_
          refine y_virt rfl rfl rfl rfl rfl (ySh.t hS rfl) (ySh.n hS rfl) ?_
          refine y_in (M := xm_X4_has) (ls := [some _, some _]) rfl rfl rfl ?_
          refine y_iload_n rfl rfl ?_
          refine y_if_lt rfl j_X4_has_16 (fun h_92 => ?_) (fun h_93 => ?_)
          · refine y_iconst rfl ?_
            refine y_ireturn rfl rfl rfl ?_
            refine y_ret1 ?_
            refine y_if_eqT rfl j_X8_isParty_20 (by decide) ?_
            refine y_iconst rfl ?_
            refine y_ireturn rfl rfl rfl ?_
            refine y_ret1 ?_
            refine y_if_neF rfl (by decide) ?_
            refine y_throw rfl rfl rfl ?_
            exact hE0 (by (first | omega | (simp only [show ySeat x2 = x2 from if_neg (by omega), show ySeat x3 = x3 from if_neg (by omega)]; omega) | (simp only [show ySeat x2 = x2 from if_neg (by omega), show ySeat x3 = Int32.ofInt 8 from if_pos (by omega)]; omega) | (simp only [show ySeat x2 = Int32.ofInt 8 from if_pos (by omega), show ySeat x3 = x3 from if_neg (by omega)]; omega) | (simp only [show ySeat x2 = Int32.ofInt 8 from if_pos (by omega), show ySeat x3 = Int32.ofInt 8 from if_pos (by omega)]; omega)))
          · refine y_iload_n rfl rfl ?_
            refine y_aload_n rfl rfl ?_
            refine y_getIv (v := I 38 0) rfl (ySh.t hS rfl) (ySh.n hS rfl) rfl rfl rfl ?_
            refine y_icmp_ge rfl j_X4_has_16 (fun h_94 => ?_) (fun h_95 => ?_)
            · refine y_iconst rfl ?_
              refine y_ireturn rfl rfl rfl ?_
              refine y_ret1 ?_
              refine y_if_eqT rfl j_X8_isParty_20 (by decide) ?_
              refine y_iconst rfl ?_
              refine y_ireturn rfl rfl rfl ?_
              refine y_ret1 ?_
              refine y_if_neF rfl (by decide) ?_
              refine y_throw rfl rfl rfl ?_
              exact hE0 (by (first | omega | (simp only [show ySeat x2 = x2 from if_neg (by omega), show ySeat x3 = x3 from if_neg (by omega)]; omega) | (simp only [show ySeat x2 = x2 from if_neg (by omega), show ySeat x3 = Int32.ofInt 8 from if_pos (by omega)]; omega) | (simp only [show ySeat x2 = Int32.ofInt 8 from if_pos (by omega), show ySeat x3 = x3 from if_neg (by omega)]; omega) | (simp only [show ySeat x2 = Int32.ofInt 8 from if_pos (by omega), show ySeat x3 = Int32.ofInt 8 from if_pos (by omega)]; omega)))
            · refine y_iconst rfl ?_
              refine y_goto rfl j_X4_has_17 ?_
              refine y_ireturn rfl rfl rfl ?_
              refine y_ret1 ?_
              refine y_if_eqF rfl (by decide) ?_
              refine y_iconst rfl ?_
              refine y_goto rfl j_X8_isParty_21 ?_
              refine y_ireturn rfl rfl rfl ?_
              refine y_ret1 ?_
              refine y_if_neT rfl j_X8_buyOut_38 (by decide) ?_
              refine y_iload_n rfl rfl ?_
              refine y_iload_n rfl rfl ?_
              refine y_icmp_eq rfl j_X8_buyOut_55 (fun h_96 => ?_) (fun h_97 => ?_)
              · refine y_throw rfl rfl rfl ?_
                exact hE1 (by (first | omega | (simp only [show ySeat x2 = x2 from if_neg (by omega), show ySeat x3 = x3 from if_neg (by omega)]; omega) | (simp only [show ySeat x2 = x2 from if_neg (by omega), show ySeat x3 = Int32.ofInt 8 from if_pos (by omega)]; omega) | (simp only [show ySeat x2 = Int32.ofInt 8 from if_pos (by omega), show ySeat x3 = x3 from if_neg (by omega)]; omega) | (simp only [show ySeat x2 = Int32.ofInt 8 from if_pos (by omega), show ySeat x3 = Int32.ofInt 8 from if_pos (by omega)]; omega)))
              · refine y_iload rfl rfl ?_
                refine y_iconst rfl ?_
                refine y_sip rfl (by decide) ?_
                refine y_static rfl rfl rfl rfl rfl ?_
                refine s_isIn (fun h_98 h_99 => ?_) (fun h_100 => ?_)
                · rw [yz_1] at h_98
                  rw [yz_999] at h_99
                  refine y_ret1 ?_
                  refine y_if_neT rfl j_X8_buyOut_66 (by decide) ?_
                  refine y_iload_n rfl rfl ?_
                  refine y_static rfl rfl rfl rfl rfl ?_
                  refine y_in (M := xm_X8_placeOf) (ls := [some _]) rfl rfl rfl ?_
                  refine y_iload_n rfl rfl ?_
                  refine y_iconst rfl ?_
                  refine y_icmp_ne rfl j_X8_placeOf_10 (fun h_101 => ?_) (fun h_102 => ?_)
                  · rw [yz_m1] at h_101
                    refine y_iload_n rfl rfl ?_
                    refine y_ireturn rfl rfl rfl ?_
                    refine y_ret1 ?_
                    refine y_istore (ls' := [some _, some _, some _, some _, some _, some _, _]) rfl rfl rfl ?_
                    refine y_iload_n rfl rfl ?_
                    refine y_static rfl rfl rfl rfl rfl ?_
                    refine y_in (M := xm_X8_placeOf) (ls := [some _]) rfl rfl rfl ?_
                    refine y_iload_n rfl rfl ?_
                    refine y_iconst rfl ?_
                    refine y_icmp_ne rfl j_X8_placeOf_10 (fun h_103 => ?_) (fun h_104 => ?_)
                    · rw [yz_m1] at h_103
                      refine y_iload_n rfl rfl ?_
                      refine y_ireturn rfl rfl rfl ?_
                      refine y_ret1 ?_
                      refine y_istore (ls' := [some _, some _, some _, some _, some _, some _, some _]) rfl rfl rfl ?_
                      refine y_aload_n rfl rfl ?_
                      refine y_getR rfl (ySh.t hS rfl) (ySh.n hS rfl) rfl rfl (ySh.r hS rfl) ?_
                      refine y_iload_n rfl rfl ?_
                      refine y_iload rfl rfl ?_
                      refine y_virt rfl rfl rfl rfl rfl (ySh.t hS rfl) (ySh.n hS rfl) ?_
                      refine y_in (M := xm_X7_isPartner) (ls := [some _, some _, some _]) rfl rfl rfl ?_
                      refine y_aload_n rfl rfl ?_
                      refine y_getR rfl (ySh.t hS rfl) (ySh.n hS rfl) rfl rfl (ySh.r hS rfl) ?_
                      refine y_aload_n rfl rfl ?_
                      refine y_iload_n rfl rfl ?_
                      refine y_iload_n rfl rfl ?_
                      refine y_virt rfl rfl rfl rfl rfl (ySh.t hS rfl) (ySh.n hS rfl) ?_
                      refine spx_at (by omega) (by omega) (by omega) (by omega) (fun hz105 => ?_)
                      refine y_ret1 ?_
                      refine y_baloadv (J := I 70) rfl (ySh.t hS rfl) rfl (ySh.n hS rfl) (by omega) (by omega) rfl ?_
                      refine y_ireturn rfl rfl (xfit_z (hC.p _)) ?_
                      refine y_ret1 ?_
                      refine y_if_eq rfl j_X8_buyOut_134 (fun h_106 => ?_) (fun h_107 => ?_)
                      · refine y_throw rfl rfl rfl ?_
                        exact hE2 (by (first | omega | (simp only [show ySeat x2 = x2 from if_neg (by omega), show ySeat x3 = x3 from if_neg (by omega)]; omega) | (simp only [show ySeat x2 = x2 from if_neg (by omega), show ySeat x3 = Int32.ofInt 8 from if_pos (by omega)]; omega) | (simp only [show ySeat x2 = Int32.ofInt 8 from if_pos (by omega), show ySeat x3 = x3 from if_neg (by omega)]; omega) | (simp only [show ySeat x2 = Int32.ofInt 8 from if_pos (by omega), show ySeat x3 = Int32.ofInt 8 from if_pos (by omega)]; omega)))
                      · refine y_aload_n rfl rfl ?_
                        refine y_getR rfl (ySh.t hS rfl) (ySh.n hS rfl) rfl rfl (ySh.r hS rfl) ?_
                        refine y_iload_n rfl rfl ?_
                        refine y_iload rfl rfl ?_
                        refine y_virt rfl rfl rfl rfl rfl (ySh.t hS rfl) (ySh.n hS rfl) ?_
                        refine y_in (M := xm_X7_isPartner) (ls := [some _, some _, some _]) rfl rfl rfl ?_
                        refine y_aload_n rfl rfl ?_
                        refine y_getR rfl (ySh.t hS rfl) (ySh.n hS rfl) rfl rfl (ySh.r hS rfl) ?_
                        refine y_aload_n rfl rfl ?_
                        refine y_iload_n rfl rfl ?_
                        refine y_iload_n rfl rfl ?_
                        refine y_virt rfl rfl rfl rfl rfl (ySh.t hS rfl) (ySh.n hS rfl) ?_
                        refine spx_at (by omega) (by omega) (by omega) (by omega) (fun hz108 => ?_)
                        refine y_ret1 ?_
                        refine y_baloadv (J := I 70) rfl (ySh.t hS rfl) rfl (ySh.n hS rfl) (by omega) (by omega) rfl ?_
                        refine y_ireturn rfl rfl (xfit_z (hC.p _)) ?_
                        refine y_ret1 ?_
                        refine y_if_eq rfl j_X8_buyOut_134 (fun h_109 => ?_) (fun h_110 => ?_)
                        · refine y_throw rfl rfl rfl ?_
                          exact hE2 (by (first | omega | (simp only [show ySeat x2 = x2 from if_neg (by omega), show ySeat x3 = x3 from if_neg (by omega)]; omega) | (simp only [show ySeat x2 = x2 from if_neg (by omega), show ySeat x3 = Int32.ofInt 8 from if_pos (by omega)]; omega) | (simp only [show ySeat x2 = Int32.ofInt 8 from if_pos (by omega), show ySeat x3 = x3 from if_neg (by omega)]; omega) | (simp only [show ySeat x2 = Int32.ofInt 8 from if_pos (by omega), show ySeat x3 = Int32.ofInt 8 from if_pos (by omega)]; omega)))
                        · refine y_aload_n rfl rfl ?_
                          refine y_getR rfl (ySh.t hS rfl) (ySh.n hS rfl) rfl rfl (ySh.r hS rfl) ?_
                          refine y_iload_n rfl rfl ?_
                          refine y_iload rfl rfl ?_
                          refine y_virt rfl rfl rfl rfl rfl (ySh.t hS rfl) (ySh.n hS rfl) ?_
                          refine y_in (M := xm_X7_capitalOf) (ls := [some _, some _, some _]) rfl rfl rfl ?_
                          refine y_aload_n rfl rfl ?_
                          refine y_getR rfl (ySh.t hS rfl) (ySh.n hS rfl) rfl rfl (ySh.r hS rfl) ?_
                          refine y_aload_n rfl rfl ?_
                          refine y_iload_n rfl rfl ?_
                          refine y_iload_n rfl rfl ?_
                          refine y_virt rfl rfl rfl rfl rfl (ySh.t hS rfl) (ySh.n hS rfl) ?_
                          refine spx_at (by omega) (by omega) (by omega) (by omega) (fun hz111 => ?_)
                          refine y_ret1 ?_
                          refine y_ialoadv (J := I 71) rfl (ySh.t hS rfl) (ySh.n hS rfl) (by omega) (by omega) rfl ?_
                          refine y_ireturn rfl rfl rfl ?_
                          refine y_ret1 ?_
                          refine y_iload rfl rfl ?_
                          refine y_icmp_lt rfl j_X8_buyOut_134 (fun h_112 => ?_) (fun h_113 => ?_)
                          · refine y_throw rfl rfl rfl ?_
                            exact hE2 (by (first | omega | (simp only [show ySeat x2 = x2 from if_neg (by omega), show ySeat x3 = x3 from if_neg (by omega)]; omega) | (simp only [show ySeat x2 = x2 from if_neg (by omega), show ySeat x3 = Int32.ofInt 8 from if_pos (by omega)]; omega) | (simp only [show ySeat x2 = Int32.ofInt 8 from if_pos (by omega), show ySeat x3 = x3 from if_neg (by omega)]; omega) | (simp only [show ySeat x2 = Int32.ofInt 8 from if_pos (by omega), show ySeat x3 = Int32.ofInt 8 from if_pos (by omega)]; omega)))
                          · refine y_aload_n rfl rfl ?_
                            refine y_getR rfl (ySh.t hS rfl) (ySh.n hS rfl) rfl rfl (ySh.r hS rfl) ?_
                            refine y_getR rfl (ySh.t hS rfl) (ySh.n hS rfl) rfl rfl (ySh.r hS rfl) ?_
                            refine y_iload rfl rfl ?_
                            refine y_ialoadv (J := I 39) rfl (ySh.t hS rfl) (ySh.n hS rfl) (by omega) (by omega) rfl ?_
                            refine y_iload rfl rfl ?_
                            refine y_icmp_ge rfl j_X8_buyOut_145 (fun h_114 => ?_) (fun h_115 => ?_)
                            · refine y_aload_n rfl rfl ?_
                              refine y_getR rfl (ySh.t hS rfl) (ySh.n hS rfl) rfl rfl (ySh.r hS rfl) ?_
                              refine y_iload rfl rfl ?_
                              refine y_iload rfl rfl ?_
                              refine y_iload rfl rfl ?_
                              refine y_virt rfl rfl rfl rfl rfl (ySh.t hS rfl) (ySh.n hS rfl) ?_
                              refine y_in (M := xm_X4_move) (ls := [some _, some _, some _, some _]) rfl rfl rfl ?_
                              refine y_aload_n rfl rfl ?_
                              refine y_iload_n rfl rfl ?_
                              refine y_iload_n rfl rfl ?_
                              refine y_ineg rfl ?_
                              refine y_virt rfl rfl rfl rfl rfl (ySh.t hS rfl) (ySh.n hS rfl) ?_
                              refine spx_add hS ?_
                              refine y_ret0 ?_
                              refine y_nameI (fun I116 e116 => ?_)
                              have hC : yCI I116 := by rw [e116]; exact yCI.addC hC
                              have hF : yFt I I116 := by rw [e116]; exact hF.addC
                              refine y_aload_n rfl rfl ?_
                              refine y_iload_n rfl rfl ?_
                              refine y_iload_n rfl rfl ?_
                              refine y_virt rfl rfl rfl rfl rfl (ySh.t hS rfl) (ySh.n hS rfl) ?_
                              refine spx_add hS ?_
                              refine y_ret0 ?_
                              refine y_nameI (fun I117 e117 => ?_)
                              have hC : yCI I117 := by rw [e117]; exact yCI.addC hC
                              have hF : yFt I I117 := by rw [e117]; exact hF.addC
                              refine y_return rfl ?_
                              refine y_ret0 ?_
                              refine y_aload_n rfl rfl ?_
                              refine y_getR rfl (ySh.t hS rfl) (ySh.n hS rfl) rfl rfl (ySh.r hS rfl) ?_
                              refine y_iload_n rfl rfl ?_
                              refine y_iload rfl rfl ?_
                              refine y_iload rfl rfl ?_
                              refine y_iload rfl rfl ?_
                              refine y_virt rfl rfl rfl rfl rfl (ySh.t hS rfl) (ySh.n hS rfl) ?_
                              refine y_in (M := xm_X7_moveCapital) (ls := [some _, some _, some _, some _, some _]) rfl rfl rfl ?_
                              refine y_aload_n rfl rfl ?_
                              refine y_getR rfl (ySh.t hS rfl) (ySh.n hS rfl) rfl rfl (ySh.r hS rfl) ?_
                              refine y_aload_n rfl rfl ?_
                              refine y_iload_n rfl rfl ?_
                              refine y_iload_n rfl rfl ?_
                              refine y_virt rfl rfl rfl rfl rfl (ySh.t hS rfl) (ySh.n hS rfl) ?_
                              refine spx_at (by omega) (by omega) (by omega) (by omega) (fun hz118 => ?_)
                              refine y_ret1 ?_
                              refine y_dup2 rfl rfl rfl ?_
                              refine y_ialoadv (J := I 71) rfl (ySh.t hS rfl) (ySh.n hS rfl) (by omega) (by omega) (by rw [e117, yAddC_row (by decide), e116, yAddC_row (by decide)]) ?_
                              refine y_iload rfl rfl ?_
                              refine y_isub rfl ?_
                              refine y_iastore rfl (ySh.t hS rfl) (ySh.n hS rfl) (Nat.le_of_ble_eq_true rfl) (by omega) (by omega) ?_
                              refine y_nameI (fun I119 e119 => ?_)
                              have hC : yCI I119 := by rw [e119]; exact hC
                              have hF : yFt I I119 := by rw [e119]; exact hF.upd (by decide)
                              refine y_aload_n rfl rfl ?_
                              refine y_getR rfl (ySh.t hS rfl) (ySh.n hS rfl) rfl rfl (ySh.r hS rfl) ?_
                              refine y_aload_n rfl rfl ?_
                              refine y_iload_n rfl rfl ?_
                              refine y_iload_n rfl rfl ?_
                              refine y_virt rfl rfl rfl rfl rfl (ySh.t hS rfl) (ySh.n hS rfl) ?_
                              refine spx_at (by omega) (by omega) (by omega) (by omega) (fun hz120 => ?_)
                              refine y_ret1 ?_
                              refine y_dup2 rfl rfl rfl ?_
                              refine y_iaload rfl (ySh.t hS rfl) (ySh.n hS rfl) (by omega) (by omega) ?_
                              refine y_iload rfl rfl ?_
                              refine y_iadd rfl ?_
                              refine y_iastore rfl (ySh.t hS rfl) (ySh.n hS rfl) (Nat.le_of_ble_eq_true rfl) (by omega) (by omega) ?_
                              refine y_nameI (fun I121 e121 => ?_)
                              have hC : yCI I121 := by rw [e121]; exact hC
                              have hF : yFt I I121 := by rw [e121]; exact hF.upd (by decide)
                              refine y_return rfl ?_
                              refine y_ret0 ?_
                              refine y_aload_n rfl rfl ?_
                              refine y_getR rfl (ySh.t hS rfl) (ySh.n hS rfl) rfl rfl (ySh.r hS rfl) ?_
                              refine y_iload_n rfl rfl ?_
                              refine y_iload rfl rfl ?_
                              refine y_virt rfl rfl rfl rfl rfl (ySh.t hS rfl) (ySh.n hS rfl) ?_
                              refine y_in (M := xm_X7_capitalOf) (ls := [some _, some _, some _]) rfl rfl rfl ?_
                              refine y_aload_n rfl rfl ?_
                              refine y_getR rfl (ySh.t hS rfl) (ySh.n hS rfl) rfl rfl (ySh.r hS rfl) ?_
                              refine y_aload_n rfl rfl ?_
                              refine y_iload_n rfl rfl ?_
                              refine y_iload_n rfl rfl ?_
                              refine y_virt rfl rfl rfl rfl rfl (ySh.t hS rfl) (ySh.n hS rfl) ?_
                              refine spx_at (by omega) (by omega) (by omega) (by omega) (fun hz122 => ?_)
                              refine y_ret1 ?_
                              refine y_iaload rfl (ySh.t hS rfl) (ySh.n hS rfl) (by omega) (by omega) ?_
                              refine y_ireturn rfl rfl rfl ?_
                              refine y_ret1 ?_
                              refine y_ireturn rfl rfl rfl ?_
                              first | (exfalso; omega) | (exact hQ (by (first | omega | (simp only [show ySeat x2 = x2 from if_neg (by omega), show ySeat x3 = x3 from if_neg (by omega)]; omega) | (simp only [show ySeat x2 = x2 from if_neg (by omega), show ySeat x3 = Int32.ofInt 8 from if_pos (by omega)]; omega) | (simp only [show ySeat x2 = Int32.ofInt 8 from if_pos (by omega), show ySeat x3 = x3 from if_neg (by omega)]; omega) | (simp only [show ySeat x2 = Int32.ofInt 8 from if_pos (by omega), show ySeat x3 = Int32.ofInt 8 from if_pos (by omega)]; omega))) _ _ hC hF (by first | rfl | (simp only [show ySeat x2 = x2 from if_neg (by omega), show ySeat x3 = x3 from if_neg (by omega)]; done) | (simp only [show ySeat x2 = x2 from if_neg (by omega), show ySeat x3 = Int32.ofInt 8 from if_pos (by omega)]; done) | (simp only [show ySeat x2 = Int32.ofInt 8 from if_pos (by omega), show ySeat x3 = x3 from if_neg (by omega)]; done) | (simp only [show ySeat x2 = Int32.ofInt 8 from if_pos (by omega), show ySeat x3 = Int32.ofInt 8 from if_pos (by omega)]; done)) (by first | (simp only [show ySeat x2 = x2 from if_neg (by omega), show ySeat x3 = x3 from if_neg (by omega)]; first | (rw [e121, e119, e117, e116]; done) | (rw [e121, e119, e117, e116]; rfl)) | (simp only [show ySeat x2 = x2 from if_neg (by omega), show ySeat x3 = Int32.ofInt 8 from if_pos (by omega)]; first | (rw [e121, e119, e117, e116]; done) | (rw [e121, e119, e117, e116]; rfl)) | (simp only [show ySeat x2 = Int32.ofInt 8 from if_pos (by omega), show ySeat x3 = x3 from if_neg (by omega)]; first | (rw [e121, e119, e117, e116]; done) | (rw [e121, e119, e117, e116]; rfl)) | (simp only [show ySeat x2 = Int32.ofInt 8 from if_pos (by omega), show ySeat x3 = Int32.ofInt 8 from if_pos (by omega)]; first | (rw [e121, e119, e117, e116]; done) | (rw [e121, e119, e117, e116]; rfl))))
                            · refine y_throw rfl rfl rfl ?_
                              exact hE2 (by (first | omega | (simp only [show ySeat x2 = x2 from if_neg (by omega), show ySeat x3 = x3 from if_neg (by omega)]; omega) | (simp only [show ySeat x2 = x2 from if_neg (by omega), show ySeat x3 = Int32.ofInt 8 from if_pos (by omega)]; omega) | (simp only [show ySeat x2 = Int32.ofInt 8 from if_pos (by omega), show ySeat x3 = x3 from if_neg (by omega)]; omega) | (simp only [show ySeat x2 = Int32.ofInt 8 from if_pos (by omega), show ySeat x3 = Int32.ofInt 8 from if_pos (by omega)]; omega)))
                    · rw [yz_m1] at h_104
                      refine y_bip rfl (by decide) ?_
                      refine y_goto rfl j_X8_placeOf_11 ?_
                      refine y_ireturn rfl rfl rfl ?_
                      refine y_ret1 ?_
                      refine y_istore (ls' := [some _, some _, some _, some _, some _, some _, some _]) rfl rfl rfl ?_
                      refine y_aload_n rfl rfl ?_
                      refine y_getR rfl (ySh.t hS rfl) (ySh.n hS rfl) rfl rfl (ySh.r hS rfl) ?_
                      refine y_iload_n rfl rfl ?_
                      refine y_iload rfl rfl ?_
                      refine y_virt rfl rfl rfl rfl rfl (ySh.t hS rfl) (ySh.n hS rfl) ?_
                      refine y_in (M := xm_X7_isPartner) (ls := [some _, some _, some _]) rfl rfl rfl ?_
                      refine y_aload_n rfl rfl ?_
                      refine y_getR rfl (ySh.t hS rfl) (ySh.n hS rfl) rfl rfl (ySh.r hS rfl) ?_
                      refine y_aload_n rfl rfl ?_
                      refine y_iload_n rfl rfl ?_
                      refine y_iload_n rfl rfl ?_
                      refine y_virt rfl rfl rfl rfl rfl (ySh.t hS rfl) (ySh.n hS rfl) ?_
                      refine spx_at (by omega) (by omega) (by omega) (by omega) (fun hz123 => ?_)
                      refine y_ret1 ?_
                      refine y_baloadv (J := I 70) rfl (ySh.t hS rfl) rfl (ySh.n hS rfl) (by omega) (by omega) rfl ?_
                      refine y_ireturn rfl rfl (xfit_z (hC.p _)) ?_
                      refine y_ret1 ?_
                      refine y_if_eq rfl j_X8_buyOut_134 (fun h_124 => ?_) (fun h_125 => ?_)
                      · refine y_throw rfl rfl rfl ?_
                        exact hE2 (by (first | omega | (simp only [show ySeat x2 = x2 from if_neg (by omega), show ySeat x3 = x3 from if_neg (by omega)]; omega) | (simp only [show ySeat x2 = x2 from if_neg (by omega), show ySeat x3 = Int32.ofInt 8 from if_pos (by omega)]; omega) | (simp only [show ySeat x2 = Int32.ofInt 8 from if_pos (by omega), show ySeat x3 = x3 from if_neg (by omega)]; omega) | (simp only [show ySeat x2 = Int32.ofInt 8 from if_pos (by omega), show ySeat x3 = Int32.ofInt 8 from if_pos (by omega)]; omega)))
                      · refine y_aload_n rfl rfl ?_
                        refine y_getR rfl (ySh.t hS rfl) (ySh.n hS rfl) rfl rfl (ySh.r hS rfl) ?_
                        refine y_iload_n rfl rfl ?_
                        refine y_iload rfl rfl ?_
                        refine y_virt rfl rfl rfl rfl rfl (ySh.t hS rfl) (ySh.n hS rfl) ?_
                        refine y_in (M := xm_X7_isPartner) (ls := [some _, some _, some _]) rfl rfl rfl ?_
                        refine y_aload_n rfl rfl ?_
                        refine y_getR rfl (ySh.t hS rfl) (ySh.n hS rfl) rfl rfl (ySh.r hS rfl) ?_
                        refine y_aload_n rfl rfl ?_
                        refine y_iload_n rfl rfl ?_
                        refine y_iload_n rfl rfl ?_
                        refine y_virt rfl rfl rfl rfl rfl (ySh.t hS rfl) (ySh.n hS rfl) ?_
                        refine spx_at (by omega) (by omega) (by decide) (by decide) (fun hz126 => ?_)
                        rw [yz_8] at hz126
                        refine y_ret1 ?_
                        refine y_baloadv (J := I 70) rfl (ySh.t hS rfl) rfl (ySh.n hS rfl) (by omega) (by omega) rfl ?_
                        refine y_ireturn rfl rfl (xfit_z (hC.p _)) ?_
                        refine y_ret1 ?_
                        refine y_if_eq rfl j_X8_buyOut_134 (fun h_127 => ?_) (fun h_128 => ?_)
                        · refine y_throw rfl rfl rfl ?_
                          exact hE2 (by (first | omega | (simp only [show ySeat x2 = x2 from if_neg (by omega), show ySeat x3 = x3 from if_neg (by omega)]; omega) | (simp only [show ySeat x2 = x2 from if_neg (by omega), show ySeat x3 = Int32.ofInt 8 from if_pos (by omega)]; omega) | (simp only [show ySeat x2 = Int32.ofInt 8 from if_pos (by omega), show ySeat x3 = x3 from if_neg (by omega)]; omega) | (simp only [show ySeat x2 = Int32.ofInt 8 from if_pos (by omega), show ySeat x3 = Int32.ofInt 8 from if_pos (by omega)]; omega)))
                        · refine y_aload_n rfl rfl ?_
                          refine y_getR rfl (ySh.t hS rfl) (ySh.n hS rfl) rfl rfl (ySh.r hS rfl) ?_
                          refine y_iload_n rfl rfl ?_
                          refine y_iload rfl rfl ?_
                          refine y_virt rfl rfl rfl rfl rfl (ySh.t hS rfl) (ySh.n hS rfl) ?_
                          refine y_in (M := xm_X7_capitalOf) (ls := [some _, some _, some _]) rfl rfl rfl ?_
                          refine y_aload_n rfl rfl ?_
                          refine y_getR rfl (ySh.t hS rfl) (ySh.n hS rfl) rfl rfl (ySh.r hS rfl) ?_
                          refine y_aload_n rfl rfl ?_
                          refine y_iload_n rfl rfl ?_
                          refine y_iload_n rfl rfl ?_
                          refine y_virt rfl rfl rfl rfl rfl (ySh.t hS rfl) (ySh.n hS rfl) ?_
                          refine spx_at (by omega) (by omega) (by omega) (by omega) (fun hz129 => ?_)
                          refine y_ret1 ?_
                          refine y_ialoadv (J := I 71) rfl (ySh.t hS rfl) (ySh.n hS rfl) (by omega) (by omega) rfl ?_
                          refine y_ireturn rfl rfl rfl ?_
                          refine y_ret1 ?_
                          refine y_iload rfl rfl ?_
                          refine y_icmp_lt rfl j_X8_buyOut_134 (fun h_130 => ?_) (fun h_131 => ?_)
                          · refine y_throw rfl rfl rfl ?_
                            exact hE2 (by (first | omega | (simp only [show ySeat x2 = x2 from if_neg (by omega), show ySeat x3 = x3 from if_neg (by omega)]; omega) | (simp only [show ySeat x2 = x2 from if_neg (by omega), show ySeat x3 = Int32.ofInt 8 from if_pos (by omega)]; omega) | (simp only [show ySeat x2 = Int32.ofInt 8 from if_pos (by omega), show ySeat x3 = x3 from if_neg (by omega)]; omega) | (simp only [show ySeat x2 = Int32.ofInt 8 from if_pos (by omega), show ySeat x3 = Int32.ofInt 8 from if_pos (by omega)]; omega)))
                          · refine y_aload_n rfl rfl ?_
                            refine y_getR rfl (ySh.t hS rfl) (ySh.n hS rfl) rfl rfl (ySh.r hS rfl) ?_
                            refine y_getR rfl (ySh.t hS rfl) (ySh.n hS rfl) rfl rfl (ySh.r hS rfl) ?_
                            refine y_iload rfl rfl ?_
                            refine y_ialoadv (J := I 39) rfl (ySh.t hS rfl) (ySh.n hS rfl) (by decide) (by decide) rfl ?_
                            refine y_iload rfl rfl ?_
                            refine y_icmp_ge rfl j_X8_buyOut_145 (fun h_132 => ?_) (fun h_133 => ?_)
                            · refine y_aload_n rfl rfl ?_
                              refine y_getR rfl (ySh.t hS rfl) (ySh.n hS rfl) rfl rfl (ySh.r hS rfl) ?_
                              refine y_iload rfl rfl ?_
                              refine y_iload rfl rfl ?_
                              refine y_iload rfl rfl ?_
                              refine y_virt rfl rfl rfl rfl rfl (ySh.t hS rfl) (ySh.n hS rfl) ?_
                              refine y_in (M := xm_X4_move) (ls := [some _, some _, some _, some _]) rfl rfl rfl ?_
                              refine y_aload_n rfl rfl ?_
                              refine y_iload_n rfl rfl ?_
                              refine y_iload_n rfl rfl ?_
                              refine y_ineg rfl ?_
                              refine y_virt rfl rfl rfl rfl rfl (ySh.t hS rfl) (ySh.n hS rfl) ?_
                              refine spx_add hS ?_
                              refine y_ret0 ?_
                              refine y_nameI (fun I134 e134 => ?_)
                              have hC : yCI I134 := by rw [e134]; exact yCI.addC hC
                              have hF : yFt I I134 := by rw [e134]; exact hF.addC
                              refine y_aload_n rfl rfl ?_
                              refine y_iload_n rfl rfl ?_
                              refine y_iload_n rfl rfl ?_
                              refine y_virt rfl rfl rfl rfl rfl (ySh.t hS rfl) (ySh.n hS rfl) ?_
                              refine spx_add hS ?_
                              refine y_ret0 ?_
                              refine y_nameI (fun I135 e135 => ?_)
                              have hC : yCI I135 := by rw [e135]; exact yCI.addC hC
                              have hF : yFt I I135 := by rw [e135]; exact hF.addC
                              refine y_return rfl ?_
                              refine y_ret0 ?_
                              refine y_aload_n rfl rfl ?_
                              refine y_getR rfl (ySh.t hS rfl) (ySh.n hS rfl) rfl rfl (ySh.r hS rfl) ?_
                              refine y_iload_n rfl rfl ?_
                              refine y_iload rfl rfl ?_
                              refine y_iload rfl rfl ?_
                              refine y_iload rfl rfl ?_
                              refine y_virt rfl rfl rfl rfl rfl (ySh.t hS rfl) (ySh.n hS rfl) ?_
                              refine y_in (M := xm_X7_moveCapital) (ls := [some _, some _, some _, some _, some _]) rfl rfl rfl ?_
                              refine y_aload_n rfl rfl ?_
                              refine y_getR rfl (ySh.t hS rfl) (ySh.n hS rfl) rfl rfl (ySh.r hS rfl) ?_
                              refine y_aload_n rfl rfl ?_
                              refine y_iload_n rfl rfl ?_
                              refine y_iload_n rfl rfl ?_
                              refine y_virt rfl rfl rfl rfl rfl (ySh.t hS rfl) (ySh.n hS rfl) ?_
                              refine spx_at (by omega) (by omega) (by omega) (by omega) (fun hz136 => ?_)
                              refine y_ret1 ?_
                              refine y_dup2 rfl rfl rfl ?_
                              refine y_ialoadv (J := I 71) rfl (ySh.t hS rfl) (ySh.n hS rfl) (by omega) (by omega) (by rw [e135, yAddC_row (by decide), e134, yAddC_row (by decide)]) ?_
                              refine y_iload rfl rfl ?_
                              refine y_isub rfl ?_
                              refine y_iastore rfl (ySh.t hS rfl) (ySh.n hS rfl) (Nat.le_of_ble_eq_true rfl) (by omega) (by omega) ?_
                              refine y_nameI (fun I137 e137 => ?_)
                              have hC : yCI I137 := by rw [e137]; exact hC
                              have hF : yFt I I137 := by rw [e137]; exact hF.upd (by decide)
                              refine y_aload_n rfl rfl ?_
                              refine y_getR rfl (ySh.t hS rfl) (ySh.n hS rfl) rfl rfl (ySh.r hS rfl) ?_
                              refine y_aload_n rfl rfl ?_
                              refine y_iload_n rfl rfl ?_
                              refine y_iload_n rfl rfl ?_
                              refine y_virt rfl rfl rfl rfl rfl (ySh.t hS rfl) (ySh.n hS rfl) ?_
                              refine spx_at (by omega) (by omega) (by decide) (by decide) (fun hz138 => ?_)
                              rw [yz_8] at hz138
                              refine y_ret1 ?_
                              refine y_dup2 rfl rfl rfl ?_
                              refine y_iaload rfl (ySh.t hS rfl) (ySh.n hS rfl) (by omega) (by omega) ?_
                              refine y_iload rfl rfl ?_
                              refine y_iadd rfl ?_
                              refine y_iastore rfl (ySh.t hS rfl) (ySh.n hS rfl) (Nat.le_of_ble_eq_true rfl) (by omega) (by omega) ?_
                              refine y_nameI (fun I139 e139 => ?_)
                              have hC : yCI I139 := by rw [e139]; exact hC
                              have hF : yFt I I139 := by rw [e139]; exact hF.upd (by decide)
                              refine y_return rfl ?_
                              refine y_ret0 ?_
                              refine y_aload_n rfl rfl ?_
                              refine y_getR rfl (ySh.t hS rfl) (ySh.n hS rfl) rfl rfl (ySh.r hS rfl) ?_
                              refine y_iload_n rfl rfl ?_
                              refine y_iload rfl rfl ?_
                              refine y_virt rfl rfl rfl rfl rfl (ySh.t hS rfl) (ySh.n hS rfl) ?_
                              refine y_in (M := xm_X7_capitalOf) (ls := [some _, some _, some _]) rfl rfl rfl ?_
                              refine y_aload_n rfl rfl ?_
                              refine y_getR rfl (ySh.t hS rfl) (ySh.n hS rfl) rfl rfl (ySh.r hS rfl) ?_
                              refine y_aload_n rfl rfl ?_
                              refine y_iload_n rfl rfl ?_
                              refine y_iload_n rfl rfl ?_
                              refine y_virt rfl rfl rfl rfl rfl (ySh.t hS rfl) (ySh.n hS rfl) ?_
                              refine spx_at (by omega) (by omega) (by omega) (by omega) (fun hz140 => ?_)
                              refine y_ret1 ?_
                              refine y_iaload rfl (ySh.t hS rfl) (ySh.n hS rfl) (by omega) (by omega) ?_
                              refine y_ireturn rfl rfl rfl ?_
                              refine y_ret1 ?_
                              refine y_ireturn rfl rfl rfl ?_
                              first | (exfalso; omega) | (exact hQ (by (first | omega | (simp only [show ySeat x2 = x2 from if_neg (by omega), show ySeat x3 = x3 from if_neg (by omega)]; omega) | (simp only [show ySeat x2 = x2 from if_neg (by omega), show ySeat x3 = Int32.ofInt 8 from if_pos (by omega)]; omega) | (simp only [show ySeat x2 = Int32.ofInt 8 from if_pos (by omega), show ySeat x3 = x3 from if_neg (by omega)]; omega) | (simp only [show ySeat x2 = Int32.ofInt 8 from if_pos (by omega), show ySeat x3 = Int32.ofInt 8 from if_pos (by omega)]; omega))) _ _ hC hF (by first | rfl | (simp only [show ySeat x2 = x2 from if_neg (by omega), show ySeat x3 = x3 from if_neg (by omega)]; done) | (simp only [show ySeat x2 = x2 from if_neg (by omega), show ySeat x3 = Int32.ofInt 8 from if_pos (by omega)]; done) | (simp only [show ySeat x2 = Int32.ofInt 8 from if_pos (by omega), show ySeat x3 = x3 from if_neg (by omega)]; done) | (simp only [show ySeat x2 = Int32.ofInt 8 from if_pos (by omega), show ySeat x3 = Int32.ofInt 8 from if_pos (by omega)]; done)) (by first | (simp only [show ySeat x2 = x2 from if_neg (by omega), show ySeat x3 = x3 from if_neg (by omega)]; first | (rw [e139, e137, e135, e134]; done) | (rw [e139, e137, e135, e134]; rfl)) | (simp only [show ySeat x2 = x2 from if_neg (by omega), show ySeat x3 = Int32.ofInt 8 from if_pos (by omega)]; first | (rw [e139, e137, e135, e134]; done) | (rw [e139, e137, e135, e134]; rfl)) | (simp only [show ySeat x2 = Int32.ofInt 8 from if_pos (by omega), show ySeat x3 = x3 from if_neg (by omega)]; first | (rw [e139, e137, e135, e134]; done) | (rw [e139, e137, e135, e134]; rfl)) | (simp only [show ySeat x2 = Int32.ofInt 8 from if_pos (by omega), show ySeat x3 = Int32.ofInt 8 from if_pos (by omega)]; first | (rw [e139, e137, e135, e134]; done) | (rw [e139, e137, e135, e134]; rfl))))
                            · refine y_throw rfl rfl rfl ?_
                              exact hE2 (by (first | omega | (simp only [show ySeat x2 = x2 from if_neg (by omega), show ySeat x3 = x3 from if_neg (by omega)]; omega) | (simp only [show ySeat x2 = x2 from if_neg (by omega), show ySeat x3 = Int32.ofInt 8 from if_pos (by omega)]; omega) | (simp only [show ySeat x2 = Int32.ofInt 8 from if_pos (by omega), show ySeat x3 = x3 from if_neg (by omega)]; omega) | (simp only [show ySeat x2 = Int32.ofInt 8 from if_pos (by omega), show ySeat x3 = Int32.ofInt 8 from if_pos (by omega)]; omega)))
                  · rw [yz_m1] at h_102
                    refine y_bip rfl (by decide) ?_
                    refine y_goto rfl j_X8_placeOf_11 ?_
                    refine y_ireturn rfl rfl rfl ?_
                    refine y_ret1 ?_
                    refine y_istore (ls' := [some _, some _, some _, some _, some _, some _, _]) rfl rfl rfl ?_
                    refine y_iload_n rfl rfl ?_
                    refine y_static rfl rfl rfl rfl rfl ?_
                    refine y_in (M := xm_X8_placeOf) (ls := [some _]) rfl rfl rfl ?_
                    refine y_iload_n rfl rfl ?_
                    refine y_iconst rfl ?_
                    refine y_icmp_ne rfl j_X8_placeOf_10 (fun h_141 => ?_) (fun h_142 => ?_)
                    · rw [yz_m1] at h_141
                      refine y_iload_n rfl rfl ?_
                      refine y_ireturn rfl rfl rfl ?_
                      refine y_ret1 ?_
                      refine y_istore (ls' := [some _, some _, some _, some _, some _, some _, some _]) rfl rfl rfl ?_
                      refine y_aload_n rfl rfl ?_
                      refine y_getR rfl (ySh.t hS rfl) (ySh.n hS rfl) rfl rfl (ySh.r hS rfl) ?_
                      refine y_iload_n rfl rfl ?_
                      refine y_iload rfl rfl ?_
                      refine y_virt rfl rfl rfl rfl rfl (ySh.t hS rfl) (ySh.n hS rfl) ?_
                      refine y_in (M := xm_X7_isPartner) (ls := [some _, some _, some _]) rfl rfl rfl ?_
                      refine y_aload_n rfl rfl ?_
                      refine y_getR rfl (ySh.t hS rfl) (ySh.n hS rfl) rfl rfl (ySh.r hS rfl) ?_
                      refine y_aload_n rfl rfl ?_
                      refine y_iload_n rfl rfl ?_
                      refine y_iload_n rfl rfl ?_
                      refine y_virt rfl rfl rfl rfl rfl (ySh.t hS rfl) (ySh.n hS rfl) ?_
                      refine spx_at (by omega) (by omega) (by decide) (by decide) (fun hz143 => ?_)
                      rw [yz_8] at hz143
                      refine y_ret1 ?_
                      refine y_baloadv (J := I 70) rfl (ySh.t hS rfl) rfl (ySh.n hS rfl) (by omega) (by omega) rfl ?_
                      refine y_ireturn rfl rfl (xfit_z (hC.p _)) ?_
                      refine y_ret1 ?_
                      refine y_if_eq rfl j_X8_buyOut_134 (fun h_144 => ?_) (fun h_145 => ?_)
                      · refine y_throw rfl rfl rfl ?_
                        exact hE2 (by (first | omega | (simp only [show ySeat x2 = x2 from if_neg (by omega), show ySeat x3 = x3 from if_neg (by omega)]; omega) | (simp only [show ySeat x2 = x2 from if_neg (by omega), show ySeat x3 = Int32.ofInt 8 from if_pos (by omega)]; omega) | (simp only [show ySeat x2 = Int32.ofInt 8 from if_pos (by omega), show ySeat x3 = x3 from if_neg (by omega)]; omega) | (simp only [show ySeat x2 = Int32.ofInt 8 from if_pos (by omega), show ySeat x3 = Int32.ofInt 8 from if_pos (by omega)]; omega)))
                      · refine y_aload_n rfl rfl ?_
                        refine y_getR rfl (ySh.t hS rfl) (ySh.n hS rfl) rfl rfl (ySh.r hS rfl) ?_
                        refine y_iload_n rfl rfl ?_
                        refine y_iload rfl rfl ?_
                        refine y_virt rfl rfl rfl rfl rfl (ySh.t hS rfl) (ySh.n hS rfl) ?_
                        refine y_in (M := xm_X7_isPartner) (ls := [some _, some _, some _]) rfl rfl rfl ?_
                        refine y_aload_n rfl rfl ?_
                        refine y_getR rfl (ySh.t hS rfl) (ySh.n hS rfl) rfl rfl (ySh.r hS rfl) ?_
                        refine y_aload_n rfl rfl ?_
                        refine y_iload_n rfl rfl ?_
                        refine y_iload_n rfl rfl ?_
                        refine y_virt rfl rfl rfl rfl rfl (ySh.t hS rfl) (ySh.n hS rfl) ?_
                        refine spx_at (by omega) (by omega) (by omega) (by omega) (fun hz146 => ?_)
                        refine y_ret1 ?_
                        refine y_baloadv (J := I 70) rfl (ySh.t hS rfl) rfl (ySh.n hS rfl) (by omega) (by omega) rfl ?_
                        refine y_ireturn rfl rfl (xfit_z (hC.p _)) ?_
                        refine y_ret1 ?_
                        refine y_if_eq rfl j_X8_buyOut_134 (fun h_147 => ?_) (fun h_148 => ?_)
                        · refine y_throw rfl rfl rfl ?_
                          exact hE2 (by (first | omega | (simp only [show ySeat x2 = x2 from if_neg (by omega), show ySeat x3 = x3 from if_neg (by omega)]; omega) | (simp only [show ySeat x2 = x2 from if_neg (by omega), show ySeat x3 = Int32.ofInt 8 from if_pos (by omega)]; omega) | (simp only [show ySeat x2 = Int32.ofInt 8 from if_pos (by omega), show ySeat x3 = x3 from if_neg (by omega)]; omega) | (simp only [show ySeat x2 = Int32.ofInt 8 from if_pos (by omega), show ySeat x3 = Int32.ofInt 8 from if_pos (by omega)]; omega)))
                        · refine y_aload_n rfl rfl ?_
                          refine y_getR rfl (ySh.t hS rfl) (ySh.n hS rfl) rfl rfl (ySh.r hS rfl) ?_
                          refine y_iload_n rfl rfl ?_
                          refine y_iload rfl rfl ?_
                          refine y_virt rfl rfl rfl rfl rfl (ySh.t hS rfl) (ySh.n hS rfl) ?_
                          refine y_in (M := xm_X7_capitalOf) (ls := [some _, some _, some _]) rfl rfl rfl ?_
                          refine y_aload_n rfl rfl ?_
                          refine y_getR rfl (ySh.t hS rfl) (ySh.n hS rfl) rfl rfl (ySh.r hS rfl) ?_
                          refine y_aload_n rfl rfl ?_
                          refine y_iload_n rfl rfl ?_
                          refine y_iload_n rfl rfl ?_
                          refine y_virt rfl rfl rfl rfl rfl (ySh.t hS rfl) (ySh.n hS rfl) ?_
                          refine spx_at (by omega) (by omega) (by decide) (by decide) (fun hz149 => ?_)
                          rw [yz_8] at hz149
                          refine y_ret1 ?_
                          refine y_ialoadv (J := I 71) rfl (ySh.t hS rfl) (ySh.n hS rfl) (by omega) (by omega) rfl ?_
                          refine y_ireturn rfl rfl rfl ?_
                          refine y_ret1 ?_
                          refine y_iload rfl rfl ?_
                          refine y_icmp_lt rfl j_X8_buyOut_134 (fun h_150 => ?_) (fun h_151 => ?_)
                          · refine y_throw rfl rfl rfl ?_
                            exact hE2 (by (first | omega | (simp only [show ySeat x2 = x2 from if_neg (by omega), show ySeat x3 = x3 from if_neg (by omega)]; omega) | (simp only [show ySeat x2 = x2 from if_neg (by omega), show ySeat x3 = Int32.ofInt 8 from if_pos (by omega)]; omega) | (simp only [show ySeat x2 = Int32.ofInt 8 from if_pos (by omega), show ySeat x3 = x3 from if_neg (by omega)]; omega) | (simp only [show ySeat x2 = Int32.ofInt 8 from if_pos (by omega), show ySeat x3 = Int32.ofInt 8 from if_pos (by omega)]; omega)))
                          · refine y_aload_n rfl rfl ?_
                            refine y_getR rfl (ySh.t hS rfl) (ySh.n hS rfl) rfl rfl (ySh.r hS rfl) ?_
                            refine y_getR rfl (ySh.t hS rfl) (ySh.n hS rfl) rfl rfl (ySh.r hS rfl) ?_
                            refine y_iload rfl rfl ?_
                            refine y_ialoadv (J := I 39) rfl (ySh.t hS rfl) (ySh.n hS rfl) (by omega) (by omega) rfl ?_
                            refine y_iload rfl rfl ?_
                            refine y_icmp_ge rfl j_X8_buyOut_145 (fun h_152 => ?_) (fun h_153 => ?_)
                            · refine y_aload_n rfl rfl ?_
                              refine y_getR rfl (ySh.t hS rfl) (ySh.n hS rfl) rfl rfl (ySh.r hS rfl) ?_
                              refine y_iload rfl rfl ?_
                              refine y_iload rfl rfl ?_
                              refine y_iload rfl rfl ?_
                              refine y_virt rfl rfl rfl rfl rfl (ySh.t hS rfl) (ySh.n hS rfl) ?_
                              refine y_in (M := xm_X4_move) (ls := [some _, some _, some _, some _]) rfl rfl rfl ?_
                              refine y_aload_n rfl rfl ?_
                              refine y_iload_n rfl rfl ?_
                              refine y_iload_n rfl rfl ?_
                              refine y_ineg rfl ?_
                              refine y_virt rfl rfl rfl rfl rfl (ySh.t hS rfl) (ySh.n hS rfl) ?_
                              refine spx_add hS ?_
                              refine y_ret0 ?_
                              refine y_nameI (fun I154 e154 => ?_)
                              have hC : yCI I154 := by rw [e154]; exact yCI.addC hC
                              have hF : yFt I I154 := by rw [e154]; exact hF.addC
                              refine y_aload_n rfl rfl ?_
                              refine y_iload_n rfl rfl ?_
                              refine y_iload_n rfl rfl ?_
                              refine y_virt rfl rfl rfl rfl rfl (ySh.t hS rfl) (ySh.n hS rfl) ?_
                              refine spx_add hS ?_
                              refine y_ret0 ?_
                              refine y_nameI (fun I155 e155 => ?_)
                              have hC : yCI I155 := by rw [e155]; exact yCI.addC hC
                              have hF : yFt I I155 := by rw [e155]; exact hF.addC
                              refine y_return rfl ?_
                              refine y_ret0 ?_
                              refine y_aload_n rfl rfl ?_
                              refine y_getR rfl (ySh.t hS rfl) (ySh.n hS rfl) rfl rfl (ySh.r hS rfl) ?_
                              refine y_iload_n rfl rfl ?_
                              refine y_iload rfl rfl ?_
                              refine y_iload rfl rfl ?_
                              refine y_iload rfl rfl ?_
                              refine y_virt rfl rfl rfl rfl rfl (ySh.t hS rfl) (ySh.n hS rfl) ?_
                              refine y_in (M := xm_X7_moveCapital) (ls := [some _, some _, some _, some _, some _]) rfl rfl rfl ?_
                              refine y_aload_n rfl rfl ?_
                              refine y_getR rfl (ySh.t hS rfl) (ySh.n hS rfl) rfl rfl (ySh.r hS rfl) ?_
                              refine y_aload_n rfl rfl ?_
                              refine y_iload_n rfl rfl ?_
                              refine y_iload_n rfl rfl ?_
                              refine y_virt rfl rfl rfl rfl rfl (ySh.t hS rfl) (ySh.n hS rfl) ?_
                              refine spx_at (by omega) (by omega) (by decide) (by decide) (fun hz156 => ?_)
                              rw [yz_8] at hz156
                              refine y_ret1 ?_
                              refine y_dup2 rfl rfl rfl ?_
                              refine y_ialoadv (J := I 71) rfl (ySh.t hS rfl) (ySh.n hS rfl) (by omega) (by omega) (by rw [e155, yAddC_row (by decide), e154, yAddC_row (by decide)]) ?_
                              refine y_iload rfl rfl ?_
                              refine y_isub rfl ?_
                              refine y_iastore rfl (ySh.t hS rfl) (ySh.n hS rfl) (Nat.le_of_ble_eq_true rfl) (by omega) (by omega) ?_
                              refine y_nameI (fun I157 e157 => ?_)
                              have hC : yCI I157 := by rw [e157]; exact hC
                              have hF : yFt I I157 := by rw [e157]; exact hF.upd (by decide)
                              refine y_aload_n rfl rfl ?_
                              refine y_getR rfl (ySh.t hS rfl) (ySh.n hS rfl) rfl rfl (ySh.r hS rfl) ?_
                              refine y_aload_n rfl rfl ?_
                              refine y_iload_n rfl rfl ?_
                              refine y_iload_n rfl rfl ?_
                              refine y_virt rfl rfl rfl rfl rfl (ySh.t hS rfl) (ySh.n hS rfl) ?_
                              refine spx_at (by omega) (by omega) (by omega) (by omega) (fun hz158 => ?_)
                              refine y_ret1 ?_
                              refine y_dup2 rfl rfl rfl ?_
                              refine y_iaload rfl (ySh.t hS rfl) (ySh.n hS rfl) (by omega) (by omega) ?_
                              refine y_iload rfl rfl ?_
                              refine y_iadd rfl ?_
                              refine y_iastore rfl (ySh.t hS rfl) (ySh.n hS rfl) (Nat.le_of_ble_eq_true rfl) (by omega) (by omega) ?_
                              refine y_nameI (fun I159 e159 => ?_)
                              have hC : yCI I159 := by rw [e159]; exact hC
                              have hF : yFt I I159 := by rw [e159]; exact hF.upd (by decide)
                              refine y_return rfl ?_
                              refine y_ret0 ?_
                              refine y_aload_n rfl rfl ?_
                              refine y_getR rfl (ySh.t hS rfl) (ySh.n hS rfl) rfl rfl (ySh.r hS rfl) ?_
                              refine y_iload_n rfl rfl ?_
                              refine y_iload rfl rfl ?_
                              refine y_virt rfl rfl rfl rfl rfl (ySh.t hS rfl) (ySh.n hS rfl) ?_
                              refine y_in (M := xm_X7_capitalOf) (ls := [some _, some _, some _]) rfl rfl rfl ?_
                              refine y_aload_n rfl rfl ?_
                              refine y_getR rfl (ySh.t hS rfl) (ySh.n hS rfl) rfl rfl (ySh.r hS rfl) ?_
                              refine y_aload_n rfl rfl ?_
                              refine y_iload_n rfl rfl ?_
                              refine y_iload_n rfl rfl ?_
                              refine y_virt rfl rfl rfl rfl rfl (ySh.t hS rfl) (ySh.n hS rfl) ?_
                              refine spx_at (by omega) (by omega) (by decide) (by decide) (fun hz160 => ?_)
                              rw [yz_8] at hz160
                              refine y_ret1 ?_
                              refine y_iaload rfl (ySh.t hS rfl) (ySh.n hS rfl) (by omega) (by omega) ?_
                              refine y_ireturn rfl rfl rfl ?_
                              refine y_ret1 ?_
                              refine y_ireturn rfl rfl rfl ?_
                              first | (exfalso; omega) | (exact hQ (by (first | omega | (simp only [show ySeat x2 = x2 from if_neg (by omega), show ySeat x3 = x3 from if_neg (by omega)]; omega) | (simp only [show ySeat x2 = x2 from if_neg (by omega), show ySeat x3 = Int32.ofInt 8 from if_pos (by omega)]; omega) | (simp only [show ySeat x2 = Int32.ofInt 8 from if_pos (by omega), show ySeat x3 = x3 from if_neg (by omega)]; omega) | (simp only [show ySeat x2 = Int32.ofInt 8 from if_pos (by omega), show ySeat x3 = Int32.ofInt 8 from if_pos (by omega)]; omega))) _ _ hC hF (by first | rfl | (simp only [show ySeat x2 = x2 from if_neg (by omega), show ySeat x3 = x3 from if_neg (by omega)]; done) | (simp only [show ySeat x2 = x2 from if_neg (by omega), show ySeat x3 = Int32.ofInt 8 from if_pos (by omega)]; done) | (simp only [show ySeat x2 = Int32.ofInt 8 from if_pos (by omega), show ySeat x3 = x3 from if_neg (by omega)]; done) | (simp only [show ySeat x2 = Int32.ofInt 8 from if_pos (by omega), show ySeat x3 = Int32.ofInt 8 from if_pos (by omega)]; done)) (by first | (simp only [show ySeat x2 = x2 from if_neg (by omega), show ySeat x3 = x3 from if_neg (by omega)]; first | (rw [e159, e157, e155, e154]; done) | (rw [e159, e157, e155, e154]; rfl)) | (simp only [show ySeat x2 = x2 from if_neg (by omega), show ySeat x3 = Int32.ofInt 8 from if_pos (by omega)]; first | (rw [e159, e157, e155, e154]; done) | (rw [e159, e157, e155, e154]; rfl)) | (simp only [show ySeat x2 = Int32.ofInt 8 from if_pos (by omega), show ySeat x3 = x3 from if_neg (by omega)]; first | (rw [e159, e157, e155, e154]; done) | (rw [e159, e157, e155, e154]; rfl)) | (simp only [show ySeat x2 = Int32.ofInt 8 from if_pos (by omega), show ySeat x3 = Int32.ofInt 8 from if_pos (by omega)]; first | (rw [e159, e157, e155, e154]; done) | (rw [e159, e157, e155, e154]; rfl))))
                            · refine y_throw rfl rfl rfl ?_
                              exact hE2 (by (first | omega | (simp only [show ySeat x2 = x2 from if_neg (by omega), show ySeat x3 = x3 from if_neg (by omega)]; omega) | (simp only [show ySeat x2 = x2 from if_neg (by omega), show ySeat x3 = Int32.ofInt 8 from if_pos (by omega)]; omega) | (simp only [show ySeat x2 = Int32.ofInt 8 from if_pos (by omega), show ySeat x3 = x3 from if_neg (by omega)]; omega) | (simp only [show ySeat x2 = Int32.ofInt 8 from if_pos (by omega), show ySeat x3 = Int32.ofInt 8 from if_pos (by omega)]; omega)))
                    · rw [yz_m1] at h_142
                      refine y_bip rfl (by decide) ?_
                      refine y_goto rfl j_X8_placeOf_11 ?_
                      refine y_ireturn rfl rfl rfl ?_
                      refine y_ret1 ?_
                      refine y_istore (ls' := [some _, some _, some _, some _, some _, some _, some _]) rfl rfl rfl ?_
                      refine y_aload_n rfl rfl ?_
                      refine y_getR rfl (ySh.t hS rfl) (ySh.n hS rfl) rfl rfl (ySh.r hS rfl) ?_
                      refine y_iload_n rfl rfl ?_
                      refine y_iload rfl rfl ?_
                      refine y_virt rfl rfl rfl rfl rfl (ySh.t hS rfl) (ySh.n hS rfl) ?_
                      refine y_in (M := xm_X7_isPartner) (ls := [some _, some _, some _]) rfl rfl rfl ?_
                      refine y_aload_n rfl rfl ?_
                      refine y_getR rfl (ySh.t hS rfl) (ySh.n hS rfl) rfl rfl (ySh.r hS rfl) ?_
                      refine y_aload_n rfl rfl ?_
                      refine y_iload_n rfl rfl ?_
                      refine y_iload_n rfl rfl ?_
                      refine y_virt rfl rfl rfl rfl rfl (ySh.t hS rfl) (ySh.n hS rfl) ?_
                      refine spx_at (by omega) (by omega) (by decide) (by decide) (fun hz161 => ?_)
                      rw [yz_8] at hz161
                      refine y_ret1 ?_
                      refine y_baloadv (J := I 70) rfl (ySh.t hS rfl) rfl (ySh.n hS rfl) (by omega) (by omega) rfl ?_
                      refine y_ireturn rfl rfl (xfit_z (hC.p _)) ?_
                      refine y_ret1 ?_
                      refine y_if_eq rfl j_X8_buyOut_134 (fun h_162 => ?_) (fun h_163 => ?_)
                      · refine y_throw rfl rfl rfl ?_
                        exact hE2 (by (first | omega | (simp only [show ySeat x2 = x2 from if_neg (by omega), show ySeat x3 = x3 from if_neg (by omega)]; omega) | (simp only [show ySeat x2 = x2 from if_neg (by omega), show ySeat x3 = Int32.ofInt 8 from if_pos (by omega)]; omega) | (simp only [show ySeat x2 = Int32.ofInt 8 from if_pos (by omega), show ySeat x3 = x3 from if_neg (by omega)]; omega) | (simp only [show ySeat x2 = Int32.ofInt 8 from if_pos (by omega), show ySeat x3 = Int32.ofInt 8 from if_pos (by omega)]; omega)))
                      · refine y_aload_n rfl rfl ?_
                        refine y_getR rfl (ySh.t hS rfl) (ySh.n hS rfl) rfl rfl (ySh.r hS rfl) ?_
                        refine y_iload_n rfl rfl ?_
                        refine y_iload rfl rfl ?_
                        refine y_virt rfl rfl rfl rfl rfl (ySh.t hS rfl) (ySh.n hS rfl) ?_
                        refine y_in (M := xm_X7_isPartner) (ls := [some _, some _, some _]) rfl rfl rfl ?_
                        refine y_aload_n rfl rfl ?_
                        refine y_getR rfl (ySh.t hS rfl) (ySh.n hS rfl) rfl rfl (ySh.r hS rfl) ?_
                        refine y_aload_n rfl rfl ?_
                        refine y_iload_n rfl rfl ?_
                        refine y_iload_n rfl rfl ?_
                        refine y_virt rfl rfl rfl rfl rfl (ySh.t hS rfl) (ySh.n hS rfl) ?_
                        refine spx_at (by omega) (by omega) (by decide) (by decide) (fun hz164 => ?_)
                        rw [yz_8] at hz164
                        refine y_ret1 ?_
                        refine y_baloadv (J := I 70) rfl (ySh.t hS rfl) rfl (ySh.n hS rfl) (by omega) (by omega) rfl ?_
                        refine y_ireturn rfl rfl (xfit_z (hC.p _)) ?_
                        refine y_ret1 ?_
                        refine y_if_eq rfl j_X8_buyOut_134 (fun h_165 => ?_) (fun h_166 => ?_)
                        · refine y_throw rfl rfl rfl ?_
                          exact hE2 (by (first | omega | (simp only [show ySeat x2 = x2 from if_neg (by omega), show ySeat x3 = x3 from if_neg (by omega)]; omega) | (simp only [show ySeat x2 = x2 from if_neg (by omega), show ySeat x3 = Int32.ofInt 8 from if_pos (by omega)]; omega) | (simp only [show ySeat x2 = Int32.ofInt 8 from if_pos (by omega), show ySeat x3 = x3 from if_neg (by omega)]; omega) | (simp only [show ySeat x2 = Int32.ofInt 8 from if_pos (by omega), show ySeat x3 = Int32.ofInt 8 from if_pos (by omega)]; omega)))
                        · refine y_aload_n rfl rfl ?_
                          refine y_getR rfl (ySh.t hS rfl) (ySh.n hS rfl) rfl rfl (ySh.r hS rfl) ?_
                          refine y_iload_n rfl rfl ?_
                          refine y_iload rfl rfl ?_
                          refine y_virt rfl rfl rfl rfl rfl (ySh.t hS rfl) (ySh.n hS rfl) ?_
                          refine y_in (M := xm_X7_capitalOf) (ls := [some _, some _, some _]) rfl rfl rfl ?_
                          refine y_aload_n rfl rfl ?_
                          refine y_getR rfl (ySh.t hS rfl) (ySh.n hS rfl) rfl rfl (ySh.r hS rfl) ?_
                          refine y_aload_n rfl rfl ?_
                          refine y_iload_n rfl rfl ?_
                          refine y_iload_n rfl rfl ?_
                          refine y_virt rfl rfl rfl rfl rfl (ySh.t hS rfl) (ySh.n hS rfl) ?_
                          refine spx_at (by omega) (by omega) (by decide) (by decide) (fun hz167 => ?_)
                          rw [yz_8] at hz167
                          refine y_ret1 ?_
                          refine y_ialoadv (J := I 71) rfl (ySh.t hS rfl) (ySh.n hS rfl) (by omega) (by omega) rfl ?_
                          refine y_ireturn rfl rfl rfl ?_
                          refine y_ret1 ?_
                          refine y_iload rfl rfl ?_
                          refine y_icmp_lt rfl j_X8_buyOut_134 (fun h_168 => ?_) (fun h_169 => ?_)
                          · refine y_throw rfl rfl rfl ?_
                            exact hE2 (by (first | omega | (simp only [show ySeat x2 = x2 from if_neg (by omega), show ySeat x3 = x3 from if_neg (by omega)]; omega) | (simp only [show ySeat x2 = x2 from if_neg (by omega), show ySeat x3 = Int32.ofInt 8 from if_pos (by omega)]; omega) | (simp only [show ySeat x2 = Int32.ofInt 8 from if_pos (by omega), show ySeat x3 = x3 from if_neg (by omega)]; omega) | (simp only [show ySeat x2 = Int32.ofInt 8 from if_pos (by omega), show ySeat x3 = Int32.ofInt 8 from if_pos (by omega)]; omega)))
                          · refine y_aload_n rfl rfl ?_
                            refine y_getR rfl (ySh.t hS rfl) (ySh.n hS rfl) rfl rfl (ySh.r hS rfl) ?_
                            refine y_getR rfl (ySh.t hS rfl) (ySh.n hS rfl) rfl rfl (ySh.r hS rfl) ?_
                            refine y_iload rfl rfl ?_
                            refine y_ialoadv (J := I 39) rfl (ySh.t hS rfl) (ySh.n hS rfl) (by decide) (by decide) rfl ?_
                            refine y_iload rfl rfl ?_
                            refine y_icmp_ge rfl j_X8_buyOut_145 (fun h_170 => ?_) (fun h_171 => ?_)
                            · refine y_aload_n rfl rfl ?_
                              refine y_getR rfl (ySh.t hS rfl) (ySh.n hS rfl) rfl rfl (ySh.r hS rfl) ?_
                              refine y_iload rfl rfl ?_
                              refine y_iload rfl rfl ?_
                              refine y_iload rfl rfl ?_
                              refine y_virt rfl rfl rfl rfl rfl (ySh.t hS rfl) (ySh.n hS rfl) ?_
                              refine y_in (M := xm_X4_move) (ls := [some _, some _, some _, some _]) rfl rfl rfl ?_
                              refine y_aload_n rfl rfl ?_
                              refine y_iload_n rfl rfl ?_
                              refine y_iload_n rfl rfl ?_
                              refine y_ineg rfl ?_
                              refine y_virt rfl rfl rfl rfl rfl (ySh.t hS rfl) (ySh.n hS rfl) ?_
                              refine spx_add hS ?_
                              refine y_ret0 ?_
                              refine y_nameI (fun I172 e172 => ?_)
                              have hC : yCI I172 := by rw [e172]; exact yCI.addC hC
                              have hF : yFt I I172 := by rw [e172]; exact hF.addC
                              refine y_aload_n rfl rfl ?_
                              refine y_iload_n rfl rfl ?_
                              refine y_iload_n rfl rfl ?_
                              refine y_virt rfl rfl rfl rfl rfl (ySh.t hS rfl) (ySh.n hS rfl) ?_
                              refine spx_add hS ?_
                              refine y_ret0 ?_
                              refine y_nameI (fun I173 e173 => ?_)
                              have hC : yCI I173 := by rw [e173]; exact yCI.addC hC
                              have hF : yFt I I173 := by rw [e173]; exact hF.addC
                              refine y_return rfl ?_
                              refine y_ret0 ?_
                              refine y_aload_n rfl rfl ?_
                              refine y_getR rfl (ySh.t hS rfl) (ySh.n hS rfl) rfl rfl (ySh.r hS rfl) ?_
                              refine y_iload_n rfl rfl ?_
                              refine y_iload rfl rfl ?_
                              refine y_iload rfl rfl ?_
                              refine y_iload rfl rfl ?_
                              refine y_virt rfl rfl rfl rfl rfl (ySh.t hS rfl) (ySh.n hS rfl) ?_
                              refine y_in (M := xm_X7_moveCapital) (ls := [some _, some _, some _, some _, some _]) rfl rfl rfl ?_
                              refine y_aload_n rfl rfl ?_
                              refine y_getR rfl (ySh.t hS rfl) (ySh.n hS rfl) rfl rfl (ySh.r hS rfl) ?_
                              refine y_aload_n rfl rfl ?_
                              refine y_iload_n rfl rfl ?_
                              refine y_iload_n rfl rfl ?_
                              refine y_virt rfl rfl rfl rfl rfl (ySh.t hS rfl) (ySh.n hS rfl) ?_
                              refine spx_at (by omega) (by omega) (by decide) (by decide) (fun hz174 => ?_)
                              rw [yz_8] at hz174
                              refine y_ret1 ?_
                              refine y_dup2 rfl rfl rfl ?_
                              refine y_ialoadv (J := I 71) rfl (ySh.t hS rfl) (ySh.n hS rfl) (by omega) (by omega) (by rw [e173, yAddC_row (by decide), e172, yAddC_row (by decide)]) ?_
                              refine y_iload rfl rfl ?_
                              refine y_isub rfl ?_
                              refine y_iastore rfl (ySh.t hS rfl) (ySh.n hS rfl) (Nat.le_of_ble_eq_true rfl) (by omega) (by omega) ?_
                              refine y_nameI (fun I175 e175 => ?_)
                              have hC : yCI I175 := by rw [e175]; exact hC
                              have hF : yFt I I175 := by rw [e175]; exact hF.upd (by decide)
                              refine y_aload_n rfl rfl ?_
                              refine y_getR rfl (ySh.t hS rfl) (ySh.n hS rfl) rfl rfl (ySh.r hS rfl) ?_
                              refine y_aload_n rfl rfl ?_
                              refine y_iload_n rfl rfl ?_
                              refine y_iload_n rfl rfl ?_
                              refine y_virt rfl rfl rfl rfl rfl (ySh.t hS rfl) (ySh.n hS rfl) ?_
                              refine spx_at (by omega) (by omega) (by decide) (by decide) (fun hz176 => ?_)
                              rw [yz_8] at hz176
                              refine y_ret1 ?_
                              refine y_dup2 rfl rfl rfl ?_
                              refine y_iaload rfl (ySh.t hS rfl) (ySh.n hS rfl) (by omega) (by omega) ?_
                              refine y_iload rfl rfl ?_
                              refine y_iadd rfl ?_
                              refine y_iastore rfl (ySh.t hS rfl) (ySh.n hS rfl) (Nat.le_of_ble_eq_true rfl) (by omega) (by omega) ?_
                              refine y_nameI (fun I177 e177 => ?_)
                              have hC : yCI I177 := by rw [e177]; exact hC
                              have hF : yFt I I177 := by rw [e177]; exact hF.upd (by decide)
                              refine y_return rfl ?_
                              refine y_ret0 ?_
                              refine y_aload_n rfl rfl ?_
                              refine y_getR rfl (ySh.t hS rfl) (ySh.n hS rfl) rfl rfl (ySh.r hS rfl) ?_
                              refine y_iload_n rfl rfl ?_
                              refine y_iload rfl rfl ?_
                              refine y_virt rfl rfl rfl rfl rfl (ySh.t hS rfl) (ySh.n hS rfl) ?_
                              refine y_in (M := xm_X7_capitalOf) (ls := [some _, some _, some _]) rfl rfl rfl ?_
                              refine y_aload_n rfl rfl ?_
                              refine y_getR rfl (ySh.t hS rfl) (ySh.n hS rfl) rfl rfl (ySh.r hS rfl) ?_
                              refine y_aload_n rfl rfl ?_
                              refine y_iload_n rfl rfl ?_
                              refine y_iload_n rfl rfl ?_
                              refine y_virt rfl rfl rfl rfl rfl (ySh.t hS rfl) (ySh.n hS rfl) ?_
                              refine spx_at (by omega) (by omega) (by decide) (by decide) (fun hz178 => ?_)
                              rw [yz_8] at hz178
                              refine y_ret1 ?_
                              refine y_iaload rfl (ySh.t hS rfl) (ySh.n hS rfl) (by omega) (by omega) ?_
                              refine y_ireturn rfl rfl rfl ?_
                              refine y_ret1 ?_
                              refine y_ireturn rfl rfl rfl ?_
                              first | (exfalso; omega) | (exact hQ (by (first | omega | (simp only [show ySeat x2 = x2 from if_neg (by omega), show ySeat x3 = x3 from if_neg (by omega)]; omega) | (simp only [show ySeat x2 = x2 from if_neg (by omega), show ySeat x3 = Int32.ofInt 8 from if_pos (by omega)]; omega) | (simp only [show ySeat x2 = Int32.ofInt 8 from if_pos (by omega), show ySeat x3 = x3 from if_neg (by omega)]; omega) | (simp only [show ySeat x2 = Int32.ofInt 8 from if_pos (by omega), show ySeat x3 = Int32.ofInt 8 from if_pos (by omega)]; omega))) _ _ hC hF (by first | rfl | (simp only [show ySeat x2 = x2 from if_neg (by omega), show ySeat x3 = x3 from if_neg (by omega)]; done) | (simp only [show ySeat x2 = x2 from if_neg (by omega), show ySeat x3 = Int32.ofInt 8 from if_pos (by omega)]; done) | (simp only [show ySeat x2 = Int32.ofInt 8 from if_pos (by omega), show ySeat x3 = x3 from if_neg (by omega)]; done) | (simp only [show ySeat x2 = Int32.ofInt 8 from if_pos (by omega), show ySeat x3 = Int32.ofInt 8 from if_pos (by omega)]; done)) (by first | (simp only [show ySeat x2 = x2 from if_neg (by omega), show ySeat x3 = x3 from if_neg (by omega)]; first | (rw [e177, e175, e173, e172]; done) | (rw [e177, e175, e173, e172]; rfl)) | (simp only [show ySeat x2 = x2 from if_neg (by omega), show ySeat x3 = Int32.ofInt 8 from if_pos (by omega)]; first | (rw [e177, e175, e173, e172]; done) | (rw [e177, e175, e173, e172]; rfl)) | (simp only [show ySeat x2 = Int32.ofInt 8 from if_pos (by omega), show ySeat x3 = x3 from if_neg (by omega)]; first | (rw [e177, e175, e173, e172]; done) | (rw [e177, e175, e173, e172]; rfl)) | (simp only [show ySeat x2 = Int32.ofInt 8 from if_pos (by omega), show ySeat x3 = Int32.ofInt 8 from if_pos (by omega)]; first | (rw [e177, e175, e173, e172]; done) | (rw [e177, e175, e173, e172]; rfl))))
                            · refine y_throw rfl rfl rfl ?_
                              exact hE2 (by (first | omega | (simp only [show ySeat x2 = x2 from if_neg (by omega), show ySeat x3 = x3 from if_neg (by omega)]; omega) | (simp only [show ySeat x2 = x2 from if_neg (by omega), show ySeat x3 = Int32.ofInt 8 from if_pos (by omega)]; omega) | (simp only [show ySeat x2 = Int32.ofInt 8 from if_pos (by omega), show ySeat x3 = x3 from if_neg (by omega)]; omega) | (simp only [show ySeat x2 = Int32.ofInt 8 from if_pos (by omega), show ySeat x3 = Int32.ofInt 8 from if_pos (by omega)]; omega)))
                · rw [yz_1] at h_100
                  rw [yz_999] at h_100
                  refine y_ret1 ?_
                  refine y_if_neF rfl (by decide) ?_
                  refine y_throw rfl rfl rfl ?_
                  exact hE1 (by (first | omega | (simp only [show ySeat x2 = x2 from if_neg (by omega), show ySeat x3 = x3 from if_neg (by omega)]; omega) | (simp only [show ySeat x2 = x2 from if_neg (by omega), show ySeat x3 = Int32.ofInt 8 from if_pos (by omega)]; omega) | (simp only [show ySeat x2 = Int32.ofInt 8 from if_pos (by omega), show ySeat x3 = x3 from if_neg (by omega)]; omega) | (simp only [show ySeat x2 = Int32.ofInt 8 from if_pos (by omega), show ySeat x3 = Int32.ofInt 8 from if_pos (by omega)]; omega)))
      · rw [yz_m1] at h_6
        refine y_aload_n rfl rfl ?_
        refine y_getR rfl (ySh.t hS rfl) (ySh.n hS rfl) rfl rfl (ySh.r hS rfl) ?_
        refine y_iload_n rfl rfl ?_
        refine y_virt rfl rfl rfl rfl rfl (ySh.t hS rfl) (ySh.n hS rfl) ?_
        refine y_in (M := xm_X4_has) (ls := [some _, some _]) rfl rfl rfl ?_
        refine y_iload_n rfl rfl ?_
        refine y_if_lt rfl j_X4_has_16 (fun h_179 => ?_) (fun h_180 => ?_)
        · refine y_iconst rfl ?_
          refine y_ireturn rfl rfl rfl ?_
          refine y_ret1 ?_
          refine y_if_eqT rfl j_X8_isParty_20 (by decide) ?_
          refine y_iconst rfl ?_
          refine y_ireturn rfl rfl rfl ?_
          refine y_ret1 ?_
          refine y_if_eqT rfl j_X8_buyOut_27 (by decide) ?_
          refine y_throw rfl rfl rfl ?_
          exact hE0 (by (first | omega | (simp only [show ySeat x2 = x2 from if_neg (by omega), show ySeat x3 = x3 from if_neg (by omega)]; omega) | (simp only [show ySeat x2 = x2 from if_neg (by omega), show ySeat x3 = Int32.ofInt 8 from if_pos (by omega)]; omega) | (simp only [show ySeat x2 = Int32.ofInt 8 from if_pos (by omega), show ySeat x3 = x3 from if_neg (by omega)]; omega) | (simp only [show ySeat x2 = Int32.ofInt 8 from if_pos (by omega), show ySeat x3 = Int32.ofInt 8 from if_pos (by omega)]; omega)))
        · refine y_iload_n rfl rfl ?_
          refine y_aload_n rfl rfl ?_
          refine y_getIv (v := I 38 0) rfl (ySh.t hS rfl) (ySh.n hS rfl) rfl rfl rfl ?_
          refine y_icmp_ge rfl j_X4_has_16 (fun h_181 => ?_) (fun h_182 => ?_)
          · refine y_iconst rfl ?_
            refine y_ireturn rfl rfl rfl ?_
            refine y_ret1 ?_
            refine y_if_eqT rfl j_X8_isParty_20 (by decide) ?_
            refine y_iconst rfl ?_
            refine y_ireturn rfl rfl rfl ?_
            refine y_ret1 ?_
            refine y_if_eqT rfl j_X8_buyOut_27 (by decide) ?_
            refine y_throw rfl rfl rfl ?_
            exact hE0 (by (first | omega | (simp only [show ySeat x2 = x2 from if_neg (by omega), show ySeat x3 = x3 from if_neg (by omega)]; omega) | (simp only [show ySeat x2 = x2 from if_neg (by omega), show ySeat x3 = Int32.ofInt 8 from if_pos (by omega)]; omega) | (simp only [show ySeat x2 = Int32.ofInt 8 from if_pos (by omega), show ySeat x3 = x3 from if_neg (by omega)]; omega) | (simp only [show ySeat x2 = Int32.ofInt 8 from if_pos (by omega), show ySeat x3 = Int32.ofInt 8 from if_pos (by omega)]; omega)))
          · refine y_iconst rfl ?_
            refine y_goto rfl j_X4_has_17 ?_
            refine y_ireturn rfl rfl rfl ?_
            refine y_ret1 ?_
            refine y_if_eqF rfl (by decide) ?_
            refine y_iconst rfl ?_
            refine y_goto rfl j_X8_isParty_21 ?_
            refine y_ireturn rfl rfl rfl ?_
            refine y_ret1 ?_
            refine y_if_eqF rfl (by decide) ?_
            refine y_aload_n rfl rfl ?_
            refine y_iload_n rfl rfl ?_
            refine y_virt rfl rfl rfl rfl rfl (ySh.t hS rfl) (ySh.n hS rfl) ?_
            refine y_in (M := xm_X8_isParty) (ls := [some _, some _]) rfl rfl rfl ?_
            refine y_iload_n rfl rfl ?_
            refine y_iconst rfl ?_
            refine y_icmp_eq rfl j_X8_isParty_16 (fun h_183 => ?_) (fun h_184 => ?_)
            · rw [yz_m1] at h_183
              refine y_iconst rfl ?_
              refine y_goto rfl j_X8_isParty_21 ?_
              refine y_ireturn rfl rfl rfl ?_
              refine y_ret1 ?_
              refine y_if_neT rfl j_X8_buyOut_38 (by decide) ?_
              refine y_iload_n rfl rfl ?_
              refine y_iload_n rfl rfl ?_
              refine y_icmp_eq rfl j_X8_buyOut_55 (fun h_185 => ?_) (fun h_186 => ?_)
              · refine y_throw rfl rfl rfl ?_
                exact hE1 (by (first | omega | (simp only [show ySeat x2 = x2 from if_neg (by omega), show ySeat x3 = x3 from if_neg (by omega)]; omega) | (simp only [show ySeat x2 = x2 from if_neg (by omega), show ySeat x3 = Int32.ofInt 8 from if_pos (by omega)]; omega) | (simp only [show ySeat x2 = Int32.ofInt 8 from if_pos (by omega), show ySeat x3 = x3 from if_neg (by omega)]; omega) | (simp only [show ySeat x2 = Int32.ofInt 8 from if_pos (by omega), show ySeat x3 = Int32.ofInt 8 from if_pos (by omega)]; omega)))
              · refine y_iload rfl rfl ?_
                refine y_iconst rfl ?_
                refine y_sip rfl (by decide) ?_
                refine y_static rfl rfl rfl rfl rfl ?_
                refine s_isIn (fun h_187 h_188 => ?_) (fun h_189 => ?_)
                · rw [yz_1] at h_187
                  rw [yz_999] at h_188
                  refine y_ret1 ?_
                  refine y_if_neT rfl j_X8_buyOut_66 (by decide) ?_
                  refine y_iload_n rfl rfl ?_
                  refine y_static rfl rfl rfl rfl rfl ?_
                  refine y_in (M := xm_X8_placeOf) (ls := [some _]) rfl rfl rfl ?_
                  refine y_iload_n rfl rfl ?_
                  refine y_iconst rfl ?_
                  refine y_icmp_ne rfl j_X8_placeOf_10 (fun h_190 => ?_) (fun h_191 => ?_)
                  · rw [yz_m1] at h_190
                    refine y_iload_n rfl rfl ?_
                    refine y_ireturn rfl rfl rfl ?_
                    refine y_ret1 ?_
                    refine y_istore (ls' := [some _, some _, some _, some _, some _, some _, _]) rfl rfl rfl ?_
                    refine y_iload_n rfl rfl ?_
                    refine y_static rfl rfl rfl rfl rfl ?_
                    refine y_in (M := xm_X8_placeOf) (ls := [some _]) rfl rfl rfl ?_
                    refine y_iload_n rfl rfl ?_
                    refine y_iconst rfl ?_
                    refine y_icmp_ne rfl j_X8_placeOf_10 (fun h_192 => ?_) (fun h_193 => ?_)
                    · rw [yz_m1] at h_192
                      refine y_iload_n rfl rfl ?_
                      refine y_ireturn rfl rfl rfl ?_
                      refine y_ret1 ?_
                      refine y_istore (ls' := [some _, some _, some _, some _, some _, some _, some _]) rfl rfl rfl ?_
                      refine y_aload_n rfl rfl ?_
                      refine y_getR rfl (ySh.t hS rfl) (ySh.n hS rfl) rfl rfl (ySh.r hS rfl) ?_
                      refine y_iload_n rfl rfl ?_
                      refine y_iload rfl rfl ?_
                      refine y_virt rfl rfl rfl rfl rfl (ySh.t hS rfl) (ySh.n hS rfl) ?_
                      refine y_in (M := xm_X7_isPartner) (ls := [some _, some _, some _]) rfl rfl rfl ?_
                      refine y_aload_n rfl rfl ?_
                      refine y_getR rfl (ySh.t hS rfl) (ySh.n hS rfl) rfl rfl (ySh.r hS rfl) ?_
                      refine y_aload_n rfl rfl ?_
                      refine y_iload_n rfl rfl ?_
                      refine y_iload_n rfl rfl ?_
                      refine y_virt rfl rfl rfl rfl rfl (ySh.t hS rfl) (ySh.n hS rfl) ?_
                      refine spx_at (by omega) (by omega) (by omega) (by omega) (fun hz194 => ?_)
                      refine y_ret1 ?_
                      refine y_baloadv (J := I 70) rfl (ySh.t hS rfl) rfl (ySh.n hS rfl) (by omega) (by omega) rfl ?_
                      refine y_ireturn rfl rfl (xfit_z (hC.p _)) ?_
                      refine y_ret1 ?_
                      refine y_if_eq rfl j_X8_buyOut_134 (fun h_195 => ?_) (fun h_196 => ?_)
                      · refine y_throw rfl rfl rfl ?_
                        exact hE2 (by (first | omega | (simp only [show ySeat x2 = x2 from if_neg (by omega), show ySeat x3 = x3 from if_neg (by omega)]; omega) | (simp only [show ySeat x2 = x2 from if_neg (by omega), show ySeat x3 = Int32.ofInt 8 from if_pos (by omega)]; omega) | (simp only [show ySeat x2 = Int32.ofInt 8 from if_pos (by omega), show ySeat x3 = x3 from if_neg (by omega)]; omega) | (simp only [show ySeat x2 = Int32.ofInt 8 from if_pos (by omega), show ySeat x3 = Int32.ofInt 8 from if_pos (by omega)]; omega)))
                      · refine y_aload_n rfl rfl ?_
                        refine y_getR rfl (ySh.t hS rfl) (ySh.n hS rfl) rfl rfl (ySh.r hS rfl) ?_
                        refine y_iload_n rfl rfl ?_
                        refine y_iload rfl rfl ?_
                        refine y_virt rfl rfl rfl rfl rfl (ySh.t hS rfl) (ySh.n hS rfl) ?_
                        refine y_in (M := xm_X7_isPartner) (ls := [some _, some _, some _]) rfl rfl rfl ?_
                        refine y_aload_n rfl rfl ?_
                        refine y_getR rfl (ySh.t hS rfl) (ySh.n hS rfl) rfl rfl (ySh.r hS rfl) ?_
                        refine y_aload_n rfl rfl ?_
                        refine y_iload_n rfl rfl ?_
                        refine y_iload_n rfl rfl ?_
                        refine y_virt rfl rfl rfl rfl rfl (ySh.t hS rfl) (ySh.n hS rfl) ?_
                        refine spx_at (by omega) (by omega) (by omega) (by omega) (fun hz197 => ?_)
                        refine y_ret1 ?_
                        refine y_baloadv (J := I 70) rfl (ySh.t hS rfl) rfl (ySh.n hS rfl) (by omega) (by omega) rfl ?_
                        refine y_ireturn rfl rfl (xfit_z (hC.p _)) ?_
                        refine y_ret1 ?_
                        refine y_if_eq rfl j_X8_buyOut_134 (fun h_198 => ?_) (fun h_199 => ?_)
                        · refine y_throw rfl rfl rfl ?_
                          exact hE2 (by (first | omega | (simp only [show ySeat x2 = x2 from if_neg (by omega), show ySeat x3 = x3 from if_neg (by omega)]; omega) | (simp only [show ySeat x2 = x2 from if_neg (by omega), show ySeat x3 = Int32.ofInt 8 from if_pos (by omega)]; omega) | (simp only [show ySeat x2 = Int32.ofInt 8 from if_pos (by omega), show ySeat x3 = x3 from if_neg (by omega)]; omega) | (simp only [show ySeat x2 = Int32.ofInt 8 from if_pos (by omega), show ySeat x3 = Int32.ofInt 8 from if_pos (by omega)]; omega)))
                        · refine y_aload_n rfl rfl ?_
                          refine y_getR rfl (ySh.t hS rfl) (ySh.n hS rfl) rfl rfl (ySh.r hS rfl) ?_
                          refine y_iload_n rfl rfl ?_
                          refine y_iload rfl rfl ?_
                          refine y_virt rfl rfl rfl rfl rfl (ySh.t hS rfl) (ySh.n hS rfl) ?_
                          refine y_in (M := xm_X7_capitalOf) (ls := [some _, some _, some _]) rfl rfl rfl ?_
                          refine y_aload_n rfl rfl ?_
                          refine y_getR rfl (ySh.t hS rfl) (ySh.n hS rfl) rfl rfl (ySh.r hS rfl) ?_
                          refine y_aload_n rfl rfl ?_
                          refine y_iload_n rfl rfl ?_
                          refine y_iload_n rfl rfl ?_
                          refine y_virt rfl rfl rfl rfl rfl (ySh.t hS rfl) (ySh.n hS rfl) ?_
                          refine spx_at (by omega) (by omega) (by omega) (by omega) (fun hz200 => ?_)
                          refine y_ret1 ?_
                          refine y_ialoadv (J := I 71) rfl (ySh.t hS rfl) (ySh.n hS rfl) (by omega) (by omega) rfl ?_
                          refine y_ireturn rfl rfl rfl ?_
                          refine y_ret1 ?_
                          refine y_iload rfl rfl ?_
                          refine y_icmp_lt rfl j_X8_buyOut_134 (fun h_201 => ?_) (fun h_202 => ?_)
                          · refine y_throw rfl rfl rfl ?_
                            exact hE2 (by (first | omega | (simp only [show ySeat x2 = x2 from if_neg (by omega), show ySeat x3 = x3 from if_neg (by omega)]; omega) | (simp only [show ySeat x2 = x2 from if_neg (by omega), show ySeat x3 = Int32.ofInt 8 from if_pos (by omega)]; omega) | (simp only [show ySeat x2 = Int32.ofInt 8 from if_pos (by omega), show ySeat x3 = x3 from if_neg (by omega)]; omega) | (simp only [show ySeat x2 = Int32.ofInt 8 from if_pos (by omega), show ySeat x3 = Int32.ofInt 8 from if_pos (by omega)]; omega)))
                          · refine y_aload_n rfl rfl ?_
                            refine y_getR rfl (ySh.t hS rfl) (ySh.n hS rfl) rfl rfl (ySh.r hS rfl) ?_
                            refine y_getR rfl (ySh.t hS rfl) (ySh.n hS rfl) rfl rfl (ySh.r hS rfl) ?_
                            refine y_iload rfl rfl ?_
                            refine y_ialoadv (J := I 39) rfl (ySh.t hS rfl) (ySh.n hS rfl) (by omega) (by omega) rfl ?_
                            refine y_iload rfl rfl ?_
                            refine y_icmp_ge rfl j_X8_buyOut_145 (fun h_203 => ?_) (fun h_204 => ?_)
                            · refine y_aload_n rfl rfl ?_
                              refine y_getR rfl (ySh.t hS rfl) (ySh.n hS rfl) rfl rfl (ySh.r hS rfl) ?_
                              refine y_iload rfl rfl ?_
                              refine y_iload rfl rfl ?_
                              refine y_iload rfl rfl ?_
                              refine y_virt rfl rfl rfl rfl rfl (ySh.t hS rfl) (ySh.n hS rfl) ?_
                              refine y_in (M := xm_X4_move) (ls := [some _, some _, some _, some _]) rfl rfl rfl ?_
                              refine y_aload_n rfl rfl ?_
                              refine y_iload_n rfl rfl ?_
                              refine y_iload_n rfl rfl ?_
                              refine y_ineg rfl ?_
                              refine y_virt rfl rfl rfl rfl rfl (ySh.t hS rfl) (ySh.n hS rfl) ?_
                              refine spx_add hS ?_
                              refine y_ret0 ?_
                              refine y_nameI (fun I205 e205 => ?_)
                              have hC : yCI I205 := by rw [e205]; exact yCI.addC hC
                              have hF : yFt I I205 := by rw [e205]; exact hF.addC
                              refine y_aload_n rfl rfl ?_
                              refine y_iload_n rfl rfl ?_
                              refine y_iload_n rfl rfl ?_
                              refine y_virt rfl rfl rfl rfl rfl (ySh.t hS rfl) (ySh.n hS rfl) ?_
                              refine spx_add hS ?_
                              refine y_ret0 ?_
                              refine y_nameI (fun I206 e206 => ?_)
                              have hC : yCI I206 := by rw [e206]; exact yCI.addC hC
                              have hF : yFt I I206 := by rw [e206]; exact hF.addC
                              refine y_return rfl ?_
                              refine y_ret0 ?_
                              refine y_aload_n rfl rfl ?_
                              refine y_getR rfl (ySh.t hS rfl) (ySh.n hS rfl) rfl rfl (ySh.r hS rfl) ?_
                              refine y_iload_n rfl rfl ?_
                              refine y_iload rfl rfl ?_
                              refine y_iload rfl rfl ?_
                              refine y_iload rfl rfl ?_
                              refine y_virt rfl rfl rfl rfl rfl (ySh.t hS rfl) (ySh.n hS rfl) ?_
                              refine y_in (M := xm_X7_moveCapital) (ls := [some _, some _, some _, some _, some _]) rfl rfl rfl ?_
                              refine y_aload_n rfl rfl ?_
                              refine y_getR rfl (ySh.t hS rfl) (ySh.n hS rfl) rfl rfl (ySh.r hS rfl) ?_
                              refine y_aload_n rfl rfl ?_
                              refine y_iload_n rfl rfl ?_
                              refine y_iload_n rfl rfl ?_
                              refine y_virt rfl rfl rfl rfl rfl (ySh.t hS rfl) (ySh.n hS rfl) ?_
                              refine spx_at (by omega) (by omega) (by omega) (by omega) (fun hz207 => ?_)
                              refine y_ret1 ?_
                              refine y_dup2 rfl rfl rfl ?_
                              refine y_ialoadv (J := I 71) rfl (ySh.t hS rfl) (ySh.n hS rfl) (by omega) (by omega) (by rw [e206, yAddC_row (by decide), e205, yAddC_row (by decide)]) ?_
                              refine y_iload rfl rfl ?_
                              refine y_isub rfl ?_
                              refine y_iastore rfl (ySh.t hS rfl) (ySh.n hS rfl) (Nat.le_of_ble_eq_true rfl) (by omega) (by omega) ?_
                              refine y_nameI (fun I208 e208 => ?_)
                              have hC : yCI I208 := by rw [e208]; exact hC
                              have hF : yFt I I208 := by rw [e208]; exact hF.upd (by decide)
                              refine y_aload_n rfl rfl ?_
                              refine y_getR rfl (ySh.t hS rfl) (ySh.n hS rfl) rfl rfl (ySh.r hS rfl) ?_
                              refine y_aload_n rfl rfl ?_
                              refine y_iload_n rfl rfl ?_
                              refine y_iload_n rfl rfl ?_
                              refine y_virt rfl rfl rfl rfl rfl (ySh.t hS rfl) (ySh.n hS rfl) ?_
                              refine spx_at (by omega) (by omega) (by omega) (by omega) (fun hz209 => ?_)
                              refine y_ret1 ?_
                              refine y_dup2 rfl rfl rfl ?_
                              refine y_iaload rfl (ySh.t hS rfl) (ySh.n hS rfl) (by omega) (by omega) ?_
                              refine y_iload rfl rfl ?_
                              refine y_iadd rfl ?_
                              refine y_iastore rfl (ySh.t hS rfl) (ySh.n hS rfl) (Nat.le_of_ble_eq_true rfl) (by omega) (by omega) ?_
                              refine y_nameI (fun I210 e210 => ?_)
                              have hC : yCI I210 := by rw [e210]; exact hC
                              have hF : yFt I I210 := by rw [e210]; exact hF.upd (by decide)
                              refine y_return rfl ?_
                              refine y_ret0 ?_
                              refine y_aload_n rfl rfl ?_
                              refine y_getR rfl (ySh.t hS rfl) (ySh.n hS rfl) rfl rfl (ySh.r hS rfl) ?_
                              refine y_iload_n rfl rfl ?_
                              refine y_iload rfl rfl ?_
                              refine y_virt rfl rfl rfl rfl rfl (ySh.t hS rfl) (ySh.n hS rfl) ?_
                              refine y_in (M := xm_X7_capitalOf) (ls := [some _, some _, some _]) rfl rfl rfl ?_
                              refine y_aload_n rfl rfl ?_
                              refine y_getR rfl (ySh.t hS rfl) (ySh.n hS rfl) rfl rfl (ySh.r hS rfl) ?_
                              refine y_aload_n rfl rfl ?_
                              refine y_iload_n rfl rfl ?_
                              refine y_iload_n rfl rfl ?_
                              refine y_virt rfl rfl rfl rfl rfl (ySh.t hS rfl) (ySh.n hS rfl) ?_
                              refine spx_at (by omega) (by omega) (by omega) (by omega) (fun hz211 => ?_)
                              refine y_ret1 ?_
                              refine y_iaload rfl (ySh.t hS rfl) (ySh.n hS rfl) (by omega) (by omega) ?_
                              refine y_ireturn rfl rfl rfl ?_
                              refine y_ret1 ?_
                              refine y_ireturn rfl rfl rfl ?_
                              first | (exfalso; omega) | (exact hQ (by (first | omega | (simp only [show ySeat x2 = x2 from if_neg (by omega), show ySeat x3 = x3 from if_neg (by omega)]; omega) | (simp only [show ySeat x2 = x2 from if_neg (by omega), show ySeat x3 = Int32.ofInt 8 from if_pos (by omega)]; omega) | (simp only [show ySeat x2 = Int32.ofInt 8 from if_pos (by omega), show ySeat x3 = x3 from if_neg (by omega)]; omega) | (simp only [show ySeat x2 = Int32.ofInt 8 from if_pos (by omega), show ySeat x3 = Int32.ofInt 8 from if_pos (by omega)]; omega))) _ _ hC hF (by first | rfl | (simp only [show ySeat x2 = x2 from if_neg (by omega), show ySeat x3 = x3 from if_neg (by omega)]; done) | (simp only [show ySeat x2 = x2 from if_neg (by omega), show ySeat x3 = Int32.ofInt 8 from if_pos (by omega)]; done) | (simp only [show ySeat x2 = Int32.ofInt 8 from if_pos (by omega), show ySeat x3 = x3 from if_neg (by omega)]; done) | (simp only [show ySeat x2 = Int32.ofInt 8 from if_pos (by omega), show ySeat x3 = Int32.ofInt 8 from if_pos (by omega)]; done)) (by first | (simp only [show ySeat x2 = x2 from if_neg (by omega), show ySeat x3 = x3 from if_neg (by omega)]; first | (rw [e210, e208, e206, e205]; done) | (rw [e210, e208, e206, e205]; rfl)) | (simp only [show ySeat x2 = x2 from if_neg (by omega), show ySeat x3 = Int32.ofInt 8 from if_pos (by omega)]; first | (rw [e210, e208, e206, e205]; done) | (rw [e210, e208, e206, e205]; rfl)) | (simp only [show ySeat x2 = Int32.ofInt 8 from if_pos (by omega), show ySeat x3 = x3 from if_neg (by omega)]; first | (rw [e210, e208, e206, e205]; done) | (rw [e210, e208, e206, e205]; rfl)) | (simp only [show ySeat x2 = Int32.ofInt 8 from if_pos (by omega), show ySeat x3 = Int32.ofInt 8 from if_pos (by omega)]; first | (rw [e210, e208, e206, e205]; done) | (rw [e210, e208, e206, e205]; rfl))))
                            · refine y_throw rfl rfl rfl ?_
                              exact hE2 (by (first | omega | (simp only [show ySeat x2 = x2 from if_neg (by omega), show ySeat x3 = x3 from if_neg (by omega)]; omega) | (simp only [show ySeat x2 = x2 from if_neg (by omega), show ySeat x3 = Int32.ofInt 8 from if_pos (by omega)]; omega) | (simp only [show ySeat x2 = Int32.ofInt 8 from if_pos (by omega), show ySeat x3 = x3 from if_neg (by omega)]; omega) | (simp only [show ySeat x2 = Int32.ofInt 8 from if_pos (by omega), show ySeat x3 = Int32.ofInt 8 from if_pos (by omega)]; omega)))
                    · rw [yz_m1] at h_193
                      refine y_bip rfl (by decide) ?_
                      refine y_goto rfl j_X8_placeOf_11 ?_
                      refine y_ireturn rfl rfl rfl ?_
                      refine y_ret1 ?_
                      refine y_istore (ls' := [some _, some _, some _, some _, some _, some _, some _]) rfl rfl rfl ?_
                      refine y_aload_n rfl rfl ?_
                      refine y_getR rfl (ySh.t hS rfl) (ySh.n hS rfl) rfl rfl (ySh.r hS rfl) ?_
                      refine y_iload_n rfl rfl ?_
                      refine y_iload rfl rfl ?_
                      refine y_virt rfl rfl rfl rfl rfl (ySh.t hS rfl) (ySh.n hS rfl) ?_
                      refine y_in (M := xm_X7_isPartner) (ls := [some _, some _, some _]) rfl rfl rfl ?_
                      refine y_aload_n rfl rfl ?_
                      refine y_getR rfl (ySh.t hS rfl) (ySh.n hS rfl) rfl rfl (ySh.r hS rfl) ?_
                      refine y_aload_n rfl rfl ?_
                      refine y_iload_n rfl rfl ?_
                      refine y_iload_n rfl rfl ?_
                      refine y_virt rfl rfl rfl rfl rfl (ySh.t hS rfl) (ySh.n hS rfl) ?_
                      refine spx_at (by omega) (by omega) (by omega) (by omega) (fun hz212 => ?_)
                      refine y_ret1 ?_
                      refine y_baloadv (J := I 70) rfl (ySh.t hS rfl) rfl (ySh.n hS rfl) (by omega) (by omega) rfl ?_
                      refine y_ireturn rfl rfl (xfit_z (hC.p _)) ?_
                      refine y_ret1 ?_
                      refine y_if_eq rfl j_X8_buyOut_134 (fun h_213 => ?_) (fun h_214 => ?_)
                      · refine y_throw rfl rfl rfl ?_
                        exact hE2 (by (first | omega | (simp only [show ySeat x2 = x2 from if_neg (by omega), show ySeat x3 = x3 from if_neg (by omega)]; omega) | (simp only [show ySeat x2 = x2 from if_neg (by omega), show ySeat x3 = Int32.ofInt 8 from if_pos (by omega)]; omega) | (simp only [show ySeat x2 = Int32.ofInt 8 from if_pos (by omega), show ySeat x3 = x3 from if_neg (by omega)]; omega) | (simp only [show ySeat x2 = Int32.ofInt 8 from if_pos (by omega), show ySeat x3 = Int32.ofInt 8 from if_pos (by omega)]; omega)))
                      · refine y_aload_n rfl rfl ?_
                        refine y_getR rfl (ySh.t hS rfl) (ySh.n hS rfl) rfl rfl (ySh.r hS rfl) ?_
                        refine y_iload_n rfl rfl ?_
                        refine y_iload rfl rfl ?_
                        refine y_virt rfl rfl rfl rfl rfl (ySh.t hS rfl) (ySh.n hS rfl) ?_
                        refine y_in (M := xm_X7_isPartner) (ls := [some _, some _, some _]) rfl rfl rfl ?_
                        refine y_aload_n rfl rfl ?_
                        refine y_getR rfl (ySh.t hS rfl) (ySh.n hS rfl) rfl rfl (ySh.r hS rfl) ?_
                        refine y_aload_n rfl rfl ?_
                        refine y_iload_n rfl rfl ?_
                        refine y_iload_n rfl rfl ?_
                        refine y_virt rfl rfl rfl rfl rfl (ySh.t hS rfl) (ySh.n hS rfl) ?_
                        refine spx_at (by omega) (by omega) (by decide) (by decide) (fun hz215 => ?_)
                        rw [yz_8] at hz215
                        refine y_ret1 ?_
                        refine y_baloadv (J := I 70) rfl (ySh.t hS rfl) rfl (ySh.n hS rfl) (by omega) (by omega) rfl ?_
                        refine y_ireturn rfl rfl (xfit_z (hC.p _)) ?_
                        refine y_ret1 ?_
                        refine y_if_eq rfl j_X8_buyOut_134 (fun h_216 => ?_) (fun h_217 => ?_)
                        · refine y_throw rfl rfl rfl ?_
                          exact hE2 (by (first | omega | (simp only [show ySeat x2 = x2 from if_neg (by omega), show ySeat x3 = x3 from if_neg (by omega)]; omega) | (simp only [show ySeat x2 = x2 from if_neg (by omega), show ySeat x3 = Int32.ofInt 8 from if_pos (by omega)]; omega) | (simp only [show ySeat x2 = Int32.ofInt 8 from if_pos (by omega), show ySeat x3 = x3 from if_neg (by omega)]; omega) | (simp only [show ySeat x2 = Int32.ofInt 8 from if_pos (by omega), show ySeat x3 = Int32.ofInt 8 from if_pos (by omega)]; omega)))
                        · refine y_aload_n rfl rfl ?_
                          refine y_getR rfl (ySh.t hS rfl) (ySh.n hS rfl) rfl rfl (ySh.r hS rfl) ?_
                          refine y_iload_n rfl rfl ?_
                          refine y_iload rfl rfl ?_
                          refine y_virt rfl rfl rfl rfl rfl (ySh.t hS rfl) (ySh.n hS rfl) ?_
                          refine y_in (M := xm_X7_capitalOf) (ls := [some _, some _, some _]) rfl rfl rfl ?_
                          refine y_aload_n rfl rfl ?_
                          refine y_getR rfl (ySh.t hS rfl) (ySh.n hS rfl) rfl rfl (ySh.r hS rfl) ?_
                          refine y_aload_n rfl rfl ?_
                          refine y_iload_n rfl rfl ?_
                          refine y_iload_n rfl rfl ?_
                          refine y_virt rfl rfl rfl rfl rfl (ySh.t hS rfl) (ySh.n hS rfl) ?_
                          refine spx_at (by omega) (by omega) (by omega) (by omega) (fun hz218 => ?_)
                          refine y_ret1 ?_
                          refine y_ialoadv (J := I 71) rfl (ySh.t hS rfl) (ySh.n hS rfl) (by omega) (by omega) rfl ?_
                          refine y_ireturn rfl rfl rfl ?_
                          refine y_ret1 ?_
                          refine y_iload rfl rfl ?_
                          refine y_icmp_lt rfl j_X8_buyOut_134 (fun h_219 => ?_) (fun h_220 => ?_)
                          · refine y_throw rfl rfl rfl ?_
                            exact hE2 (by (first | omega | (simp only [show ySeat x2 = x2 from if_neg (by omega), show ySeat x3 = x3 from if_neg (by omega)]; omega) | (simp only [show ySeat x2 = x2 from if_neg (by omega), show ySeat x3 = Int32.ofInt 8 from if_pos (by omega)]; omega) | (simp only [show ySeat x2 = Int32.ofInt 8 from if_pos (by omega), show ySeat x3 = x3 from if_neg (by omega)]; omega) | (simp only [show ySeat x2 = Int32.ofInt 8 from if_pos (by omega), show ySeat x3 = Int32.ofInt 8 from if_pos (by omega)]; omega)))
                          · refine y_aload_n rfl rfl ?_
                            refine y_getR rfl (ySh.t hS rfl) (ySh.n hS rfl) rfl rfl (ySh.r hS rfl) ?_
                            refine y_getR rfl (ySh.t hS rfl) (ySh.n hS rfl) rfl rfl (ySh.r hS rfl) ?_
                            refine y_iload rfl rfl ?_
                            refine y_ialoadv (J := I 39) rfl (ySh.t hS rfl) (ySh.n hS rfl) (by decide) (by decide) rfl ?_
                            refine y_iload rfl rfl ?_
                            refine y_icmp_ge rfl j_X8_buyOut_145 (fun h_221 => ?_) (fun h_222 => ?_)
                            · refine y_aload_n rfl rfl ?_
                              refine y_getR rfl (ySh.t hS rfl) (ySh.n hS rfl) rfl rfl (ySh.r hS rfl) ?_
                              refine y_iload rfl rfl ?_
                              refine y_iload rfl rfl ?_
                              refine y_iload rfl rfl ?_
                              refine y_virt rfl rfl rfl rfl rfl (ySh.t hS rfl) (ySh.n hS rfl) ?_
                              refine y_in (M := xm_X4_move) (ls := [some _, some _, some _, some _]) rfl rfl rfl ?_
                              refine y_aload_n rfl rfl ?_
                              refine y_iload_n rfl rfl ?_
                              refine y_iload_n rfl rfl ?_
                              refine y_ineg rfl ?_
                              refine y_virt rfl rfl rfl rfl rfl (ySh.t hS rfl) (ySh.n hS rfl) ?_
                              refine spx_add hS ?_
                              refine y_ret0 ?_
                              refine y_nameI (fun I223 e223 => ?_)
                              have hC : yCI I223 := by rw [e223]; exact yCI.addC hC
                              have hF : yFt I I223 := by rw [e223]; exact hF.addC
                              refine y_aload_n rfl rfl ?_
                              refine y_iload_n rfl rfl ?_
                              refine y_iload_n rfl rfl ?_
                              refine y_virt rfl rfl rfl rfl rfl (ySh.t hS rfl) (ySh.n hS rfl) ?_
                              refine spx_add hS ?_
                              refine y_ret0 ?_
                              refine y_nameI (fun I224 e224 => ?_)
                              have hC : yCI I224 := by rw [e224]; exact yCI.addC hC
                              have hF : yFt I I224 := by rw [e224]; exact hF.addC
                              refine y_return rfl ?_
                              refine y_ret0 ?_
                              refine y_aload_n rfl rfl ?_
                              refine y_getR rfl (ySh.t hS rfl) (ySh.n hS rfl) rfl rfl (ySh.r hS rfl) ?_
                              refine y_iload_n rfl rfl ?_
                              refine y_iload rfl rfl ?_
                              refine y_iload rfl rfl ?_
                              refine y_iload rfl rfl ?_
                              refine y_virt rfl rfl rfl rfl rfl (ySh.t hS rfl) (ySh.n hS rfl) ?_
                              refine y_in (M := xm_X7_moveCapital) (ls := [some _, some _, some _, some _, some _]) rfl rfl rfl ?_
                              refine y_aload_n rfl rfl ?_
                              refine y_getR rfl (ySh.t hS rfl) (ySh.n hS rfl) rfl rfl (ySh.r hS rfl) ?_
                              refine y_aload_n rfl rfl ?_
                              refine y_iload_n rfl rfl ?_
                              refine y_iload_n rfl rfl ?_
                              refine y_virt rfl rfl rfl rfl rfl (ySh.t hS rfl) (ySh.n hS rfl) ?_
                              refine spx_at (by omega) (by omega) (by omega) (by omega) (fun hz225 => ?_)
                              refine y_ret1 ?_
                              refine y_dup2 rfl rfl rfl ?_
                              refine y_ialoadv (J := I 71) rfl (ySh.t hS rfl) (ySh.n hS rfl) (by omega) (by omega) (by rw [e224, yAddC_row (by decide), e223, yAddC_row (by decide)]) ?_
                              refine y_iload rfl rfl ?_
                              refine y_isub rfl ?_
                              refine y_iastore rfl (ySh.t hS rfl) (ySh.n hS rfl) (Nat.le_of_ble_eq_true rfl) (by omega) (by omega) ?_
                              refine y_nameI (fun I226 e226 => ?_)
                              have hC : yCI I226 := by rw [e226]; exact hC
                              have hF : yFt I I226 := by rw [e226]; exact hF.upd (by decide)
                              refine y_aload_n rfl rfl ?_
                              refine y_getR rfl (ySh.t hS rfl) (ySh.n hS rfl) rfl rfl (ySh.r hS rfl) ?_
                              refine y_aload_n rfl rfl ?_
                              refine y_iload_n rfl rfl ?_
                              refine y_iload_n rfl rfl ?_
                              refine y_virt rfl rfl rfl rfl rfl (ySh.t hS rfl) (ySh.n hS rfl) ?_
                              refine spx_at (by omega) (by omega) (by decide) (by decide) (fun hz227 => ?_)
                              rw [yz_8] at hz227
                              refine y_ret1 ?_
                              refine y_dup2 rfl rfl rfl ?_
                              refine y_iaload rfl (ySh.t hS rfl) (ySh.n hS rfl) (by omega) (by omega) ?_
                              refine y_iload rfl rfl ?_
                              refine y_iadd rfl ?_
                              refine y_iastore rfl (ySh.t hS rfl) (ySh.n hS rfl) (Nat.le_of_ble_eq_true rfl) (by omega) (by omega) ?_
                              refine y_nameI (fun I228 e228 => ?_)
                              have hC : yCI I228 := by rw [e228]; exact hC
                              have hF : yFt I I228 := by rw [e228]; exact hF.upd (by decide)
                              refine y_return rfl ?_
                              refine y_ret0 ?_
                              refine y_aload_n rfl rfl ?_
                              refine y_getR rfl (ySh.t hS rfl) (ySh.n hS rfl) rfl rfl (ySh.r hS rfl) ?_
                              refine y_iload_n rfl rfl ?_
                              refine y_iload rfl rfl ?_
                              refine y_virt rfl rfl rfl rfl rfl (ySh.t hS rfl) (ySh.n hS rfl) ?_
                              refine y_in (M := xm_X7_capitalOf) (ls := [some _, some _, some _]) rfl rfl rfl ?_
                              refine y_aload_n rfl rfl ?_
                              refine y_getR rfl (ySh.t hS rfl) (ySh.n hS rfl) rfl rfl (ySh.r hS rfl) ?_
                              refine y_aload_n rfl rfl ?_
                              refine y_iload_n rfl rfl ?_
                              refine y_iload_n rfl rfl ?_
                              refine y_virt rfl rfl rfl rfl rfl (ySh.t hS rfl) (ySh.n hS rfl) ?_
                              refine spx_at (by omega) (by omega) (by omega) (by omega) (fun hz229 => ?_)
                              refine y_ret1 ?_
                              refine y_iaload rfl (ySh.t hS rfl) (ySh.n hS rfl) (by omega) (by omega) ?_
                              refine y_ireturn rfl rfl rfl ?_
                              refine y_ret1 ?_
                              refine y_ireturn rfl rfl rfl ?_
                              first | (exfalso; omega) | (exact hQ (by (first | omega | (simp only [show ySeat x2 = x2 from if_neg (by omega), show ySeat x3 = x3 from if_neg (by omega)]; omega) | (simp only [show ySeat x2 = x2 from if_neg (by omega), show ySeat x3 = Int32.ofInt 8 from if_pos (by omega)]; omega) | (simp only [show ySeat x2 = Int32.ofInt 8 from if_pos (by omega), show ySeat x3 = x3 from if_neg (by omega)]; omega) | (simp only [show ySeat x2 = Int32.ofInt 8 from if_pos (by omega), show ySeat x3 = Int32.ofInt 8 from if_pos (by omega)]; omega))) _ _ hC hF (by first | rfl | (simp only [show ySeat x2 = x2 from if_neg (by omega), show ySeat x3 = x3 from if_neg (by omega)]; done) | (simp only [show ySeat x2 = x2 from if_neg (by omega), show ySeat x3 = Int32.ofInt 8 from if_pos (by omega)]; done) | (simp only [show ySeat x2 = Int32.ofInt 8 from if_pos (by omega), show ySeat x3 = x3 from if_neg (by omega)]; done) | (simp only [show ySeat x2 = Int32.ofInt 8 from if_pos (by omega), show ySeat x3 = Int32.ofInt 8 from if_pos (by omega)]; done)) (by first | (simp only [show ySeat x2 = x2 from if_neg (by omega), show ySeat x3 = x3 from if_neg (by omega)]; first | (rw [e228, e226, e224, e223]; done) | (rw [e228, e226, e224, e223]; rfl)) | (simp only [show ySeat x2 = x2 from if_neg (by omega), show ySeat x3 = Int32.ofInt 8 from if_pos (by omega)]; first | (rw [e228, e226, e224, e223]; done) | (rw [e228, e226, e224, e223]; rfl)) | (simp only [show ySeat x2 = Int32.ofInt 8 from if_pos (by omega), show ySeat x3 = x3 from if_neg (by omega)]; first | (rw [e228, e226, e224, e223]; done) | (rw [e228, e226, e224, e223]; rfl)) | (simp only [show ySeat x2 = Int32.ofInt 8 from if_pos (by omega), show ySeat x3 = Int32.ofInt 8 from if_pos (by omega)]; first | (rw [e228, e226, e224, e223]; done) | (rw [e228, e226, e224, e223]; rfl))))
                            · refine y_throw rfl rfl rfl ?_
                              exact hE2 (by (first | omega | (simp only [show ySeat x2 = x2 from if_neg (by omega), show ySeat x3 = x3 from if_neg (by omega)]; omega) | (simp only [show ySeat x2 = x2 from if_neg (by omega), show ySeat x3 = Int32.ofInt 8 from if_pos (by omega)]; omega) | (simp only [show ySeat x2 = Int32.ofInt 8 from if_pos (by omega), show ySeat x3 = x3 from if_neg (by omega)]; omega) | (simp only [show ySeat x2 = Int32.ofInt 8 from if_pos (by omega), show ySeat x3 = Int32.ofInt 8 from if_pos (by omega)]; omega)))
                  · rw [yz_m1] at h_191
                    refine y_bip rfl (by decide) ?_
                    refine y_goto rfl j_X8_placeOf_11 ?_
                    refine y_ireturn rfl rfl rfl ?_
                    refine y_ret1 ?_
                    refine y_istore (ls' := [some _, some _, some _, some _, some _, some _, _]) rfl rfl rfl ?_
                    refine y_iload_n rfl rfl ?_
                    refine y_static rfl rfl rfl rfl rfl ?_
                    refine y_in (M := xm_X8_placeOf) (ls := [some _]) rfl rfl rfl ?_
                    refine y_iload_n rfl rfl ?_
                    refine y_iconst rfl ?_
                    refine y_icmp_ne rfl j_X8_placeOf_10 (fun h_230 => ?_) (fun h_231 => ?_)
                    · rw [yz_m1] at h_230
                      refine y_iload_n rfl rfl ?_
                      refine y_ireturn rfl rfl rfl ?_
                      refine y_ret1 ?_
                      refine y_istore (ls' := [some _, some _, some _, some _, some _, some _, some _]) rfl rfl rfl ?_
                      refine y_aload_n rfl rfl ?_
                      refine y_getR rfl (ySh.t hS rfl) (ySh.n hS rfl) rfl rfl (ySh.r hS rfl) ?_
                      refine y_iload_n rfl rfl ?_
                      refine y_iload rfl rfl ?_
                      refine y_virt rfl rfl rfl rfl rfl (ySh.t hS rfl) (ySh.n hS rfl) ?_
                      refine y_in (M := xm_X7_isPartner) (ls := [some _, some _, some _]) rfl rfl rfl ?_
                      refine y_aload_n rfl rfl ?_
                      refine y_getR rfl (ySh.t hS rfl) (ySh.n hS rfl) rfl rfl (ySh.r hS rfl) ?_
                      refine y_aload_n rfl rfl ?_
                      refine y_iload_n rfl rfl ?_
                      refine y_iload_n rfl rfl ?_
                      refine y_virt rfl rfl rfl rfl rfl (ySh.t hS rfl) (ySh.n hS rfl) ?_
                      refine spx_at (by omega) (by omega) (by decide) (by decide) (fun hz232 => ?_)
                      rw [yz_8] at hz232
                      refine y_ret1 ?_
                      refine y_baloadv (J := I 70) rfl (ySh.t hS rfl) rfl (ySh.n hS rfl) (by omega) (by omega) rfl ?_
                      refine y_ireturn rfl rfl (xfit_z (hC.p _)) ?_
                      refine y_ret1 ?_
                      refine y_if_eq rfl j_X8_buyOut_134 (fun h_233 => ?_) (fun h_234 => ?_)
                      · refine y_throw rfl rfl rfl ?_
                        exact hE2 (by (first | omega | (simp only [show ySeat x2 = x2 from if_neg (by omega), show ySeat x3 = x3 from if_neg (by omega)]; omega) | (simp only [show ySeat x2 = x2 from if_neg (by omega), show ySeat x3 = Int32.ofInt 8 from if_pos (by omega)]; omega) | (simp only [show ySeat x2 = Int32.ofInt 8 from if_pos (by omega), show ySeat x3 = x3 from if_neg (by omega)]; omega) | (simp only [show ySeat x2 = Int32.ofInt 8 from if_pos (by omega), show ySeat x3 = Int32.ofInt 8 from if_pos (by omega)]; omega)))
                      · refine y_aload_n rfl rfl ?_
                        refine y_getR rfl (ySh.t hS rfl) (ySh.n hS rfl) rfl rfl (ySh.r hS rfl) ?_
                        refine y_iload_n rfl rfl ?_
                        refine y_iload rfl rfl ?_
                        refine y_virt rfl rfl rfl rfl rfl (ySh.t hS rfl) (ySh.n hS rfl) ?_
                        refine y_in (M := xm_X7_isPartner) (ls := [some _, some _, some _]) rfl rfl rfl ?_
                        refine y_aload_n rfl rfl ?_
                        refine y_getR rfl (ySh.t hS rfl) (ySh.n hS rfl) rfl rfl (ySh.r hS rfl) ?_
                        refine y_aload_n rfl rfl ?_
                        refine y_iload_n rfl rfl ?_
                        refine y_iload_n rfl rfl ?_
                        refine y_virt rfl rfl rfl rfl rfl (ySh.t hS rfl) (ySh.n hS rfl) ?_
                        refine spx_at (by omega) (by omega) (by omega) (by omega) (fun hz235 => ?_)
                        refine y_ret1 ?_
                        refine y_baloadv (J := I 70) rfl (ySh.t hS rfl) rfl (ySh.n hS rfl) (by omega) (by omega) rfl ?_
                        refine y_ireturn rfl rfl (xfit_z (hC.p _)) ?_
                        refine y_ret1 ?_
                        refine y_if_eq rfl j_X8_buyOut_134 (fun h_236 => ?_) (fun h_237 => ?_)
                        · refine y_throw rfl rfl rfl ?_
                          exact hE2 (by (first | omega | (simp only [show ySeat x2 = x2 from if_neg (by omega), show ySeat x3 = x3 from if_neg (by omega)]; omega) | (simp only [show ySeat x2 = x2 from if_neg (by omega), show ySeat x3 = Int32.ofInt 8 from if_pos (by omega)]; omega) | (simp only [show ySeat x2 = Int32.ofInt 8 from if_pos (by omega), show ySeat x3 = x3 from if_neg (by omega)]; omega) | (simp only [show ySeat x2 = Int32.ofInt 8 from if_pos (by omega), show ySeat x3 = Int32.ofInt 8 from if_pos (by omega)]; omega)))
                        · refine y_aload_n rfl rfl ?_
                          refine y_getR rfl (ySh.t hS rfl) (ySh.n hS rfl) rfl rfl (ySh.r hS rfl) ?_
                          refine y_iload_n rfl rfl ?_
                          refine y_iload rfl rfl ?_
                          refine y_virt rfl rfl rfl rfl rfl (ySh.t hS rfl) (ySh.n hS rfl) ?_
                          refine y_in (M := xm_X7_capitalOf) (ls := [some _, some _, some _]) rfl rfl rfl ?_
                          refine y_aload_n rfl rfl ?_
                          refine y_getR rfl (ySh.t hS rfl) (ySh.n hS rfl) rfl rfl (ySh.r hS rfl) ?_
                          refine y_aload_n rfl rfl ?_
                          refine y_iload_n rfl rfl ?_
                          refine y_iload_n rfl rfl ?_
                          refine y_virt rfl rfl rfl rfl rfl (ySh.t hS rfl) (ySh.n hS rfl) ?_
                          refine spx_at (by omega) (by omega) (by decide) (by decide) (fun hz238 => ?_)
                          rw [yz_8] at hz238
                          refine y_ret1 ?_
                          refine y_ialoadv (J := I 71) rfl (ySh.t hS rfl) (ySh.n hS rfl) (by omega) (by omega) rfl ?_
                          refine y_ireturn rfl rfl rfl ?_
                          refine y_ret1 ?_
                          refine y_iload rfl rfl ?_
                          refine y_icmp_lt rfl j_X8_buyOut_134 (fun h_239 => ?_) (fun h_240 => ?_)
                          · refine y_throw rfl rfl rfl ?_
                            exact hE2 (by (first | omega | (simp only [show ySeat x2 = x2 from if_neg (by omega), show ySeat x3 = x3 from if_neg (by omega)]; omega) | (simp only [show ySeat x2 = x2 from if_neg (by omega), show ySeat x3 = Int32.ofInt 8 from if_pos (by omega)]; omega) | (simp only [show ySeat x2 = Int32.ofInt 8 from if_pos (by omega), show ySeat x3 = x3 from if_neg (by omega)]; omega) | (simp only [show ySeat x2 = Int32.ofInt 8 from if_pos (by omega), show ySeat x3 = Int32.ofInt 8 from if_pos (by omega)]; omega)))
                          · refine y_aload_n rfl rfl ?_
                            refine y_getR rfl (ySh.t hS rfl) (ySh.n hS rfl) rfl rfl (ySh.r hS rfl) ?_
                            refine y_getR rfl (ySh.t hS rfl) (ySh.n hS rfl) rfl rfl (ySh.r hS rfl) ?_
                            refine y_iload rfl rfl ?_
                            refine y_ialoadv (J := I 39) rfl (ySh.t hS rfl) (ySh.n hS rfl) (by omega) (by omega) rfl ?_
                            refine y_iload rfl rfl ?_
                            refine y_icmp_ge rfl j_X8_buyOut_145 (fun h_241 => ?_) (fun h_242 => ?_)
                            · refine y_aload_n rfl rfl ?_
                              refine y_getR rfl (ySh.t hS rfl) (ySh.n hS rfl) rfl rfl (ySh.r hS rfl) ?_
                              refine y_iload rfl rfl ?_
                              refine y_iload rfl rfl ?_
                              refine y_iload rfl rfl ?_
                              refine y_virt rfl rfl rfl rfl rfl (ySh.t hS rfl) (ySh.n hS rfl) ?_
                              refine y_in (M := xm_X4_move) (ls := [some _, some _, some _, some _]) rfl rfl rfl ?_
                              refine y_aload_n rfl rfl ?_
                              refine y_iload_n rfl rfl ?_
                              refine y_iload_n rfl rfl ?_
                              refine y_ineg rfl ?_
                              refine y_virt rfl rfl rfl rfl rfl (ySh.t hS rfl) (ySh.n hS rfl) ?_
                              refine spx_add hS ?_
                              refine y_ret0 ?_
                              refine y_nameI (fun I243 e243 => ?_)
                              have hC : yCI I243 := by rw [e243]; exact yCI.addC hC
                              have hF : yFt I I243 := by rw [e243]; exact hF.addC
                              refine y_aload_n rfl rfl ?_
                              refine y_iload_n rfl rfl ?_
                              refine y_iload_n rfl rfl ?_
                              refine y_virt rfl rfl rfl rfl rfl (ySh.t hS rfl) (ySh.n hS rfl) ?_
                              refine spx_add hS ?_
                              refine y_ret0 ?_
                              refine y_nameI (fun I244 e244 => ?_)
                              have hC : yCI I244 := by rw [e244]; exact yCI.addC hC
                              have hF : yFt I I244 := by rw [e244]; exact hF.addC
                              refine y_return rfl ?_
                              refine y_ret0 ?_
                              refine y_aload_n rfl rfl ?_
                              refine y_getR rfl (ySh.t hS rfl) (ySh.n hS rfl) rfl rfl (ySh.r hS rfl) ?_
                              refine y_iload_n rfl rfl ?_
                              refine y_iload rfl rfl ?_
                              refine y_iload rfl rfl ?_
                              refine y_iload rfl rfl ?_
                              refine y_virt rfl rfl rfl rfl rfl (ySh.t hS rfl) (ySh.n hS rfl) ?_
                              refine y_in (M := xm_X7_moveCapital) (ls := [some _, some _, some _, some _, some _]) rfl rfl rfl ?_
                              refine y_aload_n rfl rfl ?_
                              refine y_getR rfl (ySh.t hS rfl) (ySh.n hS rfl) rfl rfl (ySh.r hS rfl) ?_
                              refine y_aload_n rfl rfl ?_
                              refine y_iload_n rfl rfl ?_
                              refine y_iload_n rfl rfl ?_
                              refine y_virt rfl rfl rfl rfl rfl (ySh.t hS rfl) (ySh.n hS rfl) ?_
                              refine spx_at (by omega) (by omega) (by decide) (by decide) (fun hz245 => ?_)
                              rw [yz_8] at hz245
                              refine y_ret1 ?_
                              refine y_dup2 rfl rfl rfl ?_
                              refine y_ialoadv (J := I 71) rfl (ySh.t hS rfl) (ySh.n hS rfl) (by omega) (by omega) (by rw [e244, yAddC_row (by decide), e243, yAddC_row (by decide)]) ?_
                              refine y_iload rfl rfl ?_
                              refine y_isub rfl ?_
                              refine y_iastore rfl (ySh.t hS rfl) (ySh.n hS rfl) (Nat.le_of_ble_eq_true rfl) (by omega) (by omega) ?_
                              refine y_nameI (fun I246 e246 => ?_)
                              have hC : yCI I246 := by rw [e246]; exact hC
                              have hF : yFt I I246 := by rw [e246]; exact hF.upd (by decide)
                              refine y_aload_n rfl rfl ?_
                              refine y_getR rfl (ySh.t hS rfl) (ySh.n hS rfl) rfl rfl (ySh.r hS rfl) ?_
                              refine y_aload_n rfl rfl ?_
                              refine y_iload_n rfl rfl ?_
                              refine y_iload_n rfl rfl ?_
                              refine y_virt rfl rfl rfl rfl rfl (ySh.t hS rfl) (ySh.n hS rfl) ?_
                              refine spx_at (by omega) (by omega) (by omega) (by omega) (fun hz247 => ?_)
                              refine y_ret1 ?_
                              refine y_dup2 rfl rfl rfl ?_
                              refine y_iaload rfl (ySh.t hS rfl) (ySh.n hS rfl) (by omega) (by omega) ?_
                              refine y_iload rfl rfl ?_
                              refine y_iadd rfl ?_
                              refine y_iastore rfl (ySh.t hS rfl) (ySh.n hS rfl) (Nat.le_of_ble_eq_true rfl) (by omega) (by omega) ?_
                              refine y_nameI (fun I248 e248 => ?_)
                              have hC : yCI I248 := by rw [e248]; exact hC
                              have hF : yFt I I248 := by rw [e248]; exact hF.upd (by decide)
                              refine y_return rfl ?_
                              refine y_ret0 ?_
                              refine y_aload_n rfl rfl ?_
                              refine y_getR rfl (ySh.t hS rfl) (ySh.n hS rfl) rfl rfl (ySh.r hS rfl) ?_
                              refine y_iload_n rfl rfl ?_
                              refine y_iload rfl rfl ?_
                              refine y_virt rfl rfl rfl rfl rfl (ySh.t hS rfl) (ySh.n hS rfl) ?_
                              refine y_in (M := xm_X7_capitalOf) (ls := [some _, some _, some _]) rfl rfl rfl ?_
                              refine y_aload_n rfl rfl ?_
                              refine y_getR rfl (ySh.t hS rfl) (ySh.n hS rfl) rfl rfl (ySh.r hS rfl) ?_
                              refine y_aload_n rfl rfl ?_
                              refine y_iload_n rfl rfl ?_
                              refine y_iload_n rfl rfl ?_
                              refine y_virt rfl rfl rfl rfl rfl (ySh.t hS rfl) (ySh.n hS rfl) ?_
                              refine spx_at (by omega) (by omega) (by decide) (by decide) (fun hz249 => ?_)
                              rw [yz_8] at hz249
                              refine y_ret1 ?_
                              refine y_iaload rfl (ySh.t hS rfl) (ySh.n hS rfl) (by omega) (by omega) ?_
                              refine y_ireturn rfl rfl rfl ?_
                              refine y_ret1 ?_
                              refine y_ireturn rfl rfl rfl ?_
                              first | (exfalso; omega) | (exact hQ (by (first | omega | (simp only [show ySeat x2 = x2 from if_neg (by omega), show ySeat x3 = x3 from if_neg (by omega)]; omega) | (simp only [show ySeat x2 = x2 from if_neg (by omega), show ySeat x3 = Int32.ofInt 8 from if_pos (by omega)]; omega) | (simp only [show ySeat x2 = Int32.ofInt 8 from if_pos (by omega), show ySeat x3 = x3 from if_neg (by omega)]; omega) | (simp only [show ySeat x2 = Int32.ofInt 8 from if_pos (by omega), show ySeat x3 = Int32.ofInt 8 from if_pos (by omega)]; omega))) _ _ hC hF (by first | rfl | (simp only [show ySeat x2 = x2 from if_neg (by omega), show ySeat x3 = x3 from if_neg (by omega)]; done) | (simp only [show ySeat x2 = x2 from if_neg (by omega), show ySeat x3 = Int32.ofInt 8 from if_pos (by omega)]; done) | (simp only [show ySeat x2 = Int32.ofInt 8 from if_pos (by omega), show ySeat x3 = x3 from if_neg (by omega)]; done) | (simp only [show ySeat x2 = Int32.ofInt 8 from if_pos (by omega), show ySeat x3 = Int32.ofInt 8 from if_pos (by omega)]; done)) (by first | (simp only [show ySeat x2 = x2 from if_neg (by omega), show ySeat x3 = x3 from if_neg (by omega)]; first | (rw [e248, e246, e244, e243]; done) | (rw [e248, e246, e244, e243]; rfl)) | (simp only [show ySeat x2 = x2 from if_neg (by omega), show ySeat x3 = Int32.ofInt 8 from if_pos (by omega)]; first | (rw [e248, e246, e244, e243]; done) | (rw [e248, e246, e244, e243]; rfl)) | (simp only [show ySeat x2 = Int32.ofInt 8 from if_pos (by omega), show ySeat x3 = x3 from if_neg (by omega)]; first | (rw [e248, e246, e244, e243]; done) | (rw [e248, e246, e244, e243]; rfl)) | (simp only [show ySeat x2 = Int32.ofInt 8 from if_pos (by omega), show ySeat x3 = Int32.ofInt 8 from if_pos (by omega)]; first | (rw [e248, e246, e244, e243]; done) | (rw [e248, e246, e244, e243]; rfl))))
                            · refine y_throw rfl rfl rfl ?_
                              exact hE2 (by (first | omega | (simp only [show ySeat x2 = x2 from if_neg (by omega), show ySeat x3 = x3 from if_neg (by omega)]; omega) | (simp only [show ySeat x2 = x2 from if_neg (by omega), show ySeat x3 = Int32.ofInt 8 from if_pos (by omega)]; omega) | (simp only [show ySeat x2 = Int32.ofInt 8 from if_pos (by omega), show ySeat x3 = x3 from if_neg (by omega)]; omega) | (simp only [show ySeat x2 = Int32.ofInt 8 from if_pos (by omega), show ySeat x3 = Int32.ofInt 8 from if_pos (by omega)]; omega)))
                    · rw [yz_m1] at h_231
                      refine y_bip rfl (by decide) ?_
                      refine y_goto rfl j_X8_placeOf_11 ?_
                      refine y_ireturn rfl rfl rfl ?_
                      refine y_ret1 ?_
                      refine y_istore (ls' := [some _, some _, some _, some _, some _, some _, some _]) rfl rfl rfl ?_
                      refine y_aload_n rfl rfl ?_
                      refine y_getR rfl (ySh.t hS rfl) (ySh.n hS rfl) rfl rfl (ySh.r hS rfl) ?_
                      refine y_iload_n rfl rfl ?_
                      refine y_iload rfl rfl ?_
                      refine y_virt rfl rfl rfl rfl rfl (ySh.t hS rfl) (ySh.n hS rfl) ?_
                      refine y_in (M := xm_X7_isPartner) (ls := [some _, some _, some _]) rfl rfl rfl ?_
                      refine y_aload_n rfl rfl ?_
                      refine y_getR rfl (ySh.t hS rfl) (ySh.n hS rfl) rfl rfl (ySh.r hS rfl) ?_
                      refine y_aload_n rfl rfl ?_
                      refine y_iload_n rfl rfl ?_
                      refine y_iload_n rfl rfl ?_
                      refine y_virt rfl rfl rfl rfl rfl (ySh.t hS rfl) (ySh.n hS rfl) ?_
                      refine spx_at (by omega) (by omega) (by decide) (by decide) (fun hz250 => ?_)
                      rw [yz_8] at hz250
                      refine y_ret1 ?_
                      refine y_baloadv (J := I 70) rfl (ySh.t hS rfl) rfl (ySh.n hS rfl) (by omega) (by omega) rfl ?_
                      refine y_ireturn rfl rfl (xfit_z (hC.p _)) ?_
                      refine y_ret1 ?_
                      refine y_if_eq rfl j_X8_buyOut_134 (fun h_251 => ?_) (fun h_252 => ?_)
                      · refine y_throw rfl rfl rfl ?_
                        exact hE2 (by (first | omega | (simp only [show ySeat x2 = x2 from if_neg (by omega), show ySeat x3 = x3 from if_neg (by omega)]; omega) | (simp only [show ySeat x2 = x2 from if_neg (by omega), show ySeat x3 = Int32.ofInt 8 from if_pos (by omega)]; omega) | (simp only [show ySeat x2 = Int32.ofInt 8 from if_pos (by omega), show ySeat x3 = x3 from if_neg (by omega)]; omega) | (simp only [show ySeat x2 = Int32.ofInt 8 from if_pos (by omega), show ySeat x3 = Int32.ofInt 8 from if_pos (by omega)]; omega)))
                      · refine y_aload_n rfl rfl ?_
                        refine y_getR rfl (ySh.t hS rfl) (ySh.n hS rfl) rfl rfl (ySh.r hS rfl) ?_
                        refine y_iload_n rfl rfl ?_
                        refine y_iload rfl rfl ?_
                        refine y_virt rfl rfl rfl rfl rfl (ySh.t hS rfl) (ySh.n hS rfl) ?_
                        refine y_in (M := xm_X7_isPartner) (ls := [some _, some _, some _]) rfl rfl rfl ?_
                        refine y_aload_n rfl rfl ?_
                        refine y_getR rfl (ySh.t hS rfl) (ySh.n hS rfl) rfl rfl (ySh.r hS rfl) ?_
                        refine y_aload_n rfl rfl ?_
                        refine y_iload_n rfl rfl ?_
                        refine y_iload_n rfl rfl ?_
                        refine y_virt rfl rfl rfl rfl rfl (ySh.t hS rfl) (ySh.n hS rfl) ?_
                        refine spx_at (by omega) (by omega) (by decide) (by decide) (fun hz253 => ?_)
                        rw [yz_8] at hz253
                        refine y_ret1 ?_
                        refine y_baloadv (J := I 70) rfl (ySh.t hS rfl) rfl (ySh.n hS rfl) (by omega) (by omega) rfl ?_
                        refine y_ireturn rfl rfl (xfit_z (hC.p _)) ?_
                        refine y_ret1 ?_
                        refine y_if_eq rfl j_X8_buyOut_134 (fun h_254 => ?_) (fun h_255 => ?_)
                        · refine y_throw rfl rfl rfl ?_
                          exact hE2 (by (first | omega | (simp only [show ySeat x2 = x2 from if_neg (by omega), show ySeat x3 = x3 from if_neg (by omega)]; omega) | (simp only [show ySeat x2 = x2 from if_neg (by omega), show ySeat x3 = Int32.ofInt 8 from if_pos (by omega)]; omega) | (simp only [show ySeat x2 = Int32.ofInt 8 from if_pos (by omega), show ySeat x3 = x3 from if_neg (by omega)]; omega) | (simp only [show ySeat x2 = Int32.ofInt 8 from if_pos (by omega), show ySeat x3 = Int32.ofInt 8 from if_pos (by omega)]; omega)))
                        · refine y_aload_n rfl rfl ?_
                          refine y_getR rfl (ySh.t hS rfl) (ySh.n hS rfl) rfl rfl (ySh.r hS rfl) ?_
                          refine y_iload_n rfl rfl ?_
                          refine y_iload rfl rfl ?_
                          refine y_virt rfl rfl rfl rfl rfl (ySh.t hS rfl) (ySh.n hS rfl) ?_
                          refine y_in (M := xm_X7_capitalOf) (ls := [some _, some _, some _]) rfl rfl rfl ?_
                          refine y_aload_n rfl rfl ?_
                          refine y_getR rfl (ySh.t hS rfl) (ySh.n hS rfl) rfl rfl (ySh.r hS rfl) ?_
                          refine y_aload_n rfl rfl ?_
                          refine y_iload_n rfl rfl ?_
                          refine y_iload_n rfl rfl ?_
                          refine y_virt rfl rfl rfl rfl rfl (ySh.t hS rfl) (ySh.n hS rfl) ?_
                          refine spx_at (by omega) (by omega) (by decide) (by decide) (fun hz256 => ?_)
                          rw [yz_8] at hz256
                          refine y_ret1 ?_
                          refine y_ialoadv (J := I 71) rfl (ySh.t hS rfl) (ySh.n hS rfl) (by omega) (by omega) rfl ?_
                          refine y_ireturn rfl rfl rfl ?_
                          refine y_ret1 ?_
                          refine y_iload rfl rfl ?_
                          refine y_icmp_lt rfl j_X8_buyOut_134 (fun h_257 => ?_) (fun h_258 => ?_)
                          · refine y_throw rfl rfl rfl ?_
                            exact hE2 (by (first | omega | (simp only [show ySeat x2 = x2 from if_neg (by omega), show ySeat x3 = x3 from if_neg (by omega)]; omega) | (simp only [show ySeat x2 = x2 from if_neg (by omega), show ySeat x3 = Int32.ofInt 8 from if_pos (by omega)]; omega) | (simp only [show ySeat x2 = Int32.ofInt 8 from if_pos (by omega), show ySeat x3 = x3 from if_neg (by omega)]; omega) | (simp only [show ySeat x2 = Int32.ofInt 8 from if_pos (by omega), show ySeat x3 = Int32.ofInt 8 from if_pos (by omega)]; omega)))
                          · refine y_aload_n rfl rfl ?_
                            refine y_getR rfl (ySh.t hS rfl) (ySh.n hS rfl) rfl rfl (ySh.r hS rfl) ?_
                            refine y_getR rfl (ySh.t hS rfl) (ySh.n hS rfl) rfl rfl (ySh.r hS rfl) ?_
                            refine y_iload rfl rfl ?_
                            refine y_ialoadv (J := I 39) rfl (ySh.t hS rfl) (ySh.n hS rfl) (by decide) (by decide) rfl ?_
                            refine y_iload rfl rfl ?_
                            refine y_icmp_ge rfl j_X8_buyOut_145 (fun h_259 => ?_) (fun h_260 => ?_)
                            · refine y_aload_n rfl rfl ?_
                              refine y_getR rfl (ySh.t hS rfl) (ySh.n hS rfl) rfl rfl (ySh.r hS rfl) ?_
                              refine y_iload rfl rfl ?_
                              refine y_iload rfl rfl ?_
                              refine y_iload rfl rfl ?_
                              refine y_virt rfl rfl rfl rfl rfl (ySh.t hS rfl) (ySh.n hS rfl) ?_
                              refine y_in (M := xm_X4_move) (ls := [some _, some _, some _, some _]) rfl rfl rfl ?_
                              refine y_aload_n rfl rfl ?_
                              refine y_iload_n rfl rfl ?_
                              refine y_iload_n rfl rfl ?_
                              refine y_ineg rfl ?_
                              refine y_virt rfl rfl rfl rfl rfl (ySh.t hS rfl) (ySh.n hS rfl) ?_
                              refine spx_add hS ?_
                              refine y_ret0 ?_
                              refine y_nameI (fun I261 e261 => ?_)
                              have hC : yCI I261 := by rw [e261]; exact yCI.addC hC
                              have hF : yFt I I261 := by rw [e261]; exact hF.addC
                              refine y_aload_n rfl rfl ?_
                              refine y_iload_n rfl rfl ?_
                              refine y_iload_n rfl rfl ?_
                              refine y_virt rfl rfl rfl rfl rfl (ySh.t hS rfl) (ySh.n hS rfl) ?_
                              refine spx_add hS ?_
                              refine y_ret0 ?_
                              refine y_nameI (fun I262 e262 => ?_)
                              have hC : yCI I262 := by rw [e262]; exact yCI.addC hC
                              have hF : yFt I I262 := by rw [e262]; exact hF.addC
                              refine y_return rfl ?_
                              refine y_ret0 ?_
                              refine y_aload_n rfl rfl ?_
                              refine y_getR rfl (ySh.t hS rfl) (ySh.n hS rfl) rfl rfl (ySh.r hS rfl) ?_
                              refine y_iload_n rfl rfl ?_
                              refine y_iload rfl rfl ?_
                              refine y_iload rfl rfl ?_
                              refine y_iload rfl rfl ?_
                              refine y_virt rfl rfl rfl rfl rfl (ySh.t hS rfl) (ySh.n hS rfl) ?_
                              refine y_in (M := xm_X7_moveCapital) (ls := [some _, some _, some _, some _, some _]) rfl rfl rfl ?_
                              refine y_aload_n rfl rfl ?_
                              refine y_getR rfl (ySh.t hS rfl) (ySh.n hS rfl) rfl rfl (ySh.r hS rfl) ?_
                              refine y_aload_n rfl rfl ?_
                              refine y_iload_n rfl rfl ?_
                              refine y_iload_n rfl rfl ?_
                              refine y_virt rfl rfl rfl rfl rfl (ySh.t hS rfl) (ySh.n hS rfl) ?_
                              refine spx_at (by omega) (by omega) (by decide) (by decide) (fun hz263 => ?_)
                              rw [yz_8] at hz263
                              refine y_ret1 ?_
                              refine y_dup2 rfl rfl rfl ?_
                              refine y_ialoadv (J := I 71) rfl (ySh.t hS rfl) (ySh.n hS rfl) (by omega) (by omega) (by rw [e262, yAddC_row (by decide), e261, yAddC_row (by decide)]) ?_
                              refine y_iload rfl rfl ?_
                              refine y_isub rfl ?_
                              refine y_iastore rfl (ySh.t hS rfl) (ySh.n hS rfl) (Nat.le_of_ble_eq_true rfl) (by omega) (by omega) ?_
                              refine y_nameI (fun I264 e264 => ?_)
                              have hC : yCI I264 := by rw [e264]; exact hC
                              have hF : yFt I I264 := by rw [e264]; exact hF.upd (by decide)
                              refine y_aload_n rfl rfl ?_
                              refine y_getR rfl (ySh.t hS rfl) (ySh.n hS rfl) rfl rfl (ySh.r hS rfl) ?_
                              refine y_aload_n rfl rfl ?_
                              refine y_iload_n rfl rfl ?_
                              refine y_iload_n rfl rfl ?_
                              refine y_virt rfl rfl rfl rfl rfl (ySh.t hS rfl) (ySh.n hS rfl) ?_
                              refine spx_at (by omega) (by omega) (by decide) (by decide) (fun hz265 => ?_)
                              rw [yz_8] at hz265
                              refine y_ret1 ?_
                              refine y_dup2 rfl rfl rfl ?_
                              refine y_iaload rfl (ySh.t hS rfl) (ySh.n hS rfl) (by omega) (by omega) ?_
                              refine y_iload rfl rfl ?_
                              refine y_iadd rfl ?_
                              refine y_iastore rfl (ySh.t hS rfl) (ySh.n hS rfl) (Nat.le_of_ble_eq_true rfl) (by omega) (by omega) ?_
                              refine y_nameI (fun I266 e266 => ?_)
                              have hC : yCI I266 := by rw [e266]; exact hC
                              have hF : yFt I I266 := by rw [e266]; exact hF.upd (by decide)
                              refine y_return rfl ?_
                              refine y_ret0 ?_
                              refine y_aload_n rfl rfl ?_
                              refine y_getR rfl (ySh.t hS rfl) (ySh.n hS rfl) rfl rfl (ySh.r hS rfl) ?_
                              refine y_iload_n rfl rfl ?_
                              refine y_iload rfl rfl ?_
                              refine y_virt rfl rfl rfl rfl rfl (ySh.t hS rfl) (ySh.n hS rfl) ?_
                              refine y_in (M := xm_X7_capitalOf) (ls := [some _, some _, some _]) rfl rfl rfl ?_
                              refine y_aload_n rfl rfl ?_
                              refine y_getR rfl (ySh.t hS rfl) (ySh.n hS rfl) rfl rfl (ySh.r hS rfl) ?_
                              refine y_aload_n rfl rfl ?_
                              refine y_iload_n rfl rfl ?_
                              refine y_iload_n rfl rfl ?_
                              refine y_virt rfl rfl rfl rfl rfl (ySh.t hS rfl) (ySh.n hS rfl) ?_
                              refine spx_at (by omega) (by omega) (by decide) (by decide) (fun hz267 => ?_)
                              rw [yz_8] at hz267
                              refine y_ret1 ?_
                              refine y_iaload rfl (ySh.t hS rfl) (ySh.n hS rfl) (by omega) (by omega) ?_
                              refine y_ireturn rfl rfl rfl ?_
                              refine y_ret1 ?_
                              refine y_ireturn rfl rfl rfl ?_
                              first | (exfalso; omega) | (exact hQ (by (first | omega | (simp only [show ySeat x2 = x2 from if_neg (by omega), show ySeat x3 = x3 from if_neg (by omega)]; omega) | (simp only [show ySeat x2 = x2 from if_neg (by omega), show ySeat x3 = Int32.ofInt 8 from if_pos (by omega)]; omega) | (simp only [show ySeat x2 = Int32.ofInt 8 from if_pos (by omega), show ySeat x3 = x3 from if_neg (by omega)]; omega) | (simp only [show ySeat x2 = Int32.ofInt 8 from if_pos (by omega), show ySeat x3 = Int32.ofInt 8 from if_pos (by omega)]; omega))) _ _ hC hF (by first | rfl | (simp only [show ySeat x2 = x2 from if_neg (by omega), show ySeat x3 = x3 from if_neg (by omega)]; done) | (simp only [show ySeat x2 = x2 from if_neg (by omega), show ySeat x3 = Int32.ofInt 8 from if_pos (by omega)]; done) | (simp only [show ySeat x2 = Int32.ofInt 8 from if_pos (by omega), show ySeat x3 = x3 from if_neg (by omega)]; done) | (simp only [show ySeat x2 = Int32.ofInt 8 from if_pos (by omega), show ySeat x3 = Int32.ofInt 8 from if_pos (by omega)]; done)) (by first | (simp only [show ySeat x2 = x2 from if_neg (by omega), show ySeat x3 = x3 from if_neg (by omega)]; first | (rw [e266, e264, e262, e261]; done) | (rw [e266, e264, e262, e261]; rfl)) | (simp only [show ySeat x2 = x2 from if_neg (by omega), show ySeat x3 = Int32.ofInt 8 from if_pos (by omega)]; first | (rw [e266, e264, e262, e261]; done) | (rw [e266, e264, e262, e261]; rfl)) | (simp only [show ySeat x2 = Int32.ofInt 8 from if_pos (by omega), show ySeat x3 = x3 from if_neg (by omega)]; first | (rw [e266, e264, e262, e261]; done) | (rw [e266, e264, e262, e261]; rfl)) | (simp only [show ySeat x2 = Int32.ofInt 8 from if_pos (by omega), show ySeat x3 = Int32.ofInt 8 from if_pos (by omega)]; first | (rw [e266, e264, e262, e261]; done) | (rw [e266, e264, e262, e261]; rfl))))
                            · refine y_throw rfl rfl rfl ?_
                              exact hE2 (by (first | omega | (simp only [show ySeat x2 = x2 from if_neg (by omega), show ySeat x3 = x3 from if_neg (by omega)]; omega) | (simp only [show ySeat x2 = x2 from if_neg (by omega), show ySeat x3 = Int32.ofInt 8 from if_pos (by omega)]; omega) | (simp only [show ySeat x2 = Int32.ofInt 8 from if_pos (by omega), show ySeat x3 = x3 from if_neg (by omega)]; omega) | (simp only [show ySeat x2 = Int32.ofInt 8 from if_pos (by omega), show ySeat x3 = Int32.ofInt 8 from if_pos (by omega)]; omega)))
                · rw [yz_1] at h_189
                  rw [yz_999] at h_189
                  refine y_ret1 ?_
                  refine y_if_neF rfl (by decide) ?_
                  refine y_throw rfl rfl rfl ?_
                  exact hE1 (by (first | omega | (simp only [show ySeat x2 = x2 from if_neg (by omega), show ySeat x3 = x3 from if_neg (by omega)]; omega) | (simp only [show ySeat x2 = x2 from if_neg (by omega), show ySeat x3 = Int32.ofInt 8 from if_pos (by omega)]; omega) | (simp only [show ySeat x2 = Int32.ofInt 8 from if_pos (by omega), show ySeat x3 = x3 from if_neg (by omega)]; omega) | (simp only [show ySeat x2 = Int32.ofInt 8 from if_pos (by omega), show ySeat x3 = Int32.ofInt 8 from if_pos (by omega)]; omega)))
            · rw [yz_m1] at h_184
              refine y_aload_n rfl rfl ?_
              refine y_getR rfl (ySh.t hS rfl) (ySh.n hS rfl) rfl rfl (ySh.r hS rfl) ?_
              refine y_iload_n rfl rfl ?_
              refine y_virt rfl rfl rfl rfl rfl (ySh.t hS rfl) (ySh.n hS rfl) ?_
              refine y_in (M := xm_X4_has) (ls := [some _, some _]) rfl rfl rfl ?_
              refine y_iload_n rfl rfl ?_
              refine y_if_lt rfl j_X4_has_16 (fun h_268 => ?_) (fun h_269 => ?_)
              · refine y_iconst rfl ?_
                refine y_ireturn rfl rfl rfl ?_
                refine y_ret1 ?_
                refine y_if_eqT rfl j_X8_isParty_20 (by decide) ?_
                refine y_iconst rfl ?_
                refine y_ireturn rfl rfl rfl ?_
                refine y_ret1 ?_
                refine y_if_neF rfl (by decide) ?_
                refine y_throw rfl rfl rfl ?_
                exact hE0 (by (first | omega | (simp only [show ySeat x2 = x2 from if_neg (by omega), show ySeat x3 = x3 from if_neg (by omega)]; omega) | (simp only [show ySeat x2 = x2 from if_neg (by omega), show ySeat x3 = Int32.ofInt 8 from if_pos (by omega)]; omega) | (simp only [show ySeat x2 = Int32.ofInt 8 from if_pos (by omega), show ySeat x3 = x3 from if_neg (by omega)]; omega) | (simp only [show ySeat x2 = Int32.ofInt 8 from if_pos (by omega), show ySeat x3 = Int32.ofInt 8 from if_pos (by omega)]; omega)))
              · refine y_iload_n rfl rfl ?_
                refine y_aload_n rfl rfl ?_
                refine y_getIv (v := I 38 0) rfl (ySh.t hS rfl) (ySh.n hS rfl) rfl rfl rfl ?_
                refine y_icmp_ge rfl j_X4_has_16 (fun h_270 => ?_) (fun h_271 => ?_)
                · refine y_iconst rfl ?_
                  refine y_ireturn rfl rfl rfl ?_
                  refine y_ret1 ?_
                  refine y_if_eqT rfl j_X8_isParty_20 (by decide) ?_
                  refine y_iconst rfl ?_
                  refine y_ireturn rfl rfl rfl ?_
                  refine y_ret1 ?_
                  refine y_if_neF rfl (by decide) ?_
                  refine y_throw rfl rfl rfl ?_
                  exact hE0 (by (first | omega | (simp only [show ySeat x2 = x2 from if_neg (by omega), show ySeat x3 = x3 from if_neg (by omega)]; omega) | (simp only [show ySeat x2 = x2 from if_neg (by omega), show ySeat x3 = Int32.ofInt 8 from if_pos (by omega)]; omega) | (simp only [show ySeat x2 = Int32.ofInt 8 from if_pos (by omega), show ySeat x3 = x3 from if_neg (by omega)]; omega) | (simp only [show ySeat x2 = Int32.ofInt 8 from if_pos (by omega), show ySeat x3 = Int32.ofInt 8 from if_pos (by omega)]; omega)))
                · refine y_iconst rfl ?_
                  refine y_goto rfl j_X4_has_17 ?_
                  refine y_ireturn rfl rfl rfl ?_
                  refine y_ret1 ?_
                  refine y_if_eqF rfl (by decide) ?_
                  refine y_iconst rfl ?_
                  refine y_goto rfl j_X8_isParty_21 ?_
                  refine y_ireturn rfl rfl rfl ?_
                  refine y_ret1 ?_
                  refine y_if_neT rfl j_X8_buyOut_38 (by decide) ?_
                  refine y_iload_n rfl rfl ?_
                  refine y_iload_n rfl rfl ?_
                  refine y_icmp_eq rfl j_X8_buyOut_55 (fun h_272 => ?_) (fun h_273 => ?_)
                  · refine y_throw rfl rfl rfl ?_
                    exact hE1 (by (first | omega | (simp only [show ySeat x2 = x2 from if_neg (by omega), show ySeat x3 = x3 from if_neg (by omega)]; omega) | (simp only [show ySeat x2 = x2 from if_neg (by omega), show ySeat x3 = Int32.ofInt 8 from if_pos (by omega)]; omega) | (simp only [show ySeat x2 = Int32.ofInt 8 from if_pos (by omega), show ySeat x3 = x3 from if_neg (by omega)]; omega) | (simp only [show ySeat x2 = Int32.ofInt 8 from if_pos (by omega), show ySeat x3 = Int32.ofInt 8 from if_pos (by omega)]; omega)))
                  · refine y_iload rfl rfl ?_
                    refine y_iconst rfl ?_
                    refine y_sip rfl (by decide) ?_
                    refine y_static rfl rfl rfl rfl rfl ?_
                    refine s_isIn (fun h_274 h_275 => ?_) (fun h_276 => ?_)
                    · rw [yz_1] at h_274
                      rw [yz_999] at h_275
                      refine y_ret1 ?_
                      refine y_if_neT rfl j_X8_buyOut_66 (by decide) ?_
                      refine y_iload_n rfl rfl ?_
                      refine y_static rfl rfl rfl rfl rfl ?_
                      refine y_in (M := xm_X8_placeOf) (ls := [some _]) rfl rfl rfl ?_
                      refine y_iload_n rfl rfl ?_
                      refine y_iconst rfl ?_
                      refine y_icmp_ne rfl j_X8_placeOf_10 (fun h_277 => ?_) (fun h_278 => ?_)
                      · rw [yz_m1] at h_277
                        refine y_iload_n rfl rfl ?_
                        refine y_ireturn rfl rfl rfl ?_
                        refine y_ret1 ?_
                        refine y_istore (ls' := [some _, some _, some _, some _, some _, some _, _]) rfl rfl rfl ?_
                        refine y_iload_n rfl rfl ?_
                        refine y_static rfl rfl rfl rfl rfl ?_
                        refine y_in (M := xm_X8_placeOf) (ls := [some _]) rfl rfl rfl ?_
                        refine y_iload_n rfl rfl ?_
                        refine y_iconst rfl ?_
                        refine y_icmp_ne rfl j_X8_placeOf_10 (fun h_279 => ?_) (fun h_280 => ?_)
                        · rw [yz_m1] at h_279
                          refine y_iload_n rfl rfl ?_
                          refine y_ireturn rfl rfl rfl ?_
                          refine y_ret1 ?_
                          refine y_istore (ls' := [some _, some _, some _, some _, some _, some _, some _]) rfl rfl rfl ?_
                          refine y_aload_n rfl rfl ?_
                          refine y_getR rfl (ySh.t hS rfl) (ySh.n hS rfl) rfl rfl (ySh.r hS rfl) ?_
                          refine y_iload_n rfl rfl ?_
                          refine y_iload rfl rfl ?_
                          refine y_virt rfl rfl rfl rfl rfl (ySh.t hS rfl) (ySh.n hS rfl) ?_
                          refine y_in (M := xm_X7_isPartner) (ls := [some _, some _, some _]) rfl rfl rfl ?_
                          refine y_aload_n rfl rfl ?_
                          refine y_getR rfl (ySh.t hS rfl) (ySh.n hS rfl) rfl rfl (ySh.r hS rfl) ?_
                          refine y_aload_n rfl rfl ?_
                          refine y_iload_n rfl rfl ?_
                          refine y_iload_n rfl rfl ?_
                          refine y_virt rfl rfl rfl rfl rfl (ySh.t hS rfl) (ySh.n hS rfl) ?_
                          refine spx_at (by omega) (by omega) (by omega) (by omega) (fun hz281 => ?_)
                          refine y_ret1 ?_
                          refine y_baloadv (J := I 70) rfl (ySh.t hS rfl) rfl (ySh.n hS rfl) (by omega) (by omega) rfl ?_
                          refine y_ireturn rfl rfl (xfit_z (hC.p _)) ?_
                          refine y_ret1 ?_
                          refine y_if_eq rfl j_X8_buyOut_134 (fun h_282 => ?_) (fun h_283 => ?_)
                          · refine y_throw rfl rfl rfl ?_
                            exact hE2 (by (first | omega | (simp only [show ySeat x2 = x2 from if_neg (by omega), show ySeat x3 = x3 from if_neg (by omega)]; omega) | (simp only [show ySeat x2 = x2 from if_neg (by omega), show ySeat x3 = Int32.ofInt 8 from if_pos (by omega)]; omega) | (simp only [show ySeat x2 = Int32.ofInt 8 from if_pos (by omega), show ySeat x3 = x3 from if_neg (by omega)]; omega) | (simp only [show ySeat x2 = Int32.ofInt 8 from if_pos (by omega), show ySeat x3 = Int32.ofInt 8 from if_pos (by omega)]; omega)))
                          · refine y_aload_n rfl rfl ?_
                            refine y_getR rfl (ySh.t hS rfl) (ySh.n hS rfl) rfl rfl (ySh.r hS rfl) ?_
                            refine y_iload_n rfl rfl ?_
                            refine y_iload rfl rfl ?_
                            refine y_virt rfl rfl rfl rfl rfl (ySh.t hS rfl) (ySh.n hS rfl) ?_
                            refine y_in (M := xm_X7_isPartner) (ls := [some _, some _, some _]) rfl rfl rfl ?_
                            refine y_aload_n rfl rfl ?_
                            refine y_getR rfl (ySh.t hS rfl) (ySh.n hS rfl) rfl rfl (ySh.r hS rfl) ?_
                            refine y_aload_n rfl rfl ?_
                            refine y_iload_n rfl rfl ?_
                            refine y_iload_n rfl rfl ?_
                            refine y_virt rfl rfl rfl rfl rfl (ySh.t hS rfl) (ySh.n hS rfl) ?_
                            refine spx_at (by omega) (by omega) (by omega) (by omega) (fun hz284 => ?_)
                            refine y_ret1 ?_
                            refine y_baloadv (J := I 70) rfl (ySh.t hS rfl) rfl (ySh.n hS rfl) (by omega) (by omega) rfl ?_
                            refine y_ireturn rfl rfl (xfit_z (hC.p _)) ?_
                            refine y_ret1 ?_
                            refine y_if_eq rfl j_X8_buyOut_134 (fun h_285 => ?_) (fun h_286 => ?_)
                            · refine y_throw rfl rfl rfl ?_
                              exact hE2 (by (first | omega | (simp only [show ySeat x2 = x2 from if_neg (by omega), show ySeat x3 = x3 from if_neg (by omega)]; omega) | (simp only [show ySeat x2 = x2 from if_neg (by omega), show ySeat x3 = Int32.ofInt 8 from if_pos (by omega)]; omega) | (simp only [show ySeat x2 = Int32.ofInt 8 from if_pos (by omega), show ySeat x3 = x3 from if_neg (by omega)]; omega) | (simp only [show ySeat x2 = Int32.ofInt 8 from if_pos (by omega), show ySeat x3 = Int32.ofInt 8 from if_pos (by omega)]; omega)))
                            · refine y_aload_n rfl rfl ?_
                              refine y_getR rfl (ySh.t hS rfl) (ySh.n hS rfl) rfl rfl (ySh.r hS rfl) ?_
                              refine y_iload_n rfl rfl ?_
                              refine y_iload rfl rfl ?_
                              refine y_virt rfl rfl rfl rfl rfl (ySh.t hS rfl) (ySh.n hS rfl) ?_
                              refine y_in (M := xm_X7_capitalOf) (ls := [some _, some _, some _]) rfl rfl rfl ?_
                              refine y_aload_n rfl rfl ?_
                              refine y_getR rfl (ySh.t hS rfl) (ySh.n hS rfl) rfl rfl (ySh.r hS rfl) ?_
                              refine y_aload_n rfl rfl ?_
                              refine y_iload_n rfl rfl ?_
                              refine y_iload_n rfl rfl ?_
                              refine y_virt rfl rfl rfl rfl rfl (ySh.t hS rfl) (ySh.n hS rfl) ?_
                              refine spx_at (by omega) (by omega) (by omega) (by omega) (fun hz287 => ?_)
                              refine y_ret1 ?_
                              refine y_ialoadv (J := I 71) rfl (ySh.t hS rfl) (ySh.n hS rfl) (by omega) (by omega) rfl ?_
                              refine y_ireturn rfl rfl rfl ?_
                              refine y_ret1 ?_
                              refine y_iload rfl rfl ?_
                              refine y_icmp_lt rfl j_X8_buyOut_134 (fun h_288 => ?_) (fun h_289 => ?_)
                              · refine y_throw rfl rfl rfl ?_
                                exact hE2 (by (first | omega | (simp only [show ySeat x2 = x2 from if_neg (by omega), show ySeat x3 = x3 from if_neg (by omega)]; omega) | (simp only [show ySeat x2 = x2 from if_neg (by omega), show ySeat x3 = Int32.ofInt 8 from if_pos (by omega)]; omega) | (simp only [show ySeat x2 = Int32.ofInt 8 from if_pos (by omega), show ySeat x3 = x3 from if_neg (by omega)]; omega) | (simp only [show ySeat x2 = Int32.ofInt 8 from if_pos (by omega), show ySeat x3 = Int32.ofInt 8 from if_pos (by omega)]; omega)))
                              · refine y_aload_n rfl rfl ?_
                                refine y_getR rfl (ySh.t hS rfl) (ySh.n hS rfl) rfl rfl (ySh.r hS rfl) ?_
                                refine y_getR rfl (ySh.t hS rfl) (ySh.n hS rfl) rfl rfl (ySh.r hS rfl) ?_
                                refine y_iload rfl rfl ?_
                                refine y_ialoadv (J := I 39) rfl (ySh.t hS rfl) (ySh.n hS rfl) (by omega) (by omega) rfl ?_
                                refine y_iload rfl rfl ?_
                                refine y_icmp_ge rfl j_X8_buyOut_145 (fun h_290 => ?_) (fun h_291 => ?_)
                                · refine y_aload_n rfl rfl ?_
                                  refine y_getR rfl (ySh.t hS rfl) (ySh.n hS rfl) rfl rfl (ySh.r hS rfl) ?_
                                  refine y_iload rfl rfl ?_
                                  refine y_iload rfl rfl ?_
                                  refine y_iload rfl rfl ?_
                                  refine y_virt rfl rfl rfl rfl rfl (ySh.t hS rfl) (ySh.n hS rfl) ?_
                                  refine y_in (M := xm_X4_move) (ls := [some _, some _, some _, some _]) rfl rfl rfl ?_
                                  refine y_aload_n rfl rfl ?_
                                  refine y_iload_n rfl rfl ?_
                                  refine y_iload_n rfl rfl ?_
                                  refine y_ineg rfl ?_
                                  refine y_virt rfl rfl rfl rfl rfl (ySh.t hS rfl) (ySh.n hS rfl) ?_
                                  refine spx_add hS ?_
                                  refine y_ret0 ?_
                                  refine y_nameI (fun I292 e292 => ?_)
                                  have hC : yCI I292 := by rw [e292]; exact yCI.addC hC
                                  have hF : yFt I I292 := by rw [e292]; exact hF.addC
                                  refine y_aload_n rfl rfl ?_
                                  refine y_iload_n rfl rfl ?_
                                  refine y_iload_n rfl rfl ?_
                                  refine y_virt rfl rfl rfl rfl rfl (ySh.t hS rfl) (ySh.n hS rfl) ?_
                                  refine spx_add hS ?_
                                  refine y_ret0 ?_
                                  refine y_nameI (fun I293 e293 => ?_)
                                  have hC : yCI I293 := by rw [e293]; exact yCI.addC hC
                                  have hF : yFt I I293 := by rw [e293]; exact hF.addC
                                  refine y_return rfl ?_
                                  refine y_ret0 ?_
                                  refine y_aload_n rfl rfl ?_
                                  refine y_getR rfl (ySh.t hS rfl) (ySh.n hS rfl) rfl rfl (ySh.r hS rfl) ?_
                                  refine y_iload_n rfl rfl ?_
                                  refine y_iload rfl rfl ?_
                                  refine y_iload rfl rfl ?_
                                  refine y_iload rfl rfl ?_
                                  refine y_virt rfl rfl rfl rfl rfl (ySh.t hS rfl) (ySh.n hS rfl) ?_
                                  refine y_in (M := xm_X7_moveCapital) (ls := [some _, some _, some _, some _, some _]) rfl rfl rfl ?_
                                  refine y_aload_n rfl rfl ?_
                                  refine y_getR rfl (ySh.t hS rfl) (ySh.n hS rfl) rfl rfl (ySh.r hS rfl) ?_
                                  refine y_aload_n rfl rfl ?_
                                  refine y_iload_n rfl rfl ?_
                                  refine y_iload_n rfl rfl ?_
                                  refine y_virt rfl rfl rfl rfl rfl (ySh.t hS rfl) (ySh.n hS rfl) ?_
                                  refine spx_at (by omega) (by omega) (by omega) (by omega) (fun hz294 => ?_)
                                  refine y_ret1 ?_
                                  refine y_dup2 rfl rfl rfl ?_
                                  refine y_ialoadv (J := I 71) rfl (ySh.t hS rfl) (ySh.n hS rfl) (by omega) (by omega) (by rw [e293, yAddC_row (by decide), e292, yAddC_row (by decide)]) ?_
                                  refine y_iload rfl rfl ?_
                                  refine y_isub rfl ?_
                                  refine y_iastore rfl (ySh.t hS rfl) (ySh.n hS rfl) (Nat.le_of_ble_eq_true rfl) (by omega) (by omega) ?_
                                  refine y_nameI (fun I295 e295 => ?_)
                                  have hC : yCI I295 := by rw [e295]; exact hC
                                  have hF : yFt I I295 := by rw [e295]; exact hF.upd (by decide)
                                  refine y_aload_n rfl rfl ?_
                                  refine y_getR rfl (ySh.t hS rfl) (ySh.n hS rfl) rfl rfl (ySh.r hS rfl) ?_
                                  refine y_aload_n rfl rfl ?_
                                  refine y_iload_n rfl rfl ?_
                                  refine y_iload_n rfl rfl ?_
                                  refine y_virt rfl rfl rfl rfl rfl (ySh.t hS rfl) (ySh.n hS rfl) ?_
                                  refine spx_at (by omega) (by omega) (by omega) (by omega) (fun hz296 => ?_)
                                  refine y_ret1 ?_
                                  refine y_dup2 rfl rfl rfl ?_
                                  refine y_iaload rfl (ySh.t hS rfl) (ySh.n hS rfl) (by omega) (by omega) ?_
                                  refine y_iload rfl rfl ?_
                                  refine y_iadd rfl ?_
                                  refine y_iastore rfl (ySh.t hS rfl) (ySh.n hS rfl) (Nat.le_of_ble_eq_true rfl) (by omega) (by omega) ?_
                                  refine y_nameI (fun I297 e297 => ?_)
                                  have hC : yCI I297 := by rw [e297]; exact hC
                                  have hF : yFt I I297 := by rw [e297]; exact hF.upd (by decide)
                                  refine y_return rfl ?_
                                  refine y_ret0 ?_
                                  refine y_aload_n rfl rfl ?_
                                  refine y_getR rfl (ySh.t hS rfl) (ySh.n hS rfl) rfl rfl (ySh.r hS rfl) ?_
                                  refine y_iload_n rfl rfl ?_
                                  refine y_iload rfl rfl ?_
                                  refine y_virt rfl rfl rfl rfl rfl (ySh.t hS rfl) (ySh.n hS rfl) ?_
                                  refine y_in (M := xm_X7_capitalOf) (ls := [some _, some _, some _]) rfl rfl rfl ?_
                                  refine y_aload_n rfl rfl ?_
                                  refine y_getR rfl (ySh.t hS rfl) (ySh.n hS rfl) rfl rfl (ySh.r hS rfl) ?_
                                  refine y_aload_n rfl rfl ?_
                                  refine y_iload_n rfl rfl ?_
                                  refine y_iload_n rfl rfl ?_
                                  refine y_virt rfl rfl rfl rfl rfl (ySh.t hS rfl) (ySh.n hS rfl) ?_
                                  refine spx_at (by omega) (by omega) (by omega) (by omega) (fun hz298 => ?_)
                                  refine y_ret1 ?_
                                  refine y_iaload rfl (ySh.t hS rfl) (ySh.n hS rfl) (by omega) (by omega) ?_
                                  refine y_ireturn rfl rfl rfl ?_
                                  refine y_ret1 ?_
                                  refine y_ireturn rfl rfl rfl ?_
                                  first | (exfalso; omega) | (exact hQ (by (first | omega | (simp only [show ySeat x2 = x2 from if_neg (by omega), show ySeat x3 = x3 from if_neg (by omega)]; omega) | (simp only [show ySeat x2 = x2 from if_neg (by omega), show ySeat x3 = Int32.ofInt 8 from if_pos (by omega)]; omega) | (simp only [show ySeat x2 = Int32.ofInt 8 from if_pos (by omega), show ySeat x3 = x3 from if_neg (by omega)]; omega) | (simp only [show ySeat x2 = Int32.ofInt 8 from if_pos (by omega), show ySeat x3 = Int32.ofInt 8 from if_pos (by omega)]; omega))) _ _ hC hF (by first | rfl | (simp only [show ySeat x2 = x2 from if_neg (by omega), show ySeat x3 = x3 from if_neg (by omega)]; done) | (simp only [show ySeat x2 = x2 from if_neg (by omega), show ySeat x3 = Int32.ofInt 8 from if_pos (by omega)]; done) | (simp only [show ySeat x2 = Int32.ofInt 8 from if_pos (by omega), show ySeat x3 = x3 from if_neg (by omega)]; done) | (simp only [show ySeat x2 = Int32.ofInt 8 from if_pos (by omega), show ySeat x3 = Int32.ofInt 8 from if_pos (by omega)]; done)) (by first | (simp only [show ySeat x2 = x2 from if_neg (by omega), show ySeat x3 = x3 from if_neg (by omega)]; first | (rw [e297, e295, e293, e292]; done) | (rw [e297, e295, e293, e292]; rfl)) | (simp only [show ySeat x2 = x2 from if_neg (by omega), show ySeat x3 = Int32.ofInt 8 from if_pos (by omega)]; first | (rw [e297, e295, e293, e292]; done) | (rw [e297, e295, e293, e292]; rfl)) | (simp only [show ySeat x2 = Int32.ofInt 8 from if_pos (by omega), show ySeat x3 = x3 from if_neg (by omega)]; first | (rw [e297, e295, e293, e292]; done) | (rw [e297, e295, e293, e292]; rfl)) | (simp only [show ySeat x2 = Int32.ofInt 8 from if_pos (by omega), show ySeat x3 = Int32.ofInt 8 from if_pos (by omega)]; first | (rw [e297, e295, e293, e292]; done) | (rw [e297, e295, e293, e292]; rfl))))
                                · refine y_throw rfl rfl rfl ?_
                                  exact hE2 (by (first | omega | (simp only [show ySeat x2 = x2 from if_neg (by omega), show ySeat x3 = x3 from if_neg (by omega)]; omega) | (simp only [show ySeat x2 = x2 from if_neg (by omega), show ySeat x3 = Int32.ofInt 8 from if_pos (by omega)]; omega) | (simp only [show ySeat x2 = Int32.ofInt 8 from if_pos (by omega), show ySeat x3 = x3 from if_neg (by omega)]; omega) | (simp only [show ySeat x2 = Int32.ofInt 8 from if_pos (by omega), show ySeat x3 = Int32.ofInt 8 from if_pos (by omega)]; omega)))
                        · rw [yz_m1] at h_280
                          refine y_bip rfl (by decide) ?_
                          refine y_goto rfl j_X8_placeOf_11 ?_
                          refine y_ireturn rfl rfl rfl ?_
                          refine y_ret1 ?_
                          refine y_istore (ls' := [some _, some _, some _, some _, some _, some _, some _]) rfl rfl rfl ?_
                          refine y_aload_n rfl rfl ?_
                          refine y_getR rfl (ySh.t hS rfl) (ySh.n hS rfl) rfl rfl (ySh.r hS rfl) ?_
                          refine y_iload_n rfl rfl ?_
                          refine y_iload rfl rfl ?_
                          refine y_virt rfl rfl rfl rfl rfl (ySh.t hS rfl) (ySh.n hS rfl) ?_
                          refine y_in (M := xm_X7_isPartner) (ls := [some _, some _, some _]) rfl rfl rfl ?_
                          refine y_aload_n rfl rfl ?_
                          refine y_getR rfl (ySh.t hS rfl) (ySh.n hS rfl) rfl rfl (ySh.r hS rfl) ?_
                          refine y_aload_n rfl rfl ?_
                          refine y_iload_n rfl rfl ?_
                          refine y_iload_n rfl rfl ?_
                          refine y_virt rfl rfl rfl rfl rfl (ySh.t hS rfl) (ySh.n hS rfl) ?_
                          refine spx_at (by omega) (by omega) (by omega) (by omega) (fun hz299 => ?_)
                          refine y_ret1 ?_
                          refine y_baloadv (J := I 70) rfl (ySh.t hS rfl) rfl (ySh.n hS rfl) (by omega) (by omega) rfl ?_
                          refine y_ireturn rfl rfl (xfit_z (hC.p _)) ?_
                          refine y_ret1 ?_
                          refine y_if_eq rfl j_X8_buyOut_134 (fun h_300 => ?_) (fun h_301 => ?_)
                          · refine y_throw rfl rfl rfl ?_
                            exact hE2 (by (first | omega | (simp only [show ySeat x2 = x2 from if_neg (by omega), show ySeat x3 = x3 from if_neg (by omega)]; omega) | (simp only [show ySeat x2 = x2 from if_neg (by omega), show ySeat x3 = Int32.ofInt 8 from if_pos (by omega)]; omega) | (simp only [show ySeat x2 = Int32.ofInt 8 from if_pos (by omega), show ySeat x3 = x3 from if_neg (by omega)]; omega) | (simp only [show ySeat x2 = Int32.ofInt 8 from if_pos (by omega), show ySeat x3 = Int32.ofInt 8 from if_pos (by omega)]; omega)))
                          · refine y_aload_n rfl rfl ?_
                            refine y_getR rfl (ySh.t hS rfl) (ySh.n hS rfl) rfl rfl (ySh.r hS rfl) ?_
                            refine y_iload_n rfl rfl ?_
                            refine y_iload rfl rfl ?_
                            refine y_virt rfl rfl rfl rfl rfl (ySh.t hS rfl) (ySh.n hS rfl) ?_
                            refine y_in (M := xm_X7_isPartner) (ls := [some _, some _, some _]) rfl rfl rfl ?_
                            refine y_aload_n rfl rfl ?_
                            refine y_getR rfl (ySh.t hS rfl) (ySh.n hS rfl) rfl rfl (ySh.r hS rfl) ?_
                            refine y_aload_n rfl rfl ?_
                            refine y_iload_n rfl rfl ?_
                            refine y_iload_n rfl rfl ?_
                            refine y_virt rfl rfl rfl rfl rfl (ySh.t hS rfl) (ySh.n hS rfl) ?_
                            refine spx_at (by omega) (by omega) (by decide) (by decide) (fun hz302 => ?_)
                            rw [yz_8] at hz302
                            refine y_ret1 ?_
                            refine y_baloadv (J := I 70) rfl (ySh.t hS rfl) rfl (ySh.n hS rfl) (by omega) (by omega) rfl ?_
                            refine y_ireturn rfl rfl (xfit_z (hC.p _)) ?_
                            refine y_ret1 ?_
                            refine y_if_eq rfl j_X8_buyOut_134 (fun h_303 => ?_) (fun h_304 => ?_)
                            · refine y_throw rfl rfl rfl ?_
                              exact hE2 (by (first | omega | (simp only [show ySeat x2 = x2 from if_neg (by omega), show ySeat x3 = x3 from if_neg (by omega)]; omega) | (simp only [show ySeat x2 = x2 from if_neg (by omega), show ySeat x3 = Int32.ofInt 8 from if_pos (by omega)]; omega) | (simp only [show ySeat x2 = Int32.ofInt 8 from if_pos (by omega), show ySeat x3 = x3 from if_neg (by omega)]; omega) | (simp only [show ySeat x2 = Int32.ofInt 8 from if_pos (by omega), show ySeat x3 = Int32.ofInt 8 from if_pos (by omega)]; omega)))
                            · refine y_aload_n rfl rfl ?_
                              refine y_getR rfl (ySh.t hS rfl) (ySh.n hS rfl) rfl rfl (ySh.r hS rfl) ?_
                              refine y_iload_n rfl rfl ?_
                              refine y_iload rfl rfl ?_
                              refine y_virt rfl rfl rfl rfl rfl (ySh.t hS rfl) (ySh.n hS rfl) ?_
                              refine y_in (M := xm_X7_capitalOf) (ls := [some _, some _, some _]) rfl rfl rfl ?_
                              refine y_aload_n rfl rfl ?_
                              refine y_getR rfl (ySh.t hS rfl) (ySh.n hS rfl) rfl rfl (ySh.r hS rfl) ?_
                              refine y_aload_n rfl rfl ?_
                              refine y_iload_n rfl rfl ?_
                              refine y_iload_n rfl rfl ?_
                              refine y_virt rfl rfl rfl rfl rfl (ySh.t hS rfl) (ySh.n hS rfl) ?_
                              refine spx_at (by omega) (by omega) (by omega) (by omega) (fun hz305 => ?_)
                              refine y_ret1 ?_
                              refine y_ialoadv (J := I 71) rfl (ySh.t hS rfl) (ySh.n hS rfl) (by omega) (by omega) rfl ?_
                              refine y_ireturn rfl rfl rfl ?_
                              refine y_ret1 ?_
                              refine y_iload rfl rfl ?_
                              refine y_icmp_lt rfl j_X8_buyOut_134 (fun h_306 => ?_) (fun h_307 => ?_)
                              · refine y_throw rfl rfl rfl ?_
                                exact hE2 (by (first | omega | (simp only [show ySeat x2 = x2 from if_neg (by omega), show ySeat x3 = x3 from if_neg (by omega)]; omega) | (simp only [show ySeat x2 = x2 from if_neg (by omega), show ySeat x3 = Int32.ofInt 8 from if_pos (by omega)]; omega) | (simp only [show ySeat x2 = Int32.ofInt 8 from if_pos (by omega), show ySeat x3 = x3 from if_neg (by omega)]; omega) | (simp only [show ySeat x2 = Int32.ofInt 8 from if_pos (by omega), show ySeat x3 = Int32.ofInt 8 from if_pos (by omega)]; omega)))
                              · refine y_aload_n rfl rfl ?_
                                refine y_getR rfl (ySh.t hS rfl) (ySh.n hS rfl) rfl rfl (ySh.r hS rfl) ?_
                                refine y_getR rfl (ySh.t hS rfl) (ySh.n hS rfl) rfl rfl (ySh.r hS rfl) ?_
                                refine y_iload rfl rfl ?_
                                refine y_ialoadv (J := I 39) rfl (ySh.t hS rfl) (ySh.n hS rfl) (by decide) (by decide) rfl ?_
                                refine y_iload rfl rfl ?_
                                refine y_icmp_ge rfl j_X8_buyOut_145 (fun h_308 => ?_) (fun h_309 => ?_)
                                · refine y_aload_n rfl rfl ?_
                                  refine y_getR rfl (ySh.t hS rfl) (ySh.n hS rfl) rfl rfl (ySh.r hS rfl) ?_
                                  refine y_iload rfl rfl ?_
                                  refine y_iload rfl rfl ?_
                                  refine y_iload rfl rfl ?_
                                  refine y_virt rfl rfl rfl rfl rfl (ySh.t hS rfl) (ySh.n hS rfl) ?_
                                  refine y_in (M := xm_X4_move) (ls := [some _, some _, some _, some _]) rfl rfl rfl ?_
                                  refine y_aload_n rfl rfl ?_
                                  refine y_iload_n rfl rfl ?_
                                  refine y_iload_n rfl rfl ?_
                                  refine y_ineg rfl ?_
                                  refine y_virt rfl rfl rfl rfl rfl (ySh.t hS rfl) (ySh.n hS rfl) ?_
                                  refine spx_add hS ?_
                                  refine y_ret0 ?_
                                  refine y_nameI (fun I310 e310 => ?_)
                                  have hC : yCI I310 := by rw [e310]; exact yCI.addC hC
                                  have hF : yFt I I310 := by rw [e310]; exact hF.addC
                                  refine y_aload_n rfl rfl ?_
                                  refine y_iload_n rfl rfl ?_
                                  refine y_iload_n rfl rfl ?_
                                  refine y_virt rfl rfl rfl rfl rfl (ySh.t hS rfl) (ySh.n hS rfl) ?_
                                  refine spx_add hS ?_
                                  refine y_ret0 ?_
                                  refine y_nameI (fun I311 e311 => ?_)
                                  have hC : yCI I311 := by rw [e311]; exact yCI.addC hC
                                  have hF : yFt I I311 := by rw [e311]; exact hF.addC
                                  refine y_return rfl ?_
                                  refine y_ret0 ?_
                                  refine y_aload_n rfl rfl ?_
                                  refine y_getR rfl (ySh.t hS rfl) (ySh.n hS rfl) rfl rfl (ySh.r hS rfl) ?_
                                  refine y_iload_n rfl rfl ?_
                                  refine y_iload rfl rfl ?_
                                  refine y_iload rfl rfl ?_
                                  refine y_iload rfl rfl ?_
                                  refine y_virt rfl rfl rfl rfl rfl (ySh.t hS rfl) (ySh.n hS rfl) ?_
                                  refine y_in (M := xm_X7_moveCapital) (ls := [some _, some _, some _, some _, some _]) rfl rfl rfl ?_
                                  refine y_aload_n rfl rfl ?_
                                  refine y_getR rfl (ySh.t hS rfl) (ySh.n hS rfl) rfl rfl (ySh.r hS rfl) ?_
                                  refine y_aload_n rfl rfl ?_
                                  refine y_iload_n rfl rfl ?_
                                  refine y_iload_n rfl rfl ?_
                                  refine y_virt rfl rfl rfl rfl rfl (ySh.t hS rfl) (ySh.n hS rfl) ?_
                                  refine spx_at (by omega) (by omega) (by omega) (by omega) (fun hz312 => ?_)
                                  refine y_ret1 ?_
                                  refine y_dup2 rfl rfl rfl ?_
                                  refine y_ialoadv (J := I 71) rfl (ySh.t hS rfl) (ySh.n hS rfl) (by omega) (by omega) (by rw [e311, yAddC_row (by decide), e310, yAddC_row (by decide)]) ?_
                                  refine y_iload rfl rfl ?_
                                  refine y_isub rfl ?_
                                  refine y_iastore rfl (ySh.t hS rfl) (ySh.n hS rfl) (Nat.le_of_ble_eq_true rfl) (by omega) (by omega) ?_
                                  refine y_nameI (fun I313 e313 => ?_)
                                  have hC : yCI I313 := by rw [e313]; exact hC
                                  have hF : yFt I I313 := by rw [e313]; exact hF.upd (by decide)
                                  refine y_aload_n rfl rfl ?_
                                  refine y_getR rfl (ySh.t hS rfl) (ySh.n hS rfl) rfl rfl (ySh.r hS rfl) ?_
                                  refine y_aload_n rfl rfl ?_
                                  refine y_iload_n rfl rfl ?_
                                  refine y_iload_n rfl rfl ?_
                                  refine y_virt rfl rfl rfl rfl rfl (ySh.t hS rfl) (ySh.n hS rfl) ?_
                                  refine spx_at (by omega) (by omega) (by decide) (by decide) (fun hz314 => ?_)
                                  rw [yz_8] at hz314
                                  refine y_ret1 ?_
                                  refine y_dup2 rfl rfl rfl ?_
                                  refine y_iaload rfl (ySh.t hS rfl) (ySh.n hS rfl) (by omega) (by omega) ?_
                                  refine y_iload rfl rfl ?_
                                  refine y_iadd rfl ?_
                                  refine y_iastore rfl (ySh.t hS rfl) (ySh.n hS rfl) (Nat.le_of_ble_eq_true rfl) (by omega) (by omega) ?_
                                  refine y_nameI (fun I315 e315 => ?_)
                                  have hC : yCI I315 := by rw [e315]; exact hC
                                  have hF : yFt I I315 := by rw [e315]; exact hF.upd (by decide)
                                  refine y_return rfl ?_
                                  refine y_ret0 ?_
                                  refine y_aload_n rfl rfl ?_
                                  refine y_getR rfl (ySh.t hS rfl) (ySh.n hS rfl) rfl rfl (ySh.r hS rfl) ?_
                                  refine y_iload_n rfl rfl ?_
                                  refine y_iload rfl rfl ?_
                                  refine y_virt rfl rfl rfl rfl rfl (ySh.t hS rfl) (ySh.n hS rfl) ?_
                                  refine y_in (M := xm_X7_capitalOf) (ls := [some _, some _, some _]) rfl rfl rfl ?_
                                  refine y_aload_n rfl rfl ?_
                                  refine y_getR rfl (ySh.t hS rfl) (ySh.n hS rfl) rfl rfl (ySh.r hS rfl) ?_
                                  refine y_aload_n rfl rfl ?_
                                  refine y_iload_n rfl rfl ?_
                                  refine y_iload_n rfl rfl ?_
                                  refine y_virt rfl rfl rfl rfl rfl (ySh.t hS rfl) (ySh.n hS rfl) ?_
                                  refine spx_at (by omega) (by omega) (by omega) (by omega) (fun hz316 => ?_)
                                  refine y_ret1 ?_
                                  refine y_iaload rfl (ySh.t hS rfl) (ySh.n hS rfl) (by omega) (by omega) ?_
                                  refine y_ireturn rfl rfl rfl ?_
                                  refine y_ret1 ?_
                                  refine y_ireturn rfl rfl rfl ?_
                                  first | (exfalso; omega) | (exact hQ (by (first | omega | (simp only [show ySeat x2 = x2 from if_neg (by omega), show ySeat x3 = x3 from if_neg (by omega)]; omega) | (simp only [show ySeat x2 = x2 from if_neg (by omega), show ySeat x3 = Int32.ofInt 8 from if_pos (by omega)]; omega) | (simp only [show ySeat x2 = Int32.ofInt 8 from if_pos (by omega), show ySeat x3 = x3 from if_neg (by omega)]; omega) | (simp only [show ySeat x2 = Int32.ofInt 8 from if_pos (by omega), show ySeat x3 = Int32.ofInt 8 from if_pos (by omega)]; omega))) _ _ hC hF (by first | rfl | (simp only [show ySeat x2 = x2 from if_neg (by omega), show ySeat x3 = x3 from if_neg (by omega)]; done) | (simp only [show ySeat x2 = x2 from if_neg (by omega), show ySeat x3 = Int32.ofInt 8 from if_pos (by omega)]; done) | (simp only [show ySeat x2 = Int32.ofInt 8 from if_pos (by omega), show ySeat x3 = x3 from if_neg (by omega)]; done) | (simp only [show ySeat x2 = Int32.ofInt 8 from if_pos (by omega), show ySeat x3 = Int32.ofInt 8 from if_pos (by omega)]; done)) (by first | (simp only [show ySeat x2 = x2 from if_neg (by omega), show ySeat x3 = x3 from if_neg (by omega)]; first | (rw [e315, e313, e311, e310]; done) | (rw [e315, e313, e311, e310]; rfl)) | (simp only [show ySeat x2 = x2 from if_neg (by omega), show ySeat x3 = Int32.ofInt 8 from if_pos (by omega)]; first | (rw [e315, e313, e311, e310]; done) | (rw [e315, e313, e311, e310]; rfl)) | (simp only [show ySeat x2 = Int32.ofInt 8 from if_pos (by omega), show ySeat x3 = x3 from if_neg (by omega)]; first | (rw [e315, e313, e311, e310]; done) | (rw [e315, e313, e311, e310]; rfl)) | (simp only [show ySeat x2 = Int32.ofInt 8 from if_pos (by omega), show ySeat x3 = Int32.ofInt 8 from if_pos (by omega)]; first | (rw [e315, e313, e311, e310]; done) | (rw [e315, e313, e311, e310]; rfl))))
                                · refine y_throw rfl rfl rfl ?_
                                  exact hE2 (by (first | omega | (simp only [show ySeat x2 = x2 from if_neg (by omega), show ySeat x3 = x3 from if_neg (by omega)]; omega) | (simp only [show ySeat x2 = x2 from if_neg (by omega), show ySeat x3 = Int32.ofInt 8 from if_pos (by omega)]; omega) | (simp only [show ySeat x2 = Int32.ofInt 8 from if_pos (by omega), show ySeat x3 = x3 from if_neg (by omega)]; omega) | (simp only [show ySeat x2 = Int32.ofInt 8 from if_pos (by omega), show ySeat x3 = Int32.ofInt 8 from if_pos (by omega)]; omega)))
                      · rw [yz_m1] at h_278
                        refine y_bip rfl (by decide) ?_
                        refine y_goto rfl j_X8_placeOf_11 ?_
                        refine y_ireturn rfl rfl rfl ?_
                        refine y_ret1 ?_
                        refine y_istore (ls' := [some _, some _, some _, some _, some _, some _, _]) rfl rfl rfl ?_
                        refine y_iload_n rfl rfl ?_
                        refine y_static rfl rfl rfl rfl rfl ?_
                        refine y_in (M := xm_X8_placeOf) (ls := [some _]) rfl rfl rfl ?_
                        refine y_iload_n rfl rfl ?_
                        refine y_iconst rfl ?_
                        refine y_icmp_ne rfl j_X8_placeOf_10 (fun h_317 => ?_) (fun h_318 => ?_)
                        · rw [yz_m1] at h_317
                          refine y_iload_n rfl rfl ?_
                          refine y_ireturn rfl rfl rfl ?_
                          refine y_ret1 ?_
                          refine y_istore (ls' := [some _, some _, some _, some _, some _, some _, some _]) rfl rfl rfl ?_
                          refine y_aload_n rfl rfl ?_
                          refine y_getR rfl (ySh.t hS rfl) (ySh.n hS rfl) rfl rfl (ySh.r hS rfl) ?_
                          refine y_iload_n rfl rfl ?_
                          refine y_iload rfl rfl ?_
                          refine y_virt rfl rfl rfl rfl rfl (ySh.t hS rfl) (ySh.n hS rfl) ?_
                          refine y_in (M := xm_X7_isPartner) (ls := [some _, some _, some _]) rfl rfl rfl ?_
                          refine y_aload_n rfl rfl ?_
                          refine y_getR rfl (ySh.t hS rfl) (ySh.n hS rfl) rfl rfl (ySh.r hS rfl) ?_
                          refine y_aload_n rfl rfl ?_
                          refine y_iload_n rfl rfl ?_
                          refine y_iload_n rfl rfl ?_
                          refine y_virt rfl rfl rfl rfl rfl (ySh.t hS rfl) (ySh.n hS rfl) ?_
                          refine spx_at (by omega) (by omega) (by decide) (by decide) (fun hz319 => ?_)
                          rw [yz_8] at hz319
                          refine y_ret1 ?_
                          refine y_baloadv (J := I 70) rfl (ySh.t hS rfl) rfl (ySh.n hS rfl) (by omega) (by omega) rfl ?_
                          refine y_ireturn rfl rfl (xfit_z (hC.p _)) ?_
                          refine y_ret1 ?_
                          refine y_if_eq rfl j_X8_buyOut_134 (fun h_320 => ?_) (fun h_321 => ?_)
                          · refine y_throw rfl rfl rfl ?_
                            exact hE2 (by (first | omega | (simp only [show ySeat x2 = x2 from if_neg (by omega), show ySeat x3 = x3 from if_neg (by omega)]; omega) | (simp only [show ySeat x2 = x2 from if_neg (by omega), show ySeat x3 = Int32.ofInt 8 from if_pos (by omega)]; omega) | (simp only [show ySeat x2 = Int32.ofInt 8 from if_pos (by omega), show ySeat x3 = x3 from if_neg (by omega)]; omega) | (simp only [show ySeat x2 = Int32.ofInt 8 from if_pos (by omega), show ySeat x3 = Int32.ofInt 8 from if_pos (by omega)]; omega)))
                          · refine y_aload_n rfl rfl ?_
                            refine y_getR rfl (ySh.t hS rfl) (ySh.n hS rfl) rfl rfl (ySh.r hS rfl) ?_
                            refine y_iload_n rfl rfl ?_
                            refine y_iload rfl rfl ?_
                            refine y_virt rfl rfl rfl rfl rfl (ySh.t hS rfl) (ySh.n hS rfl) ?_
                            refine y_in (M := xm_X7_isPartner) (ls := [some _, some _, some _]) rfl rfl rfl ?_
                            refine y_aload_n rfl rfl ?_
                            refine y_getR rfl (ySh.t hS rfl) (ySh.n hS rfl) rfl rfl (ySh.r hS rfl) ?_
                            refine y_aload_n rfl rfl ?_
                            refine y_iload_n rfl rfl ?_
                            refine y_iload_n rfl rfl ?_
                            refine y_virt rfl rfl rfl rfl rfl (ySh.t hS rfl) (ySh.n hS rfl) ?_
                            refine spx_at (by omega) (by omega) (by omega) (by omega) (fun hz322 => ?_)
                            refine y_ret1 ?_
                            refine y_baloadv (J := I 70) rfl (ySh.t hS rfl) rfl (ySh.n hS rfl) (by omega) (by omega) rfl ?_
                            refine y_ireturn rfl rfl (xfit_z (hC.p _)) ?_
                            refine y_ret1 ?_
                            refine y_if_eq rfl j_X8_buyOut_134 (fun h_323 => ?_) (fun h_324 => ?_)
                            · refine y_throw rfl rfl rfl ?_
                              exact hE2 (by (first | omega | (simp only [show ySeat x2 = x2 from if_neg (by omega), show ySeat x3 = x3 from if_neg (by omega)]; omega) | (simp only [show ySeat x2 = x2 from if_neg (by omega), show ySeat x3 = Int32.ofInt 8 from if_pos (by omega)]; omega) | (simp only [show ySeat x2 = Int32.ofInt 8 from if_pos (by omega), show ySeat x3 = x3 from if_neg (by omega)]; omega) | (simp only [show ySeat x2 = Int32.ofInt 8 from if_pos (by omega), show ySeat x3 = Int32.ofInt 8 from if_pos (by omega)]; omega)))
                            · refine y_aload_n rfl rfl ?_
                              refine y_getR rfl (ySh.t hS rfl) (ySh.n hS rfl) rfl rfl (ySh.r hS rfl) ?_
                              refine y_iload_n rfl rfl ?_
                              refine y_iload rfl rfl ?_
                              refine y_virt rfl rfl rfl rfl rfl (ySh.t hS rfl) (ySh.n hS rfl) ?_
                              refine y_in (M := xm_X7_capitalOf) (ls := [some _, some _, some _]) rfl rfl rfl ?_
                              refine y_aload_n rfl rfl ?_
                              refine y_getR rfl (ySh.t hS rfl) (ySh.n hS rfl) rfl rfl (ySh.r hS rfl) ?_
                              refine y_aload_n rfl rfl ?_
                              refine y_iload_n rfl rfl ?_
                              refine y_iload_n rfl rfl ?_
                              refine y_virt rfl rfl rfl rfl rfl (ySh.t hS rfl) (ySh.n hS rfl) ?_
                              refine spx_at (by omega) (by omega) (by decide) (by decide) (fun hz325 => ?_)
                              rw [yz_8] at hz325
                              refine y_ret1 ?_
                              refine y_ialoadv (J := I 71) rfl (ySh.t hS rfl) (ySh.n hS rfl) (by omega) (by omega) rfl ?_
                              refine y_ireturn rfl rfl rfl ?_
                              refine y_ret1 ?_
                              refine y_iload rfl rfl ?_
                              refine y_icmp_lt rfl j_X8_buyOut_134 (fun h_326 => ?_) (fun h_327 => ?_)
                              · refine y_throw rfl rfl rfl ?_
                                exact hE2 (by (first | omega | (simp only [show ySeat x2 = x2 from if_neg (by omega), show ySeat x3 = x3 from if_neg (by omega)]; omega) | (simp only [show ySeat x2 = x2 from if_neg (by omega), show ySeat x3 = Int32.ofInt 8 from if_pos (by omega)]; omega) | (simp only [show ySeat x2 = Int32.ofInt 8 from if_pos (by omega), show ySeat x3 = x3 from if_neg (by omega)]; omega) | (simp only [show ySeat x2 = Int32.ofInt 8 from if_pos (by omega), show ySeat x3 = Int32.ofInt 8 from if_pos (by omega)]; omega)))
                              · refine y_aload_n rfl rfl ?_
                                refine y_getR rfl (ySh.t hS rfl) (ySh.n hS rfl) rfl rfl (ySh.r hS rfl) ?_
                                refine y_getR rfl (ySh.t hS rfl) (ySh.n hS rfl) rfl rfl (ySh.r hS rfl) ?_
                                refine y_iload rfl rfl ?_
                                refine y_ialoadv (J := I 39) rfl (ySh.t hS rfl) (ySh.n hS rfl) (by omega) (by omega) rfl ?_
                                refine y_iload rfl rfl ?_
                                refine y_icmp_ge rfl j_X8_buyOut_145 (fun h_328 => ?_) (fun h_329 => ?_)
                                · refine y_aload_n rfl rfl ?_
                                  refine y_getR rfl (ySh.t hS rfl) (ySh.n hS rfl) rfl rfl (ySh.r hS rfl) ?_
                                  refine y_iload rfl rfl ?_
                                  refine y_iload rfl rfl ?_
                                  refine y_iload rfl rfl ?_
                                  refine y_virt rfl rfl rfl rfl rfl (ySh.t hS rfl) (ySh.n hS rfl) ?_
                                  refine y_in (M := xm_X4_move) (ls := [some _, some _, some _, some _]) rfl rfl rfl ?_
                                  refine y_aload_n rfl rfl ?_
                                  refine y_iload_n rfl rfl ?_
                                  refine y_iload_n rfl rfl ?_
                                  refine y_ineg rfl ?_
                                  refine y_virt rfl rfl rfl rfl rfl (ySh.t hS rfl) (ySh.n hS rfl) ?_
                                  refine spx_add hS ?_
                                  refine y_ret0 ?_
                                  refine y_nameI (fun I330 e330 => ?_)
                                  have hC : yCI I330 := by rw [e330]; exact yCI.addC hC
                                  have hF : yFt I I330 := by rw [e330]; exact hF.addC
                                  refine y_aload_n rfl rfl ?_
                                  refine y_iload_n rfl rfl ?_
                                  refine y_iload_n rfl rfl ?_
                                  refine y_virt rfl rfl rfl rfl rfl (ySh.t hS rfl) (ySh.n hS rfl) ?_
                                  refine spx_add hS ?_
                                  refine y_ret0 ?_
                                  refine y_nameI (fun I331 e331 => ?_)
                                  have hC : yCI I331 := by rw [e331]; exact yCI.addC hC
                                  have hF : yFt I I331 := by rw [e331]; exact hF.addC
                                  refine y_return rfl ?_
                                  refine y_ret0 ?_
                                  refine y_aload_n rfl rfl ?_
                                  refine y_getR rfl (ySh.t hS rfl) (ySh.n hS rfl) rfl rfl (ySh.r hS rfl) ?_
                                  refine y_iload_n rfl rfl ?_
                                  refine y_iload rfl rfl ?_
                                  refine y_iload rfl rfl ?_
                                  refine y_iload rfl rfl ?_
                                  refine y_virt rfl rfl rfl rfl rfl (ySh.t hS rfl) (ySh.n hS rfl) ?_
                                  refine y_in (M := xm_X7_moveCapital) (ls := [some _, some _, some _, some _, some _]) rfl rfl rfl ?_
                                  refine y_aload_n rfl rfl ?_
                                  refine y_getR rfl (ySh.t hS rfl) (ySh.n hS rfl) rfl rfl (ySh.r hS rfl) ?_
                                  refine y_aload_n rfl rfl ?_
                                  refine y_iload_n rfl rfl ?_
                                  refine y_iload_n rfl rfl ?_
                                  refine y_virt rfl rfl rfl rfl rfl (ySh.t hS rfl) (ySh.n hS rfl) ?_
                                  refine spx_at (by omega) (by omega) (by decide) (by decide) (fun hz332 => ?_)
                                  rw [yz_8] at hz332
                                  refine y_ret1 ?_
                                  refine y_dup2 rfl rfl rfl ?_
                                  refine y_ialoadv (J := I 71) rfl (ySh.t hS rfl) (ySh.n hS rfl) (by omega) (by omega) (by rw [e331, yAddC_row (by decide), e330, yAddC_row (by decide)]) ?_
                                  refine y_iload rfl rfl ?_
                                  refine y_isub rfl ?_
                                  refine y_iastore rfl (ySh.t hS rfl) (ySh.n hS rfl) (Nat.le_of_ble_eq_true rfl) (by omega) (by omega) ?_
                                  refine y_nameI (fun I333 e333 => ?_)
                                  have hC : yCI I333 := by rw [e333]; exact hC
                                  have hF : yFt I I333 := by rw [e333]; exact hF.upd (by decide)
                                  refine y_aload_n rfl rfl ?_
                                  refine y_getR rfl (ySh.t hS rfl) (ySh.n hS rfl) rfl rfl (ySh.r hS rfl) ?_
                                  refine y_aload_n rfl rfl ?_
                                  refine y_iload_n rfl rfl ?_
                                  refine y_iload_n rfl rfl ?_
                                  refine y_virt rfl rfl rfl rfl rfl (ySh.t hS rfl) (ySh.n hS rfl) ?_
                                  refine spx_at (by omega) (by omega) (by omega) (by omega) (fun hz334 => ?_)
                                  refine y_ret1 ?_
                                  refine y_dup2 rfl rfl rfl ?_
                                  refine y_iaload rfl (ySh.t hS rfl) (ySh.n hS rfl) (by omega) (by omega) ?_
                                  refine y_iload rfl rfl ?_
                                  refine y_iadd rfl ?_
                                  refine y_iastore rfl (ySh.t hS rfl) (ySh.n hS rfl) (Nat.le_of_ble_eq_true rfl) (by omega) (by omega) ?_
                                  refine y_nameI (fun I335 e335 => ?_)
                                  have hC : yCI I335 := by rw [e335]; exact hC
                                  have hF : yFt I I335 := by rw [e335]; exact hF.upd (by decide)
                                  refine y_return rfl ?_
                                  refine y_ret0 ?_
                                  refine y_aload_n rfl rfl ?_
                                  refine y_getR rfl (ySh.t hS rfl) (ySh.n hS rfl) rfl rfl (ySh.r hS rfl) ?_
                                  refine y_iload_n rfl rfl ?_
                                  refine y_iload rfl rfl ?_
                                  refine y_virt rfl rfl rfl rfl rfl (ySh.t hS rfl) (ySh.n hS rfl) ?_
                                  refine y_in (M := xm_X7_capitalOf) (ls := [some _, some _, some _]) rfl rfl rfl ?_
                                  refine y_aload_n rfl rfl ?_
                                  refine y_getR rfl (ySh.t hS rfl) (ySh.n hS rfl) rfl rfl (ySh.r hS rfl) ?_
                                  refine y_aload_n rfl rfl ?_
                                  refine y_iload_n rfl rfl ?_
                                  refine y_iload_n rfl rfl ?_
                                  refine y_virt rfl rfl rfl rfl rfl (ySh.t hS rfl) (ySh.n hS rfl) ?_
                                  refine spx_at (by omega) (by omega) (by decide) (by decide) (fun hz336 => ?_)
                                  rw [yz_8] at hz336
                                  refine y_ret1 ?_
                                  refine y_iaload rfl (ySh.t hS rfl) (ySh.n hS rfl) (by omega) (by omega) ?_
                                  refine y_ireturn rfl rfl rfl ?_
                                  refine y_ret1 ?_
                                  refine y_ireturn rfl rfl rfl ?_
                                  first | (exfalso; omega) | (exact hQ (by (first | omega | (simp only [show ySeat x2 = x2 from if_neg (by omega), show ySeat x3 = x3 from if_neg (by omega)]; omega) | (simp only [show ySeat x2 = x2 from if_neg (by omega), show ySeat x3 = Int32.ofInt 8 from if_pos (by omega)]; omega) | (simp only [show ySeat x2 = Int32.ofInt 8 from if_pos (by omega), show ySeat x3 = x3 from if_neg (by omega)]; omega) | (simp only [show ySeat x2 = Int32.ofInt 8 from if_pos (by omega), show ySeat x3 = Int32.ofInt 8 from if_pos (by omega)]; omega))) _ _ hC hF (by first | rfl | (simp only [show ySeat x2 = x2 from if_neg (by omega), show ySeat x3 = x3 from if_neg (by omega)]; done) | (simp only [show ySeat x2 = x2 from if_neg (by omega), show ySeat x3 = Int32.ofInt 8 from if_pos (by omega)]; done) | (simp only [show ySeat x2 = Int32.ofInt 8 from if_pos (by omega), show ySeat x3 = x3 from if_neg (by omega)]; done) | (simp only [show ySeat x2 = Int32.ofInt 8 from if_pos (by omega), show ySeat x3 = Int32.ofInt 8 from if_pos (by omega)]; done)) (by first | (simp only [show ySeat x2 = x2 from if_neg (by omega), show ySeat x3 = x3 from if_neg (by omega)]; first | (rw [e335, e333, e331, e330]; done) | (rw [e335, e333, e331, e330]; rfl)) | (simp only [show ySeat x2 = x2 from if_neg (by omega), show ySeat x3 = Int32.ofInt 8 from if_pos (by omega)]; first | (rw [e335, e333, e331, e330]; done) | (rw [e335, e333, e331, e330]; rfl)) | (simp only [show ySeat x2 = Int32.ofInt 8 from if_pos (by omega), show ySeat x3 = x3 from if_neg (by omega)]; first | (rw [e335, e333, e331, e330]; done) | (rw [e335, e333, e331, e330]; rfl)) | (simp only [show ySeat x2 = Int32.ofInt 8 from if_pos (by omega), show ySeat x3 = Int32.ofInt 8 from if_pos (by omega)]; first | (rw [e335, e333, e331, e330]; done) | (rw [e335, e333, e331, e330]; rfl))))
                                · refine y_throw rfl rfl rfl ?_
                                  exact hE2 (by (first | omega | (simp only [show ySeat x2 = x2 from if_neg (by omega), show ySeat x3 = x3 from if_neg (by omega)]; omega) | (simp only [show ySeat x2 = x2 from if_neg (by omega), show ySeat x3 = Int32.ofInt 8 from if_pos (by omega)]; omega) | (simp only [show ySeat x2 = Int32.ofInt 8 from if_pos (by omega), show ySeat x3 = x3 from if_neg (by omega)]; omega) | (simp only [show ySeat x2 = Int32.ofInt 8 from if_pos (by omega), show ySeat x3 = Int32.ofInt 8 from if_pos (by omega)]; omega)))
                        · rw [yz_m1] at h_318
                          refine y_bip rfl (by decide) ?_
                          refine y_goto rfl j_X8_placeOf_11 ?_
                          refine y_ireturn rfl rfl rfl ?_
                          refine y_ret1 ?_
                          refine y_istore (ls' := [some _, some _, some _, some _, some _, some _, some _]) rfl rfl rfl ?_
                          refine y_aload_n rfl rfl ?_
                          refine y_getR rfl (ySh.t hS rfl) (ySh.n hS rfl) rfl rfl (ySh.r hS rfl) ?_
                          refine y_iload_n rfl rfl ?_
                          refine y_iload rfl rfl ?_
                          refine y_virt rfl rfl rfl rfl rfl (ySh.t hS rfl) (ySh.n hS rfl) ?_
                          refine y_in (M := xm_X7_isPartner) (ls := [some _, some _, some _]) rfl rfl rfl ?_
                          refine y_aload_n rfl rfl ?_
                          refine y_getR rfl (ySh.t hS rfl) (ySh.n hS rfl) rfl rfl (ySh.r hS rfl) ?_
                          refine y_aload_n rfl rfl ?_
                          refine y_iload_n rfl rfl ?_
                          refine y_iload_n rfl rfl ?_
                          refine y_virt rfl rfl rfl rfl rfl (ySh.t hS rfl) (ySh.n hS rfl) ?_
                          refine spx_at (by omega) (by omega) (by decide) (by decide) (fun hz337 => ?_)
                          rw [yz_8] at hz337
                          refine y_ret1 ?_
                          refine y_baloadv (J := I 70) rfl (ySh.t hS rfl) rfl (ySh.n hS rfl) (by omega) (by omega) rfl ?_
                          refine y_ireturn rfl rfl (xfit_z (hC.p _)) ?_
                          refine y_ret1 ?_
                          refine y_if_eq rfl j_X8_buyOut_134 (fun h_338 => ?_) (fun h_339 => ?_)
                          · refine y_throw rfl rfl rfl ?_
                            exact hE2 (by (first | omega | (simp only [show ySeat x2 = x2 from if_neg (by omega), show ySeat x3 = x3 from if_neg (by omega)]; omega) | (simp only [show ySeat x2 = x2 from if_neg (by omega), show ySeat x3 = Int32.ofInt 8 from if_pos (by omega)]; omega) | (simp only [show ySeat x2 = Int32.ofInt 8 from if_pos (by omega), show ySeat x3 = x3 from if_neg (by omega)]; omega) | (simp only [show ySeat x2 = Int32.ofInt 8 from if_pos (by omega), show ySeat x3 = Int32.ofInt 8 from if_pos (by omega)]; omega)))
                          · refine y_aload_n rfl rfl ?_
                            refine y_getR rfl (ySh.t hS rfl) (ySh.n hS rfl) rfl rfl (ySh.r hS rfl) ?_
                            refine y_iload_n rfl rfl ?_
                            refine y_iload rfl rfl ?_
                            refine y_virt rfl rfl rfl rfl rfl (ySh.t hS rfl) (ySh.n hS rfl) ?_
                            refine y_in (M := xm_X7_isPartner) (ls := [some _, some _, some _]) rfl rfl rfl ?_
                            refine y_aload_n rfl rfl ?_
                            refine y_getR rfl (ySh.t hS rfl) (ySh.n hS rfl) rfl rfl (ySh.r hS rfl) ?_
                            refine y_aload_n rfl rfl ?_
                            refine y_iload_n rfl rfl ?_
                            refine y_iload_n rfl rfl ?_
                            refine y_virt rfl rfl rfl rfl rfl (ySh.t hS rfl) (ySh.n hS rfl) ?_
                            refine spx_at (by omega) (by omega) (by decide) (by decide) (fun hz340 => ?_)
                            rw [yz_8] at hz340
                            refine y_ret1 ?_
                            refine y_baloadv (J := I 70) rfl (ySh.t hS rfl) rfl (ySh.n hS rfl) (by omega) (by omega) rfl ?_
                            refine y_ireturn rfl rfl (xfit_z (hC.p _)) ?_
                            refine y_ret1 ?_
                            refine y_if_eq rfl j_X8_buyOut_134 (fun h_341 => ?_) (fun h_342 => ?_)
                            · refine y_throw rfl rfl rfl ?_
                              exact hE2 (by (first | omega | (simp only [show ySeat x2 = x2 from if_neg (by omega), show ySeat x3 = x3 from if_neg (by omega)]; omega) | (simp only [show ySeat x2 = x2 from if_neg (by omega), show ySeat x3 = Int32.ofInt 8 from if_pos (by omega)]; omega) | (simp only [show ySeat x2 = Int32.ofInt 8 from if_pos (by omega), show ySeat x3 = x3 from if_neg (by omega)]; omega) | (simp only [show ySeat x2 = Int32.ofInt 8 from if_pos (by omega), show ySeat x3 = Int32.ofInt 8 from if_pos (by omega)]; omega)))
                            · refine y_aload_n rfl rfl ?_
                              refine y_getR rfl (ySh.t hS rfl) (ySh.n hS rfl) rfl rfl (ySh.r hS rfl) ?_
                              refine y_iload_n rfl rfl ?_
                              refine y_iload rfl rfl ?_
                              refine y_virt rfl rfl rfl rfl rfl (ySh.t hS rfl) (ySh.n hS rfl) ?_
                              refine y_in (M := xm_X7_capitalOf) (ls := [some _, some _, some _]) rfl rfl rfl ?_
                              refine y_aload_n rfl rfl ?_
                              refine y_getR rfl (ySh.t hS rfl) (ySh.n hS rfl) rfl rfl (ySh.r hS rfl) ?_
                              refine y_aload_n rfl rfl ?_
                              refine y_iload_n rfl rfl ?_
                              refine y_iload_n rfl rfl ?_
                              refine y_virt rfl rfl rfl rfl rfl (ySh.t hS rfl) (ySh.n hS rfl) ?_
                              refine spx_at (by omega) (by omega) (by decide) (by decide) (fun hz343 => ?_)
                              rw [yz_8] at hz343
                              refine y_ret1 ?_
                              refine y_ialoadv (J := I 71) rfl (ySh.t hS rfl) (ySh.n hS rfl) (by omega) (by omega) rfl ?_
                              refine y_ireturn rfl rfl rfl ?_
                              refine y_ret1 ?_
                              refine y_iload rfl rfl ?_
                              refine y_icmp_lt rfl j_X8_buyOut_134 (fun h_344 => ?_) (fun h_345 => ?_)
                              · refine y_throw rfl rfl rfl ?_
                                exact hE2 (by (first | omega | (simp only [show ySeat x2 = x2 from if_neg (by omega), show ySeat x3 = x3 from if_neg (by omega)]; omega) | (simp only [show ySeat x2 = x2 from if_neg (by omega), show ySeat x3 = Int32.ofInt 8 from if_pos (by omega)]; omega) | (simp only [show ySeat x2 = Int32.ofInt 8 from if_pos (by omega), show ySeat x3 = x3 from if_neg (by omega)]; omega) | (simp only [show ySeat x2 = Int32.ofInt 8 from if_pos (by omega), show ySeat x3 = Int32.ofInt 8 from if_pos (by omega)]; omega)))
                              · refine y_aload_n rfl rfl ?_
                                refine y_getR rfl (ySh.t hS rfl) (ySh.n hS rfl) rfl rfl (ySh.r hS rfl) ?_
                                refine y_getR rfl (ySh.t hS rfl) (ySh.n hS rfl) rfl rfl (ySh.r hS rfl) ?_
                                refine y_iload rfl rfl ?_
                                refine y_ialoadv (J := I 39) rfl (ySh.t hS rfl) (ySh.n hS rfl) (by decide) (by decide) rfl ?_
                                refine y_iload rfl rfl ?_
                                refine y_icmp_ge rfl j_X8_buyOut_145 (fun h_346 => ?_) (fun h_347 => ?_)
                                · refine y_aload_n rfl rfl ?_
                                  refine y_getR rfl (ySh.t hS rfl) (ySh.n hS rfl) rfl rfl (ySh.r hS rfl) ?_
                                  refine y_iload rfl rfl ?_
                                  refine y_iload rfl rfl ?_
                                  refine y_iload rfl rfl ?_
                                  refine y_virt rfl rfl rfl rfl rfl (ySh.t hS rfl) (ySh.n hS rfl) ?_
                                  refine y_in (M := xm_X4_move) (ls := [some _, some _, some _, some _]) rfl rfl rfl ?_
                                  refine y_aload_n rfl rfl ?_
                                  refine y_iload_n rfl rfl ?_
                                  refine y_iload_n rfl rfl ?_
                                  refine y_ineg rfl ?_
                                  refine y_virt rfl rfl rfl rfl rfl (ySh.t hS rfl) (ySh.n hS rfl) ?_
                                  refine spx_add hS ?_
                                  refine y_ret0 ?_
                                  refine y_nameI (fun I348 e348 => ?_)
                                  have hC : yCI I348 := by rw [e348]; exact yCI.addC hC
                                  have hF : yFt I I348 := by rw [e348]; exact hF.addC
                                  refine y_aload_n rfl rfl ?_
                                  refine y_iload_n rfl rfl ?_
                                  refine y_iload_n rfl rfl ?_
                                  refine y_virt rfl rfl rfl rfl rfl (ySh.t hS rfl) (ySh.n hS rfl) ?_
                                  refine spx_add hS ?_
                                  refine y_ret0 ?_
                                  refine y_nameI (fun I349 e349 => ?_)
                                  have hC : yCI I349 := by rw [e349]; exact yCI.addC hC
                                  have hF : yFt I I349 := by rw [e349]; exact hF.addC
                                  refine y_return rfl ?_
                                  refine y_ret0 ?_
                                  refine y_aload_n rfl rfl ?_
                                  refine y_getR rfl (ySh.t hS rfl) (ySh.n hS rfl) rfl rfl (ySh.r hS rfl) ?_
                                  refine y_iload_n rfl rfl ?_
                                  refine y_iload rfl rfl ?_
                                  refine y_iload rfl rfl ?_
                                  refine y_iload rfl rfl ?_
                                  refine y_virt rfl rfl rfl rfl rfl (ySh.t hS rfl) (ySh.n hS rfl) ?_
                                  refine y_in (M := xm_X7_moveCapital) (ls := [some _, some _, some _, some _, some _]) rfl rfl rfl ?_
                                  refine y_aload_n rfl rfl ?_
                                  refine y_getR rfl (ySh.t hS rfl) (ySh.n hS rfl) rfl rfl (ySh.r hS rfl) ?_
                                  refine y_aload_n rfl rfl ?_
                                  refine y_iload_n rfl rfl ?_
                                  refine y_iload_n rfl rfl ?_
                                  refine y_virt rfl rfl rfl rfl rfl (ySh.t hS rfl) (ySh.n hS rfl) ?_
                                  refine spx_at (by omega) (by omega) (by decide) (by decide) (fun hz350 => ?_)
                                  rw [yz_8] at hz350
                                  refine y_ret1 ?_
                                  refine y_dup2 rfl rfl rfl ?_
                                  refine y_ialoadv (J := I 71) rfl (ySh.t hS rfl) (ySh.n hS rfl) (by omega) (by omega) (by rw [e349, yAddC_row (by decide), e348, yAddC_row (by decide)]) ?_
                                  refine y_iload rfl rfl ?_
                                  refine y_isub rfl ?_
                                  refine y_iastore rfl (ySh.t hS rfl) (ySh.n hS rfl) (Nat.le_of_ble_eq_true rfl) (by omega) (by omega) ?_
                                  refine y_nameI (fun I351 e351 => ?_)
                                  have hC : yCI I351 := by rw [e351]; exact hC
                                  have hF : yFt I I351 := by rw [e351]; exact hF.upd (by decide)
                                  refine y_aload_n rfl rfl ?_
                                  refine y_getR rfl (ySh.t hS rfl) (ySh.n hS rfl) rfl rfl (ySh.r hS rfl) ?_
                                  refine y_aload_n rfl rfl ?_
                                  refine y_iload_n rfl rfl ?_
                                  refine y_iload_n rfl rfl ?_
                                  refine y_virt rfl rfl rfl rfl rfl (ySh.t hS rfl) (ySh.n hS rfl) ?_
                                  refine spx_at (by omega) (by omega) (by decide) (by decide) (fun hz352 => ?_)
                                  rw [yz_8] at hz352
                                  refine y_ret1 ?_
                                  refine y_dup2 rfl rfl rfl ?_
                                  refine y_iaload rfl (ySh.t hS rfl) (ySh.n hS rfl) (by omega) (by omega) ?_
                                  refine y_iload rfl rfl ?_
                                  refine y_iadd rfl ?_
                                  refine y_iastore rfl (ySh.t hS rfl) (ySh.n hS rfl) (Nat.le_of_ble_eq_true rfl) (by omega) (by omega) ?_
                                  refine y_nameI (fun I353 e353 => ?_)
                                  have hC : yCI I353 := by rw [e353]; exact hC
                                  have hF : yFt I I353 := by rw [e353]; exact hF.upd (by decide)
                                  refine y_return rfl ?_
                                  refine y_ret0 ?_
                                  refine y_aload_n rfl rfl ?_
                                  refine y_getR rfl (ySh.t hS rfl) (ySh.n hS rfl) rfl rfl (ySh.r hS rfl) ?_
                                  refine y_iload_n rfl rfl ?_
                                  refine y_iload rfl rfl ?_
                                  refine y_virt rfl rfl rfl rfl rfl (ySh.t hS rfl) (ySh.n hS rfl) ?_
                                  refine y_in (M := xm_X7_capitalOf) (ls := [some _, some _, some _]) rfl rfl rfl ?_
                                  refine y_aload_n rfl rfl ?_
                                  refine y_getR rfl (ySh.t hS rfl) (ySh.n hS rfl) rfl rfl (ySh.r hS rfl) ?_
                                  refine y_aload_n rfl rfl ?_
                                  refine y_iload_n rfl rfl ?_
                                  refine y_iload_n rfl rfl ?_
                                  refine y_virt rfl rfl rfl rfl rfl (ySh.t hS rfl) (ySh.n hS rfl) ?_
                                  refine spx_at (by omega) (by omega) (by decide) (by decide) (fun hz354 => ?_)
                                  rw [yz_8] at hz354
                                  refine y_ret1 ?_
                                  refine y_iaload rfl (ySh.t hS rfl) (ySh.n hS rfl) (by omega) (by omega) ?_
                                  refine y_ireturn rfl rfl rfl ?_
                                  refine y_ret1 ?_
                                  refine y_ireturn rfl rfl rfl ?_
                                  first | (exfalso; omega) | (exact hQ (by (first | omega | (simp only [show ySeat x2 = x2 from if_neg (by omega), show ySeat x3 = x3 from if_neg (by omega)]; omega) | (simp only [show ySeat x2 = x2 from if_neg (by omega), show ySeat x3 = Int32.ofInt 8 from if_pos (by omega)]; omega) | (simp only [show ySeat x2 = Int32.ofInt 8 from if_pos (by omega), show ySeat x3 = x3 from if_neg (by omega)]; omega) | (simp only [show ySeat x2 = Int32.ofInt 8 from if_pos (by omega), show ySeat x3 = Int32.ofInt 8 from if_pos (by omega)]; omega))) _ _ hC hF (by first | rfl | (simp only [show ySeat x2 = x2 from if_neg (by omega), show ySeat x3 = x3 from if_neg (by omega)]; done) | (simp only [show ySeat x2 = x2 from if_neg (by omega), show ySeat x3 = Int32.ofInt 8 from if_pos (by omega)]; done) | (simp only [show ySeat x2 = Int32.ofInt 8 from if_pos (by omega), show ySeat x3 = x3 from if_neg (by omega)]; done) | (simp only [show ySeat x2 = Int32.ofInt 8 from if_pos (by omega), show ySeat x3 = Int32.ofInt 8 from if_pos (by omega)]; done)) (by first | (simp only [show ySeat x2 = x2 from if_neg (by omega), show ySeat x3 = x3 from if_neg (by omega)]; first | (rw [e353, e351, e349, e348]; done) | (rw [e353, e351, e349, e348]; rfl)) | (simp only [show ySeat x2 = x2 from if_neg (by omega), show ySeat x3 = Int32.ofInt 8 from if_pos (by omega)]; first | (rw [e353, e351, e349, e348]; done) | (rw [e353, e351, e349, e348]; rfl)) | (simp only [show ySeat x2 = Int32.ofInt 8 from if_pos (by omega), show ySeat x3 = x3 from if_neg (by omega)]; first | (rw [e353, e351, e349, e348]; done) | (rw [e353, e351, e349, e348]; rfl)) | (simp only [show ySeat x2 = Int32.ofInt 8 from if_pos (by omega), show ySeat x3 = Int32.ofInt 8 from if_pos (by omega)]; first | (rw [e353, e351, e349, e348]; done) | (rw [e353, e351, e349, e348]; rfl))))
                                · refine y_throw rfl rfl rfl ?_
                                  exact hE2 (by (first | omega | (simp only [show ySeat x2 = x2 from if_neg (by omega), show ySeat x3 = x3 from if_neg (by omega)]; omega) | (simp only [show ySeat x2 = x2 from if_neg (by omega), show ySeat x3 = Int32.ofInt 8 from if_pos (by omega)]; omega) | (simp only [show ySeat x2 = Int32.ofInt 8 from if_pos (by omega), show ySeat x3 = x3 from if_neg (by omega)]; omega) | (simp only [show ySeat x2 = Int32.ofInt 8 from if_pos (by omega), show ySeat x3 = Int32.ofInt 8 from if_pos (by omega)]; omega)))
                    · rw [yz_1] at h_276
                      rw [yz_999] at h_276
                      refine y_ret1 ?_
                      refine y_if_neF rfl (by decide) ?_
                      refine y_throw rfl rfl rfl ?_
                      exact hE1 (by (first | omega | (simp only [show ySeat x2 = x2 from if_neg (by omega), show ySeat x3 = x3 from if_neg (by omega)]; omega) | (simp only [show ySeat x2 = x2 from if_neg (by omega), show ySeat x3 = Int32.ofInt 8 from if_pos (by omega)]; omega) | (simp only [show ySeat x2 = Int32.ofInt 8 from if_pos (by omega), show ySeat x3 = x3 from if_neg (by omega)]; omega) | (simp only [show ySeat x2 = Int32.ofInt 8 from if_pos (by omega), show ySeat x3 = Int32.ofInt 8 from if_pos (by omega)]; omega)))
/-- a part of a profit -/
def yCrd (J : Nat → Nat → Int32) (v p a : Int32) : Nat → Nat → Int32 := (yAddC (upd2 J 73 (yAtI v p).toInt.toNat (J 73 (yAtI v p).toInt.toNat + a)) p a)
/-- the parts, one after another; and what is left -/
def yPpt (I : Nat → Nat → Int32) (v r : Int32) (p : Nat) : Int32 := yPor r.toInt64 (I 72 (v.toInt.toNat * 9 + p)).toInt64 (Int64.ofNat 100)
def yPrS (I0 : Nat → Nat → Int32) (v r : Int32) (J : Nat → Nat → Int32) (p : Nat) : Nat → Nat → Int32 := yCrd J v (Int32.ofInt (p : Int)) (yPpt I0 v r p)
def yPrL (I : Nat → Nat → Int32) (v r : Int32) : Nat → Int32
  | 0 => r
  | p + 1 => yPrL I v r p - yPpt I v r p
def yPrD (I : Nat → Nat → Int32) (v r : Int32) : Nat → Nat → Int32 := yCrd (yRec (yPrS I v r) I 8) v (Int32.ofInt 8) (yPrL I v r 8)
theorem sx_credit (hS : ySh n tg R) (hC : yCI I) {x1 x2 x3 : Int32} (hv0 : 0 ≤ x1.toInt) (hv1 : x1.toInt < 6) (hp0 : 0 ≤ x2.toInt) (hp1 : x2.toInt < 9) (hQ : ∀ I1, yCI I1 → yFr I I1 → I1 = yCrd I x1 x2 x3 → Q (.inl none) (n, tg, I1, R) c s) : yC 170 [.ref 34, .int x1, .int x2, .int x3] (n, tg, I, R) c s Q := by
  have hF : yFr I I := yFr.rf
  refine y_in (M := xm_X8_creditProfit) (ls := [some _, some _, some _, some _]) rfl rfl rfl ?_
  refine y_aload_n rfl rfl ?_
  refine y_getR rfl (ySh.t hS rfl) (ySh.n hS rfl) rfl rfl (ySh.r hS rfl) ?_
  refine y_iload_n rfl rfl ?_
  refine y_iload_n rfl rfl ?_
  refine y_iload_n rfl rfl ?_
  refine y_virt rfl rfl rfl rfl rfl (ySh.t hS rfl) (ySh.n hS rfl) ?_
  refine y_in (M := xm_X7_addGain) (ls := [some _, some _, some _, some _]) rfl rfl rfl ?_
  refine y_aload_n rfl rfl ?_
  refine y_getR rfl (ySh.t hS rfl) (ySh.n hS rfl) rfl rfl (ySh.r hS rfl) ?_
  refine y_aload_n rfl rfl ?_
  refine y_iload_n rfl rfl ?_
  refine y_iload_n rfl rfl ?_
  refine y_virt rfl rfl rfl rfl rfl (ySh.t hS rfl) (ySh.n hS rfl) ?_
  refine spx_at (by omega) (by omega) (by omega) (by omega) (fun hz1 => ?_)
  refine y_ret1 ?_
  refine y_dup2 rfl rfl rfl ?_
  refine y_ialoadv (J := I 73) rfl (ySh.t hS rfl) (ySh.n hS rfl) (by omega) (by omega) rfl ?_
  refine y_iload_n rfl rfl ?_
  refine y_iadd rfl ?_
  refine y_iastore rfl (ySh.t hS rfl) (ySh.n hS rfl) (Nat.le_of_ble_eq_true rfl) (by omega) (by omega) ?_
  refine y_nameI (fun I2 e2 => ?_)
  have hC : yCI I2 := by rw [e2]; exact hC
  have hF : yFr I I2 := by rw [e2]; exact hF.upd (by decide)
  refine y_return rfl ?_
  refine y_ret0 ?_
  refine y_aload_n rfl rfl ?_
  refine y_getR rfl (ySh.t hS rfl) (ySh.n hS rfl) rfl rfl (ySh.r hS rfl) ?_
  refine y_iload_n rfl rfl ?_
  refine y_iload_n rfl rfl ?_
  refine y_virt rfl rfl rfl rfl rfl (ySh.t hS rfl) (ySh.n hS rfl) ?_
  refine spx_add hS ?_
  refine y_ret0 ?_
  refine y_nameI (fun I3 e3 => ?_)
  have hC : yCI I3 := by rw [e3]; exact yCI.addC hC
  have hF : yFr I I3 := by rw [e3]; exact hF.addC
  refine y_return rfl ?_
  exact hQ _ hC hF (by rw [e3, e2]; rfl)
theorem lx_shareProfit {I0 : Nat → Nat → Int32} (hS : ySh n tg R) {x1 x2 : Int32} (hv0 : 0 ≤ x1.toInt) (hv1 : x1.toInt < 6) (hQ : ∀ I1, yCI I1 → yFr I0 I1 → I1 = yPrD I0 x1 x2 → Q (.inl none) (n, tg, I1, R) c s) : ∀ (m : Nat) (x3 x4 : Int32) (I : Nat → Nat → Int32), yCI I → yFr I0 I → I = yRec (yPrS I0 x1 x2) I0 x4.toInt.toNat → x3 = yPrL I0 x1 x2 x4.toInt.toNat → 0 ≤ x4.toInt → x4.toInt ≤ 8 → 8 - x4.toInt < m → yW xm_X8_shareProfit xc_X8_shareProfit_5 [some (.ref 34), some (.int x1), some (.int x2), some (.int x3), some (.int x4), none] [] (n, tg, I, R) c s Q := by
  intro m
  induction m with
  | zero => intro x3 x4 I hC hF0 hI i0 i1 i2 hm; exfalso; omega
  | succ m ih =>
    intro x3 x4 I hC hF0 hI i0 i1 i2 hm
    have hF : yFr I I := yFr.rf
    have h72 : I 72 = I0 72 := by
      rw [hI]
      exact yRec_keep fun J k_ _ _ => by unfold yPrS yCrd; rw [yAddC_row (by decide), upd2_row (by decide)]
    refine y_iload rfl rfl ?_
    refine y_bip rfl (by decide) ?_
    refine y_icmp_ge rfl j_X8_shareProfit_53 (fun h_1 => ?_) (fun h_2 => ?_)
    · rw [yz_8] at h_1
      refine y_aload_n rfl rfl ?_
      refine y_iload_n rfl rfl ?_
      refine y_bip rfl (by decide) ?_
      refine y_iload_n rfl rfl ?_
      refine y_virt rfl rfl rfl rfl rfl (ySh.t hS rfl) (ySh.n hS rfl) ?_
      refine sx_credit hS hC (by omega) (by omega) (by decide) (by decide) (fun J3 hC hF1 eJ3 => ?_)
      have hF : yFr I J3 := hF1
      refine y_ret0 ?_
      refine y_return rfl ?_
      exact hQ _ hC (hF0.trans hF) (by rw [eJ3]; unfold yPrD; rw [show (8 : Nat) = x4.toInt.toNat by omega, ← hI, ← i0])
    · rw [yz_8] at h_2
      refine y_iload_n rfl rfl ?_
      refine y_i2l rfl ?_
      refine y_aload_n rfl rfl ?_
      refine y_getR rfl (ySh.t hS rfl) (ySh.n hS rfl) rfl rfl (ySh.r hS rfl) ?_
      refine y_iload_n rfl rfl ?_
      refine y_iload rfl rfl ?_
      refine y_virt rfl rfl rfl rfl rfl (ySh.t hS rfl) (ySh.n hS rfl) ?_
      refine y_in (M := xm_X7_shareOf) (ls := [some _, some _, some _]) rfl rfl rfl ?_
      refine y_aload_n rfl rfl ?_
      refine y_getR rfl (ySh.t hS rfl) (ySh.n hS rfl) rfl rfl (ySh.r hS rfl) ?_
      refine y_aload_n rfl rfl ?_
      refine y_iload_n rfl rfl ?_
      refine y_iload_n rfl rfl ?_
      refine y_virt rfl rfl rfl rfl rfl (ySh.t hS rfl) (ySh.n hS rfl) ?_
      refine spx_at (by omega) (by omega) (by omega) (by omega) (fun hz4 => ?_)
      refine y_ret1 ?_
      refine y_ialoadv (J := I 72) rfl (ySh.t hS rfl) (ySh.n hS rfl) (by omega) (by omega) rfl ?_
      refine y_ireturn rfl rfl rfl ?_
      refine y_ret1 ?_
      refine y_i2l rfl ?_
      refine y_ldc2 rfl ?_
      refine y_static rfl rfl rfl rfl rfl ?_
      refine sp_portion ?_
      refine y_ret1 ?_
      refine y_istore (ls' := [some _, some _, some _, some _, some _, some _]) rfl rfl rfl ?_
      refine y_aload_n rfl rfl ?_
      refine y_iload_n rfl rfl ?_
      refine y_iload rfl rfl ?_
      refine y_iload rfl rfl ?_
      refine y_virt rfl rfl rfl rfl rfl (ySh.t hS rfl) (ySh.n hS rfl) ?_
      refine sx_credit hS hC (by omega) (by omega) (by omega) (by omega) (fun J5 hC hF1 eJ5 => ?_)
      have hF : yFr I J5 := hF1
      refine y_ret0 ?_
      refine y_iload_n rfl rfl ?_
      refine y_iload rfl rfl ?_
      refine y_isub rfl ?_
      refine y_istore_n (ls' := [some _, some _, some _, some _, some _, some _]) rfl rfl rfl ?_
      refine y_iinc (ls' := [some _, some _, some _, some _, some _, some _]) rfl rfl rfl rfl ?_
      refine y_goto rfl j_X8_shareProfit_5 ?_
      refine y_fgt (ls := [some _, some _, some _, some _, some _, none]) ⟨rfl, rfl, rfl, rfl, rfl, trivial⟩ ?_
      have hpt : yPor x2.toInt64 (I 72 (yAtI x1 x4).toInt.toNat).toInt64 (Int64.ofNat 100) = yPpt I0 x1 x2 x4.toInt.toNat := by
        unfold yPpt
        rw [h72, show (yAtI x1 x4).toInt.toNat = x1.toInt.toNat * 9 + x4.toInt.toNat by have := yAtI_v (v := x1) (p := x4) (by omega) (by omega) (by omega) (by omega); omega]
      exact ih _ _ _ hC (hF0.trans hF) (yRec_nx (by omega) hI (by rw [eJ5]; unfold yPrS; rw [xofn (by omega), ← hpt])) (by rw [yinc (by omega), show (x4.toInt + 1).toNat = x4.toInt.toNat + 1 by omega, i0]; show _ = yPrL I0 x1 x2 x4.toInt.toNat - yPpt I0 x1 x2 x4.toInt.toNat; rw [hpt]) (by first | omega | (rw [yinc (by omega)]; omega)) (by first | omega | (rw [yinc (by omega)]; omega)) (by first | omega | (rw [yinc (by omega)]; omega))
theorem sx_shareProfit (hS : ySh n tg R) (hC : yCI I) {x1 x2 : Int32} (hv0 : 0 ≤ x1.toInt) (hv1 : x1.toInt < 6) (hQ : ∀ I1, yCI I1 → yFr I I1 → I1 = yPrD I x1 x2 → Q (.inl none) (n, tg, I1, R) c s) : yC 169 [.ref 34, .int x1, .int x2] (n, tg, I, R) c s Q := by
  refine y_in (M := xm_X8_shareProfit) (ls := [some _, some _, some _, _, _, _]) rfl rfl rfl ?_
  refine y_iload_n rfl rfl ?_
  refine y_istore_n (ls' := [some _, some _, some _, some _, _, _]) rfl rfl rfl ?_
  refine y_iconst rfl ?_
  refine y_istore (ls' := [some _, some _, some _, some _, some _, _]) rfl rfl rfl ?_
  exact lx_shareProfit hS hv0 hv1 hQ 100 _ _ _ hC yFr.rf rfl rfl (by decide) (by decide) (by decide)
/-- steps on anything -/
def yRecP {α : Type} (S : α → Nat → α) (a : α) : Nat → α
  | 0 => a
  | k + 1 => S (yRecP S a k) k
theorem yRecP_nx {α : Type} {S : α → Nat → α} {a b b' : α} {x : Int32} (h0 : 0 ≤ x.toInt ∧ x.toInt < 2147483647) (hb : b = yRecP S a x.toInt.toNat) (hs : b' = S b x.toInt.toNat) : b' = yRecP S a (x + Int32.ofInt 1).toInt.toNat := by
  rw [yinc h0.2, show (x.toInt + 1).toNat = x.toInt.toNat + 1 by omega, hs, hb]; rfl
def yBlS (v b a : Int32) (J : Nat → Nat → Int32) (p : Nat) : Nat → Nat → Int32 := upd2 J 71 (yAtI v (Int32.ofInt (p : Int))).toInt.toNat (J 71 (yAtI v (Int32.ofInt (p : Int))).toInt.toNat - yPor b.toInt64 (J 71 (yAtI v (Int32.ofInt (p : Int))).toInt.toNat).toInt64 a.toInt64)
def yBlL (I : Nat → Nat → Int32) (v b a : Int32) : Nat → Int32
  | 0 => b
  | p + 1 => yBlL I v b a p - yPor b.toInt64 (yRec (yBlS v b a) I p 71 (yAtI v (Int32.ofInt (p : Int))).toInt.toNat).toInt64 a.toInt64
def yBlB (v : Int32) (q : (Nat → Nat → Int32) × Int32) (p : Nat) : (Nat → Nat → Int32) × Int32 := if 0 < q.2.toInt ∧ 0 < (q.1 71 (yAtI v (Int32.ofInt (p : Int))).toInt.toNat).toInt then (upd2 q.1 71 (yAtI v (Int32.ofInt (p : Int))).toInt.toNat (q.1 71 (yAtI v (Int32.ofInt (p : Int))).toInt.toNat - Int32.ofInt 1), q.2 + Int32.ofInt (-1)) else q
/-- what is left of a loss: all of it, borne, before the round and behind it -/
def yBlD (I : Nat → Nat → Int32) (v loss : Int32) : Nat → Nat → Int32 := (yRecP (yBlB v) (yRec (yBlS v (yMnn loss (yVs I 71 v)) (yVs I 71 v)) I 9, yBlL I v (yMnn loss (yVs I 71 v)) (yVs I 71 v) 9) 9).1
theorem lx_lossB {I0 : Nat → Nat → Int32} (hS : ySh n tg R) {x1 x2 x3 x4 : Int32} (hv0 : 0 ≤ x1.toInt) (hv1 : x1.toInt < 6) {Z0 : (Nat → Nat → Int32) × Int32} (hQ : ∀ I1, yCI I1 → yFr I0 I1 → I1 = (yRecP (yBlB x1) Z0 9).1 → Q (.inl none) (n, tg, I1, R) c s) : ∀ (m : Nat) (x5 x6 : Int32) (I : Nat → Nat → Int32), yCI I → yFr I0 I → (I, x5) = yRecP (yBlB x1) Z0 x6.toInt.toNat → 0 ≤ x6.toInt → x6.toInt ≤ 9 → 9 - x6.toInt < m → yW xm_X7_bearLoss xc_X7_bearLoss_78 [some (.ref 69), some (.int x1), some (.int x2), some (.int x3), some (.int x4), some (.int x5), some (.int x6), none] [] (n, tg, I, R) c s Q := by
  intro m
  induction m with
  | zero => intro x5 x6 I hC hF0 hI i1 i2 hm; exfalso; omega
  | succ m ih =>
    intro x5 x6 I hC hF0 hI i1 i2 hm
    have hF : yFr I I := yFr.rf
    refine y_iload rfl rfl ?_
    refine y_bip rfl (by decide) ?_
    refine y_icmp_ge rfl j_X7_bearLoss_125 (fun h_1 => ?_) (fun h_2 => ?_)
    · rw [yz_9] at h_1
      refine y_return rfl ?_
      exact hQ _ hC hF0 (by rw [show (9 : Nat) = x6.toInt.toNat by omega, ← hI])
    · rw [yz_9] at h_2
      refine y_iload rfl rfl ?_
      refine y_if_le rfl j_X7_bearLoss_119 (fun h_3 => ?_) (fun h_4 => ?_)
      · refine y_iinc (ls' := [some _, some _, some _, some _, some _, some _, some _, _]) rfl rfl rfl rfl ?_
        refine y_goto rfl j_X7_bearLoss_78 ?_
        exact ih _ _ _ hC (hF0.trans hF) (yRecP_nx (by omega) hI (by unfold yBlB; rw [xofn (by omega)]; show _ = (if 0 < x5.toInt ∧ 0 < (I 71 (yAtI x1 x6).toInt.toNat).toInt then _ else _); exact (if_neg (by omega)).symm)) (by first | omega | (rw [yinc (by omega)]; omega)) (by first | omega | (rw [yinc (by omega)]; omega)) (by first | omega | (rw [yinc (by omega)]; omega))
      · refine y_aload_n rfl rfl ?_
        refine y_iload_n rfl rfl ?_
        refine y_iload rfl rfl ?_
        refine y_virt rfl rfl rfl rfl rfl (ySh.t hS rfl) (ySh.n hS rfl) ?_
        refine y_in (M := xm_X7_capitalOf) (ls := [some _, some _, some _]) rfl rfl rfl ?_
        refine y_aload_n rfl rfl ?_
        refine y_getR rfl (ySh.t hS rfl) (ySh.n hS rfl) rfl rfl (ySh.r hS rfl) ?_
        refine y_aload_n rfl rfl ?_
        refine y_iload_n rfl rfl ?_
        refine y_iload_n rfl rfl ?_
        refine y_virt rfl rfl rfl rfl rfl (ySh.t hS rfl) (ySh.n hS rfl) ?_
        refine spx_at (by omega) (by omega) (by omega) (by omega) (fun hz5 => ?_)
        refine y_ret1 ?_
        refine y_ialoadv (J := I 71) rfl (ySh.t hS rfl) (ySh.n hS rfl) (by omega) (by omega) rfl ?_
        refine y_ireturn rfl rfl rfl ?_
        refine y_ret1 ?_
        refine y_if_le rfl j_X7_bearLoss_119 (fun h_6 => ?_) (fun h_7 => ?_)
        · refine y_iinc (ls' := [some _, some _, some _, some _, some _, some _, some _, _]) rfl rfl rfl rfl ?_
          refine y_goto rfl j_X7_bearLoss_78 ?_
          exact ih _ _ _ hC (hF0.trans hF) (yRecP_nx (by omega) hI (by unfold yBlB; rw [xofn (by omega)]; show _ = (if 0 < x5.toInt ∧ 0 < (I 71 (yAtI x1 x6).toInt.toNat).toInt then _ else _); exact (if_neg (by omega)).symm)) (by first | omega | (rw [yinc (by omega)]; omega)) (by first | omega | (rw [yinc (by omega)]; omega)) (by first | omega | (rw [yinc (by omega)]; omega))
        · refine y_aload_n rfl rfl ?_
          refine y_getR rfl (ySh.t hS rfl) (ySh.n hS rfl) rfl rfl (ySh.r hS rfl) ?_
          refine y_aload_n rfl rfl ?_
          refine y_iload_n rfl rfl ?_
          refine y_iload rfl rfl ?_
          refine y_virt rfl rfl rfl rfl rfl (ySh.t hS rfl) (ySh.n hS rfl) ?_
          refine spx_at (by omega) (by omega) (by omega) (by omega) (fun hz8 => ?_)
          refine y_ret1 ?_
          refine y_dup2 rfl rfl rfl ?_
          refine y_ialoadv (J := I 71) rfl (ySh.t hS rfl) (ySh.n hS rfl) (by omega) (by omega) rfl ?_
          refine y_iconst rfl ?_
          refine y_isub rfl ?_
          refine y_iastore rfl (ySh.t hS rfl) (ySh.n hS rfl) (Nat.le_of_ble_eq_true rfl) (by omega) (by omega) ?_
          refine y_nameI (fun I9 e9 => ?_)
          have hC : yCI I9 := by rw [e9]; exact hC
          have hF : yFr I I9 := by rw [e9]; exact hF.upd (by decide)
          refine y_iinc (ls' := [some _, some _, some _, some _, some _, some _, some _, _]) rfl rfl rfl rfl ?_
          refine y_iinc (ls' := [some _, some _, some _, some _, some _, some _, some _, _]) rfl rfl rfl rfl ?_
          refine y_goto rfl j_X7_bearLoss_78 ?_
          exact ih _ _ _ hC (hF0.trans hF) (yRecP_nx (by omega) hI (by unfold yBlB; rw [xofn (by omega)]; show _ = (if 0 < x5.toInt ∧ 0 < (I 71 (yAtI x1 x6).toInt.toNat).toInt then _ else _); rw [if_pos ⟨by omega, by omega⟩, e9])) (by first | omega | (rw [yinc (by omega)]; omega)) (by first | omega | (rw [yinc (by omega)]; omega)) (by first | omega | (rw [yinc (by omega)]; omega))
theorem lx_lossA {I0 : Nat → Nat → Int32} (hS : ySh n tg R) {x1 x2 x3 x4 : Int32} (hv0 : 0 ≤ x1.toInt) (hv1 : x1.toInt < 6) (hQ : ∀ I1, yCI I1 → yFr I0 I1 → I1 = (yRecP (yBlB x1) (yRec (yBlS x1 x4 x3) I0 9, yBlL I0 x1 x4 x3 9) 9).1 → Q (.inl none) (n, tg, I1, R) c s) : ∀ (m : Nat) (x5 x6 : Int32) (I : Nat → Nat → Int32), yCI I → yFr I0 I → I = yRec (yBlS x1 x4 x3) I0 x6.toInt.toNat → x5 = yBlL I0 x1 x4 x3 x6.toInt.toNat → 0 ≤ x6.toInt → x6.toInt ≤ 9 → 9 - x6.toInt < m → yW xm_X7_bearLoss xc_X7_bearLoss_20 [some (.ref 69), some (.int x1), some (.int x2), some (.int x3), some (.int x4), some (.int x5), some (.int x6), none] [] (n, tg, I, R) c s Q := by
  intro m
  induction m with
  | zero => intro x5 x6 I hC hF0 hI i0 i1 i2 hm; exfalso; omega
  | succ m ih =>
    intro x5 x6 I hC hF0 hI i0 i1 i2 hm
    have hF : yFr I I := yFr.rf
    refine y_iload rfl rfl ?_
    refine y_bip rfl (by decide) ?_
    refine y_icmp_ge rfl j_X7_bearLoss_75 (fun h_1 => ?_) (fun h_2 => ?_)
    · rw [yz_9] at h_1
      refine y_iconst rfl ?_
      refine y_istore (ls' := [some _, some _, some _, some _, some _, some _, some _, _]) rfl rfl rfl ?_
      exact lx_lossB (x2 := x2) (x3 := x3) (x4 := x4) (Z0 := (yRec (yBlS x1 x4 x3) I0 9, yBlL I0 x1 x4 x3 9)) hS hv0 hv1 hQ 100 _ _ _ hC hF0 (by show (_, _) = (yRec (yBlS x1 x4 x3) I0 9, yBlL I0 x1 x4 x3 9); rw [show (9 : Nat) = x6.toInt.toNat by omega, ← hI, ← i0]) (by decide) (by decide) (by decide)
    · rw [yz_9] at h_2
      refine y_iload rfl rfl ?_
      refine y_i2l rfl ?_
      refine y_aload_n rfl rfl ?_
      refine y_iload_n rfl rfl ?_
      refine y_iload rfl rfl ?_
      refine y_virt rfl rfl rfl rfl rfl (ySh.t hS rfl) (ySh.n hS rfl) ?_
      refine y_in (M := xm_X7_capitalOf) (ls := [some _, some _, some _]) rfl rfl rfl ?_
      refine y_aload_n rfl rfl ?_
      refine y_getR rfl (ySh.t hS rfl) (ySh.n hS rfl) rfl rfl (ySh.r hS rfl) ?_
      refine y_aload_n rfl rfl ?_
      refine y_iload_n rfl rfl ?_
      refine y_iload_n rfl rfl ?_
      refine y_virt rfl rfl rfl rfl rfl (ySh.t hS rfl) (ySh.n hS rfl) ?_
      refine spx_at (by omega) (by omega) (by omega) (by omega) (fun hz3 => ?_)
      refine y_ret1 ?_
      refine y_ialoadv (J := I 71) rfl (ySh.t hS rfl) (ySh.n hS rfl) (by omega) (by omega) rfl ?_
      refine y_ireturn rfl rfl rfl ?_
      refine y_ret1 ?_
      refine y_i2l rfl ?_
      refine y_iload_n rfl rfl ?_
      refine y_i2l rfl ?_
      refine y_static rfl rfl rfl rfl rfl ?_
      refine sp_portion ?_
      refine y_ret1 ?_
      refine y_istore (ls' := [some _, some _, some _, some _, some _, some _, some _, some _]) rfl rfl rfl ?_
      refine y_aload_n rfl rfl ?_
      refine y_getR rfl (ySh.t hS rfl) (ySh.n hS rfl) rfl rfl (ySh.r hS rfl) ?_
      refine y_aload_n rfl rfl ?_
      refine y_iload_n rfl rfl ?_
      refine y_iload rfl rfl ?_
      refine y_virt rfl rfl rfl rfl rfl (ySh.t hS rfl) (ySh.n hS rfl) ?_
      refine spx_at (by omega) (by omega) (by omega) (by omega) (fun hz4 => ?_)
      refine y_ret1 ?_
      refine y_dup2 rfl rfl rfl ?_
      refine y_ialoadv (J := I 71) rfl (ySh.t hS rfl) (ySh.n hS rfl) (by omega) (by omega) rfl ?_
      refine y_iload rfl rfl ?_
      refine y_isub rfl ?_
      refine y_iastore rfl (ySh.t hS rfl) (ySh.n hS rfl) (Nat.le_of_ble_eq_true rfl) (by omega) (by omega) ?_
      refine y_nameI (fun I5 e5 => ?_)
      have hC : yCI I5 := by rw [e5]; exact hC
      have hF : yFr I I5 := by rw [e5]; exact hF.upd (by decide)
      refine y_iload rfl rfl ?_
      refine y_iload rfl rfl ?_
      refine y_isub rfl ?_
      refine y_istore (ls' := [some _, some _, some _, some _, some _, some _, some _, some _]) rfl rfl rfl ?_
      refine y_iinc (ls' := [some _, some _, some _, some _, some _, some _, some _, some _]) rfl rfl rfl rfl ?_
      refine y_goto rfl j_X7_bearLoss_20 ?_
      refine y_fgt (ls := [some _, some _, some _, some _, some _, some _, some _, none]) ⟨rfl, rfl, rfl, rfl, rfl, rfl, rfl, trivial⟩ ?_
      exact ih _ _ _ hC (hF0.trans hF) (yRec_nx (by omega) hI (by rw [e5]; unfold yBlS; rw [xofn (by omega)])) (by rw [yinc (by omega), show (x6.toInt + 1).toNat = x6.toInt.toNat + 1 by omega, i0]; show _ = yBlL I0 x1 x4 x3 x6.toInt.toNat - _; rw [← hI, xofn (by omega)]) (by first | omega | (rw [yinc (by omega)]; omega)) (by first | omega | (rw [yinc (by omega)]; omega)) (by first | omega | (rw [yinc (by omega)]; omega))
theorem sx_loss (hS : ySh n tg R) (hC : yCI I) {x1 x2 : Int32} (hv0 : 0 ≤ x1.toInt) (hv1 : x1.toInt < 6) (hQ : ∀ I1, yCI I1 → yFr I I1 → I1 = yBlD I x1 x2 → Q (.inl none) (n, tg, I1, R) c s) : yC 115 [.ref 69, .int x1, .int x2] (n, tg, I, R) c s Q := by
  refine y_in (M := xm_X7_bearLoss) (ls := [some _, some _, some _, _, _, _, _, _]) rfl rfl rfl ?_
  refine y_aload_n rfl rfl ?_
  refine y_iload_n rfl rfl ?_
  refine y_virt rfl rfl rfl rfl rfl (ySh.t hS rfl) (ySh.n hS rfl) ?_
  refine sx_capitals hS (by omega) (by omega) (fun v_1 hv_1 => ?_)
  subst hv_1
  refine y_ret1 ?_
  refine y_istore_n (ls' := [some _, some _, some _, some _, _, _, _, _]) rfl rfl rfl ?_
  refine y_iload_n rfl rfl ?_
  refine y_iload_n rfl rfl ?_
  refine y_min rfl rfl ?_
  refine y_istore (ls' := [some _, some _, some _, some _, some _, _, _, _]) rfl rfl rfl ?_
  refine y_iload rfl rfl ?_
  refine y_istore (ls' := [some _, some _, some _, some _, some _, some _, _, _]) rfl rfl rfl ?_
  refine y_iconst rfl ?_
  refine y_istore (ls' := [some _, some _, some _, some _, some _, some _, some _, _]) rfl rfl rfl ?_
  exact lx_lossA hS hv0 hv1 hQ 100 _ _ _ hC yFr.rf rfl rfl (by decide) (by decide) (by decide)
theorem g_result (hS : ySh n tg R) (hC : yCI I) {x1 x2 x3 : Int32} (hE0 : ¬ ((0 ≤ x1.toInt ∧ x1.toInt < (I 69 0).toInt) ∧ (x3.toInt = -2 ∨ (x3.toInt = -1 ∨ 0 ≤ x3.toInt ∧ x3.toInt < (I 38 0).toInt))) → Q (.inr "java/lang/IndexOutOfBoundsException") (n, tg, I, R) (c + 1) (s + 6)) (hE1 : ((0 ≤ x1.toInt ∧ x1.toInt < (I 69 0).toInt) ∧ (x3.toInt = -2 ∨ (x3.toInt = -1 ∨ 0 ≤ x3.toInt ∧ x3.toInt < (I 38 0).toInt))) ∧ ¬ (-999 ≤ x2.toInt ∧ x2.toInt ≤ 999) → Q (.inr "java/lang/IllegalArgumentException") (n, tg, I, R) (c + 1) (s + 6)) (hE2 : ((0 ≤ x1.toInt ∧ x1.toInt < (I 69 0).toInt) ∧ (x3.toInt = -2 ∨ (x3.toInt = -1 ∨ 0 ≤ x3.toInt ∧ x3.toInt < (I 38 0).toInt))) ∧ (-999 ≤ x2.toInt ∧ x2.toInt ≤ 999) ∧ ¬ (x3.toInt = -2 ∨ ¬ (I 70 (yAtI x1 (ySeat x3)).toInt.toNat).toInt = 0) → Q (.inr "java/lang/IllegalStateException") (n, tg, I, R) (c + 1) (s + 6)) (hQa : ((0 ≤ x1.toInt ∧ x1.toInt < (I 69 0).toInt) ∧ (x3.toInt = -2 ∨ (x3.toInt = -1 ∨ 0 ≤ x3.toInt ∧ x3.toInt < (I 38 0).toInt))) ∧ (-999 ≤ x2.toInt ∧ x2.toInt ≤ 999) ∧ (x3.toInt = -2 ∨ ¬ (I 70 (yAtI x1 (ySeat x3)).toInt.toNat).toInt = 0) ∧ 0 ≤ x2.toInt → ∀ (v : Int32) (I1 : Nat → Nat → Int32), yCI I1 → yFt I I1 → v = yVs I1 71 x1 → I1 = yPrD I x1 x2 → Q (.inl (some (.int v))) (n, tg, I1, R) c s) (hQb : ((0 ≤ x1.toInt ∧ x1.toInt < (I 69 0).toInt) ∧ (x3.toInt = -2 ∨ (x3.toInt = -1 ∨ 0 ≤ x3.toInt ∧ x3.toInt < (I 38 0).toInt))) ∧ (-999 ≤ x2.toInt ∧ x2.toInt ≤ 999) ∧ (x3.toInt = -2 ∨ ¬ (I 70 (yAtI x1 (ySeat x3)).toInt.toNat).toInt = 0) ∧ x2.toInt < 0 ∧ x3.toInt = -2 → ∀ (v : Int32) (I1 : Nat → Nat → Int32), yCI I1 → yFt I I1 → v = yVs I1 71 x1 → I1 = yBlD I x1 (-x2) → Q (.inl (some (.int v))) (n, tg, I1, R) c s) (hQc : ((0 ≤ x1.toInt ∧ x1.toInt < (I 69 0).toInt) ∧ (x3.toInt = -2 ∨ (x3.toInt = -1 ∨ 0 ≤ x3.toInt ∧ x3.toInt < (I 38 0).toInt))) ∧ (-999 ≤ x2.toInt ∧ x2.toInt ≤ 999) ∧ (x3.toInt = -2 ∨ ¬ (I 70 (yAtI x1 (ySeat x3)).toInt.toNat).toInt = 0) ∧ x2.toInt < 0 ∧ ¬ x3.toInt = -2 → ∀ (v : Int32) (I1 : Nat → Nat → Int32), yCI I1 → yFt I I1 → v = yVs I1 71 x1 → I1 = yAddC I (ySeat x3) x2 → Q (.inl (some (.int v))) (n, tg, I1, R) c s) : yC 134 [.ref 34, .int x1, .int x2, .int x3] (n, tg, I, R) c s Q := by
  have hF : yFt I I := yFt.rf
  refine y_in (M := xm_X8_result) (ls := [some _, some _, some _, some _]) rfl rfl rfl ?_
  refine y_aload_n rfl rfl ?_
  refine y_getR rfl (ySh.t hS rfl) (ySh.n hS rfl) rfl rfl (ySh.r hS rfl) ?_
  refine y_iload_n rfl rfl ?_
  refine y_virt rfl rfl rfl rfl rfl (ySh.t hS rfl) (ySh.n hS rfl) ?_
  refine y_in (M := xm_X7_has) (ls := [some _, some _]) rfl rfl rfl ?_
  refine y_iload_n rfl rfl ?_
  refine y_if_lt rfl j_X7_has_16 (fun h_1 => ?_) (fun h_2 => ?_)
  · refine y_iconst rfl ?_
    refine y_ireturn rfl rfl rfl ?_
    refine y_ret1 ?_
    refine y_if_eqT rfl j_X8_result_25 (by decide) ?_
    refine y_throw rfl rfl rfl ?_
    exact hE0 (by (first | omega | (simp only [show ySeat x3 = x3 from if_neg (by omega)]; omega) | (simp only [show ySeat x3 = Int32.ofInt 8 from if_pos (by omega)]; omega)))
  · refine y_iload_n rfl rfl ?_
    refine y_aload_n rfl rfl ?_
    refine y_getIv (v := I 69 0) rfl (ySh.t hS rfl) (ySh.n hS rfl) rfl rfl rfl ?_
    refine y_icmp_ge rfl j_X7_has_16 (fun h_3 => ?_) (fun h_4 => ?_)
    · refine y_iconst rfl ?_
      refine y_ireturn rfl rfl rfl ?_
      refine y_ret1 ?_
      refine y_if_eqT rfl j_X8_result_25 (by decide) ?_
      refine y_throw rfl rfl rfl ?_
      exact hE0 (by (first | omega | (simp only [show ySeat x3 = x3 from if_neg (by omega)]; omega) | (simp only [show ySeat x3 = Int32.ofInt 8 from if_pos (by omega)]; omega)))
    · refine y_iconst rfl ?_
      refine y_goto rfl j_X7_has_17 ?_
      refine y_ireturn rfl rfl rfl ?_
      refine y_ret1 ?_
      refine y_if_eqF rfl (by decide) ?_
      refine y_iload_n rfl rfl ?_
      refine y_bip rfl (by decide) ?_
      refine y_icmp_eq rfl j_X8_result_36 (fun h_5 => ?_) (fun h_6 => ?_)
      · rw [yz_m2] at h_5
        refine y_iload_n rfl rfl ?_
        refine y_sip rfl (by decide) ?_
        refine y_sip rfl (by decide) ?_
        refine y_static rfl rfl rfl rfl rfl ?_
        refine s_isIn (fun h_7 h_8 => ?_) (fun h_9 => ?_)
        · rw [yz_m999] at h_7
          rw [yz_999] at h_8
          refine y_ret1 ?_
          refine y_if_neT rfl j_X8_result_60 (by decide) ?_
          refine y_iload_n rfl rfl ?_
          refine y_bip rfl (by decide) ?_
          refine y_icmp_eq rfl j_X8_result_92 (fun h_10 => ?_) (fun h_11 => ?_)
          · rw [yz_m2] at h_10
            refine y_iload_n rfl rfl ?_
            refine y_if_lt rfl j_X8_result_105 (fun h_12 => ?_) (fun h_13 => ?_)
            · refine y_iload_n rfl rfl ?_
              refine y_bip rfl (by decide) ?_
              refine y_icmp_ne rfl j_X8_result_124 (fun h_14 => ?_) (fun h_15 => ?_)
              · rw [yz_m2] at h_14
                refine y_aload_n rfl rfl ?_
                refine y_getR rfl (ySh.t hS rfl) (ySh.n hS rfl) rfl rfl (ySh.r hS rfl) ?_
                refine y_iload_n rfl rfl ?_
                refine y_static rfl rfl rfl rfl rfl ?_
                refine y_in (M := xm_X8_placeOf) (ls := [some _]) rfl rfl rfl ?_
                refine y_iload_n rfl rfl ?_
                refine y_iconst rfl ?_
                refine y_icmp_ne rfl j_X8_placeOf_10 (fun h_16 => ?_) (fun h_17 => ?_)
                · rw [yz_m1] at h_16
                  refine y_iload_n rfl rfl ?_
                  refine y_ireturn rfl rfl rfl ?_
                  refine y_ret1 ?_
                  refine y_iload_n rfl rfl ?_
                  refine y_virt rfl rfl rfl rfl rfl (ySh.t hS rfl) (ySh.n hS rfl) ?_
                  refine spx_add hS ?_
                  refine y_ret0 ?_
                  refine y_nameI (fun I18 e18 => ?_)
                  have hC : yCI I18 := by rw [e18]; exact yCI.addC hC
                  have hF : yFt I I18 := by rw [e18]; exact hF.addC
                  refine y_aload_n rfl rfl ?_
                  refine y_getR rfl (ySh.t hS rfl) (ySh.n hS rfl) rfl rfl (ySh.r hS rfl) ?_
                  refine y_iload_n rfl rfl ?_
                  refine y_virt rfl rfl rfl rfl rfl (ySh.t hS rfl) (ySh.n hS rfl) ?_
                  refine sx_capitals hS (by omega) (by omega) (fun v_19 hv_19 => ?_)
                  subst hv_19
                  refine y_ret1 ?_
                  refine y_ireturn rfl rfl rfl ?_
                  first | (exfalso; omega) | (exact hQc (by (first | omega | (simp only [show ySeat x3 = x3 from if_neg (by omega)]; omega) | (simp only [show ySeat x3 = Int32.ofInt 8 from if_pos (by omega)]; omega))) _ _ hC hF rfl (by first | (simp only [show ySeat x3 = x3 from if_neg (by omega)]; first | (rw [e18]; done) | (rw [e18]; rfl)) | (simp only [show ySeat x3 = Int32.ofInt 8 from if_pos (by omega)]; first | (rw [e18]; done) | (rw [e18]; rfl))))
                · rw [yz_m1] at h_17
                  refine y_bip rfl (by decide) ?_
                  refine y_goto rfl j_X8_placeOf_11 ?_
                  refine y_ireturn rfl rfl rfl ?_
                  refine y_ret1 ?_
                  refine y_iload_n rfl rfl ?_
                  refine y_virt rfl rfl rfl rfl rfl (ySh.t hS rfl) (ySh.n hS rfl) ?_
                  refine spx_add hS ?_
                  refine y_ret0 ?_
                  refine y_nameI (fun I20 e20 => ?_)
                  have hC : yCI I20 := by rw [e20]; exact yCI.addC hC
                  have hF : yFt I I20 := by rw [e20]; exact hF.addC
                  refine y_aload_n rfl rfl ?_
                  refine y_getR rfl (ySh.t hS rfl) (ySh.n hS rfl) rfl rfl (ySh.r hS rfl) ?_
                  refine y_iload_n rfl rfl ?_
                  refine y_virt rfl rfl rfl rfl rfl (ySh.t hS rfl) (ySh.n hS rfl) ?_
                  refine sx_capitals hS (by omega) (by omega) (fun v_21 hv_21 => ?_)
                  subst hv_21
                  refine y_ret1 ?_
                  refine y_ireturn rfl rfl rfl ?_
                  first | (exfalso; omega) | (exact hQc (by (first | omega | (simp only [show ySeat x3 = x3 from if_neg (by omega)]; omega) | (simp only [show ySeat x3 = Int32.ofInt 8 from if_pos (by omega)]; omega))) _ _ hC hF rfl (by first | (simp only [show ySeat x3 = x3 from if_neg (by omega)]; first | (rw [e20]; done) | (rw [e20]; rfl)) | (simp only [show ySeat x3 = Int32.ofInt 8 from if_pos (by omega)]; first | (rw [e20]; done) | (rw [e20]; rfl))))
              · rw [yz_m2] at h_15
                refine y_aload_n rfl rfl ?_
                refine y_getR rfl (ySh.t hS rfl) (ySh.n hS rfl) rfl rfl (ySh.r hS rfl) ?_
                refine y_iload_n rfl rfl ?_
                refine y_iload_n rfl rfl ?_
                refine y_ineg rfl ?_
                refine y_virt rfl rfl rfl rfl rfl (ySh.t hS rfl) (ySh.n hS rfl) ?_
                refine sx_loss hS hC (by omega) (by omega) (fun J22 hC hF1 eJ22 => ?_)
                have hF : yFt I J22 := hF.trans hF1.t
                refine y_ret0 ?_
                refine y_goto rfl j_X8_result_136 ?_
                refine y_aload_n rfl rfl ?_
                refine y_getR rfl (ySh.t hS rfl) (ySh.n hS rfl) rfl rfl (ySh.r hS rfl) ?_
                refine y_iload_n rfl rfl ?_
                refine y_virt rfl rfl rfl rfl rfl (ySh.t hS rfl) (ySh.n hS rfl) ?_
                refine sx_capitals hS (by omega) (by omega) (fun v_23 hv_23 => ?_)
                subst hv_23
                refine y_ret1 ?_
                refine y_ireturn rfl rfl rfl ?_
                first | (exfalso; omega) | (exact hQb (by (first | omega | (simp only [show ySeat x3 = x3 from if_neg (by omega)]; omega) | (simp only [show ySeat x3 = Int32.ofInt 8 from if_pos (by omega)]; omega))) _ _ hC hF rfl eJ22)
            · refine y_aload_n rfl rfl ?_
              refine y_iload_n rfl rfl ?_
              refine y_iload_n rfl rfl ?_
              refine y_virt rfl rfl rfl rfl rfl (ySh.t hS rfl) (ySh.n hS rfl) ?_
              refine sx_shareProfit hS hC (by omega) (by omega) (fun J24 hC hF1 eJ24 => ?_)
              have hF : yFt I J24 := hF.trans hF1.t
              refine y_ret0 ?_
              refine y_goto rfl j_X8_result_136 ?_
              refine y_aload_n rfl rfl ?_
              refine y_getR rfl (ySh.t hS rfl) (ySh.n hS rfl) rfl rfl (ySh.r hS rfl) ?_
              refine y_iload_n rfl rfl ?_
              refine y_virt rfl rfl rfl rfl rfl (ySh.t hS rfl) (ySh.n hS rfl) ?_
              refine sx_capitals hS (by omega) (by omega) (fun v_25 hv_25 => ?_)
              subst hv_25
              refine y_ret1 ?_
              refine y_ireturn rfl rfl rfl ?_
              first | (exfalso; omega) | (exact hQa (by (first | omega | (simp only [show ySeat x3 = x3 from if_neg (by omega)]; omega) | (simp only [show ySeat x3 = Int32.ofInt 8 from if_pos (by omega)]; omega))) _ _ hC hF rfl (by rw [eJ24]))
          · rw [yz_m2] at h_11
            refine y_aload_n rfl rfl ?_
            refine y_getR rfl (ySh.t hS rfl) (ySh.n hS rfl) rfl rfl (ySh.r hS rfl) ?_
            refine y_iload_n rfl rfl ?_
            refine y_iload_n rfl rfl ?_
            refine y_static rfl rfl rfl rfl rfl ?_
            refine y_in (M := xm_X8_placeOf) (ls := [some _]) rfl rfl rfl ?_
            refine y_iload_n rfl rfl ?_
            refine y_iconst rfl ?_
            refine y_icmp_ne rfl j_X8_placeOf_10 (fun h_26 => ?_) (fun h_27 => ?_)
            · rw [yz_m1] at h_26
              refine y_iload_n rfl rfl ?_
              refine y_ireturn rfl rfl rfl ?_
              refine y_ret1 ?_
              refine y_virt rfl rfl rfl rfl rfl (ySh.t hS rfl) (ySh.n hS rfl) ?_
              refine y_in (M := xm_X7_isPartner) (ls := [some _, some _, some _]) rfl rfl rfl ?_
              refine y_aload_n rfl rfl ?_
              refine y_getR rfl (ySh.t hS rfl) (ySh.n hS rfl) rfl rfl (ySh.r hS rfl) ?_
              refine y_aload_n rfl rfl ?_
              refine y_iload_n rfl rfl ?_
              refine y_iload_n rfl rfl ?_
              refine y_virt rfl rfl rfl rfl rfl (ySh.t hS rfl) (ySh.n hS rfl) ?_
              refine spx_at (by omega) (by omega) (by omega) (by omega) (fun hz28 => ?_)
              refine y_ret1 ?_
              refine y_baloadv (J := I 70) rfl (ySh.t hS rfl) rfl (ySh.n hS rfl) (by omega) (by omega) rfl ?_
              refine y_ireturn rfl rfl (xfit_z (hC.p _)) ?_
              refine y_ret1 ?_
              refine y_if_ne rfl j_X8_result_92 (fun h_29 => ?_) (fun h_30 => ?_)
              · refine y_iload_n rfl rfl ?_
                refine y_if_lt rfl j_X8_result_105 (fun h_31 => ?_) (fun h_32 => ?_)
                · refine y_iload_n rfl rfl ?_
                  refine y_bip rfl (by decide) ?_
                  refine y_icmp_ne rfl j_X8_result_124 (fun h_33 => ?_) (fun h_34 => ?_)
                  · rw [yz_m2] at h_33
                    refine y_aload_n rfl rfl ?_
                    refine y_getR rfl (ySh.t hS rfl) (ySh.n hS rfl) rfl rfl (ySh.r hS rfl) ?_
                    refine y_iload_n rfl rfl ?_
                    refine y_static rfl rfl rfl rfl rfl ?_
                    refine y_in (M := xm_X8_placeOf) (ls := [some _]) rfl rfl rfl ?_
                    refine y_iload_n rfl rfl ?_
                    refine y_iconst rfl ?_
                    refine y_icmp_ne rfl j_X8_placeOf_10 (fun h_35 => ?_) (fun h_36 => ?_)
                    · rw [yz_m1] at h_35
                      refine y_iload_n rfl rfl ?_
                      refine y_ireturn rfl rfl rfl ?_
                      refine y_ret1 ?_
                      refine y_iload_n rfl rfl ?_
                      refine y_virt rfl rfl rfl rfl rfl (ySh.t hS rfl) (ySh.n hS rfl) ?_
                      refine spx_add hS ?_
                      refine y_ret0 ?_
                      refine y_nameI (fun I37 e37 => ?_)
                      have hC : yCI I37 := by rw [e37]; exact yCI.addC hC
                      have hF : yFt I I37 := by rw [e37]; exact hF.addC
                      refine y_aload_n rfl rfl ?_
                      refine y_getR rfl (ySh.t hS rfl) (ySh.n hS rfl) rfl rfl (ySh.r hS rfl) ?_
                      refine y_iload_n rfl rfl ?_
                      refine y_virt rfl rfl rfl rfl rfl (ySh.t hS rfl) (ySh.n hS rfl) ?_
                      refine sx_capitals hS (by omega) (by omega) (fun v_38 hv_38 => ?_)
                      subst hv_38
                      refine y_ret1 ?_
                      refine y_ireturn rfl rfl rfl ?_
                      first | (exfalso; omega) | (exact hQc (by (first | omega | (simp only [show ySeat x3 = x3 from if_neg (by omega)]; omega) | (simp only [show ySeat x3 = Int32.ofInt 8 from if_pos (by omega)]; omega))) _ _ hC hF rfl (by first | (simp only [show ySeat x3 = x3 from if_neg (by omega)]; first | (rw [e37]; done) | (rw [e37]; rfl)) | (simp only [show ySeat x3 = Int32.ofInt 8 from if_pos (by omega)]; first | (rw [e37]; done) | (rw [e37]; rfl))))
                    · rw [yz_m1] at h_36
                      refine y_bip rfl (by decide) ?_
                      refine y_goto rfl j_X8_placeOf_11 ?_
                      refine y_ireturn rfl rfl rfl ?_
                      refine y_ret1 ?_
                      refine y_iload_n rfl rfl ?_
                      refine y_virt rfl rfl rfl rfl rfl (ySh.t hS rfl) (ySh.n hS rfl) ?_
                      refine spx_add hS ?_
                      refine y_ret0 ?_
                      refine y_nameI (fun I39 e39 => ?_)
                      have hC : yCI I39 := by rw [e39]; exact yCI.addC hC
                      have hF : yFt I I39 := by rw [e39]; exact hF.addC
                      refine y_aload_n rfl rfl ?_
                      refine y_getR rfl (ySh.t hS rfl) (ySh.n hS rfl) rfl rfl (ySh.r hS rfl) ?_
                      refine y_iload_n rfl rfl ?_
                      refine y_virt rfl rfl rfl rfl rfl (ySh.t hS rfl) (ySh.n hS rfl) ?_
                      refine sx_capitals hS (by omega) (by omega) (fun v_40 hv_40 => ?_)
                      subst hv_40
                      refine y_ret1 ?_
                      refine y_ireturn rfl rfl rfl ?_
                      first | (exfalso; omega) | (exact hQc (by (first | omega | (simp only [show ySeat x3 = x3 from if_neg (by omega)]; omega) | (simp only [show ySeat x3 = Int32.ofInt 8 from if_pos (by omega)]; omega))) _ _ hC hF rfl (by first | (simp only [show ySeat x3 = x3 from if_neg (by omega)]; first | (rw [e39]; done) | (rw [e39]; rfl)) | (simp only [show ySeat x3 = Int32.ofInt 8 from if_pos (by omega)]; first | (rw [e39]; done) | (rw [e39]; rfl))))
                  · rw [yz_m2] at h_34
                    refine y_aload_n rfl rfl ?_
                    refine y_getR rfl (ySh.t hS rfl) (ySh.n hS rfl) rfl rfl (ySh.r hS rfl) ?_
                    refine y_iload_n rfl rfl ?_
                    refine y_iload_n rfl rfl ?_
                    refine y_ineg rfl ?_
                    refine y_virt rfl rfl rfl rfl rfl (ySh.t hS rfl) (ySh.n hS rfl) ?_
                    refine sx_loss hS hC (by omega) (by omega) (fun J41 hC hF1 eJ41 => ?_)
                    have hF : yFt I J41 := hF.trans hF1.t
                    refine y_ret0 ?_
                    refine y_goto rfl j_X8_result_136 ?_
                    refine y_aload_n rfl rfl ?_
                    refine y_getR rfl (ySh.t hS rfl) (ySh.n hS rfl) rfl rfl (ySh.r hS rfl) ?_
                    refine y_iload_n rfl rfl ?_
                    refine y_virt rfl rfl rfl rfl rfl (ySh.t hS rfl) (ySh.n hS rfl) ?_
                    refine sx_capitals hS (by omega) (by omega) (fun v_42 hv_42 => ?_)
                    subst hv_42
                    refine y_ret1 ?_
                    refine y_ireturn rfl rfl rfl ?_
                    first | (exfalso; omega) | (exact hQb (by (first | omega | (simp only [show ySeat x3 = x3 from if_neg (by omega)]; omega) | (simp only [show ySeat x3 = Int32.ofInt 8 from if_pos (by omega)]; omega))) _ _ hC hF rfl eJ41)
                · refine y_aload_n rfl rfl ?_
                  refine y_iload_n rfl rfl ?_
                  refine y_iload_n rfl rfl ?_
                  refine y_virt rfl rfl rfl rfl rfl (ySh.t hS rfl) (ySh.n hS rfl) ?_
                  refine sx_shareProfit hS hC (by omega) (by omega) (fun J43 hC hF1 eJ43 => ?_)
                  have hF : yFt I J43 := hF.trans hF1.t
                  refine y_ret0 ?_
                  refine y_goto rfl j_X8_result_136 ?_
                  refine y_aload_n rfl rfl ?_
                  refine y_getR rfl (ySh.t hS rfl) (ySh.n hS rfl) rfl rfl (ySh.r hS rfl) ?_
                  refine y_iload_n rfl rfl ?_
                  refine y_virt rfl rfl rfl rfl rfl (ySh.t hS rfl) (ySh.n hS rfl) ?_
                  refine sx_capitals hS (by omega) (by omega) (fun v_44 hv_44 => ?_)
                  subst hv_44
                  refine y_ret1 ?_
                  refine y_ireturn rfl rfl rfl ?_
                  first | (exfalso; omega) | (exact hQa (by (first | omega | (simp only [show ySeat x3 = x3 from if_neg (by omega)]; omega) | (simp only [show ySeat x3 = Int32.ofInt 8 from if_pos (by omega)]; omega))) _ _ hC hF rfl (by rw [eJ43]))
              · refine y_throw rfl rfl rfl ?_
                exact hE2 (by (first | omega | (simp only [show ySeat x3 = x3 from if_neg (by omega)]; omega) | (simp only [show ySeat x3 = Int32.ofInt 8 from if_pos (by omega)]; omega)))
            · rw [yz_m1] at h_27
              refine y_bip rfl (by decide) ?_
              refine y_goto rfl j_X8_placeOf_11 ?_
              refine y_ireturn rfl rfl rfl ?_
              refine y_ret1 ?_
              refine y_virt rfl rfl rfl rfl rfl (ySh.t hS rfl) (ySh.n hS rfl) ?_
              refine y_in (M := xm_X7_isPartner) (ls := [some _, some _, some _]) rfl rfl rfl ?_
              refine y_aload_n rfl rfl ?_
              refine y_getR rfl (ySh.t hS rfl) (ySh.n hS rfl) rfl rfl (ySh.r hS rfl) ?_
              refine y_aload_n rfl rfl ?_
              refine y_iload_n rfl rfl ?_
              refine y_iload_n rfl rfl ?_
              refine y_virt rfl rfl rfl rfl rfl (ySh.t hS rfl) (ySh.n hS rfl) ?_
              refine spx_at (by omega) (by omega) (by decide) (by decide) (fun hz45 => ?_)
              rw [yz_8] at hz45
              refine y_ret1 ?_
              refine y_baloadv (J := I 70) rfl (ySh.t hS rfl) rfl (ySh.n hS rfl) (by omega) (by omega) rfl ?_
              refine y_ireturn rfl rfl (xfit_z (hC.p _)) ?_
              refine y_ret1 ?_
              refine y_if_ne rfl j_X8_result_92 (fun h_46 => ?_) (fun h_47 => ?_)
              · refine y_iload_n rfl rfl ?_
                refine y_if_lt rfl j_X8_result_105 (fun h_48 => ?_) (fun h_49 => ?_)
                · refine y_iload_n rfl rfl ?_
                  refine y_bip rfl (by decide) ?_
                  refine y_icmp_ne rfl j_X8_result_124 (fun h_50 => ?_) (fun h_51 => ?_)
                  · rw [yz_m2] at h_50
                    refine y_aload_n rfl rfl ?_
                    refine y_getR rfl (ySh.t hS rfl) (ySh.n hS rfl) rfl rfl (ySh.r hS rfl) ?_
                    refine y_iload_n rfl rfl ?_
                    refine y_static rfl rfl rfl rfl rfl ?_
                    refine y_in (M := xm_X8_placeOf) (ls := [some _]) rfl rfl rfl ?_
                    refine y_iload_n rfl rfl ?_
                    refine y_iconst rfl ?_
                    refine y_icmp_ne rfl j_X8_placeOf_10 (fun h_52 => ?_) (fun h_53 => ?_)
                    · rw [yz_m1] at h_52
                      refine y_iload_n rfl rfl ?_
                      refine y_ireturn rfl rfl rfl ?_
                      refine y_ret1 ?_
                      refine y_iload_n rfl rfl ?_
                      refine y_virt rfl rfl rfl rfl rfl (ySh.t hS rfl) (ySh.n hS rfl) ?_
                      refine spx_add hS ?_
                      refine y_ret0 ?_
                      refine y_nameI (fun I54 e54 => ?_)
                      have hC : yCI I54 := by rw [e54]; exact yCI.addC hC
                      have hF : yFt I I54 := by rw [e54]; exact hF.addC
                      refine y_aload_n rfl rfl ?_
                      refine y_getR rfl (ySh.t hS rfl) (ySh.n hS rfl) rfl rfl (ySh.r hS rfl) ?_
                      refine y_iload_n rfl rfl ?_
                      refine y_virt rfl rfl rfl rfl rfl (ySh.t hS rfl) (ySh.n hS rfl) ?_
                      refine sx_capitals hS (by omega) (by omega) (fun v_55 hv_55 => ?_)
                      subst hv_55
                      refine y_ret1 ?_
                      refine y_ireturn rfl rfl rfl ?_
                      first | (exfalso; omega) | (exact hQc (by (first | omega | (simp only [show ySeat x3 = x3 from if_neg (by omega)]; omega) | (simp only [show ySeat x3 = Int32.ofInt 8 from if_pos (by omega)]; omega))) _ _ hC hF rfl (by first | (simp only [show ySeat x3 = x3 from if_neg (by omega)]; first | (rw [e54]; done) | (rw [e54]; rfl)) | (simp only [show ySeat x3 = Int32.ofInt 8 from if_pos (by omega)]; first | (rw [e54]; done) | (rw [e54]; rfl))))
                    · rw [yz_m1] at h_53
                      refine y_bip rfl (by decide) ?_
                      refine y_goto rfl j_X8_placeOf_11 ?_
                      refine y_ireturn rfl rfl rfl ?_
                      refine y_ret1 ?_
                      refine y_iload_n rfl rfl ?_
                      refine y_virt rfl rfl rfl rfl rfl (ySh.t hS rfl) (ySh.n hS rfl) ?_
                      refine spx_add hS ?_
                      refine y_ret0 ?_
                      refine y_nameI (fun I56 e56 => ?_)
                      have hC : yCI I56 := by rw [e56]; exact yCI.addC hC
                      have hF : yFt I I56 := by rw [e56]; exact hF.addC
                      refine y_aload_n rfl rfl ?_
                      refine y_getR rfl (ySh.t hS rfl) (ySh.n hS rfl) rfl rfl (ySh.r hS rfl) ?_
                      refine y_iload_n rfl rfl ?_
                      refine y_virt rfl rfl rfl rfl rfl (ySh.t hS rfl) (ySh.n hS rfl) ?_
                      refine sx_capitals hS (by omega) (by omega) (fun v_57 hv_57 => ?_)
                      subst hv_57
                      refine y_ret1 ?_
                      refine y_ireturn rfl rfl rfl ?_
                      first | (exfalso; omega) | (exact hQc (by (first | omega | (simp only [show ySeat x3 = x3 from if_neg (by omega)]; omega) | (simp only [show ySeat x3 = Int32.ofInt 8 from if_pos (by omega)]; omega))) _ _ hC hF rfl (by first | (simp only [show ySeat x3 = x3 from if_neg (by omega)]; first | (rw [e56]; done) | (rw [e56]; rfl)) | (simp only [show ySeat x3 = Int32.ofInt 8 from if_pos (by omega)]; first | (rw [e56]; done) | (rw [e56]; rfl))))
                  · rw [yz_m2] at h_51
                    refine y_aload_n rfl rfl ?_
                    refine y_getR rfl (ySh.t hS rfl) (ySh.n hS rfl) rfl rfl (ySh.r hS rfl) ?_
                    refine y_iload_n rfl rfl ?_
                    refine y_iload_n rfl rfl ?_
                    refine y_ineg rfl ?_
                    refine y_virt rfl rfl rfl rfl rfl (ySh.t hS rfl) (ySh.n hS rfl) ?_
                    refine sx_loss hS hC (by omega) (by omega) (fun J58 hC hF1 eJ58 => ?_)
                    have hF : yFt I J58 := hF.trans hF1.t
                    refine y_ret0 ?_
                    refine y_goto rfl j_X8_result_136 ?_
                    refine y_aload_n rfl rfl ?_
                    refine y_getR rfl (ySh.t hS rfl) (ySh.n hS rfl) rfl rfl (ySh.r hS rfl) ?_
                    refine y_iload_n rfl rfl ?_
                    refine y_virt rfl rfl rfl rfl rfl (ySh.t hS rfl) (ySh.n hS rfl) ?_
                    refine sx_capitals hS (by omega) (by omega) (fun v_59 hv_59 => ?_)
                    subst hv_59
                    refine y_ret1 ?_
                    refine y_ireturn rfl rfl rfl ?_
                    first | (exfalso; omega) | (exact hQb (by (first | omega | (simp only [show ySeat x3 = x3 from if_neg (by omega)]; omega) | (simp only [show ySeat x3 = Int32.ofInt 8 from if_pos (by omega)]; omega))) _ _ hC hF rfl eJ58)
                · refine y_aload_n rfl rfl ?_
                  refine y_iload_n rfl rfl ?_
                  refine y_iload_n rfl rfl ?_
                  refine y_virt rfl rfl rfl rfl rfl (ySh.t hS rfl) (ySh.n hS rfl) ?_
                  refine sx_shareProfit hS hC (by omega) (by omega) (fun J60 hC hF1 eJ60 => ?_)
                  have hF : yFt I J60 := hF.trans hF1.t
                  refine y_ret0 ?_
                  refine y_goto rfl j_X8_result_136 ?_
                  refine y_aload_n rfl rfl ?_
                  refine y_getR rfl (ySh.t hS rfl) (ySh.n hS rfl) rfl rfl (ySh.r hS rfl) ?_
                  refine y_iload_n rfl rfl ?_
                  refine y_virt rfl rfl rfl rfl rfl (ySh.t hS rfl) (ySh.n hS rfl) ?_
                  refine sx_capitals hS (by omega) (by omega) (fun v_61 hv_61 => ?_)
                  subst hv_61
                  refine y_ret1 ?_
                  refine y_ireturn rfl rfl rfl ?_
                  first | (exfalso; omega) | (exact hQa (by (first | omega | (simp only [show ySeat x3 = x3 from if_neg (by omega)]; omega) | (simp only [show ySeat x3 = Int32.ofInt 8 from if_pos (by omega)]; omega))) _ _ hC hF rfl (by rw [eJ60]))
              · refine y_throw rfl rfl rfl ?_
                exact hE2 (by (first | omega | (simp only [show ySeat x3 = x3 from if_neg (by omega)]; omega) | (simp only [show ySeat x3 = Int32.ofInt 8 from if_pos (by omega)]; omega)))
        · rw [yz_m999] at h_9
          rw [yz_999] at h_9
          refine y_ret1 ?_
          refine y_if_neF rfl (by decide) ?_
          refine y_throw rfl rfl rfl ?_
          exact hE1 (by (first | omega | (simp only [show ySeat x3 = x3 from if_neg (by omega)]; omega) | (simp only [show ySeat x3 = Int32.ofInt 8 from if_pos (by omega)]; omega)))
      · rw [yz_m2] at h_6
        refine y_aload_n rfl rfl ?_
        refine y_iload_n rfl rfl ?_
        refine y_virt rfl rfl rfl rfl rfl (ySh.t hS rfl) (ySh.n hS rfl) ?_
        refine y_in (M := xm_X8_isParty) (ls := [some _, some _]) rfl rfl rfl ?_
        refine y_iload_n rfl rfl ?_
        refine y_iconst rfl ?_
        refine y_icmp_eq rfl j_X8_isParty_16 (fun h_62 => ?_) (fun h_63 => ?_)
        · rw [yz_m1] at h_62
          refine y_iconst rfl ?_
          refine y_goto rfl j_X8_isParty_21 ?_
          refine y_ireturn rfl rfl rfl ?_
          refine y_ret1 ?_
          refine y_if_neT rfl j_X8_result_36 (by decide) ?_
          refine y_iload_n rfl rfl ?_
          refine y_sip rfl (by decide) ?_
          refine y_sip rfl (by decide) ?_
          refine y_static rfl rfl rfl rfl rfl ?_
          refine s_isIn (fun h_64 h_65 => ?_) (fun h_66 => ?_)
          · rw [yz_m999] at h_64
            rw [yz_999] at h_65
            refine y_ret1 ?_
            refine y_if_neT rfl j_X8_result_60 (by decide) ?_
            refine y_iload_n rfl rfl ?_
            refine y_bip rfl (by decide) ?_
            refine y_icmp_eq rfl j_X8_result_92 (fun h_67 => ?_) (fun h_68 => ?_)
            · rw [yz_m2] at h_67
              refine y_iload_n rfl rfl ?_
              refine y_if_lt rfl j_X8_result_105 (fun h_69 => ?_) (fun h_70 => ?_)
              · refine y_iload_n rfl rfl ?_
                refine y_bip rfl (by decide) ?_
                refine y_icmp_ne rfl j_X8_result_124 (fun h_71 => ?_) (fun h_72 => ?_)
                · rw [yz_m2] at h_71
                  refine y_aload_n rfl rfl ?_
                  refine y_getR rfl (ySh.t hS rfl) (ySh.n hS rfl) rfl rfl (ySh.r hS rfl) ?_
                  refine y_iload_n rfl rfl ?_
                  refine y_static rfl rfl rfl rfl rfl ?_
                  refine y_in (M := xm_X8_placeOf) (ls := [some _]) rfl rfl rfl ?_
                  refine y_iload_n rfl rfl ?_
                  refine y_iconst rfl ?_
                  refine y_icmp_ne rfl j_X8_placeOf_10 (fun h_73 => ?_) (fun h_74 => ?_)
                  · rw [yz_m1] at h_73
                    refine y_iload_n rfl rfl ?_
                    refine y_ireturn rfl rfl rfl ?_
                    refine y_ret1 ?_
                    refine y_iload_n rfl rfl ?_
                    refine y_virt rfl rfl rfl rfl rfl (ySh.t hS rfl) (ySh.n hS rfl) ?_
                    refine spx_add hS ?_
                    refine y_ret0 ?_
                    refine y_nameI (fun I75 e75 => ?_)
                    have hC : yCI I75 := by rw [e75]; exact yCI.addC hC
                    have hF : yFt I I75 := by rw [e75]; exact hF.addC
                    refine y_aload_n rfl rfl ?_
                    refine y_getR rfl (ySh.t hS rfl) (ySh.n hS rfl) rfl rfl (ySh.r hS rfl) ?_
                    refine y_iload_n rfl rfl ?_
                    refine y_virt rfl rfl rfl rfl rfl (ySh.t hS rfl) (ySh.n hS rfl) ?_
                    refine sx_capitals hS (by omega) (by omega) (fun v_76 hv_76 => ?_)
                    subst hv_76
                    refine y_ret1 ?_
                    refine y_ireturn rfl rfl rfl ?_
                    first | (exfalso; omega) | (exact hQc (by (first | omega | (simp only [show ySeat x3 = x3 from if_neg (by omega)]; omega) | (simp only [show ySeat x3 = Int32.ofInt 8 from if_pos (by omega)]; omega))) _ _ hC hF rfl (by first | (simp only [show ySeat x3 = x3 from if_neg (by omega)]; first | (rw [e75]; done) | (rw [e75]; rfl)) | (simp only [show ySeat x3 = Int32.ofInt 8 from if_pos (by omega)]; first | (rw [e75]; done) | (rw [e75]; rfl))))
                  · rw [yz_m1] at h_74
                    refine y_bip rfl (by decide) ?_
                    refine y_goto rfl j_X8_placeOf_11 ?_
                    refine y_ireturn rfl rfl rfl ?_
                    refine y_ret1 ?_
                    refine y_iload_n rfl rfl ?_
                    refine y_virt rfl rfl rfl rfl rfl (ySh.t hS rfl) (ySh.n hS rfl) ?_
                    refine spx_add hS ?_
                    refine y_ret0 ?_
                    refine y_nameI (fun I77 e77 => ?_)
                    have hC : yCI I77 := by rw [e77]; exact yCI.addC hC
                    have hF : yFt I I77 := by rw [e77]; exact hF.addC
                    refine y_aload_n rfl rfl ?_
                    refine y_getR rfl (ySh.t hS rfl) (ySh.n hS rfl) rfl rfl (ySh.r hS rfl) ?_
                    refine y_iload_n rfl rfl ?_
                    refine y_virt rfl rfl rfl rfl rfl (ySh.t hS rfl) (ySh.n hS rfl) ?_
                    refine sx_capitals hS (by omega) (by omega) (fun v_78 hv_78 => ?_)
                    subst hv_78
                    refine y_ret1 ?_
                    refine y_ireturn rfl rfl rfl ?_
                    first | (exfalso; omega) | (exact hQc (by (first | omega | (simp only [show ySeat x3 = x3 from if_neg (by omega)]; omega) | (simp only [show ySeat x3 = Int32.ofInt 8 from if_pos (by omega)]; omega))) _ _ hC hF rfl (by first | (simp only [show ySeat x3 = x3 from if_neg (by omega)]; first | (rw [e77]; done) | (rw [e77]; rfl)) | (simp only [show ySeat x3 = Int32.ofInt 8 from if_pos (by omega)]; first | (rw [e77]; done) | (rw [e77]; rfl))))
                · rw [yz_m2] at h_72
                  refine y_aload_n rfl rfl ?_
                  refine y_getR rfl (ySh.t hS rfl) (ySh.n hS rfl) rfl rfl (ySh.r hS rfl) ?_
                  refine y_iload_n rfl rfl ?_
                  refine y_iload_n rfl rfl ?_
                  refine y_ineg rfl ?_
                  refine y_virt rfl rfl rfl rfl rfl (ySh.t hS rfl) (ySh.n hS rfl) ?_
                  refine sx_loss hS hC (by omega) (by omega) (fun J79 hC hF1 eJ79 => ?_)
                  have hF : yFt I J79 := hF.trans hF1.t
                  refine y_ret0 ?_
                  refine y_goto rfl j_X8_result_136 ?_
                  refine y_aload_n rfl rfl ?_
                  refine y_getR rfl (ySh.t hS rfl) (ySh.n hS rfl) rfl rfl (ySh.r hS rfl) ?_
                  refine y_iload_n rfl rfl ?_
                  refine y_virt rfl rfl rfl rfl rfl (ySh.t hS rfl) (ySh.n hS rfl) ?_
                  refine sx_capitals hS (by omega) (by omega) (fun v_80 hv_80 => ?_)
                  subst hv_80
                  refine y_ret1 ?_
                  refine y_ireturn rfl rfl rfl ?_
                  first | (exfalso; omega) | (exact hQb (by (first | omega | (simp only [show ySeat x3 = x3 from if_neg (by omega)]; omega) | (simp only [show ySeat x3 = Int32.ofInt 8 from if_pos (by omega)]; omega))) _ _ hC hF rfl eJ79)
              · refine y_aload_n rfl rfl ?_
                refine y_iload_n rfl rfl ?_
                refine y_iload_n rfl rfl ?_
                refine y_virt rfl rfl rfl rfl rfl (ySh.t hS rfl) (ySh.n hS rfl) ?_
                refine sx_shareProfit hS hC (by omega) (by omega) (fun J81 hC hF1 eJ81 => ?_)
                have hF : yFt I J81 := hF.trans hF1.t
                refine y_ret0 ?_
                refine y_goto rfl j_X8_result_136 ?_
                refine y_aload_n rfl rfl ?_
                refine y_getR rfl (ySh.t hS rfl) (ySh.n hS rfl) rfl rfl (ySh.r hS rfl) ?_
                refine y_iload_n rfl rfl ?_
                refine y_virt rfl rfl rfl rfl rfl (ySh.t hS rfl) (ySh.n hS rfl) ?_
                refine sx_capitals hS (by omega) (by omega) (fun v_82 hv_82 => ?_)
                subst hv_82
                refine y_ret1 ?_
                refine y_ireturn rfl rfl rfl ?_
                first | (exfalso; omega) | (exact hQa (by (first | omega | (simp only [show ySeat x3 = x3 from if_neg (by omega)]; omega) | (simp only [show ySeat x3 = Int32.ofInt 8 from if_pos (by omega)]; omega))) _ _ hC hF rfl (by rw [eJ81]))
            · rw [yz_m2] at h_68
              refine y_aload_n rfl rfl ?_
              refine y_getR rfl (ySh.t hS rfl) (ySh.n hS rfl) rfl rfl (ySh.r hS rfl) ?_
              refine y_iload_n rfl rfl ?_
              refine y_iload_n rfl rfl ?_
              refine y_static rfl rfl rfl rfl rfl ?_
              refine y_in (M := xm_X8_placeOf) (ls := [some _]) rfl rfl rfl ?_
              refine y_iload_n rfl rfl ?_
              refine y_iconst rfl ?_
              refine y_icmp_ne rfl j_X8_placeOf_10 (fun h_83 => ?_) (fun h_84 => ?_)
              · rw [yz_m1] at h_83
                refine y_iload_n rfl rfl ?_
                refine y_ireturn rfl rfl rfl ?_
                refine y_ret1 ?_
                refine y_virt rfl rfl rfl rfl rfl (ySh.t hS rfl) (ySh.n hS rfl) ?_
                refine y_in (M := xm_X7_isPartner) (ls := [some _, some _, some _]) rfl rfl rfl ?_
                refine y_aload_n rfl rfl ?_
                refine y_getR rfl (ySh.t hS rfl) (ySh.n hS rfl) rfl rfl (ySh.r hS rfl) ?_
                refine y_aload_n rfl rfl ?_
                refine y_iload_n rfl rfl ?_
                refine y_iload_n rfl rfl ?_
                refine y_virt rfl rfl rfl rfl rfl (ySh.t hS rfl) (ySh.n hS rfl) ?_
                refine spx_at (by omega) (by omega) (by omega) (by omega) (fun hz85 => ?_)
                refine y_ret1 ?_
                refine y_baloadv (J := I 70) rfl (ySh.t hS rfl) rfl (ySh.n hS rfl) (by omega) (by omega) rfl ?_
                refine y_ireturn rfl rfl (xfit_z (hC.p _)) ?_
                refine y_ret1 ?_
                refine y_if_ne rfl j_X8_result_92 (fun h_86 => ?_) (fun h_87 => ?_)
                · refine y_iload_n rfl rfl ?_
                  refine y_if_lt rfl j_X8_result_105 (fun h_88 => ?_) (fun h_89 => ?_)
                  · refine y_iload_n rfl rfl ?_
                    refine y_bip rfl (by decide) ?_
                    refine y_icmp_ne rfl j_X8_result_124 (fun h_90 => ?_) (fun h_91 => ?_)
                    · rw [yz_m2] at h_90
                      refine y_aload_n rfl rfl ?_
                      refine y_getR rfl (ySh.t hS rfl) (ySh.n hS rfl) rfl rfl (ySh.r hS rfl) ?_
                      refine y_iload_n rfl rfl ?_
                      refine y_static rfl rfl rfl rfl rfl ?_
                      refine y_in (M := xm_X8_placeOf) (ls := [some _]) rfl rfl rfl ?_
                      refine y_iload_n rfl rfl ?_
                      refine y_iconst rfl ?_
                      refine y_icmp_ne rfl j_X8_placeOf_10 (fun h_92 => ?_) (fun h_93 => ?_)
                      · rw [yz_m1] at h_92
                        refine y_iload_n rfl rfl ?_
                        refine y_ireturn rfl rfl rfl ?_
                        refine y_ret1 ?_
                        refine y_iload_n rfl rfl ?_
                        refine y_virt rfl rfl rfl rfl rfl (ySh.t hS rfl) (ySh.n hS rfl) ?_
                        refine spx_add hS ?_
                        refine y_ret0 ?_
                        refine y_nameI (fun I94 e94 => ?_)
                        have hC : yCI I94 := by rw [e94]; exact yCI.addC hC
                        have hF : yFt I I94 := by rw [e94]; exact hF.addC
                        refine y_aload_n rfl rfl ?_
                        refine y_getR rfl (ySh.t hS rfl) (ySh.n hS rfl) rfl rfl (ySh.r hS rfl) ?_
                        refine y_iload_n rfl rfl ?_
                        refine y_virt rfl rfl rfl rfl rfl (ySh.t hS rfl) (ySh.n hS rfl) ?_
                        refine sx_capitals hS (by omega) (by omega) (fun v_95 hv_95 => ?_)
                        subst hv_95
                        refine y_ret1 ?_
                        refine y_ireturn rfl rfl rfl ?_
                        first | (exfalso; omega) | (exact hQc (by (first | omega | (simp only [show ySeat x3 = x3 from if_neg (by omega)]; omega) | (simp only [show ySeat x3 = Int32.ofInt 8 from if_pos (by omega)]; omega))) _ _ hC hF rfl (by first | (simp only [show ySeat x3 = x3 from if_neg (by omega)]; first | (rw [e94]; done) | (rw [e94]; rfl)) | (simp only [show ySeat x3 = Int32.ofInt 8 from if_pos (by omega)]; first | (rw [e94]; done) | (rw [e94]; rfl))))
                      · rw [yz_m1] at h_93
                        refine y_bip rfl (by decide) ?_
                        refine y_goto rfl j_X8_placeOf_11 ?_
                        refine y_ireturn rfl rfl rfl ?_
                        refine y_ret1 ?_
                        refine y_iload_n rfl rfl ?_
                        refine y_virt rfl rfl rfl rfl rfl (ySh.t hS rfl) (ySh.n hS rfl) ?_
                        refine spx_add hS ?_
                        refine y_ret0 ?_
                        refine y_nameI (fun I96 e96 => ?_)
                        have hC : yCI I96 := by rw [e96]; exact yCI.addC hC
                        have hF : yFt I I96 := by rw [e96]; exact hF.addC
                        refine y_aload_n rfl rfl ?_
                        refine y_getR rfl (ySh.t hS rfl) (ySh.n hS rfl) rfl rfl (ySh.r hS rfl) ?_
                        refine y_iload_n rfl rfl ?_
                        refine y_virt rfl rfl rfl rfl rfl (ySh.t hS rfl) (ySh.n hS rfl) ?_
                        refine sx_capitals hS (by omega) (by omega) (fun v_97 hv_97 => ?_)
                        subst hv_97
                        refine y_ret1 ?_
                        refine y_ireturn rfl rfl rfl ?_
                        first | (exfalso; omega) | (exact hQc (by (first | omega | (simp only [show ySeat x3 = x3 from if_neg (by omega)]; omega) | (simp only [show ySeat x3 = Int32.ofInt 8 from if_pos (by omega)]; omega))) _ _ hC hF rfl (by first | (simp only [show ySeat x3 = x3 from if_neg (by omega)]; first | (rw [e96]; done) | (rw [e96]; rfl)) | (simp only [show ySeat x3 = Int32.ofInt 8 from if_pos (by omega)]; first | (rw [e96]; done) | (rw [e96]; rfl))))
                    · rw [yz_m2] at h_91
                      refine y_aload_n rfl rfl ?_
                      refine y_getR rfl (ySh.t hS rfl) (ySh.n hS rfl) rfl rfl (ySh.r hS rfl) ?_
                      refine y_iload_n rfl rfl ?_
                      refine y_iload_n rfl rfl ?_
                      refine y_ineg rfl ?_
                      refine y_virt rfl rfl rfl rfl rfl (ySh.t hS rfl) (ySh.n hS rfl) ?_
                      refine sx_loss hS hC (by omega) (by omega) (fun J98 hC hF1 eJ98 => ?_)
                      have hF : yFt I J98 := hF.trans hF1.t
                      refine y_ret0 ?_
                      refine y_goto rfl j_X8_result_136 ?_
                      refine y_aload_n rfl rfl ?_
                      refine y_getR rfl (ySh.t hS rfl) (ySh.n hS rfl) rfl rfl (ySh.r hS rfl) ?_
                      refine y_iload_n rfl rfl ?_
                      refine y_virt rfl rfl rfl rfl rfl (ySh.t hS rfl) (ySh.n hS rfl) ?_
                      refine sx_capitals hS (by omega) (by omega) (fun v_99 hv_99 => ?_)
                      subst hv_99
                      refine y_ret1 ?_
                      refine y_ireturn rfl rfl rfl ?_
                      first | (exfalso; omega) | (exact hQb (by (first | omega | (simp only [show ySeat x3 = x3 from if_neg (by omega)]; omega) | (simp only [show ySeat x3 = Int32.ofInt 8 from if_pos (by omega)]; omega))) _ _ hC hF rfl eJ98)
                  · refine y_aload_n rfl rfl ?_
                    refine y_iload_n rfl rfl ?_
                    refine y_iload_n rfl rfl ?_
                    refine y_virt rfl rfl rfl rfl rfl (ySh.t hS rfl) (ySh.n hS rfl) ?_
                    refine sx_shareProfit hS hC (by omega) (by omega) (fun J100 hC hF1 eJ100 => ?_)
                    have hF : yFt I J100 := hF.trans hF1.t
                    refine y_ret0 ?_
                    refine y_goto rfl j_X8_result_136 ?_
                    refine y_aload_n rfl rfl ?_
                    refine y_getR rfl (ySh.t hS rfl) (ySh.n hS rfl) rfl rfl (ySh.r hS rfl) ?_
                    refine y_iload_n rfl rfl ?_
                    refine y_virt rfl rfl rfl rfl rfl (ySh.t hS rfl) (ySh.n hS rfl) ?_
                    refine sx_capitals hS (by omega) (by omega) (fun v_101 hv_101 => ?_)
                    subst hv_101
                    refine y_ret1 ?_
                    refine y_ireturn rfl rfl rfl ?_
                    first | (exfalso; omega) | (exact hQa (by (first | omega | (simp only [show ySeat x3 = x3 from if_neg (by omega)]; omega) | (simp only [show ySeat x3 = Int32.ofInt 8 from if_pos (by omega)]; omega))) _ _ hC hF rfl (by rw [eJ100]))
                · refine y_throw rfl rfl rfl ?_
                  exact hE2 (by (first | omega | (simp only [show ySeat x3 = x3 from if_neg (by omega)]; omega) | (simp only [show ySeat x3 = Int32.ofInt 8 from if_pos (by omega)]; omega)))
              · rw [yz_m1] at h_84
                refine y_bip rfl (by decide) ?_
                refine y_goto rfl j_X8_placeOf_11 ?_
                refine y_ireturn rfl rfl rfl ?_
                refine y_ret1 ?_
                refine y_virt rfl rfl rfl rfl rfl (ySh.t hS rfl) (ySh.n hS rfl) ?_
                refine y_in (M := xm_X7_isPartner) (ls := [some _, some _, some _]) rfl rfl rfl ?_
                refine y_aload_n rfl rfl ?_
                refine y_getR rfl (ySh.t hS rfl) (ySh.n hS rfl) rfl rfl (ySh.r hS rfl) ?_
                refine y_aload_n rfl rfl ?_
                refine y_iload_n rfl rfl ?_
                refine y_iload_n rfl rfl ?_
                refine y_virt rfl rfl rfl rfl rfl (ySh.t hS rfl) (ySh.n hS rfl) ?_
                refine spx_at (by omega) (by omega) (by decide) (by decide) (fun hz102 => ?_)
                rw [yz_8] at hz102
                refine y_ret1 ?_
                refine y_baloadv (J := I 70) rfl (ySh.t hS rfl) rfl (ySh.n hS rfl) (by omega) (by omega) rfl ?_
                refine y_ireturn rfl rfl (xfit_z (hC.p _)) ?_
                refine y_ret1 ?_
                refine y_if_ne rfl j_X8_result_92 (fun h_103 => ?_) (fun h_104 => ?_)
                · refine y_iload_n rfl rfl ?_
                  refine y_if_lt rfl j_X8_result_105 (fun h_105 => ?_) (fun h_106 => ?_)
                  · refine y_iload_n rfl rfl ?_
                    refine y_bip rfl (by decide) ?_
                    refine y_icmp_ne rfl j_X8_result_124 (fun h_107 => ?_) (fun h_108 => ?_)
                    · rw [yz_m2] at h_107
                      refine y_aload_n rfl rfl ?_
                      refine y_getR rfl (ySh.t hS rfl) (ySh.n hS rfl) rfl rfl (ySh.r hS rfl) ?_
                      refine y_iload_n rfl rfl ?_
                      refine y_static rfl rfl rfl rfl rfl ?_
                      refine y_in (M := xm_X8_placeOf) (ls := [some _]) rfl rfl rfl ?_
                      refine y_iload_n rfl rfl ?_
                      refine y_iconst rfl ?_
                      refine y_icmp_ne rfl j_X8_placeOf_10 (fun h_109 => ?_) (fun h_110 => ?_)
                      · rw [yz_m1] at h_109
                        refine y_iload_n rfl rfl ?_
                        refine y_ireturn rfl rfl rfl ?_
                        refine y_ret1 ?_
                        refine y_iload_n rfl rfl ?_
                        refine y_virt rfl rfl rfl rfl rfl (ySh.t hS rfl) (ySh.n hS rfl) ?_
                        refine spx_add hS ?_
                        refine y_ret0 ?_
                        refine y_nameI (fun I111 e111 => ?_)
                        have hC : yCI I111 := by rw [e111]; exact yCI.addC hC
                        have hF : yFt I I111 := by rw [e111]; exact hF.addC
                        refine y_aload_n rfl rfl ?_
                        refine y_getR rfl (ySh.t hS rfl) (ySh.n hS rfl) rfl rfl (ySh.r hS rfl) ?_
                        refine y_iload_n rfl rfl ?_
                        refine y_virt rfl rfl rfl rfl rfl (ySh.t hS rfl) (ySh.n hS rfl) ?_
                        refine sx_capitals hS (by omega) (by omega) (fun v_112 hv_112 => ?_)
                        subst hv_112
                        refine y_ret1 ?_
                        refine y_ireturn rfl rfl rfl ?_
                        first | (exfalso; omega) | (exact hQc (by (first | omega | (simp only [show ySeat x3 = x3 from if_neg (by omega)]; omega) | (simp only [show ySeat x3 = Int32.ofInt 8 from if_pos (by omega)]; omega))) _ _ hC hF rfl (by first | (simp only [show ySeat x3 = x3 from if_neg (by omega)]; first | (rw [e111]; done) | (rw [e111]; rfl)) | (simp only [show ySeat x3 = Int32.ofInt 8 from if_pos (by omega)]; first | (rw [e111]; done) | (rw [e111]; rfl))))
                      · rw [yz_m1] at h_110
                        refine y_bip rfl (by decide) ?_
                        refine y_goto rfl j_X8_placeOf_11 ?_
                        refine y_ireturn rfl rfl rfl ?_
                        refine y_ret1 ?_
                        refine y_iload_n rfl rfl ?_
                        refine y_virt rfl rfl rfl rfl rfl (ySh.t hS rfl) (ySh.n hS rfl) ?_
                        refine spx_add hS ?_
                        refine y_ret0 ?_
                        refine y_nameI (fun I113 e113 => ?_)
                        have hC : yCI I113 := by rw [e113]; exact yCI.addC hC
                        have hF : yFt I I113 := by rw [e113]; exact hF.addC
                        refine y_aload_n rfl rfl ?_
                        refine y_getR rfl (ySh.t hS rfl) (ySh.n hS rfl) rfl rfl (ySh.r hS rfl) ?_
                        refine y_iload_n rfl rfl ?_
                        refine y_virt rfl rfl rfl rfl rfl (ySh.t hS rfl) (ySh.n hS rfl) ?_
                        refine sx_capitals hS (by omega) (by omega) (fun v_114 hv_114 => ?_)
                        subst hv_114
                        refine y_ret1 ?_
                        refine y_ireturn rfl rfl rfl ?_
                        first | (exfalso; omega) | (exact hQc (by (first | omega | (simp only [show ySeat x3 = x3 from if_neg (by omega)]; omega) | (simp only [show ySeat x3 = Int32.ofInt 8 from if_pos (by omega)]; omega))) _ _ hC hF rfl (by first | (simp only [show ySeat x3 = x3 from if_neg (by omega)]; first | (rw [e113]; done) | (rw [e113]; rfl)) | (simp only [show ySeat x3 = Int32.ofInt 8 from if_pos (by omega)]; first | (rw [e113]; done) | (rw [e113]; rfl))))
                    · rw [yz_m2] at h_108
                      refine y_aload_n rfl rfl ?_
                      refine y_getR rfl (ySh.t hS rfl) (ySh.n hS rfl) rfl rfl (ySh.r hS rfl) ?_
                      refine y_iload_n rfl rfl ?_
                      refine y_iload_n rfl rfl ?_
                      refine y_ineg rfl ?_
                      refine y_virt rfl rfl rfl rfl rfl (ySh.t hS rfl) (ySh.n hS rfl) ?_
                      refine sx_loss hS hC (by omega) (by omega) (fun J115 hC hF1 eJ115 => ?_)
                      have hF : yFt I J115 := hF.trans hF1.t
                      refine y_ret0 ?_
                      refine y_goto rfl j_X8_result_136 ?_
                      refine y_aload_n rfl rfl ?_
                      refine y_getR rfl (ySh.t hS rfl) (ySh.n hS rfl) rfl rfl (ySh.r hS rfl) ?_
                      refine y_iload_n rfl rfl ?_
                      refine y_virt rfl rfl rfl rfl rfl (ySh.t hS rfl) (ySh.n hS rfl) ?_
                      refine sx_capitals hS (by omega) (by omega) (fun v_116 hv_116 => ?_)
                      subst hv_116
                      refine y_ret1 ?_
                      refine y_ireturn rfl rfl rfl ?_
                      first | (exfalso; omega) | (exact hQb (by (first | omega | (simp only [show ySeat x3 = x3 from if_neg (by omega)]; omega) | (simp only [show ySeat x3 = Int32.ofInt 8 from if_pos (by omega)]; omega))) _ _ hC hF rfl eJ115)
                  · refine y_aload_n rfl rfl ?_
                    refine y_iload_n rfl rfl ?_
                    refine y_iload_n rfl rfl ?_
                    refine y_virt rfl rfl rfl rfl rfl (ySh.t hS rfl) (ySh.n hS rfl) ?_
                    refine sx_shareProfit hS hC (by omega) (by omega) (fun J117 hC hF1 eJ117 => ?_)
                    have hF : yFt I J117 := hF.trans hF1.t
                    refine y_ret0 ?_
                    refine y_goto rfl j_X8_result_136 ?_
                    refine y_aload_n rfl rfl ?_
                    refine y_getR rfl (ySh.t hS rfl) (ySh.n hS rfl) rfl rfl (ySh.r hS rfl) ?_
                    refine y_iload_n rfl rfl ?_
                    refine y_virt rfl rfl rfl rfl rfl (ySh.t hS rfl) (ySh.n hS rfl) ?_
                    refine sx_capitals hS (by omega) (by omega) (fun v_118 hv_118 => ?_)
                    subst hv_118
                    refine y_ret1 ?_
                    refine y_ireturn rfl rfl rfl ?_
                    first | (exfalso; omega) | (exact hQa (by (first | omega | (simp only [show ySeat x3 = x3 from if_neg (by omega)]; omega) | (simp only [show ySeat x3 = Int32.ofInt 8 from if_pos (by omega)]; omega))) _ _ hC hF rfl (by rw [eJ117]))
                · refine y_throw rfl rfl rfl ?_
                  exact hE2 (by (first | omega | (simp only [show ySeat x3 = x3 from if_neg (by omega)]; omega) | (simp only [show ySeat x3 = Int32.ofInt 8 from if_pos (by omega)]; omega)))
          · rw [yz_m999] at h_66
            rw [yz_999] at h_66
            refine y_ret1 ?_
            refine y_if_neF rfl (by decide) ?_
            refine y_throw rfl rfl rfl ?_
            exact hE1 (by (first | omega | (simp only [show ySeat x3 = x3 from if_neg (by omega)]; omega) | (simp only [show ySeat x3 = Int32.ofInt 8 from if_pos (by omega)]; omega)))
        · rw [yz_m1] at h_63
          refine y_aload_n rfl rfl ?_
          refine y_getR rfl (ySh.t hS rfl) (ySh.n hS rfl) rfl rfl (ySh.r hS rfl) ?_
          refine y_iload_n rfl rfl ?_
          refine y_virt rfl rfl rfl rfl rfl (ySh.t hS rfl) (ySh.n hS rfl) ?_
          refine y_in (M := xm_X4_has) (ls := [some _, some _]) rfl rfl rfl ?_
          refine y_iload_n rfl rfl ?_
          refine y_if_lt rfl j_X4_has_16 (fun h_119 => ?_) (fun h_120 => ?_)
          · refine y_iconst rfl ?_
            refine y_ireturn rfl rfl rfl ?_
            refine y_ret1 ?_
            refine y_if_eqT rfl j_X8_isParty_20 (by decide) ?_
            refine y_iconst rfl ?_
            refine y_ireturn rfl rfl rfl ?_
            refine y_ret1 ?_
            refine y_if_neF rfl (by decide) ?_
            refine y_throw rfl rfl rfl ?_
            exact hE0 (by (first | omega | (simp only [show ySeat x3 = x3 from if_neg (by omega)]; omega) | (simp only [show ySeat x3 = Int32.ofInt 8 from if_pos (by omega)]; omega)))
          · refine y_iload_n rfl rfl ?_
            refine y_aload_n rfl rfl ?_
            refine y_getIv (v := I 38 0) rfl (ySh.t hS rfl) (ySh.n hS rfl) rfl rfl rfl ?_
            refine y_icmp_ge rfl j_X4_has_16 (fun h_121 => ?_) (fun h_122 => ?_)
            · refine y_iconst rfl ?_
              refine y_ireturn rfl rfl rfl ?_
              refine y_ret1 ?_
              refine y_if_eqT rfl j_X8_isParty_20 (by decide) ?_
              refine y_iconst rfl ?_
              refine y_ireturn rfl rfl rfl ?_
              refine y_ret1 ?_
              refine y_if_neF rfl (by decide) ?_
              refine y_throw rfl rfl rfl ?_
              exact hE0 (by (first | omega | (simp only [show ySeat x3 = x3 from if_neg (by omega)]; omega) | (simp only [show ySeat x3 = Int32.ofInt 8 from if_pos (by omega)]; omega)))
            · refine y_iconst rfl ?_
              refine y_goto rfl j_X4_has_17 ?_
              refine y_ireturn rfl rfl rfl ?_
              refine y_ret1 ?_
              refine y_if_eqF rfl (by decide) ?_
              refine y_iconst rfl ?_
              refine y_goto rfl j_X8_isParty_21 ?_
              refine y_ireturn rfl rfl rfl ?_
              refine y_ret1 ?_
              refine y_if_neT rfl j_X8_result_36 (by decide) ?_
              refine y_iload_n rfl rfl ?_
              refine y_sip rfl (by decide) ?_
              refine y_sip rfl (by decide) ?_
              refine y_static rfl rfl rfl rfl rfl ?_
              refine s_isIn (fun h_123 h_124 => ?_) (fun h_125 => ?_)
              · rw [yz_m999] at h_123
                rw [yz_999] at h_124
                refine y_ret1 ?_
                refine y_if_neT rfl j_X8_result_60 (by decide) ?_
                refine y_iload_n rfl rfl ?_
                refine y_bip rfl (by decide) ?_
                refine y_icmp_eq rfl j_X8_result_92 (fun h_126 => ?_) (fun h_127 => ?_)
                · rw [yz_m2] at h_126
                  refine y_iload_n rfl rfl ?_
                  refine y_if_lt rfl j_X8_result_105 (fun h_128 => ?_) (fun h_129 => ?_)
                  · refine y_iload_n rfl rfl ?_
                    refine y_bip rfl (by decide) ?_
                    refine y_icmp_ne rfl j_X8_result_124 (fun h_130 => ?_) (fun h_131 => ?_)
                    · rw [yz_m2] at h_130
                      refine y_aload_n rfl rfl ?_
                      refine y_getR rfl (ySh.t hS rfl) (ySh.n hS rfl) rfl rfl (ySh.r hS rfl) ?_
                      refine y_iload_n rfl rfl ?_
                      refine y_static rfl rfl rfl rfl rfl ?_
                      refine y_in (M := xm_X8_placeOf) (ls := [some _]) rfl rfl rfl ?_
                      refine y_iload_n rfl rfl ?_
                      refine y_iconst rfl ?_
                      refine y_icmp_ne rfl j_X8_placeOf_10 (fun h_132 => ?_) (fun h_133 => ?_)
                      · rw [yz_m1] at h_132
                        refine y_iload_n rfl rfl ?_
                        refine y_ireturn rfl rfl rfl ?_
                        refine y_ret1 ?_
                        refine y_iload_n rfl rfl ?_
                        refine y_virt rfl rfl rfl rfl rfl (ySh.t hS rfl) (ySh.n hS rfl) ?_
                        refine spx_add hS ?_
                        refine y_ret0 ?_
                        refine y_nameI (fun I134 e134 => ?_)
                        have hC : yCI I134 := by rw [e134]; exact yCI.addC hC
                        have hF : yFt I I134 := by rw [e134]; exact hF.addC
                        refine y_aload_n rfl rfl ?_
                        refine y_getR rfl (ySh.t hS rfl) (ySh.n hS rfl) rfl rfl (ySh.r hS rfl) ?_
                        refine y_iload_n rfl rfl ?_
                        refine y_virt rfl rfl rfl rfl rfl (ySh.t hS rfl) (ySh.n hS rfl) ?_
                        refine sx_capitals hS (by omega) (by omega) (fun v_135 hv_135 => ?_)
                        subst hv_135
                        refine y_ret1 ?_
                        refine y_ireturn rfl rfl rfl ?_
                        first | (exfalso; omega) | (exact hQc (by (first | omega | (simp only [show ySeat x3 = x3 from if_neg (by omega)]; omega) | (simp only [show ySeat x3 = Int32.ofInt 8 from if_pos (by omega)]; omega))) _ _ hC hF rfl (by first | (simp only [show ySeat x3 = x3 from if_neg (by omega)]; first | (rw [e134]; done) | (rw [e134]; rfl)) | (simp only [show ySeat x3 = Int32.ofInt 8 from if_pos (by omega)]; first | (rw [e134]; done) | (rw [e134]; rfl))))
                      · rw [yz_m1] at h_133
                        refine y_bip rfl (by decide) ?_
                        refine y_goto rfl j_X8_placeOf_11 ?_
                        refine y_ireturn rfl rfl rfl ?_
                        refine y_ret1 ?_
                        refine y_iload_n rfl rfl ?_
                        refine y_virt rfl rfl rfl rfl rfl (ySh.t hS rfl) (ySh.n hS rfl) ?_
                        refine spx_add hS ?_
                        refine y_ret0 ?_
                        refine y_nameI (fun I136 e136 => ?_)
                        have hC : yCI I136 := by rw [e136]; exact yCI.addC hC
                        have hF : yFt I I136 := by rw [e136]; exact hF.addC
                        refine y_aload_n rfl rfl ?_
                        refine y_getR rfl (ySh.t hS rfl) (ySh.n hS rfl) rfl rfl (ySh.r hS rfl) ?_
                        refine y_iload_n rfl rfl ?_
                        refine y_virt rfl rfl rfl rfl rfl (ySh.t hS rfl) (ySh.n hS rfl) ?_
                        refine sx_capitals hS (by omega) (by omega) (fun v_137 hv_137 => ?_)
                        subst hv_137
                        refine y_ret1 ?_
                        refine y_ireturn rfl rfl rfl ?_
                        first | (exfalso; omega) | (exact hQc (by (first | omega | (simp only [show ySeat x3 = x3 from if_neg (by omega)]; omega) | (simp only [show ySeat x3 = Int32.ofInt 8 from if_pos (by omega)]; omega))) _ _ hC hF rfl (by first | (simp only [show ySeat x3 = x3 from if_neg (by omega)]; first | (rw [e136]; done) | (rw [e136]; rfl)) | (simp only [show ySeat x3 = Int32.ofInt 8 from if_pos (by omega)]; first | (rw [e136]; done) | (rw [e136]; rfl))))
                    · rw [yz_m2] at h_131
                      refine y_aload_n rfl rfl ?_
                      refine y_getR rfl (ySh.t hS rfl) (ySh.n hS rfl) rfl rfl (ySh.r hS rfl) ?_
                      refine y_iload_n rfl rfl ?_
                      refine y_iload_n rfl rfl ?_
                      refine y_ineg rfl ?_
                      refine y_virt rfl rfl rfl rfl rfl (ySh.t hS rfl) (ySh.n hS rfl) ?_
                      refine sx_loss hS hC (by omega) (by omega) (fun J138 hC hF1 eJ138 => ?_)
                      have hF : yFt I J138 := hF.trans hF1.t
                      refine y_ret0 ?_
                      refine y_goto rfl j_X8_result_136 ?_
                      refine y_aload_n rfl rfl ?_
                      refine y_getR rfl (ySh.t hS rfl) (ySh.n hS rfl) rfl rfl (ySh.r hS rfl) ?_
                      refine y_iload_n rfl rfl ?_
                      refine y_virt rfl rfl rfl rfl rfl (ySh.t hS rfl) (ySh.n hS rfl) ?_
                      refine sx_capitals hS (by omega) (by omega) (fun v_139 hv_139 => ?_)
                      subst hv_139
                      refine y_ret1 ?_
                      refine y_ireturn rfl rfl rfl ?_
                      first | (exfalso; omega) | (exact hQb (by (first | omega | (simp only [show ySeat x3 = x3 from if_neg (by omega)]; omega) | (simp only [show ySeat x3 = Int32.ofInt 8 from if_pos (by omega)]; omega))) _ _ hC hF rfl eJ138)
                  · refine y_aload_n rfl rfl ?_
                    refine y_iload_n rfl rfl ?_
                    refine y_iload_n rfl rfl ?_
                    refine y_virt rfl rfl rfl rfl rfl (ySh.t hS rfl) (ySh.n hS rfl) ?_
                    refine sx_shareProfit hS hC (by omega) (by omega) (fun J140 hC hF1 eJ140 => ?_)
                    have hF : yFt I J140 := hF.trans hF1.t
                    refine y_ret0 ?_
                    refine y_goto rfl j_X8_result_136 ?_
                    refine y_aload_n rfl rfl ?_
                    refine y_getR rfl (ySh.t hS rfl) (ySh.n hS rfl) rfl rfl (ySh.r hS rfl) ?_
                    refine y_iload_n rfl rfl ?_
                    refine y_virt rfl rfl rfl rfl rfl (ySh.t hS rfl) (ySh.n hS rfl) ?_
                    refine sx_capitals hS (by omega) (by omega) (fun v_141 hv_141 => ?_)
                    subst hv_141
                    refine y_ret1 ?_
                    refine y_ireturn rfl rfl rfl ?_
                    first | (exfalso; omega) | (exact hQa (by (first | omega | (simp only [show ySeat x3 = x3 from if_neg (by omega)]; omega) | (simp only [show ySeat x3 = Int32.ofInt 8 from if_pos (by omega)]; omega))) _ _ hC hF rfl (by rw [eJ140]))
                · rw [yz_m2] at h_127
                  refine y_aload_n rfl rfl ?_
                  refine y_getR rfl (ySh.t hS rfl) (ySh.n hS rfl) rfl rfl (ySh.r hS rfl) ?_
                  refine y_iload_n rfl rfl ?_
                  refine y_iload_n rfl rfl ?_
                  refine y_static rfl rfl rfl rfl rfl ?_
                  refine y_in (M := xm_X8_placeOf) (ls := [some _]) rfl rfl rfl ?_
                  refine y_iload_n rfl rfl ?_
                  refine y_iconst rfl ?_
                  refine y_icmp_ne rfl j_X8_placeOf_10 (fun h_142 => ?_) (fun h_143 => ?_)
                  · rw [yz_m1] at h_142
                    refine y_iload_n rfl rfl ?_
                    refine y_ireturn rfl rfl rfl ?_
                    refine y_ret1 ?_
                    refine y_virt rfl rfl rfl rfl rfl (ySh.t hS rfl) (ySh.n hS rfl) ?_
                    refine y_in (M := xm_X7_isPartner) (ls := [some _, some _, some _]) rfl rfl rfl ?_
                    refine y_aload_n rfl rfl ?_
                    refine y_getR rfl (ySh.t hS rfl) (ySh.n hS rfl) rfl rfl (ySh.r hS rfl) ?_
                    refine y_aload_n rfl rfl ?_
                    refine y_iload_n rfl rfl ?_
                    refine y_iload_n rfl rfl ?_
                    refine y_virt rfl rfl rfl rfl rfl (ySh.t hS rfl) (ySh.n hS rfl) ?_
                    refine spx_at (by omega) (by omega) (by omega) (by omega) (fun hz144 => ?_)
                    refine y_ret1 ?_
                    refine y_baloadv (J := I 70) rfl (ySh.t hS rfl) rfl (ySh.n hS rfl) (by omega) (by omega) rfl ?_
                    refine y_ireturn rfl rfl (xfit_z (hC.p _)) ?_
                    refine y_ret1 ?_
                    refine y_if_ne rfl j_X8_result_92 (fun h_145 => ?_) (fun h_146 => ?_)
                    · refine y_iload_n rfl rfl ?_
                      refine y_if_lt rfl j_X8_result_105 (fun h_147 => ?_) (fun h_148 => ?_)
                      · refine y_iload_n rfl rfl ?_
                        refine y_bip rfl (by decide) ?_
                        refine y_icmp_ne rfl j_X8_result_124 (fun h_149 => ?_) (fun h_150 => ?_)
                        · rw [yz_m2] at h_149
                          refine y_aload_n rfl rfl ?_
                          refine y_getR rfl (ySh.t hS rfl) (ySh.n hS rfl) rfl rfl (ySh.r hS rfl) ?_
                          refine y_iload_n rfl rfl ?_
                          refine y_static rfl rfl rfl rfl rfl ?_
                          refine y_in (M := xm_X8_placeOf) (ls := [some _]) rfl rfl rfl ?_
                          refine y_iload_n rfl rfl ?_
                          refine y_iconst rfl ?_
                          refine y_icmp_ne rfl j_X8_placeOf_10 (fun h_151 => ?_) (fun h_152 => ?_)
                          · rw [yz_m1] at h_151
                            refine y_iload_n rfl rfl ?_
                            refine y_ireturn rfl rfl rfl ?_
                            refine y_ret1 ?_
                            refine y_iload_n rfl rfl ?_
                            refine y_virt rfl rfl rfl rfl rfl (ySh.t hS rfl) (ySh.n hS rfl) ?_
                            refine spx_add hS ?_
                            refine y_ret0 ?_
                            refine y_nameI (fun I153 e153 => ?_)
                            have hC : yCI I153 := by rw [e153]; exact yCI.addC hC
                            have hF : yFt I I153 := by rw [e153]; exact hF.addC
                            refine y_aload_n rfl rfl ?_
                            refine y_getR rfl (ySh.t hS rfl) (ySh.n hS rfl) rfl rfl (ySh.r hS rfl) ?_
                            refine y_iload_n rfl rfl ?_
                            refine y_virt rfl rfl rfl rfl rfl (ySh.t hS rfl) (ySh.n hS rfl) ?_
                            refine sx_capitals hS (by omega) (by omega) (fun v_154 hv_154 => ?_)
                            subst hv_154
                            refine y_ret1 ?_
                            refine y_ireturn rfl rfl rfl ?_
                            first | (exfalso; omega) | (exact hQc (by (first | omega | (simp only [show ySeat x3 = x3 from if_neg (by omega)]; omega) | (simp only [show ySeat x3 = Int32.ofInt 8 from if_pos (by omega)]; omega))) _ _ hC hF rfl (by first | (simp only [show ySeat x3 = x3 from if_neg (by omega)]; first | (rw [e153]; done) | (rw [e153]; rfl)) | (simp only [show ySeat x3 = Int32.ofInt 8 from if_pos (by omega)]; first | (rw [e153]; done) | (rw [e153]; rfl))))
                          · rw [yz_m1] at h_152
                            refine y_bip rfl (by decide) ?_
                            refine y_goto rfl j_X8_placeOf_11 ?_
                            refine y_ireturn rfl rfl rfl ?_
                            refine y_ret1 ?_
                            refine y_iload_n rfl rfl ?_
                            refine y_virt rfl rfl rfl rfl rfl (ySh.t hS rfl) (ySh.n hS rfl) ?_
                            refine spx_add hS ?_
                            refine y_ret0 ?_
                            refine y_nameI (fun I155 e155 => ?_)
                            have hC : yCI I155 := by rw [e155]; exact yCI.addC hC
                            have hF : yFt I I155 := by rw [e155]; exact hF.addC
                            refine y_aload_n rfl rfl ?_
                            refine y_getR rfl (ySh.t hS rfl) (ySh.n hS rfl) rfl rfl (ySh.r hS rfl) ?_
                            refine y_iload_n rfl rfl ?_
                            refine y_virt rfl rfl rfl rfl rfl (ySh.t hS rfl) (ySh.n hS rfl) ?_
                            refine sx_capitals hS (by omega) (by omega) (fun v_156 hv_156 => ?_)
                            subst hv_156
                            refine y_ret1 ?_
                            refine y_ireturn rfl rfl rfl ?_
                            first | (exfalso; omega) | (exact hQc (by (first | omega | (simp only [show ySeat x3 = x3 from if_neg (by omega)]; omega) | (simp only [show ySeat x3 = Int32.ofInt 8 from if_pos (by omega)]; omega))) _ _ hC hF rfl (by first | (simp only [show ySeat x3 = x3 from if_neg (by omega)]; first | (rw [e155]; done) | (rw [e155]; rfl)) | (simp only [show ySeat x3 = Int32.ofInt 8 from if_pos (by omega)]; first | (rw [e155]; done) | (rw [e155]; rfl))))
                        · rw [yz_m2] at h_150
                          refine y_aload_n rfl rfl ?_
                          refine y_getR rfl (ySh.t hS rfl) (ySh.n hS rfl) rfl rfl (ySh.r hS rfl) ?_
                          refine y_iload_n rfl rfl ?_
                          refine y_iload_n rfl rfl ?_
                          refine y_ineg rfl ?_
                          refine y_virt rfl rfl rfl rfl rfl (ySh.t hS rfl) (ySh.n hS rfl) ?_
                          refine sx_loss hS hC (by omega) (by omega) (fun J157 hC hF1 eJ157 => ?_)
                          have hF : yFt I J157 := hF.trans hF1.t
                          refine y_ret0 ?_
                          refine y_goto rfl j_X8_result_136 ?_
                          refine y_aload_n rfl rfl ?_
                          refine y_getR rfl (ySh.t hS rfl) (ySh.n hS rfl) rfl rfl (ySh.r hS rfl) ?_
                          refine y_iload_n rfl rfl ?_
                          refine y_virt rfl rfl rfl rfl rfl (ySh.t hS rfl) (ySh.n hS rfl) ?_
                          refine sx_capitals hS (by omega) (by omega) (fun v_158 hv_158 => ?_)
                          subst hv_158
                          refine y_ret1 ?_
                          refine y_ireturn rfl rfl rfl ?_
                          first | (exfalso; omega) | (exact hQb (by (first | omega | (simp only [show ySeat x3 = x3 from if_neg (by omega)]; omega) | (simp only [show ySeat x3 = Int32.ofInt 8 from if_pos (by omega)]; omega))) _ _ hC hF rfl eJ157)
                      · refine y_aload_n rfl rfl ?_
                        refine y_iload_n rfl rfl ?_
                        refine y_iload_n rfl rfl ?_
                        refine y_virt rfl rfl rfl rfl rfl (ySh.t hS rfl) (ySh.n hS rfl) ?_
                        refine sx_shareProfit hS hC (by omega) (by omega) (fun J159 hC hF1 eJ159 => ?_)
                        have hF : yFt I J159 := hF.trans hF1.t
                        refine y_ret0 ?_
                        refine y_goto rfl j_X8_result_136 ?_
                        refine y_aload_n rfl rfl ?_
                        refine y_getR rfl (ySh.t hS rfl) (ySh.n hS rfl) rfl rfl (ySh.r hS rfl) ?_
                        refine y_iload_n rfl rfl ?_
                        refine y_virt rfl rfl rfl rfl rfl (ySh.t hS rfl) (ySh.n hS rfl) ?_
                        refine sx_capitals hS (by omega) (by omega) (fun v_160 hv_160 => ?_)
                        subst hv_160
                        refine y_ret1 ?_
                        refine y_ireturn rfl rfl rfl ?_
                        first | (exfalso; omega) | (exact hQa (by (first | omega | (simp only [show ySeat x3 = x3 from if_neg (by omega)]; omega) | (simp only [show ySeat x3 = Int32.ofInt 8 from if_pos (by omega)]; omega))) _ _ hC hF rfl (by rw [eJ159]))
                    · refine y_throw rfl rfl rfl ?_
                      exact hE2 (by (first | omega | (simp only [show ySeat x3 = x3 from if_neg (by omega)]; omega) | (simp only [show ySeat x3 = Int32.ofInt 8 from if_pos (by omega)]; omega)))
                  · rw [yz_m1] at h_143
                    refine y_bip rfl (by decide) ?_
                    refine y_goto rfl j_X8_placeOf_11 ?_
                    refine y_ireturn rfl rfl rfl ?_
                    refine y_ret1 ?_
                    refine y_virt rfl rfl rfl rfl rfl (ySh.t hS rfl) (ySh.n hS rfl) ?_
                    refine y_in (M := xm_X7_isPartner) (ls := [some _, some _, some _]) rfl rfl rfl ?_
                    refine y_aload_n rfl rfl ?_
                    refine y_getR rfl (ySh.t hS rfl) (ySh.n hS rfl) rfl rfl (ySh.r hS rfl) ?_
                    refine y_aload_n rfl rfl ?_
                    refine y_iload_n rfl rfl ?_
                    refine y_iload_n rfl rfl ?_
                    refine y_virt rfl rfl rfl rfl rfl (ySh.t hS rfl) (ySh.n hS rfl) ?_
                    refine spx_at (by omega) (by omega) (by decide) (by decide) (fun hz161 => ?_)
                    rw [yz_8] at hz161
                    refine y_ret1 ?_
                    refine y_baloadv (J := I 70) rfl (ySh.t hS rfl) rfl (ySh.n hS rfl) (by omega) (by omega) rfl ?_
                    refine y_ireturn rfl rfl (xfit_z (hC.p _)) ?_
                    refine y_ret1 ?_
                    refine y_if_ne rfl j_X8_result_92 (fun h_162 => ?_) (fun h_163 => ?_)
                    · refine y_iload_n rfl rfl ?_
                      refine y_if_lt rfl j_X8_result_105 (fun h_164 => ?_) (fun h_165 => ?_)
                      · refine y_iload_n rfl rfl ?_
                        refine y_bip rfl (by decide) ?_
                        refine y_icmp_ne rfl j_X8_result_124 (fun h_166 => ?_) (fun h_167 => ?_)
                        · rw [yz_m2] at h_166
                          refine y_aload_n rfl rfl ?_
                          refine y_getR rfl (ySh.t hS rfl) (ySh.n hS rfl) rfl rfl (ySh.r hS rfl) ?_
                          refine y_iload_n rfl rfl ?_
                          refine y_static rfl rfl rfl rfl rfl ?_
                          refine y_in (M := xm_X8_placeOf) (ls := [some _]) rfl rfl rfl ?_
                          refine y_iload_n rfl rfl ?_
                          refine y_iconst rfl ?_
                          refine y_icmp_ne rfl j_X8_placeOf_10 (fun h_168 => ?_) (fun h_169 => ?_)
                          · rw [yz_m1] at h_168
                            refine y_iload_n rfl rfl ?_
                            refine y_ireturn rfl rfl rfl ?_
                            refine y_ret1 ?_
                            refine y_iload_n rfl rfl ?_
                            refine y_virt rfl rfl rfl rfl rfl (ySh.t hS rfl) (ySh.n hS rfl) ?_
                            refine spx_add hS ?_
                            refine y_ret0 ?_
                            refine y_nameI (fun I170 e170 => ?_)
                            have hC : yCI I170 := by rw [e170]; exact yCI.addC hC
                            have hF : yFt I I170 := by rw [e170]; exact hF.addC
                            refine y_aload_n rfl rfl ?_
                            refine y_getR rfl (ySh.t hS rfl) (ySh.n hS rfl) rfl rfl (ySh.r hS rfl) ?_
                            refine y_iload_n rfl rfl ?_
                            refine y_virt rfl rfl rfl rfl rfl (ySh.t hS rfl) (ySh.n hS rfl) ?_
                            refine sx_capitals hS (by omega) (by omega) (fun v_171 hv_171 => ?_)
                            subst hv_171
                            refine y_ret1 ?_
                            refine y_ireturn rfl rfl rfl ?_
                            first | (exfalso; omega) | (exact hQc (by (first | omega | (simp only [show ySeat x3 = x3 from if_neg (by omega)]; omega) | (simp only [show ySeat x3 = Int32.ofInt 8 from if_pos (by omega)]; omega))) _ _ hC hF rfl (by first | (simp only [show ySeat x3 = x3 from if_neg (by omega)]; first | (rw [e170]; done) | (rw [e170]; rfl)) | (simp only [show ySeat x3 = Int32.ofInt 8 from if_pos (by omega)]; first | (rw [e170]; done) | (rw [e170]; rfl))))
                          · rw [yz_m1] at h_169
                            refine y_bip rfl (by decide) ?_
                            refine y_goto rfl j_X8_placeOf_11 ?_
                            refine y_ireturn rfl rfl rfl ?_
                            refine y_ret1 ?_
                            refine y_iload_n rfl rfl ?_
                            refine y_virt rfl rfl rfl rfl rfl (ySh.t hS rfl) (ySh.n hS rfl) ?_
                            refine spx_add hS ?_
                            refine y_ret0 ?_
                            refine y_nameI (fun I172 e172 => ?_)
                            have hC : yCI I172 := by rw [e172]; exact yCI.addC hC
                            have hF : yFt I I172 := by rw [e172]; exact hF.addC
                            refine y_aload_n rfl rfl ?_
                            refine y_getR rfl (ySh.t hS rfl) (ySh.n hS rfl) rfl rfl (ySh.r hS rfl) ?_
                            refine y_iload_n rfl rfl ?_
                            refine y_virt rfl rfl rfl rfl rfl (ySh.t hS rfl) (ySh.n hS rfl) ?_
                            refine sx_capitals hS (by omega) (by omega) (fun v_173 hv_173 => ?_)
                            subst hv_173
                            refine y_ret1 ?_
                            refine y_ireturn rfl rfl rfl ?_
                            first | (exfalso; omega) | (exact hQc (by (first | omega | (simp only [show ySeat x3 = x3 from if_neg (by omega)]; omega) | (simp only [show ySeat x3 = Int32.ofInt 8 from if_pos (by omega)]; omega))) _ _ hC hF rfl (by first | (simp only [show ySeat x3 = x3 from if_neg (by omega)]; first | (rw [e172]; done) | (rw [e172]; rfl)) | (simp only [show ySeat x3 = Int32.ofInt 8 from if_pos (by omega)]; first | (rw [e172]; done) | (rw [e172]; rfl))))
                        · rw [yz_m2] at h_167
                          refine y_aload_n rfl rfl ?_
                          refine y_getR rfl (ySh.t hS rfl) (ySh.n hS rfl) rfl rfl (ySh.r hS rfl) ?_
                          refine y_iload_n rfl rfl ?_
                          refine y_iload_n rfl rfl ?_
                          refine y_ineg rfl ?_
                          refine y_virt rfl rfl rfl rfl rfl (ySh.t hS rfl) (ySh.n hS rfl) ?_
                          refine sx_loss hS hC (by omega) (by omega) (fun J174 hC hF1 eJ174 => ?_)
                          have hF : yFt I J174 := hF.trans hF1.t
                          refine y_ret0 ?_
                          refine y_goto rfl j_X8_result_136 ?_
                          refine y_aload_n rfl rfl ?_
                          refine y_getR rfl (ySh.t hS rfl) (ySh.n hS rfl) rfl rfl (ySh.r hS rfl) ?_
                          refine y_iload_n rfl rfl ?_
                          refine y_virt rfl rfl rfl rfl rfl (ySh.t hS rfl) (ySh.n hS rfl) ?_
                          refine sx_capitals hS (by omega) (by omega) (fun v_175 hv_175 => ?_)
                          subst hv_175
                          refine y_ret1 ?_
                          refine y_ireturn rfl rfl rfl ?_
                          first | (exfalso; omega) | (exact hQb (by (first | omega | (simp only [show ySeat x3 = x3 from if_neg (by omega)]; omega) | (simp only [show ySeat x3 = Int32.ofInt 8 from if_pos (by omega)]; omega))) _ _ hC hF rfl eJ174)
                      · refine y_aload_n rfl rfl ?_
                        refine y_iload_n rfl rfl ?_
                        refine y_iload_n rfl rfl ?_
                        refine y_virt rfl rfl rfl rfl rfl (ySh.t hS rfl) (ySh.n hS rfl) ?_
                        refine sx_shareProfit hS hC (by omega) (by omega) (fun J176 hC hF1 eJ176 => ?_)
                        have hF : yFt I J176 := hF.trans hF1.t
                        refine y_ret0 ?_
                        refine y_goto rfl j_X8_result_136 ?_
                        refine y_aload_n rfl rfl ?_
                        refine y_getR rfl (ySh.t hS rfl) (ySh.n hS rfl) rfl rfl (ySh.r hS rfl) ?_
                        refine y_iload_n rfl rfl ?_
                        refine y_virt rfl rfl rfl rfl rfl (ySh.t hS rfl) (ySh.n hS rfl) ?_
                        refine sx_capitals hS (by omega) (by omega) (fun v_177 hv_177 => ?_)
                        subst hv_177
                        refine y_ret1 ?_
                        refine y_ireturn rfl rfl rfl ?_
                        first | (exfalso; omega) | (exact hQa (by (first | omega | (simp only [show ySeat x3 = x3 from if_neg (by omega)]; omega) | (simp only [show ySeat x3 = Int32.ofInt 8 from if_pos (by omega)]; omega))) _ _ hC hF rfl (by rw [eJ176]))
                    · refine y_throw rfl rfl rfl ?_
                      exact hE2 (by (first | omega | (simp only [show ySeat x3 = x3 from if_neg (by omega)]; omega) | (simp only [show ySeat x3 = Int32.ofInt 8 from if_pos (by omega)]; omega)))
              · rw [yz_m999] at h_125
                rw [yz_999] at h_125
                refine y_ret1 ?_
                refine y_if_neF rfl (by decide) ?_
                refine y_throw rfl rfl rfl ?_
                exact hE1 (by (first | omega | (simp only [show ySeat x3 = x3 from if_neg (by omega)]; omega) | (simp only [show ySeat x3 = Int32.ofInt 8 from if_pos (by omega)]; omega)))
end YXV
