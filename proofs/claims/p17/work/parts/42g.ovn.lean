/-! WHAT IS TOLD OF A VENTURE, ON BOTH SIDES (by ex8v.py) -/
/-- which row of a venture is asked for -/
def yOVf (w : Int) : Nat := if w = 0 then 1 else if w = 1 then 2 else 3
theorem yOVf_lt {w : Int} : yOVf w < 4 := by
  unfold yOVf
  split
  · decide
  · split <;> decide
section YXV8
variable {n : Nat} {tg : Nat → yT} {I : Nat → Nat → Int32} {R : Nat → Nat → Value} {c s : Nat} {Q : yQ}
theorem g_ofVenture (hS : ySh n tg R) (hC : yCI I) {x1 x2 x3 : Int32} (hE0 : ¬ ((0 ≤ x1.toInt ∧ x1.toInt < (I 69 0).toInt) ∧ (x2.toInt = -1 ∨ 0 ≤ x2.toInt ∧ x2.toInt < (I 38 0).toInt)) → Q (.inr "java/lang/IndexOutOfBoundsException") (n, tg, I, R) (c + 1) (s + 6)) (hE1 : ((0 ≤ x1.toInt ∧ x1.toInt < (I 69 0).toInt) ∧ (x2.toInt = -1 ∨ 0 ≤ x2.toInt ∧ x2.toInt < (I 38 0).toInt)) ∧ ¬ (0 ≤ x3.toInt ∧ x3.toInt ≤ 2) → Q (.inr "java/lang/IllegalArgumentException") (n, tg, I, R) (c + 1) (s + 6)) (hQ : ((0 ≤ x1.toInt ∧ x1.toInt < (I 69 0).toInt) ∧ (x2.toInt = -1 ∨ 0 ≤ x2.toInt ∧ x2.toInt < (I 38 0).toInt)) ∧ (0 ≤ x3.toInt ∧ x3.toInt ≤ 2) → ∀ v : Int32, v = I (70 + yOVf x3.toInt) (yAtI x1 (ySeat x2)).toInt.toNat → Q (.inl (some (.int v))) (n, tg, I, R) c s) : yC 146 [.ref 34, .int x1, .int x2, .int x3] (n, tg, I, R) c s Q := by
  have hF : yFt I I := yFt.rf
  refine y_in (M := xm_X8_ofVenture) (ls := [some _, some _, some _, some _, _]) rfl rfl rfl ?_
  refine y_aload_n rfl rfl ?_
  refine y_getR rfl (ySh.t hS rfl) (ySh.n hS rfl) rfl rfl (ySh.r hS rfl) ?_
  refine y_iload_n rfl rfl ?_
  refine y_virt rfl rfl rfl rfl rfl (ySh.t hS rfl) (ySh.n hS rfl) ?_
  refine y_in (M := xm_X7_has) (ls := [some _, some _]) rfl rfl rfl ?_
  refine y_iload_n rfl rfl ?_
  refine y_if_lt rfl j_X7_has_16 (fun h_1 => ?_) (fun h_2 => ?_)
  · refine y_iconst rfl ?_
    refine y_ireturn rfl rfl rfl ?_
    refine y_ret1 ?_
    refine y_if_eqT rfl j_X8_ofVenture_19 (by decide) ?_
    refine y_throw rfl rfl rfl ?_
    exact hE0 (by (first | omega | (simp only [show ySeat x2 = x2 from if_neg (by omega)]; omega) | (simp only [show ySeat x2 = Int32.ofInt 8 from if_pos (by omega)]; omega)))
  · refine y_iload_n rfl rfl ?_
    refine y_aload_n rfl rfl ?_
    refine y_getIv (v := I 69 0) rfl (ySh.t hS rfl) (ySh.n hS rfl) rfl rfl rfl ?_
    refine y_icmp_ge rfl j_X7_has_16 (fun h_3 => ?_) (fun h_4 => ?_)
    · refine y_iconst rfl ?_
      refine y_ireturn rfl rfl rfl ?_
      refine y_ret1 ?_
      refine y_if_eqT rfl j_X8_ofVenture_19 (by decide) ?_
      refine y_throw rfl rfl rfl ?_
      exact hE0 (by (first | omega | (simp only [show ySeat x2 = x2 from if_neg (by omega)]; omega) | (simp only [show ySeat x2 = Int32.ofInt 8 from if_pos (by omega)]; omega)))
    · refine y_iconst rfl ?_
      refine y_goto rfl j_X7_has_17 ?_
      refine y_ireturn rfl rfl rfl ?_
      refine y_ret1 ?_
      refine y_if_eqF rfl (by decide) ?_
      refine y_aload_n rfl rfl ?_
      refine y_iload_n rfl rfl ?_
      refine y_virt rfl rfl rfl rfl rfl (ySh.t hS rfl) (ySh.n hS rfl) ?_
      refine y_in (M := xm_X8_isParty) (ls := [some _, some _]) rfl rfl rfl ?_
      refine y_iload_n rfl rfl ?_
      refine y_iconst rfl ?_
      refine y_icmp_eq rfl j_X8_isParty_16 (fun h_5 => ?_) (fun h_6 => ?_)
      · rw [yz_m1] at h_5
        refine y_iconst rfl ?_
        refine y_goto rfl j_X8_isParty_21 ?_
        refine y_ireturn rfl rfl rfl ?_
        refine y_ret1 ?_
        refine y_if_neT rfl j_X8_ofVenture_30 (by decide) ?_
        refine y_iload_n rfl rfl ?_
        refine y_static rfl rfl rfl rfl rfl ?_
        refine y_in (M := xm_X8_placeOf) (ls := [some _]) rfl rfl rfl ?_
        refine y_iload_n rfl rfl ?_
        refine y_iconst rfl ?_
        refine y_icmp_ne rfl j_X8_placeOf_10 (fun h_7 => ?_) (fun h_8 => ?_)
        · rw [yz_m1] at h_7
          refine y_iload_n rfl rfl ?_
          refine y_ireturn rfl rfl rfl ?_
          refine y_ret1 ?_
          refine y_istore (ls' := [some _, some _, some _, some _, some _]) rfl rfl rfl ?_
          refine y_iload_n rfl rfl ?_
          refine y_sw rfl (fun h_10 => ?_) (fun h_9 => ?_)
          · refine y_swOut rfl j_X8_ofVenture_97 h_10 ?_
            refine y_throw rfl rfl rfl ?_
            exact hE1 (by (first | omega | (simp only [show ySeat x2 = x2 from if_neg (by omega)]; omega) | (simp only [show ySeat x2 = Int32.ofInt 8 from if_pos (by omega)]; omega)))
          rcases ySwC0_2 h_9 with h_9 | h_9 | h_9
          · refine y_swIn (j := 0) rfl h_9 (by decide) j_X8_ofVenture_64 ?_
            refine y_aload_n rfl rfl ?_
            refine y_getR rfl (ySh.t hS rfl) (ySh.n hS rfl) rfl rfl (ySh.r hS rfl) ?_
            refine y_iload_n rfl rfl ?_
            refine y_iload rfl rfl ?_
            refine y_virt rfl rfl rfl rfl rfl (ySh.t hS rfl) (ySh.n hS rfl) ?_
            refine y_in (M := xm_X7_capitalOf) (ls := [some _, some _, some _]) rfl rfl rfl ?_
            refine y_aload_n rfl rfl ?_
            refine y_getR rfl (ySh.t hS rfl) (ySh.n hS rfl) rfl rfl (ySh.r hS rfl) ?_
            refine y_aload_n rfl rfl ?_
            refine y_iload_n rfl rfl ?_
            refine y_iload_n rfl rfl ?_
            refine y_virt rfl rfl rfl rfl rfl (ySh.t hS rfl) (ySh.n hS rfl) ?_
            refine spx_at (by omega) (by omega) (by omega) (by omega) (fun hz11 => ?_)
            refine y_ret1 ?_
            refine y_ialoadv (J := I 71) rfl (ySh.t hS rfl) (ySh.n hS rfl) (by omega) (by omega) rfl ?_
            refine y_ireturn rfl rfl rfl ?_
            refine y_ret1 ?_
            refine y_ireturn rfl rfl rfl ?_
            first | (exfalso; omega) | (exact hQ (by (first | omega | (simp only [show ySeat x2 = x2 from if_neg (by omega)]; omega) | (simp only [show ySeat x2 = Int32.ofInt 8 from if_pos (by omega)]; omega))) _ (by rw [show x3.toInt = 0 by omega]; first | (simp only [show ySeat x2 = x2 from if_neg (by omega)]; rfl) | (simp only [show ySeat x2 = Int32.ofInt 8 from if_pos (by omega)]; rfl)))
          · refine y_swIn (j := 1) rfl h_9 (by decide) j_X8_ofVenture_75 ?_
            refine y_aload_n rfl rfl ?_
            refine y_getR rfl (ySh.t hS rfl) (ySh.n hS rfl) rfl rfl (ySh.r hS rfl) ?_
            refine y_iload_n rfl rfl ?_
            refine y_iload rfl rfl ?_
            refine y_virt rfl rfl rfl rfl rfl (ySh.t hS rfl) (ySh.n hS rfl) ?_
            refine y_in (M := xm_X7_shareOf) (ls := [some _, some _, some _]) rfl rfl rfl ?_
            refine y_aload_n rfl rfl ?_
            refine y_getR rfl (ySh.t hS rfl) (ySh.n hS rfl) rfl rfl (ySh.r hS rfl) ?_
            refine y_aload_n rfl rfl ?_
            refine y_iload_n rfl rfl ?_
            refine y_iload_n rfl rfl ?_
            refine y_virt rfl rfl rfl rfl rfl (ySh.t hS rfl) (ySh.n hS rfl) ?_
            refine spx_at (by omega) (by omega) (by omega) (by omega) (fun hz12 => ?_)
            refine y_ret1 ?_
            refine y_ialoadv (J := I 72) rfl (ySh.t hS rfl) (ySh.n hS rfl) (by omega) (by omega) rfl ?_
            refine y_ireturn rfl rfl rfl ?_
            refine y_ret1 ?_
            refine y_ireturn rfl rfl rfl ?_
            first | (exfalso; omega) | (exact hQ (by (first | omega | (simp only [show ySeat x2 = x2 from if_neg (by omega)]; omega) | (simp only [show ySeat x2 = Int32.ofInt 8 from if_pos (by omega)]; omega))) _ (by rw [show x3.toInt = 1 by omega]; first | (simp only [show ySeat x2 = x2 from if_neg (by omega)]; rfl) | (simp only [show ySeat x2 = Int32.ofInt 8 from if_pos (by omega)]; rfl)))
          · refine y_swIn (j := 2) rfl h_9 (by decide) j_X8_ofVenture_86 ?_
            refine y_aload_n rfl rfl ?_
            refine y_getR rfl (ySh.t hS rfl) (ySh.n hS rfl) rfl rfl (ySh.r hS rfl) ?_
            refine y_iload_n rfl rfl ?_
            refine y_iload rfl rfl ?_
            refine y_virt rfl rfl rfl rfl rfl (ySh.t hS rfl) (ySh.n hS rfl) ?_
            refine y_in (M := xm_X7_gainOf) (ls := [some _, some _, some _]) rfl rfl rfl ?_
            refine y_aload_n rfl rfl ?_
            refine y_getR rfl (ySh.t hS rfl) (ySh.n hS rfl) rfl rfl (ySh.r hS rfl) ?_
            refine y_aload_n rfl rfl ?_
            refine y_iload_n rfl rfl ?_
            refine y_iload_n rfl rfl ?_
            refine y_virt rfl rfl rfl rfl rfl (ySh.t hS rfl) (ySh.n hS rfl) ?_
            refine spx_at (by omega) (by omega) (by omega) (by omega) (fun hz13 => ?_)
            refine y_ret1 ?_
            refine y_ialoadv (J := I 73) rfl (ySh.t hS rfl) (ySh.n hS rfl) (by omega) (by omega) rfl ?_
            refine y_ireturn rfl rfl rfl ?_
            refine y_ret1 ?_
            refine y_ireturn rfl rfl rfl ?_
            first | (exfalso; omega) | (exact hQ (by (first | omega | (simp only [show ySeat x2 = x2 from if_neg (by omega)]; omega) | (simp only [show ySeat x2 = Int32.ofInt 8 from if_pos (by omega)]; omega))) _ (by rw [show x3.toInt = 2 by omega]; first | (simp only [show ySeat x2 = x2 from if_neg (by omega)]; rfl) | (simp only [show ySeat x2 = Int32.ofInt 8 from if_pos (by omega)]; rfl)))
        · rw [yz_m1] at h_8
          refine y_bip rfl (by decide) ?_
          refine y_goto rfl j_X8_placeOf_11 ?_
          refine y_ireturn rfl rfl rfl ?_
          refine y_ret1 ?_
          refine y_istore (ls' := [some _, some _, some _, some _, some _]) rfl rfl rfl ?_
          refine y_iload_n rfl rfl ?_
          refine y_sw rfl (fun h_15 => ?_) (fun h_14 => ?_)
          · refine y_swOut rfl j_X8_ofVenture_97 h_15 ?_
            refine y_throw rfl rfl rfl ?_
            exact hE1 (by (first | omega | (simp only [show ySeat x2 = x2 from if_neg (by omega)]; omega) | (simp only [show ySeat x2 = Int32.ofInt 8 from if_pos (by omega)]; omega)))
          rcases ySwC0_2 h_14 with h_14 | h_14 | h_14
          · refine y_swIn (j := 0) rfl h_14 (by decide) j_X8_ofVenture_64 ?_
            refine y_aload_n rfl rfl ?_
            refine y_getR rfl (ySh.t hS rfl) (ySh.n hS rfl) rfl rfl (ySh.r hS rfl) ?_
            refine y_iload_n rfl rfl ?_
            refine y_iload rfl rfl ?_
            refine y_virt rfl rfl rfl rfl rfl (ySh.t hS rfl) (ySh.n hS rfl) ?_
            refine y_in (M := xm_X7_capitalOf) (ls := [some _, some _, some _]) rfl rfl rfl ?_
            refine y_aload_n rfl rfl ?_
            refine y_getR rfl (ySh.t hS rfl) (ySh.n hS rfl) rfl rfl (ySh.r hS rfl) ?_
            refine y_aload_n rfl rfl ?_
            refine y_iload_n rfl rfl ?_
            refine y_iload_n rfl rfl ?_
            refine y_virt rfl rfl rfl rfl rfl (ySh.t hS rfl) (ySh.n hS rfl) ?_
            refine spx_at (by omega) (by omega) (by decide) (by decide) (fun hz16 => ?_)
            rw [yz_8] at hz16
            refine y_ret1 ?_
            refine y_ialoadv (J := I 71) rfl (ySh.t hS rfl) (ySh.n hS rfl) (by omega) (by omega) rfl ?_
            refine y_ireturn rfl rfl rfl ?_
            refine y_ret1 ?_
            refine y_ireturn rfl rfl rfl ?_
            first | (exfalso; omega) | (exact hQ (by (first | omega | (simp only [show ySeat x2 = x2 from if_neg (by omega)]; omega) | (simp only [show ySeat x2 = Int32.ofInt 8 from if_pos (by omega)]; omega))) _ (by rw [show x3.toInt = 0 by omega]; first | (simp only [show ySeat x2 = x2 from if_neg (by omega)]; rfl) | (simp only [show ySeat x2 = Int32.ofInt 8 from if_pos (by omega)]; rfl)))
          · refine y_swIn (j := 1) rfl h_14 (by decide) j_X8_ofVenture_75 ?_
            refine y_aload_n rfl rfl ?_
            refine y_getR rfl (ySh.t hS rfl) (ySh.n hS rfl) rfl rfl (ySh.r hS rfl) ?_
            refine y_iload_n rfl rfl ?_
            refine y_iload rfl rfl ?_
            refine y_virt rfl rfl rfl rfl rfl (ySh.t hS rfl) (ySh.n hS rfl) ?_
            refine y_in (M := xm_X7_shareOf) (ls := [some _, some _, some _]) rfl rfl rfl ?_
            refine y_aload_n rfl rfl ?_
            refine y_getR rfl (ySh.t hS rfl) (ySh.n hS rfl) rfl rfl (ySh.r hS rfl) ?_
            refine y_aload_n rfl rfl ?_
            refine y_iload_n rfl rfl ?_
            refine y_iload_n rfl rfl ?_
            refine y_virt rfl rfl rfl rfl rfl (ySh.t hS rfl) (ySh.n hS rfl) ?_
            refine spx_at (by omega) (by omega) (by decide) (by decide) (fun hz17 => ?_)
            rw [yz_8] at hz17
            refine y_ret1 ?_
            refine y_ialoadv (J := I 72) rfl (ySh.t hS rfl) (ySh.n hS rfl) (by omega) (by omega) rfl ?_
            refine y_ireturn rfl rfl rfl ?_
            refine y_ret1 ?_
            refine y_ireturn rfl rfl rfl ?_
            first | (exfalso; omega) | (exact hQ (by (first | omega | (simp only [show ySeat x2 = x2 from if_neg (by omega)]; omega) | (simp only [show ySeat x2 = Int32.ofInt 8 from if_pos (by omega)]; omega))) _ (by rw [show x3.toInt = 1 by omega]; first | (simp only [show ySeat x2 = x2 from if_neg (by omega)]; rfl) | (simp only [show ySeat x2 = Int32.ofInt 8 from if_pos (by omega)]; rfl)))
          · refine y_swIn (j := 2) rfl h_14 (by decide) j_X8_ofVenture_86 ?_
            refine y_aload_n rfl rfl ?_
            refine y_getR rfl (ySh.t hS rfl) (ySh.n hS rfl) rfl rfl (ySh.r hS rfl) ?_
            refine y_iload_n rfl rfl ?_
            refine y_iload rfl rfl ?_
            refine y_virt rfl rfl rfl rfl rfl (ySh.t hS rfl) (ySh.n hS rfl) ?_
            refine y_in (M := xm_X7_gainOf) (ls := [some _, some _, some _]) rfl rfl rfl ?_
            refine y_aload_n rfl rfl ?_
            refine y_getR rfl (ySh.t hS rfl) (ySh.n hS rfl) rfl rfl (ySh.r hS rfl) ?_
            refine y_aload_n rfl rfl ?_
            refine y_iload_n rfl rfl ?_
            refine y_iload_n rfl rfl ?_
            refine y_virt rfl rfl rfl rfl rfl (ySh.t hS rfl) (ySh.n hS rfl) ?_
            refine spx_at (by omega) (by omega) (by decide) (by decide) (fun hz18 => ?_)
            rw [yz_8] at hz18
            refine y_ret1 ?_
            refine y_ialoadv (J := I 73) rfl (ySh.t hS rfl) (ySh.n hS rfl) (by omega) (by omega) rfl ?_
            refine y_ireturn rfl rfl rfl ?_
            refine y_ret1 ?_
            refine y_ireturn rfl rfl rfl ?_
            first | (exfalso; omega) | (exact hQ (by (first | omega | (simp only [show ySeat x2 = x2 from if_neg (by omega)]; omega) | (simp only [show ySeat x2 = Int32.ofInt 8 from if_pos (by omega)]; omega))) _ (by rw [show x3.toInt = 2 by omega]; first | (simp only [show ySeat x2 = x2 from if_neg (by omega)]; rfl) | (simp only [show ySeat x2 = Int32.ofInt 8 from if_pos (by omega)]; rfl)))
      · rw [yz_m1] at h_6
        refine y_aload_n rfl rfl ?_
        refine y_getR rfl (ySh.t hS rfl) (ySh.n hS rfl) rfl rfl (ySh.r hS rfl) ?_
        refine y_iload_n rfl rfl ?_
        refine y_virt rfl rfl rfl rfl rfl (ySh.t hS rfl) (ySh.n hS rfl) ?_
        refine y_in (M := xm_X4_has) (ls := [some _, some _]) rfl rfl rfl ?_
        refine y_iload_n rfl rfl ?_
        refine y_if_lt rfl j_X4_has_16 (fun h_19 => ?_) (fun h_20 => ?_)
        · refine y_iconst rfl ?_
          refine y_ireturn rfl rfl rfl ?_
          refine y_ret1 ?_
          refine y_if_eqT rfl j_X8_isParty_20 (by decide) ?_
          refine y_iconst rfl ?_
          refine y_ireturn rfl rfl rfl ?_
          refine y_ret1 ?_
          refine y_if_neF rfl (by decide) ?_
          refine y_throw rfl rfl rfl ?_
          exact hE0 (by (first | omega | (simp only [show ySeat x2 = x2 from if_neg (by omega)]; omega) | (simp only [show ySeat x2 = Int32.ofInt 8 from if_pos (by omega)]; omega)))
        · refine y_iload_n rfl rfl ?_
          refine y_aload_n rfl rfl ?_
          refine y_getIv (v := I 38 0) rfl (ySh.t hS rfl) (ySh.n hS rfl) rfl rfl rfl ?_
          refine y_icmp_ge rfl j_X4_has_16 (fun h_21 => ?_) (fun h_22 => ?_)
          · refine y_iconst rfl ?_
            refine y_ireturn rfl rfl rfl ?_
            refine y_ret1 ?_
            refine y_if_eqT rfl j_X8_isParty_20 (by decide) ?_
            refine y_iconst rfl ?_
            refine y_ireturn rfl rfl rfl ?_
            refine y_ret1 ?_
            refine y_if_neF rfl (by decide) ?_
            refine y_throw rfl rfl rfl ?_
            exact hE0 (by (first | omega | (simp only [show ySeat x2 = x2 from if_neg (by omega)]; omega) | (simp only [show ySeat x2 = Int32.ofInt 8 from if_pos (by omega)]; omega)))
          · refine y_iconst rfl ?_
            refine y_goto rfl j_X4_has_17 ?_
            refine y_ireturn rfl rfl rfl ?_
            refine y_ret1 ?_
            refine y_if_eqF rfl (by decide) ?_
            refine y_iconst rfl ?_
            refine y_goto rfl j_X8_isParty_21 ?_
            refine y_ireturn rfl rfl rfl ?_
            refine y_ret1 ?_
            refine y_if_neT rfl j_X8_ofVenture_30 (by decide) ?_
            refine y_iload_n rfl rfl ?_
            refine y_static rfl rfl rfl rfl rfl ?_
            refine y_in (M := xm_X8_placeOf) (ls := [some _]) rfl rfl rfl ?_
            refine y_iload_n rfl rfl ?_
            refine y_iconst rfl ?_
            refine y_icmp_ne rfl j_X8_placeOf_10 (fun h_23 => ?_) (fun h_24 => ?_)
            · rw [yz_m1] at h_23
              refine y_iload_n rfl rfl ?_
              refine y_ireturn rfl rfl rfl ?_
              refine y_ret1 ?_
              refine y_istore (ls' := [some _, some _, some _, some _, some _]) rfl rfl rfl ?_
              refine y_iload_n rfl rfl ?_
              refine y_sw rfl (fun h_26 => ?_) (fun h_25 => ?_)
              · refine y_swOut rfl j_X8_ofVenture_97 h_26 ?_
                refine y_throw rfl rfl rfl ?_
                exact hE1 (by (first | omega | (simp only [show ySeat x2 = x2 from if_neg (by omega)]; omega) | (simp only [show ySeat x2 = Int32.ofInt 8 from if_pos (by omega)]; omega)))
              rcases ySwC0_2 h_25 with h_25 | h_25 | h_25
              · refine y_swIn (j := 0) rfl h_25 (by decide) j_X8_ofVenture_64 ?_
                refine y_aload_n rfl rfl ?_
                refine y_getR rfl (ySh.t hS rfl) (ySh.n hS rfl) rfl rfl (ySh.r hS rfl) ?_
                refine y_iload_n rfl rfl ?_
                refine y_iload rfl rfl ?_
                refine y_virt rfl rfl rfl rfl rfl (ySh.t hS rfl) (ySh.n hS rfl) ?_
                refine y_in (M := xm_X7_capitalOf) (ls := [some _, some _, some _]) rfl rfl rfl ?_
                refine y_aload_n rfl rfl ?_
                refine y_getR rfl (ySh.t hS rfl) (ySh.n hS rfl) rfl rfl (ySh.r hS rfl) ?_
                refine y_aload_n rfl rfl ?_
                refine y_iload_n rfl rfl ?_
                refine y_iload_n rfl rfl ?_
                refine y_virt rfl rfl rfl rfl rfl (ySh.t hS rfl) (ySh.n hS rfl) ?_
                refine spx_at (by omega) (by omega) (by omega) (by omega) (fun hz27 => ?_)
                refine y_ret1 ?_
                refine y_ialoadv (J := I 71) rfl (ySh.t hS rfl) (ySh.n hS rfl) (by omega) (by omega) rfl ?_
                refine y_ireturn rfl rfl rfl ?_
                refine y_ret1 ?_
                refine y_ireturn rfl rfl rfl ?_
                first | (exfalso; omega) | (exact hQ (by (first | omega | (simp only [show ySeat x2 = x2 from if_neg (by omega)]; omega) | (simp only [show ySeat x2 = Int32.ofInt 8 from if_pos (by omega)]; omega))) _ (by rw [show x3.toInt = 0 by omega]; first | (simp only [show ySeat x2 = x2 from if_neg (by omega)]; rfl) | (simp only [show ySeat x2 = Int32.ofInt 8 from if_pos (by omega)]; rfl)))
              · refine y_swIn (j := 1) rfl h_25 (by decide) j_X8_ofVenture_75 ?_
                refine y_aload_n rfl rfl ?_
                refine y_getR rfl (ySh.t hS rfl) (ySh.n hS rfl) rfl rfl (ySh.r hS rfl) ?_
                refine y_iload_n rfl rfl ?_
                refine y_iload rfl rfl ?_
                refine y_virt rfl rfl rfl rfl rfl (ySh.t hS rfl) (ySh.n hS rfl) ?_
                refine y_in (M := xm_X7_shareOf) (ls := [some _, some _, some _]) rfl rfl rfl ?_
                refine y_aload_n rfl rfl ?_
                refine y_getR rfl (ySh.t hS rfl) (ySh.n hS rfl) rfl rfl (ySh.r hS rfl) ?_
                refine y_aload_n rfl rfl ?_
                refine y_iload_n rfl rfl ?_
                refine y_iload_n rfl rfl ?_
                refine y_virt rfl rfl rfl rfl rfl (ySh.t hS rfl) (ySh.n hS rfl) ?_
                refine spx_at (by omega) (by omega) (by omega) (by omega) (fun hz28 => ?_)
                refine y_ret1 ?_
                refine y_ialoadv (J := I 72) rfl (ySh.t hS rfl) (ySh.n hS rfl) (by omega) (by omega) rfl ?_
                refine y_ireturn rfl rfl rfl ?_
                refine y_ret1 ?_
                refine y_ireturn rfl rfl rfl ?_
                first | (exfalso; omega) | (exact hQ (by (first | omega | (simp only [show ySeat x2 = x2 from if_neg (by omega)]; omega) | (simp only [show ySeat x2 = Int32.ofInt 8 from if_pos (by omega)]; omega))) _ (by rw [show x3.toInt = 1 by omega]; first | (simp only [show ySeat x2 = x2 from if_neg (by omega)]; rfl) | (simp only [show ySeat x2 = Int32.ofInt 8 from if_pos (by omega)]; rfl)))
              · refine y_swIn (j := 2) rfl h_25 (by decide) j_X8_ofVenture_86 ?_
                refine y_aload_n rfl rfl ?_
                refine y_getR rfl (ySh.t hS rfl) (ySh.n hS rfl) rfl rfl (ySh.r hS rfl) ?_
                refine y_iload_n rfl rfl ?_
                refine y_iload rfl rfl ?_
                refine y_virt rfl rfl rfl rfl rfl (ySh.t hS rfl) (ySh.n hS rfl) ?_
                refine y_in (M := xm_X7_gainOf) (ls := [some _, some _, some _]) rfl rfl rfl ?_
                refine y_aload_n rfl rfl ?_
                refine y_getR rfl (ySh.t hS rfl) (ySh.n hS rfl) rfl rfl (ySh.r hS rfl) ?_
                refine y_aload_n rfl rfl ?_
                refine y_iload_n rfl rfl ?_
                refine y_iload_n rfl rfl ?_
                refine y_virt rfl rfl rfl rfl rfl (ySh.t hS rfl) (ySh.n hS rfl) ?_
                refine spx_at (by omega) (by omega) (by omega) (by omega) (fun hz29 => ?_)
                refine y_ret1 ?_
                refine y_ialoadv (J := I 73) rfl (ySh.t hS rfl) (ySh.n hS rfl) (by omega) (by omega) rfl ?_
                refine y_ireturn rfl rfl rfl ?_
                refine y_ret1 ?_
                refine y_ireturn rfl rfl rfl ?_
                first | (exfalso; omega) | (exact hQ (by (first | omega | (simp only [show ySeat x2 = x2 from if_neg (by omega)]; omega) | (simp only [show ySeat x2 = Int32.ofInt 8 from if_pos (by omega)]; omega))) _ (by rw [show x3.toInt = 2 by omega]; first | (simp only [show ySeat x2 = x2 from if_neg (by omega)]; rfl) | (simp only [show ySeat x2 = Int32.ofInt 8 from if_pos (by omega)]; rfl)))
            · rw [yz_m1] at h_24
              refine y_bip rfl (by decide) ?_
              refine y_goto rfl j_X8_placeOf_11 ?_
              refine y_ireturn rfl rfl rfl ?_
              refine y_ret1 ?_
              refine y_istore (ls' := [some _, some _, some _, some _, some _]) rfl rfl rfl ?_
              refine y_iload_n rfl rfl ?_
              refine y_sw rfl (fun h_31 => ?_) (fun h_30 => ?_)
              · refine y_swOut rfl j_X8_ofVenture_97 h_31 ?_
                refine y_throw rfl rfl rfl ?_
                exact hE1 (by (first | omega | (simp only [show ySeat x2 = x2 from if_neg (by omega)]; omega) | (simp only [show ySeat x2 = Int32.ofInt 8 from if_pos (by omega)]; omega)))
              rcases ySwC0_2 h_30 with h_30 | h_30 | h_30
              · refine y_swIn (j := 0) rfl h_30 (by decide) j_X8_ofVenture_64 ?_
                refine y_aload_n rfl rfl ?_
                refine y_getR rfl (ySh.t hS rfl) (ySh.n hS rfl) rfl rfl (ySh.r hS rfl) ?_
                refine y_iload_n rfl rfl ?_
                refine y_iload rfl rfl ?_
                refine y_virt rfl rfl rfl rfl rfl (ySh.t hS rfl) (ySh.n hS rfl) ?_
                refine y_in (M := xm_X7_capitalOf) (ls := [some _, some _, some _]) rfl rfl rfl ?_
                refine y_aload_n rfl rfl ?_
                refine y_getR rfl (ySh.t hS rfl) (ySh.n hS rfl) rfl rfl (ySh.r hS rfl) ?_
                refine y_aload_n rfl rfl ?_
                refine y_iload_n rfl rfl ?_
                refine y_iload_n rfl rfl ?_
                refine y_virt rfl rfl rfl rfl rfl (ySh.t hS rfl) (ySh.n hS rfl) ?_
                refine spx_at (by omega) (by omega) (by decide) (by decide) (fun hz32 => ?_)
                rw [yz_8] at hz32
                refine y_ret1 ?_
                refine y_ialoadv (J := I 71) rfl (ySh.t hS rfl) (ySh.n hS rfl) (by omega) (by omega) rfl ?_
                refine y_ireturn rfl rfl rfl ?_
                refine y_ret1 ?_
                refine y_ireturn rfl rfl rfl ?_
                first | (exfalso; omega) | (exact hQ (by (first | omega | (simp only [show ySeat x2 = x2 from if_neg (by omega)]; omega) | (simp only [show ySeat x2 = Int32.ofInt 8 from if_pos (by omega)]; omega))) _ (by rw [show x3.toInt = 0 by omega]; first | (simp only [show ySeat x2 = x2 from if_neg (by omega)]; rfl) | (simp only [show ySeat x2 = Int32.ofInt 8 from if_pos (by omega)]; rfl)))
              · refine y_swIn (j := 1) rfl h_30 (by decide) j_X8_ofVenture_75 ?_
                refine y_aload_n rfl rfl ?_
                refine y_getR rfl (ySh.t hS rfl) (ySh.n hS rfl) rfl rfl (ySh.r hS rfl) ?_
                refine y_iload_n rfl rfl ?_
                refine y_iload rfl rfl ?_
                refine y_virt rfl rfl rfl rfl rfl (ySh.t hS rfl) (ySh.n hS rfl) ?_
                refine y_in (M := xm_X7_shareOf) (ls := [some _, some _, some _]) rfl rfl rfl ?_
                refine y_aload_n rfl rfl ?_
                refine y_getR rfl (ySh.t hS rfl) (ySh.n hS rfl) rfl rfl (ySh.r hS rfl) ?_
                refine y_aload_n rfl rfl ?_
                refine y_iload_n rfl rfl ?_
                refine y_iload_n rfl rfl ?_
                refine y_virt rfl rfl rfl rfl rfl (ySh.t hS rfl) (ySh.n hS rfl) ?_
                refine spx_at (by omega) (by omega) (by decide) (by decide) (fun hz33 => ?_)
                rw [yz_8] at hz33
                refine y_ret1 ?_
                refine y_ialoadv (J := I 72) rfl (ySh.t hS rfl) (ySh.n hS rfl) (by omega) (by omega) rfl ?_
                refine y_ireturn rfl rfl rfl ?_
                refine y_ret1 ?_
                refine y_ireturn rfl rfl rfl ?_
                first | (exfalso; omega) | (exact hQ (by (first | omega | (simp only [show ySeat x2 = x2 from if_neg (by omega)]; omega) | (simp only [show ySeat x2 = Int32.ofInt 8 from if_pos (by omega)]; omega))) _ (by rw [show x3.toInt = 1 by omega]; first | (simp only [show ySeat x2 = x2 from if_neg (by omega)]; rfl) | (simp only [show ySeat x2 = Int32.ofInt 8 from if_pos (by omega)]; rfl)))
              · refine y_swIn (j := 2) rfl h_30 (by decide) j_X8_ofVenture_86 ?_
                refine y_aload_n rfl rfl ?_
                refine y_getR rfl (ySh.t hS rfl) (ySh.n hS rfl) rfl rfl (ySh.r hS rfl) ?_
                refine y_iload_n rfl rfl ?_
                refine y_iload rfl rfl ?_
                refine y_virt rfl rfl rfl rfl rfl (ySh.t hS rfl) (ySh.n hS rfl) ?_
                refine y_in (M := xm_X7_gainOf) (ls := [some _, some _, some _]) rfl rfl rfl ?_
                refine y_aload_n rfl rfl ?_
                refine y_getR rfl (ySh.t hS rfl) (ySh.n hS rfl) rfl rfl (ySh.r hS rfl) ?_
                refine y_aload_n rfl rfl ?_
                refine y_iload_n rfl rfl ?_
                refine y_iload_n rfl rfl ?_
                refine y_virt rfl rfl rfl rfl rfl (ySh.t hS rfl) (ySh.n hS rfl) ?_
                refine spx_at (by omega) (by omega) (by decide) (by decide) (fun hz34 => ?_)
                rw [yz_8] at hz34
                refine y_ret1 ?_
                refine y_ialoadv (J := I 73) rfl (ySh.t hS rfl) (ySh.n hS rfl) (by omega) (by omega) rfl ?_
                refine y_ireturn rfl rfl rfl ?_
                refine y_ret1 ?_
                refine y_ireturn rfl rfl rfl ?_
                first | (exfalso; omega) | (exact hQ (by (first | omega | (simp only [show ySeat x2 = x2 from if_neg (by omega)]; omega) | (simp only [show ySeat x2 = Int32.ofInt 8 from if_pos (by omega)]; omega))) _ (by rw [show x3.toInt = 2 by omega]; first | (simp only [show ySeat x2 = x2 from if_neg (by omega)]; rfl) | (simp only [show ySeat x2 = Int32.ofInt 8 from if_pos (by omega)]; rfl)))
end YXV8
section YXW8
variable {K nb n : Nat} {tg : Nat → yT} {I : Nat → Nat → Int32} {R : Nat → Nat → Value} {c s : Nat} {Q : yQ}
theorem h_ofVenture (hS0 : ySh n tg R) (hR0 : yRI K n tg I R) (hk6 : K < 600) {x1 x2 x3 : Int32} (hQ1 : ¬ ((0 ≤ x1.toInt ∧ x1.toInt < (I 91 2).toInt) ∧ (x2.toInt = -1 ∨ 0 ≤ x2.toInt ∧ x2.toInt < (I 83 8).toInt)) → ∀ (v : Int32) n1 tg1 I1 R1 c1 s1, ySh n1 tg1 R1 → yRI (K + 1) n1 tg1 I1 R1 → yKp n tg I R n1 tg1 I1 R1 → I1 83 0 = Int32.ofInt 1 → yRf n I R I1 R1 → c1 ≤ c + 0 → s1 ≤ s + 0 → Q (.inl (some (.int v))) (n1, tg1, I1, R1) c1 s1) (hQ2 : ((0 ≤ x1.toInt ∧ x1.toInt < (I 91 2).toInt) ∧ (x2.toInt = -1 ∨ 0 ≤ x2.toInt ∧ x2.toInt < (I 83 8).toInt)) ∧ ¬ (0 ≤ x3.toInt ∧ x3.toInt ≤ 2) → ∀ (v : Int32) n1 tg1 I1 R1 c1 s1, ySh n1 tg1 R1 → yRI (K + 1) n1 tg1 I1 R1 → yKp n tg I R n1 tg1 I1 R1 → I1 83 0 = Int32.ofInt 2 → yRf n I R I1 R1 → c1 ≤ c + 0 → s1 ≤ s + 0 → Q (.inl (some (.int v))) (n1, tg1, I1, R1) c1 s1) (hQ0 : ∀ b, b = yAd R 91 x1.toInt.toNat → ((0 ≤ x1.toInt ∧ x1.toInt < (I 91 2).toInt) ∧ (x2.toInt = -1 ∨ 0 ≤ x2.toInt ∧ x2.toInt < (I 83 8).toInt)) ∧ (0 ≤ x3.toInt ∧ x3.toInt ≤ 2) → ∀ (v : Int32) n1 tg1 I1 R1 c1 s1, ySh n1 tg1 R1 → yRI (K + 1) n1 tg1 I1 R1 → yKp n tg I R n1 tg1 I1 R1 → I1 83 0 = Int32.ofInt 0 → v = I (b + 1 + yOVf x3.toInt) (ySeat x2).toInt.toNat → yRf n I R I1 R1 → c1 ≤ c + 0 → s1 ≤ s + 0 → Q (.inl (some (.int v))) (n1, tg1, I1, R1) c1 s1) : yC 236 [.ref 83, .int x1, .int x2, .int x3] (n, tg, I, R) c s Q := by
  have hno := Nat.le_refl n
  have hn := hno
  have hRo := hR0
  have hK : yKp n tg I R n tg I R := yKp.rf
  have hX : yX n tg I R n tg I R := yX.rf
  have hS := hS0
  have hR := hR0
  have h94 : 94 ≤ n := hS0.1
  have hz : ySz I I := hX.sz h94
  have hxn := hX.1
  have hN := hR0.1
  have hnb : 94 ≤ n := hR0.2.2.2.2.2.2
  have hg : yGm n I I := yGm.rf
  have hday : I 83 1 = I 83 1 := rfl
  have hb83 : ∀ a, a ≠ 83 → a < n → I a = I a := fun _ _ _ => rfl
  have hRb : ∀ a, a < n → R a = R a := fun _ _ => rfl
  have hB : yX n tg I R n tg I R := yX.rf
  have h8 : ∀ a, 84 ≤ a → a ≤ 86 → I a = I a := fun _ _ _ => rfl
  have h3k : ∀ k, k ≠ 0 → I 83 k = I 83 k := fun _ _ => rfl
  refine y_in (M := xm_X14_ofVenture) (ls := [some _, some _, some _, some _]) rfl rfl rfl ?_
  refine y_aload_n rfl rfl ?_
  refine y_aload_n rfl rfl ?_
  refine y_iload_n rfl rfl ?_
  refine y_virt rfl rfl rfl rfl rfl (ySh.t hS rfl) (ySh.n hS rfl) ?_
  refine y_in (M := xm_X14_isNoVenture) (ls := [some _, some _]) rfl rfl rfl ?_
  refine y_iload_n rfl rfl ?_
  refine y_iconst rfl ?_
  refine y_aload_n rfl rfl ?_
  refine y_getR rfl (ySh.t hS rfl) (ySh.n hS rfl) rfl rfl (ySh.r hS rfl) ?_
  refine y_virt rfl rfl rfl rfl rfl (ySh.t hS rfl) (ySh.n hS rfl) ?_
  refine y_in (M := xm_Jx4a65c_size_8abf5) (ls := [some _]) rfl rfl rfl ?_
  refine y_aload_n rfl rfl ?_
  refine y_getI rfl (ySh.t hS rfl) (ySh.n hS rfl) rfl rfl ?_
  refine y_ireturn rfl rfl rfl ?_
  refine y_ret1 ?_
  refine y_iconst rfl ?_
  refine y_isub rfl ?_
  refine y_static rfl rfl rfl rfl rfl ?_
  refine r_isIn (fun h_1 h_2 => ?_) (fun h_3 => ?_)
  · rw [yz_0] at h_1
    try rw [ysub (by rw [yz_1]; omega) (by rw [yz_1]; omega), yz_1] at h_2
    refine y_ret1 ?_
    refine y_if_neT rfl j_X14_isNoVenture_21 (by decide) ?_
    refine y_iconst rfl ?_
    refine y_ireturn rfl rfl rfl ?_
    refine y_ret1 ?_
    refine y_if_neF rfl (by decide) ?_
    refine y_aload_n rfl rfl ?_
    refine y_iload_n rfl rfl ?_
    refine y_virt rfl rfl rfl rfl rfl (ySh.t hS rfl) (ySh.n hS rfl) ?_
    refine y_in (M := xm_X14_isNoOne) (ls := [some _, some _]) rfl rfl rfl ?_
    refine y_iload_n rfl rfl ?_
    refine y_iconst rfl ?_
    refine y_icmp_eq rfl j_X14_isNoOne_17 (fun h_4 => ?_) (fun h_5 => ?_)
    · rw [yz_m1] at h_4
      refine y_iconst rfl ?_
      refine y_ireturn rfl rfl rfl ?_
      refine y_ret1 ?_
      refine y_if_eqT rfl j_X14_ofVenture_21 (by decide) ?_
      refine y_iconst rfl ?_
      refine y_iconst rfl ?_
      refine y_virt rfl rfl rfl rfl rfl (ySh.t hS rfl) (ySh.n hS rfl) ?_
      refine y_in (M := xm_X14_start) (ls := [some _, some _, some _]) rfl rfl rfl ?_
      refine y_aload_n rfl rfl ?_
      refine y_iconst rfl ?_
      refine y_putI rfl (ySh.t hS rfl) (ySh.n hS rfl) rfl (Nat.le_of_ble_eq_true rfl) rfl rfl ?_
      refine y_nameI (fun I6 e6 => ?_)
      have hR1 := (hR0.grow hX).mod0 e6 (by decide) (by decide)
      have hK := (hK.x hRo hno hX).upI (upI e6) (by decide) (by decide) (fun i hi => by have := (hRo.l87.2.2.2.2 i hi).2.1; omega) (by rw [e6, upd2_ne (.inr (by decide))]; exact Int.le_refl _)
      have hth : I6 83 0 = Int32.ofInt (0) := by rw [e6, upd2_self]
      have hzz : ySz8 I I6 := ySz8_of (upI e6) (by rw [e6]; exact ⟨upd2_ne (.inr (by decide)), upd2_ne (.inr (by decide))⟩)
      have hB := (hB.trans hX).wr e6 rfl
      have h8 : ∀ a, 84 ≤ a → a ≤ 86 → I6 a = I a := fun a h1 h2 => (upI e6 a (by omega)).trans ((hX.2.1 a (by omega)).2.1.trans (h8 a h1 h2))
      have h3k : ∀ k, k ≠ 0 → I6 83 k = I 83 k := fun k hk => (congrFun (congrFun e6 83) k).trans ((upd2_ne (.inr hk)).trans ((congrFun (hX.2.1 83 (by omega)).2.1 k).trans (h3k k hk)))
      have hg := (hg.gx hX (by omega)).skip e6 (by decide)
      have hday : I6 83 1 = I 83 1 := (congrFun (congrFun e6 83) 1).trans ((upd2_ne (.inr (by decide))).trans ((congrFun (hX.2.1 83 (by omega)).2.1 1).trans hday))
      have hRb : ∀ a, a < n → R a = R a := fun a ha => (hX.2.1 a (by omega)).2.2.trans (hRb a ha)
      have hb83 : ∀ a, a ≠ 83 → a < n → I6 a = I a := fun a ha hb => (upI e6 a ha).trans ((hX.2.1 a (by omega)).2.1.trans (hb83 a ha hb))
      have hS0 := hS
      have hR0 := hR1
      have hn := Nat.le_refl n
      have h94 := hS0.1
      have hX := @yX.rf n tg I6 R
      have hS := hS0.x hX
      have hR := hR0.x hn hX
      have hz := hX.sz h94
      have hxn := hX.1
      have hN := hR0.1
      have hnb := hR0.2.2.2.2.2.2
      have hthB := hth
      refine y_aload_n rfl rfl ?_
      refine y_iload_n rfl rfl ?_
      refine y_iload_n rfl rfl ?_
      refine y_virt rfl rfl rfl rfl rfl (ySh.t hS rfl) (ySh.n hS rfl) ?_
      refine y_in (M := xm_X14_refuse) (ls := [some _, some _, some _]) rfl rfl rfl ?_
      refine y_iload_n rfl rfl ?_
      refine y_if_eqT rfl j_X14_refuse_16 (by decide) ?_
      refine y_aload_n rfl rfl ?_
      refine y_getIv (v := Int32.ofInt (0)) rfl (ySh.t hS rfl) (ySh.n hS rfl) rfl rfl hth ?_
      refine y_if_leT rfl j_X14_refuse_27 (by decide) ?_
      refine y_iconst rfl ?_
      refine y_ireturn rfl rfl rfl ?_
      refine y_ret1 ?_
      refine y_ireturn rfl rfl rfl ?_
      refine y_ret1 ?_
      refine y_if_neF rfl (by decide) ?_
      refine y_aload_n rfl rfl ?_
      refine y_iload_n rfl rfl ?_
      refine y_iconst rfl ?_
      refine y_iconst rfl ?_
      refine y_static rfl rfl rfl rfl rfl ?_
      refine r_isIn (fun h_7 h_8 => ?_) (fun h_9 => ?_)
      · rw [yz_0] at h_7
        rw [yz_2] at h_8
        refine y_ret1 ?_
        refine y_if_neT rfl j_X14_ofVenture_43 (by decide) ?_
        refine y_iconst rfl ?_
        refine y_iconst rfl ?_
        refine y_virt rfl rfl rfl rfl rfl (ySh.t hS rfl) (ySh.n hS rfl) ?_
        refine y_in (M := xm_X14_refuse) (ls := [some _, some _, some _]) rfl rfl rfl ?_
        refine y_iload_n rfl rfl ?_
        refine y_if_eqT rfl j_X14_refuse_16 (by decide) ?_
        refine y_aload_n rfl rfl ?_
        refine y_getIv (v := Int32.ofInt (0)) rfl (ySh.t hS rfl) (ySh.n hS rfl) rfl rfl hth ?_
        refine y_if_leT rfl j_X14_refuse_27 (by decide) ?_
        refine y_iconst rfl ?_
        refine y_ireturn rfl rfl rfl ?_
        refine y_ret1 ?_
        refine y_if_eqT rfl j_X14_ofVenture_55 (by decide) ?_
        refine y_aload_n rfl rfl ?_
        refine y_iload_n rfl rfl ?_
        refine y_iload_n rfl rfl ?_
        refine y_static rfl rfl rfl rfl rfl ?_
        refine y_in (M := xm_X14_seat) (ls := [some _]) rfl rfl rfl ?_
        refine y_iload_n rfl rfl ?_
        refine y_iconst rfl ?_
        refine y_icmp_ne rfl j_X14_seat_10 (fun h_10 => ?_) (fun h_11 => ?_)
        · rw [yz_m1] at h_10
          refine y_iload_n rfl rfl ?_
          refine y_ireturn rfl rfl rfl ?_
          refine y_ret1 ?_
          refine y_iload_n rfl rfl ?_
          refine y_virt rfl rfl rfl rfl rfl (ySh.t hS rfl) (ySh.n hS rfl) ?_
          refine y_in (M := xm_X14_ventureTold) (ls := [some _, some _, some _, some _, _]) rfl rfl rfl ?_
          refine y_aload_n rfl rfl ?_
          refine y_getR rfl (ySh.t hS rfl) (ySh.n hS rfl) rfl rfl (ySh.r hS rfl) ?_
          refine y_iload_n rfl rfl ?_
          refine y_virt rfl rfl rfl rfl rfl (ySh.t hS rfl) (ySh.n hS rfl) ?_
          refine l_get (nb := n) (ySh.t hS rfl) (ySh.n hS rfl) (Nat.le_trans hn hX.1) hR.l91 (by omega) (by omega) (fun b12 eb_b12 hlo_b12 hb0_b12 ht_b12 => ?_)
          have hb_b12 := Nat.lt_of_lt_of_le hb0_b12 hn
          replace ht_b12 := (hX.2.1 _ hb_b12).1.symm.trans ht_b12
          refine y_ret1 ?_
          refine y_cast rfl ((hX.2.1 _ hb_b12).1.trans ht_b12) (Nat.lt_of_lt_of_le hb_b12 hX.1) ?_
          refine y_astore (ls' := [some _, some _, some _, some _, some _]) rfl rfl rfl ?_
          refine y_iload_n rfl rfl ?_
          refine y_if_ne rfl j_X14_ventureTold_27 (fun h_13 => ?_) (fun h_14 => ?_)
          · refine y_iload_n rfl rfl ?_
            refine y_iconst rfl ?_
            refine y_icmp_ne rfl j_X14_ventureTold_42 (fun h_15 => ?_) (fun h_16 => ?_)
            · rw [yz_1] at h_15
              refine y_aload rfl rfl ?_
              obtain ⟨hR_v17, hb_v17, ht_v17⟩ := hR0.ven hlo_b12 hb0_b12 ht_b12 (j := 3) (by decide)
              have hb0_v17 := hb_v17
              have hb_v17 := Nat.lt_of_lt_of_le hb_v17 hn
              have hlo_v17 : 94 ≤ b12 + 1 + 3 := by omega
              have hR2_v17 := (congrFun (hX.2.1 b12 hb_b12).2.2 3).trans hR_v17
              refine y_getR rfl ((hX.2.1 _ hb_b12).1.trans ht_b12) (Nat.lt_of_lt_of_le hb_b12 hX.1) rfl rfl hR2_v17 ?_
              refine y_iload_n rfl rfl ?_
              refine y_ialoadv (J := I (b12 + 1 + 3)) rfl ((hX.2.1 _ hb_v17).1.trans ht_v17) (Nat.lt_of_lt_of_le hb_v17 hX.1) (by omega) (by omega) (((hB.trans hX).n (by omega)).trans (by repeat (first | rfl | (rw [upd2_row (by first | decide | omega)]) | refine upd2_cg ?_))) ?_
              refine y_ireturn rfl rfl rfl ?_
              refine y_ret1 ?_
              refine y_ireturn rfl rfl rfl ?_
              exact hQ0 _ eb_b12 (by first | omega | (simp only [show ySeat x2 = x2 from if_neg (by omega)]; omega) | (simp only [show ySeat x2 = Int32.ofInt 8 from if_pos (by omega), show (Int32.ofInt 8).toInt.toNat = 8 from by decide]; omega)) _ _ _ _ _ _ _ hS ((hR0.grow hX).up (Nat.le_succ K) hk6) (hK.x hRo hno hX) hth (by first | (rw [show x3.toInt = 0 by omega]; first | rfl | (simp only [show ySeat x2 = x2 from if_neg (by omega)]; rfl) | (simp only [show ySeat x2 = Int32.ofInt 8 from if_pos (by omega), show (Int32.ofInt 8).toInt.toNat = 8 from by decide]; rfl)) | (rw [show x3.toInt = 1 by omega]; first | rfl | (simp only [show ySeat x2 = x2 from if_neg (by omega)]; rfl) | (simp only [show ySeat x2 = Int32.ofInt 8 from if_pos (by omega), show (Int32.ofInt 8).toInt.toNat = 8 from by decide]; rfl)) | (rw [show x3.toInt = 2 by omega]; first | rfl | (simp only [show ySeat x2 = x2 from if_neg (by omega)]; rfl) | (simp only [show ySeat x2 = Int32.ofInt 8 from if_pos (by omega), show (Int32.ofInt 8).toInt.toNat = 8 from by decide]; rfl))) ((hB.trans hX).rf1 (by omega)) (by omega) (by omega)
            · rw [yz_1] at h_16
              refine y_aload rfl rfl ?_
              obtain ⟨hR_v18, hb_v18, ht_v18⟩ := hR0.ven hlo_b12 hb0_b12 ht_b12 (j := 2) (by decide)
              have hb0_v18 := hb_v18
              have hb_v18 := Nat.lt_of_lt_of_le hb_v18 hn
              have hlo_v18 : 94 ≤ b12 + 1 + 2 := by omega
              have hR2_v18 := (congrFun (hX.2.1 b12 hb_b12).2.2 2).trans hR_v18
              refine y_getR rfl ((hX.2.1 _ hb_b12).1.trans ht_b12) (Nat.lt_of_lt_of_le hb_b12 hX.1) rfl rfl hR2_v18 ?_
              refine y_iload_n rfl rfl ?_
              refine y_ialoadv (J := I (b12 + 1 + 2)) rfl ((hX.2.1 _ hb_v18).1.trans ht_v18) (Nat.lt_of_lt_of_le hb_v18 hX.1) (by omega) (by omega) (((hB.trans hX).n (by omega)).trans (by repeat (first | rfl | (rw [upd2_row (by first | decide | omega)]) | refine upd2_cg ?_))) ?_
              refine y_goto rfl j_X14_ventureTold_49 ?_
              refine y_ireturn rfl rfl rfl ?_
              refine y_ret1 ?_
              refine y_ireturn rfl rfl rfl ?_
              exact hQ0 _ eb_b12 (by first | omega | (simp only [show ySeat x2 = x2 from if_neg (by omega)]; omega) | (simp only [show ySeat x2 = Int32.ofInt 8 from if_pos (by omega), show (Int32.ofInt 8).toInt.toNat = 8 from by decide]; omega)) _ _ _ _ _ _ _ hS ((hR0.grow hX).up (Nat.le_succ K) hk6) (hK.x hRo hno hX) hth (by first | (rw [show x3.toInt = 0 by omega]; first | rfl | (simp only [show ySeat x2 = x2 from if_neg (by omega)]; rfl) | (simp only [show ySeat x2 = Int32.ofInt 8 from if_pos (by omega), show (Int32.ofInt 8).toInt.toNat = 8 from by decide]; rfl)) | (rw [show x3.toInt = 1 by omega]; first | rfl | (simp only [show ySeat x2 = x2 from if_neg (by omega)]; rfl) | (simp only [show ySeat x2 = Int32.ofInt 8 from if_pos (by omega), show (Int32.ofInt 8).toInt.toNat = 8 from by decide]; rfl)) | (rw [show x3.toInt = 2 by omega]; first | rfl | (simp only [show ySeat x2 = x2 from if_neg (by omega)]; rfl) | (simp only [show ySeat x2 = Int32.ofInt 8 from if_pos (by omega), show (Int32.ofInt 8).toInt.toNat = 8 from by decide]; rfl))) ((hB.trans hX).rf1 (by omega)) (by omega) (by omega)
          · refine y_aload rfl rfl ?_
            obtain ⟨hR_v19, hb_v19, ht_v19⟩ := hR0.ven hlo_b12 hb0_b12 ht_b12 (j := 1) (by decide)
            have hb0_v19 := hb_v19
            have hb_v19 := Nat.lt_of_lt_of_le hb_v19 hn
            have hlo_v19 : 94 ≤ b12 + 1 + 1 := by omega
            have hR2_v19 := (congrFun (hX.2.1 b12 hb_b12).2.2 1).trans hR_v19
            refine y_getR rfl ((hX.2.1 _ hb_b12).1.trans ht_b12) (Nat.lt_of_lt_of_le hb_b12 hX.1) rfl rfl hR2_v19 ?_
            refine y_iload_n rfl rfl ?_
            refine y_ialoadv (J := I (b12 + 1 + 1)) rfl ((hX.2.1 _ hb_v19).1.trans ht_v19) (Nat.lt_of_lt_of_le hb_v19 hX.1) (by omega) (by omega) (((hB.trans hX).n (by omega)).trans (by repeat (first | rfl | (rw [upd2_row (by first | decide | omega)]) | refine upd2_cg ?_))) ?_
            refine y_goto rfl j_X14_ventureTold_49 ?_
            refine y_ireturn rfl rfl rfl ?_
            refine y_ret1 ?_
            refine y_ireturn rfl rfl rfl ?_
            exact hQ0 _ eb_b12 (by first | omega | (simp only [show ySeat x2 = x2 from if_neg (by omega)]; omega) | (simp only [show ySeat x2 = Int32.ofInt 8 from if_pos (by omega), show (Int32.ofInt 8).toInt.toNat = 8 from by decide]; omega)) _ _ _ _ _ _ _ hS ((hR0.grow hX).up (Nat.le_succ K) hk6) (hK.x hRo hno hX) hth (by first | (rw [show x3.toInt = 0 by omega]; first | rfl | (simp only [show ySeat x2 = x2 from if_neg (by omega)]; rfl) | (simp only [show ySeat x2 = Int32.ofInt 8 from if_pos (by omega), show (Int32.ofInt 8).toInt.toNat = 8 from by decide]; rfl)) | (rw [show x3.toInt = 1 by omega]; first | rfl | (simp only [show ySeat x2 = x2 from if_neg (by omega)]; rfl) | (simp only [show ySeat x2 = Int32.ofInt 8 from if_pos (by omega), show (Int32.ofInt 8).toInt.toNat = 8 from by decide]; rfl)) | (rw [show x3.toInt = 2 by omega]; first | rfl | (simp only [show ySeat x2 = x2 from if_neg (by omega)]; rfl) | (simp only [show ySeat x2 = Int32.ofInt 8 from if_pos (by omega), show (Int32.ofInt 8).toInt.toNat = 8 from by decide]; rfl))) ((hB.trans hX).rf1 (by omega)) (by omega) (by omega)
        · rw [yz_m1] at h_11
          refine y_bip rfl (by decide) ?_
          refine y_goto rfl j_X14_seat_11 ?_
          refine y_ireturn rfl rfl rfl ?_
          refine y_ret1 ?_
          refine y_iload_n rfl rfl ?_
          refine y_virt rfl rfl rfl rfl rfl (ySh.t hS rfl) (ySh.n hS rfl) ?_
          refine y_in (M := xm_X14_ventureTold) (ls := [some _, some _, some _, some _, _]) rfl rfl rfl ?_
          refine y_aload_n rfl rfl ?_
          refine y_getR rfl (ySh.t hS rfl) (ySh.n hS rfl) rfl rfl (ySh.r hS rfl) ?_
          refine y_iload_n rfl rfl ?_
          refine y_virt rfl rfl rfl rfl rfl (ySh.t hS rfl) (ySh.n hS rfl) ?_
          refine l_get (nb := n) (ySh.t hS rfl) (ySh.n hS rfl) (Nat.le_trans hn hX.1) hR.l91 (by omega) (by omega) (fun b20 eb_b20 hlo_b20 hb0_b20 ht_b20 => ?_)
          have hb_b20 := Nat.lt_of_lt_of_le hb0_b20 hn
          replace ht_b20 := (hX.2.1 _ hb_b20).1.symm.trans ht_b20
          refine y_ret1 ?_
          refine y_cast rfl ((hX.2.1 _ hb_b20).1.trans ht_b20) (Nat.lt_of_lt_of_le hb_b20 hX.1) ?_
          refine y_astore (ls' := [some _, some _, some _, some _, some _]) rfl rfl rfl ?_
          refine y_iload_n rfl rfl ?_
          refine y_if_ne rfl j_X14_ventureTold_27 (fun h_21 => ?_) (fun h_22 => ?_)
          · refine y_iload_n rfl rfl ?_
            refine y_iconst rfl ?_
            refine y_icmp_ne rfl j_X14_ventureTold_42 (fun h_23 => ?_) (fun h_24 => ?_)
            · rw [yz_1] at h_23
              refine y_aload rfl rfl ?_
              obtain ⟨hR_v25, hb_v25, ht_v25⟩ := hR0.ven hlo_b20 hb0_b20 ht_b20 (j := 3) (by decide)
              have hb0_v25 := hb_v25
              have hb_v25 := Nat.lt_of_lt_of_le hb_v25 hn
              have hlo_v25 : 94 ≤ b20 + 1 + 3 := by omega
              have hR2_v25 := (congrFun (hX.2.1 b20 hb_b20).2.2 3).trans hR_v25
              refine y_getR rfl ((hX.2.1 _ hb_b20).1.trans ht_b20) (Nat.lt_of_lt_of_le hb_b20 hX.1) rfl rfl hR2_v25 ?_
              refine y_iload_n rfl rfl ?_
              refine y_ialoadw (j := 8) (J := I (b20 + 1 + 3)) rfl ((hX.2.1 _ hb_v25).1.trans ht_v25) (Nat.lt_of_lt_of_le hb_v25 hX.1) (by decide) (by decide) rfl (((hB.trans hX).n (by omega)).trans (by repeat (first | rfl | (rw [upd2_row (by first | decide | omega)]) | refine upd2_cg ?_))) ?_
              refine y_ireturn rfl rfl rfl ?_
              refine y_ret1 ?_
              refine y_ireturn rfl rfl rfl ?_
              exact hQ0 _ eb_b20 (by first | omega | (simp only [show ySeat x2 = x2 from if_neg (by omega)]; omega) | (simp only [show ySeat x2 = Int32.ofInt 8 from if_pos (by omega), show (Int32.ofInt 8).toInt.toNat = 8 from by decide]; omega)) _ _ _ _ _ _ _ hS ((hR0.grow hX).up (Nat.le_succ K) hk6) (hK.x hRo hno hX) hth (by first | (rw [show x3.toInt = 0 by omega]; first | rfl | (simp only [show ySeat x2 = x2 from if_neg (by omega)]; rfl) | (simp only [show ySeat x2 = Int32.ofInt 8 from if_pos (by omega), show (Int32.ofInt 8).toInt.toNat = 8 from by decide]; rfl)) | (rw [show x3.toInt = 1 by omega]; first | rfl | (simp only [show ySeat x2 = x2 from if_neg (by omega)]; rfl) | (simp only [show ySeat x2 = Int32.ofInt 8 from if_pos (by omega), show (Int32.ofInt 8).toInt.toNat = 8 from by decide]; rfl)) | (rw [show x3.toInt = 2 by omega]; first | rfl | (simp only [show ySeat x2 = x2 from if_neg (by omega)]; rfl) | (simp only [show ySeat x2 = Int32.ofInt 8 from if_pos (by omega), show (Int32.ofInt 8).toInt.toNat = 8 from by decide]; rfl))) ((hB.trans hX).rf1 (by omega)) (by omega) (by omega)
            · rw [yz_1] at h_24
              refine y_aload rfl rfl ?_
              obtain ⟨hR_v26, hb_v26, ht_v26⟩ := hR0.ven hlo_b20 hb0_b20 ht_b20 (j := 2) (by decide)
              have hb0_v26 := hb_v26
              have hb_v26 := Nat.lt_of_lt_of_le hb_v26 hn
              have hlo_v26 : 94 ≤ b20 + 1 + 2 := by omega
              have hR2_v26 := (congrFun (hX.2.1 b20 hb_b20).2.2 2).trans hR_v26
              refine y_getR rfl ((hX.2.1 _ hb_b20).1.trans ht_b20) (Nat.lt_of_lt_of_le hb_b20 hX.1) rfl rfl hR2_v26 ?_
              refine y_iload_n rfl rfl ?_
              refine y_ialoadw (j := 8) (J := I (b20 + 1 + 2)) rfl ((hX.2.1 _ hb_v26).1.trans ht_v26) (Nat.lt_of_lt_of_le hb_v26 hX.1) (by decide) (by decide) rfl (((hB.trans hX).n (by omega)).trans (by repeat (first | rfl | (rw [upd2_row (by first | decide | omega)]) | refine upd2_cg ?_))) ?_
              refine y_goto rfl j_X14_ventureTold_49 ?_
              refine y_ireturn rfl rfl rfl ?_
              refine y_ret1 ?_
              refine y_ireturn rfl rfl rfl ?_
              exact hQ0 _ eb_b20 (by first | omega | (simp only [show ySeat x2 = x2 from if_neg (by omega)]; omega) | (simp only [show ySeat x2 = Int32.ofInt 8 from if_pos (by omega), show (Int32.ofInt 8).toInt.toNat = 8 from by decide]; omega)) _ _ _ _ _ _ _ hS ((hR0.grow hX).up (Nat.le_succ K) hk6) (hK.x hRo hno hX) hth (by first | (rw [show x3.toInt = 0 by omega]; first | rfl | (simp only [show ySeat x2 = x2 from if_neg (by omega)]; rfl) | (simp only [show ySeat x2 = Int32.ofInt 8 from if_pos (by omega), show (Int32.ofInt 8).toInt.toNat = 8 from by decide]; rfl)) | (rw [show x3.toInt = 1 by omega]; first | rfl | (simp only [show ySeat x2 = x2 from if_neg (by omega)]; rfl) | (simp only [show ySeat x2 = Int32.ofInt 8 from if_pos (by omega), show (Int32.ofInt 8).toInt.toNat = 8 from by decide]; rfl)) | (rw [show x3.toInt = 2 by omega]; first | rfl | (simp only [show ySeat x2 = x2 from if_neg (by omega)]; rfl) | (simp only [show ySeat x2 = Int32.ofInt 8 from if_pos (by omega), show (Int32.ofInt 8).toInt.toNat = 8 from by decide]; rfl))) ((hB.trans hX).rf1 (by omega)) (by omega) (by omega)
          · refine y_aload rfl rfl ?_
            obtain ⟨hR_v27, hb_v27, ht_v27⟩ := hR0.ven hlo_b20 hb0_b20 ht_b20 (j := 1) (by decide)
            have hb0_v27 := hb_v27
            have hb_v27 := Nat.lt_of_lt_of_le hb_v27 hn
            have hlo_v27 : 94 ≤ b20 + 1 + 1 := by omega
            have hR2_v27 := (congrFun (hX.2.1 b20 hb_b20).2.2 1).trans hR_v27
            refine y_getR rfl ((hX.2.1 _ hb_b20).1.trans ht_b20) (Nat.lt_of_lt_of_le hb_b20 hX.1) rfl rfl hR2_v27 ?_
            refine y_iload_n rfl rfl ?_
            refine y_ialoadw (j := 8) (J := I (b20 + 1 + 1)) rfl ((hX.2.1 _ hb_v27).1.trans ht_v27) (Nat.lt_of_lt_of_le hb_v27 hX.1) (by decide) (by decide) rfl (((hB.trans hX).n (by omega)).trans (by repeat (first | rfl | (rw [upd2_row (by first | decide | omega)]) | refine upd2_cg ?_))) ?_
            refine y_goto rfl j_X14_ventureTold_49 ?_
            refine y_ireturn rfl rfl rfl ?_
            refine y_ret1 ?_
            refine y_ireturn rfl rfl rfl ?_
            exact hQ0 _ eb_b20 (by first | omega | (simp only [show ySeat x2 = x2 from if_neg (by omega)]; omega) | (simp only [show ySeat x2 = Int32.ofInt 8 from if_pos (by omega), show (Int32.ofInt 8).toInt.toNat = 8 from by decide]; omega)) _ _ _ _ _ _ _ hS ((hR0.grow hX).up (Nat.le_succ K) hk6) (hK.x hRo hno hX) hth (by first | (rw [show x3.toInt = 0 by omega]; first | rfl | (simp only [show ySeat x2 = x2 from if_neg (by omega)]; rfl) | (simp only [show ySeat x2 = Int32.ofInt 8 from if_pos (by omega), show (Int32.ofInt 8).toInt.toNat = 8 from by decide]; rfl)) | (rw [show x3.toInt = 1 by omega]; first | rfl | (simp only [show ySeat x2 = x2 from if_neg (by omega)]; rfl) | (simp only [show ySeat x2 = Int32.ofInt 8 from if_pos (by omega), show (Int32.ofInt 8).toInt.toNat = 8 from by decide]; rfl)) | (rw [show x3.toInt = 2 by omega]; first | rfl | (simp only [show ySeat x2 = x2 from if_neg (by omega)]; rfl) | (simp only [show ySeat x2 = Int32.ofInt 8 from if_pos (by omega), show (Int32.ofInt 8).toInt.toNat = 8 from by decide]; rfl))) ((hB.trans hX).rf1 (by omega)) (by omega) (by omega)
      · rw [yz_0] at h_9
        rw [yz_2] at h_9
        refine y_ret1 ?_
        refine y_if_neF rfl (by decide) ?_
        refine y_iconst rfl ?_
        refine y_goto rfl j_X14_ofVenture_44 ?_
        refine y_iconst rfl ?_
        refine y_virt rfl rfl rfl rfl rfl (ySh.t hS rfl) (ySh.n hS rfl) ?_
        refine y_in (M := xm_X14_refuse) (ls := [some _, some _, some _]) rfl rfl rfl ?_
        refine y_iload_n rfl rfl ?_
        refine y_if_eqF rfl (by decide) ?_
        refine y_aload_n rfl rfl ?_
        refine y_getIv (v := Int32.ofInt (0)) rfl (ySh.t hS rfl) (ySh.n hS rfl) rfl rfl hth ?_
        refine y_if_neF rfl (by decide) ?_
        refine y_aload_n rfl rfl ?_
        refine y_iload_n rfl rfl ?_
        refine y_putI rfl (ySh.t hS rfl) (ySh.n hS rfl) rfl (Nat.le_of_ble_eq_true rfl) rfl rfl ?_
        refine y_nameI (fun I28 e28 => ?_)
        have hR1 := (hR0.grow hX).mod0 e28 (by decide) (by decide)
        have hK := (hK.x hRo hno hX).upI (upI e28) (by decide) (by decide) (fun i hi => by have := (hRo.l87.2.2.2.2 i hi).2.1; omega) (by rw [e28, upd2_ne (.inr (by decide))]; exact Int.le_refl _)
        have hth : I28 83 0 = Int32.ofInt (2) := by rw [e28, upd2_self]
        have hzz : ySz8 I6 I28 := ySz8_of (upI e28) (by rw [e28]; exact ⟨upd2_ne (.inr (by decide)), upd2_ne (.inr (by decide))⟩)
        have hB := (hB.trans hX).wr e28 rfl
        have h8 : ∀ a, 84 ≤ a → a ≤ 86 → I28 a = I a := fun a h1 h2 => (upI e28 a (by omega)).trans ((hX.2.1 a (by omega)).2.1.trans (h8 a h1 h2))
        have h3k : ∀ k, k ≠ 0 → I28 83 k = I 83 k := fun k hk => (congrFun (congrFun e28 83) k).trans ((upd2_ne (.inr hk)).trans ((congrFun (hX.2.1 83 (by omega)).2.1 k).trans (h3k k hk)))
        have hg := (hg.gx hX (by omega)).skip e28 (by decide)
        have hday : I28 83 1 = I 83 1 := (congrFun (congrFun e28 83) 1).trans ((upd2_ne (.inr (by decide))).trans ((congrFun (hX.2.1 83 (by omega)).2.1 1).trans hday))
        have hRb : ∀ a, a < n → R a = R a := fun a ha => (hX.2.1 a (by omega)).2.2.trans (hRb a ha)
        have hb83 : ∀ a, a ≠ 83 → a < n → I28 a = I a := fun a ha hb => (upI e28 a ha).trans ((hX.2.1 a (by omega)).2.1.trans (hb83 a ha hb))
        have hS0 := hS
        have hR0 := hR1
        have hn := Nat.le_refl n
        have h94 := hS0.1
        have hX := @yX.rf n tg I28 R
        have hS := hS0.x hX
        have hR := hR0.x hn hX
        have hz := hX.sz h94
        have hxn := hX.1
        have hN := hR0.1
        have hnb := hR0.2.2.2.2.2.2
        have hthB := hth
        refine y_aload_n rfl rfl ?_
        refine y_getIv (v := Int32.ofInt (2)) rfl (ySh.t hS rfl) (ySh.n hS rfl) rfl rfl hth ?_
        refine y_if_leF rfl (by decide) ?_
        refine y_iconst rfl ?_
        refine y_goto rfl j_X14_refuse_28 ?_
        refine y_ireturn rfl rfl rfl ?_
        refine y_ret1 ?_
        refine y_if_eqF rfl (by decide) ?_
        refine y_iconst rfl ?_
        refine y_goto rfl j_X14_ofVenture_65 ?_
        refine y_ireturn rfl rfl rfl ?_
        exact hQ2 (by first | omega | (simp only [show ySeat x2 = x2 from if_neg (by omega)]; omega) | (simp only [show ySeat x2 = Int32.ofInt 8 from if_pos (by omega), show (Int32.ofInt 8).toInt.toNat = 8 from by decide]; omega)) _ _ _ _ _ _ _ hS ((hR0.grow hX).up (Nat.le_succ K) hk6) (hK.x hRo hno hX) hth ((hB.trans hX).rf2 (by omega)) (by omega) (by omega)
    · rw [yz_m1] at h_5
      refine y_aload_n rfl rfl ?_
      refine y_iload_n rfl rfl ?_
      refine y_virt rfl rfl rfl rfl rfl (ySh.t hS rfl) (ySh.n hS rfl) ?_
      refine y_in (M := xm_X14_isNobody) (ls := [some _, some _]) rfl rfl rfl ?_
      refine y_iload_n rfl rfl ?_
      refine y_iconst rfl ?_
      refine y_aload_n rfl rfl ?_
      refine y_getIv (v := I 83 8) rfl (ySh.t hS rfl) (ySh.n hS rfl) rfl rfl ((congrFun ((hB.trans hX).n (by omega : 83 < n)) 8).trans (by repeat (first | rfl | rw [upd2_ne (by first | exact .inl (by omega) | exact .inr (by decide))]))) ?_
      refine y_iconst rfl ?_
      refine y_isub rfl ?_
      refine y_static rfl rfl rfl rfl rfl ?_
      refine r_isIn (fun h_29 h_30 => ?_) (fun h_31 => ?_)
      · rw [yz_0] at h_29
        try rw [ysub (by rw [yz_1]; omega) (by rw [yz_1]; omega), yz_1] at h_30
        refine y_ret1 ?_
        refine y_if_neT rfl j_X14_isNobody_18 (by decide) ?_
        refine y_iconst rfl ?_
        refine y_ireturn rfl rfl rfl ?_
        refine y_ret1 ?_
        refine y_if_eqT rfl j_X14_isNoOne_17 (by decide) ?_
        refine y_iconst rfl ?_
        refine y_ireturn rfl rfl rfl ?_
        refine y_ret1 ?_
        refine y_if_eqT rfl j_X14_ofVenture_21 (by decide) ?_
        refine y_iconst rfl ?_
        refine y_iconst rfl ?_
        refine y_virt rfl rfl rfl rfl rfl (ySh.t hS rfl) (ySh.n hS rfl) ?_
        refine y_in (M := xm_X14_start) (ls := [some _, some _, some _]) rfl rfl rfl ?_
        refine y_aload_n rfl rfl ?_
        refine y_iconst rfl ?_
        refine y_putI rfl (ySh.t hS rfl) (ySh.n hS rfl) rfl (Nat.le_of_ble_eq_true rfl) rfl rfl ?_
        refine y_nameI (fun I32 e32 => ?_)
        have hR1 := (hR0.grow hX).mod0 e32 (by decide) (by decide)
        have hK := (hK.x hRo hno hX).upI (upI e32) (by decide) (by decide) (fun i hi => by have := (hRo.l87.2.2.2.2 i hi).2.1; omega) (by rw [e32, upd2_ne (.inr (by decide))]; exact Int.le_refl _)
        have hth : I32 83 0 = Int32.ofInt (0) := by rw [e32, upd2_self]
        have hzz : ySz8 I I32 := ySz8_of (upI e32) (by rw [e32]; exact ⟨upd2_ne (.inr (by decide)), upd2_ne (.inr (by decide))⟩)
        have hB := (hB.trans hX).wr e32 rfl
        have h8 : ∀ a, 84 ≤ a → a ≤ 86 → I32 a = I a := fun a h1 h2 => (upI e32 a (by omega)).trans ((hX.2.1 a (by omega)).2.1.trans (h8 a h1 h2))
        have h3k : ∀ k, k ≠ 0 → I32 83 k = I 83 k := fun k hk => (congrFun (congrFun e32 83) k).trans ((upd2_ne (.inr hk)).trans ((congrFun (hX.2.1 83 (by omega)).2.1 k).trans (h3k k hk)))
        have hg := (hg.gx hX (by omega)).skip e32 (by decide)
        have hday : I32 83 1 = I 83 1 := (congrFun (congrFun e32 83) 1).trans ((upd2_ne (.inr (by decide))).trans ((congrFun (hX.2.1 83 (by omega)).2.1 1).trans hday))
        have hRb : ∀ a, a < n → R a = R a := fun a ha => (hX.2.1 a (by omega)).2.2.trans (hRb a ha)
        have hb83 : ∀ a, a ≠ 83 → a < n → I32 a = I a := fun a ha hb => (upI e32 a ha).trans ((hX.2.1 a (by omega)).2.1.trans (hb83 a ha hb))
        have hS0 := hS
        have hR0 := hR1
        have hn := Nat.le_refl n
        have h94 := hS0.1
        have hX := @yX.rf n tg I32 R
        have hS := hS0.x hX
        have hR := hR0.x hn hX
        have hz := hX.sz h94
        have hxn := hX.1
        have hN := hR0.1
        have hnb := hR0.2.2.2.2.2.2
        have hthB := hth
        refine y_aload_n rfl rfl ?_
        refine y_iload_n rfl rfl ?_
        refine y_iload_n rfl rfl ?_
        refine y_virt rfl rfl rfl rfl rfl (ySh.t hS rfl) (ySh.n hS rfl) ?_
        refine y_in (M := xm_X14_refuse) (ls := [some _, some _, some _]) rfl rfl rfl ?_
        refine y_iload_n rfl rfl ?_
        refine y_if_eqT rfl j_X14_refuse_16 (by decide) ?_
        refine y_aload_n rfl rfl ?_
        refine y_getIv (v := Int32.ofInt (0)) rfl (ySh.t hS rfl) (ySh.n hS rfl) rfl rfl hth ?_
        refine y_if_leT rfl j_X14_refuse_27 (by decide) ?_
        refine y_iconst rfl ?_
        refine y_ireturn rfl rfl rfl ?_
        refine y_ret1 ?_
        refine y_ireturn rfl rfl rfl ?_
        refine y_ret1 ?_
        refine y_if_neF rfl (by decide) ?_
        refine y_aload_n rfl rfl ?_
        refine y_iload_n rfl rfl ?_
        refine y_iconst rfl ?_
        refine y_iconst rfl ?_
        refine y_static rfl rfl rfl rfl rfl ?_
        refine r_isIn (fun h_33 h_34 => ?_) (fun h_35 => ?_)
        · rw [yz_0] at h_33
          rw [yz_2] at h_34
          refine y_ret1 ?_
          refine y_if_neT rfl j_X14_ofVenture_43 (by decide) ?_
          refine y_iconst rfl ?_
          refine y_iconst rfl ?_
          refine y_virt rfl rfl rfl rfl rfl (ySh.t hS rfl) (ySh.n hS rfl) ?_
          refine y_in (M := xm_X14_refuse) (ls := [some _, some _, some _]) rfl rfl rfl ?_
          refine y_iload_n rfl rfl ?_
          refine y_if_eqT rfl j_X14_refuse_16 (by decide) ?_
          refine y_aload_n rfl rfl ?_
          refine y_getIv (v := Int32.ofInt (0)) rfl (ySh.t hS rfl) (ySh.n hS rfl) rfl rfl hth ?_
          refine y_if_leT rfl j_X14_refuse_27 (by decide) ?_
          refine y_iconst rfl ?_
          refine y_ireturn rfl rfl rfl ?_
          refine y_ret1 ?_
          refine y_if_eqT rfl j_X14_ofVenture_55 (by decide) ?_
          refine y_aload_n rfl rfl ?_
          refine y_iload_n rfl rfl ?_
          refine y_iload_n rfl rfl ?_
          refine y_static rfl rfl rfl rfl rfl ?_
          refine y_in (M := xm_X14_seat) (ls := [some _]) rfl rfl rfl ?_
          refine y_iload_n rfl rfl ?_
          refine y_iconst rfl ?_
          refine y_icmp_ne rfl j_X14_seat_10 (fun h_36 => ?_) (fun h_37 => ?_)
          · rw [yz_m1] at h_36
            refine y_iload_n rfl rfl ?_
            refine y_ireturn rfl rfl rfl ?_
            refine y_ret1 ?_
            refine y_iload_n rfl rfl ?_
            refine y_virt rfl rfl rfl rfl rfl (ySh.t hS rfl) (ySh.n hS rfl) ?_
            refine y_in (M := xm_X14_ventureTold) (ls := [some _, some _, some _, some _, _]) rfl rfl rfl ?_
            refine y_aload_n rfl rfl ?_
            refine y_getR rfl (ySh.t hS rfl) (ySh.n hS rfl) rfl rfl (ySh.r hS rfl) ?_
            refine y_iload_n rfl rfl ?_
            refine y_virt rfl rfl rfl rfl rfl (ySh.t hS rfl) (ySh.n hS rfl) ?_
            refine l_get (nb := n) (ySh.t hS rfl) (ySh.n hS rfl) (Nat.le_trans hn hX.1) hR.l91 (by omega) (by omega) (fun b38 eb_b38 hlo_b38 hb0_b38 ht_b38 => ?_)
            have hb_b38 := Nat.lt_of_lt_of_le hb0_b38 hn
            replace ht_b38 := (hX.2.1 _ hb_b38).1.symm.trans ht_b38
            refine y_ret1 ?_
            refine y_cast rfl ((hX.2.1 _ hb_b38).1.trans ht_b38) (Nat.lt_of_lt_of_le hb_b38 hX.1) ?_
            refine y_astore (ls' := [some _, some _, some _, some _, some _]) rfl rfl rfl ?_
            refine y_iload_n rfl rfl ?_
            refine y_if_ne rfl j_X14_ventureTold_27 (fun h_39 => ?_) (fun h_40 => ?_)
            · refine y_iload_n rfl rfl ?_
              refine y_iconst rfl ?_
              refine y_icmp_ne rfl j_X14_ventureTold_42 (fun h_41 => ?_) (fun h_42 => ?_)
              · rw [yz_1] at h_41
                refine y_aload rfl rfl ?_
                obtain ⟨hR_v43, hb_v43, ht_v43⟩ := hR0.ven hlo_b38 hb0_b38 ht_b38 (j := 3) (by decide)
                have hb0_v43 := hb_v43
                have hb_v43 := Nat.lt_of_lt_of_le hb_v43 hn
                have hlo_v43 : 94 ≤ b38 + 1 + 3 := by omega
                have hR2_v43 := (congrFun (hX.2.1 b38 hb_b38).2.2 3).trans hR_v43
                refine y_getR rfl ((hX.2.1 _ hb_b38).1.trans ht_b38) (Nat.lt_of_lt_of_le hb_b38 hX.1) rfl rfl hR2_v43 ?_
                refine y_iload_n rfl rfl ?_
                refine y_ialoadv (J := I (b38 + 1 + 3)) rfl ((hX.2.1 _ hb_v43).1.trans ht_v43) (Nat.lt_of_lt_of_le hb_v43 hX.1) (by omega) (by omega) (((hB.trans hX).n (by omega)).trans (by repeat (first | rfl | (rw [upd2_row (by first | decide | omega)]) | refine upd2_cg ?_))) ?_
                refine y_ireturn rfl rfl rfl ?_
                refine y_ret1 ?_
                refine y_ireturn rfl rfl rfl ?_
                exact hQ0 _ eb_b38 (by first | omega | (simp only [show ySeat x2 = x2 from if_neg (by omega)]; omega) | (simp only [show ySeat x2 = Int32.ofInt 8 from if_pos (by omega), show (Int32.ofInt 8).toInt.toNat = 8 from by decide]; omega)) _ _ _ _ _ _ _ hS ((hR0.grow hX).up (Nat.le_succ K) hk6) (hK.x hRo hno hX) hth (by first | (rw [show x3.toInt = 0 by omega]; first | rfl | (simp only [show ySeat x2 = x2 from if_neg (by omega)]; rfl) | (simp only [show ySeat x2 = Int32.ofInt 8 from if_pos (by omega), show (Int32.ofInt 8).toInt.toNat = 8 from by decide]; rfl)) | (rw [show x3.toInt = 1 by omega]; first | rfl | (simp only [show ySeat x2 = x2 from if_neg (by omega)]; rfl) | (simp only [show ySeat x2 = Int32.ofInt 8 from if_pos (by omega), show (Int32.ofInt 8).toInt.toNat = 8 from by decide]; rfl)) | (rw [show x3.toInt = 2 by omega]; first | rfl | (simp only [show ySeat x2 = x2 from if_neg (by omega)]; rfl) | (simp only [show ySeat x2 = Int32.ofInt 8 from if_pos (by omega), show (Int32.ofInt 8).toInt.toNat = 8 from by decide]; rfl))) ((hB.trans hX).rf1 (by omega)) (by omega) (by omega)
              · rw [yz_1] at h_42
                refine y_aload rfl rfl ?_
                obtain ⟨hR_v44, hb_v44, ht_v44⟩ := hR0.ven hlo_b38 hb0_b38 ht_b38 (j := 2) (by decide)
                have hb0_v44 := hb_v44
                have hb_v44 := Nat.lt_of_lt_of_le hb_v44 hn
                have hlo_v44 : 94 ≤ b38 + 1 + 2 := by omega
                have hR2_v44 := (congrFun (hX.2.1 b38 hb_b38).2.2 2).trans hR_v44
                refine y_getR rfl ((hX.2.1 _ hb_b38).1.trans ht_b38) (Nat.lt_of_lt_of_le hb_b38 hX.1) rfl rfl hR2_v44 ?_
                refine y_iload_n rfl rfl ?_
                refine y_ialoadv (J := I (b38 + 1 + 2)) rfl ((hX.2.1 _ hb_v44).1.trans ht_v44) (Nat.lt_of_lt_of_le hb_v44 hX.1) (by omega) (by omega) (((hB.trans hX).n (by omega)).trans (by repeat (first | rfl | (rw [upd2_row (by first | decide | omega)]) | refine upd2_cg ?_))) ?_
                refine y_goto rfl j_X14_ventureTold_49 ?_
                refine y_ireturn rfl rfl rfl ?_
                refine y_ret1 ?_
                refine y_ireturn rfl rfl rfl ?_
                exact hQ0 _ eb_b38 (by first | omega | (simp only [show ySeat x2 = x2 from if_neg (by omega)]; omega) | (simp only [show ySeat x2 = Int32.ofInt 8 from if_pos (by omega), show (Int32.ofInt 8).toInt.toNat = 8 from by decide]; omega)) _ _ _ _ _ _ _ hS ((hR0.grow hX).up (Nat.le_succ K) hk6) (hK.x hRo hno hX) hth (by first | (rw [show x3.toInt = 0 by omega]; first | rfl | (simp only [show ySeat x2 = x2 from if_neg (by omega)]; rfl) | (simp only [show ySeat x2 = Int32.ofInt 8 from if_pos (by omega), show (Int32.ofInt 8).toInt.toNat = 8 from by decide]; rfl)) | (rw [show x3.toInt = 1 by omega]; first | rfl | (simp only [show ySeat x2 = x2 from if_neg (by omega)]; rfl) | (simp only [show ySeat x2 = Int32.ofInt 8 from if_pos (by omega), show (Int32.ofInt 8).toInt.toNat = 8 from by decide]; rfl)) | (rw [show x3.toInt = 2 by omega]; first | rfl | (simp only [show ySeat x2 = x2 from if_neg (by omega)]; rfl) | (simp only [show ySeat x2 = Int32.ofInt 8 from if_pos (by omega), show (Int32.ofInt 8).toInt.toNat = 8 from by decide]; rfl))) ((hB.trans hX).rf1 (by omega)) (by omega) (by omega)
            · refine y_aload rfl rfl ?_
              obtain ⟨hR_v45, hb_v45, ht_v45⟩ := hR0.ven hlo_b38 hb0_b38 ht_b38 (j := 1) (by decide)
              have hb0_v45 := hb_v45
              have hb_v45 := Nat.lt_of_lt_of_le hb_v45 hn
              have hlo_v45 : 94 ≤ b38 + 1 + 1 := by omega
              have hR2_v45 := (congrFun (hX.2.1 b38 hb_b38).2.2 1).trans hR_v45
              refine y_getR rfl ((hX.2.1 _ hb_b38).1.trans ht_b38) (Nat.lt_of_lt_of_le hb_b38 hX.1) rfl rfl hR2_v45 ?_
              refine y_iload_n rfl rfl ?_
              refine y_ialoadv (J := I (b38 + 1 + 1)) rfl ((hX.2.1 _ hb_v45).1.trans ht_v45) (Nat.lt_of_lt_of_le hb_v45 hX.1) (by omega) (by omega) (((hB.trans hX).n (by omega)).trans (by repeat (first | rfl | (rw [upd2_row (by first | decide | omega)]) | refine upd2_cg ?_))) ?_
              refine y_goto rfl j_X14_ventureTold_49 ?_
              refine y_ireturn rfl rfl rfl ?_
              refine y_ret1 ?_
              refine y_ireturn rfl rfl rfl ?_
              exact hQ0 _ eb_b38 (by first | omega | (simp only [show ySeat x2 = x2 from if_neg (by omega)]; omega) | (simp only [show ySeat x2 = Int32.ofInt 8 from if_pos (by omega), show (Int32.ofInt 8).toInt.toNat = 8 from by decide]; omega)) _ _ _ _ _ _ _ hS ((hR0.grow hX).up (Nat.le_succ K) hk6) (hK.x hRo hno hX) hth (by first | (rw [show x3.toInt = 0 by omega]; first | rfl | (simp only [show ySeat x2 = x2 from if_neg (by omega)]; rfl) | (simp only [show ySeat x2 = Int32.ofInt 8 from if_pos (by omega), show (Int32.ofInt 8).toInt.toNat = 8 from by decide]; rfl)) | (rw [show x3.toInt = 1 by omega]; first | rfl | (simp only [show ySeat x2 = x2 from if_neg (by omega)]; rfl) | (simp only [show ySeat x2 = Int32.ofInt 8 from if_pos (by omega), show (Int32.ofInt 8).toInt.toNat = 8 from by decide]; rfl)) | (rw [show x3.toInt = 2 by omega]; first | rfl | (simp only [show ySeat x2 = x2 from if_neg (by omega)]; rfl) | (simp only [show ySeat x2 = Int32.ofInt 8 from if_pos (by omega), show (Int32.ofInt 8).toInt.toNat = 8 from by decide]; rfl))) ((hB.trans hX).rf1 (by omega)) (by omega) (by omega)
          · rw [yz_m1] at h_37
            refine y_bip rfl (by decide) ?_
            refine y_goto rfl j_X14_seat_11 ?_
            refine y_ireturn rfl rfl rfl ?_
            refine y_ret1 ?_
            refine y_iload_n rfl rfl ?_
            refine y_virt rfl rfl rfl rfl rfl (ySh.t hS rfl) (ySh.n hS rfl) ?_
            refine y_in (M := xm_X14_ventureTold) (ls := [some _, some _, some _, some _, _]) rfl rfl rfl ?_
            refine y_aload_n rfl rfl ?_
            refine y_getR rfl (ySh.t hS rfl) (ySh.n hS rfl) rfl rfl (ySh.r hS rfl) ?_
            refine y_iload_n rfl rfl ?_
            refine y_virt rfl rfl rfl rfl rfl (ySh.t hS rfl) (ySh.n hS rfl) ?_
            refine l_get (nb := n) (ySh.t hS rfl) (ySh.n hS rfl) (Nat.le_trans hn hX.1) hR.l91 (by omega) (by omega) (fun b46 eb_b46 hlo_b46 hb0_b46 ht_b46 => ?_)
            have hb_b46 := Nat.lt_of_lt_of_le hb0_b46 hn
            replace ht_b46 := (hX.2.1 _ hb_b46).1.symm.trans ht_b46
            refine y_ret1 ?_
            refine y_cast rfl ((hX.2.1 _ hb_b46).1.trans ht_b46) (Nat.lt_of_lt_of_le hb_b46 hX.1) ?_
            refine y_astore (ls' := [some _, some _, some _, some _, some _]) rfl rfl rfl ?_
            refine y_iload_n rfl rfl ?_
            refine y_if_ne rfl j_X14_ventureTold_27 (fun h_47 => ?_) (fun h_48 => ?_)
            · refine y_iload_n rfl rfl ?_
              refine y_iconst rfl ?_
              refine y_icmp_ne rfl j_X14_ventureTold_42 (fun h_49 => ?_) (fun h_50 => ?_)
              · rw [yz_1] at h_49
                refine y_aload rfl rfl ?_
                obtain ⟨hR_v51, hb_v51, ht_v51⟩ := hR0.ven hlo_b46 hb0_b46 ht_b46 (j := 3) (by decide)
                have hb0_v51 := hb_v51
                have hb_v51 := Nat.lt_of_lt_of_le hb_v51 hn
                have hlo_v51 : 94 ≤ b46 + 1 + 3 := by omega
                have hR2_v51 := (congrFun (hX.2.1 b46 hb_b46).2.2 3).trans hR_v51
                refine y_getR rfl ((hX.2.1 _ hb_b46).1.trans ht_b46) (Nat.lt_of_lt_of_le hb_b46 hX.1) rfl rfl hR2_v51 ?_
                refine y_iload_n rfl rfl ?_
                refine y_ialoadw (j := 8) (J := I (b46 + 1 + 3)) rfl ((hX.2.1 _ hb_v51).1.trans ht_v51) (Nat.lt_of_lt_of_le hb_v51 hX.1) (by decide) (by decide) rfl (((hB.trans hX).n (by omega)).trans (by repeat (first | rfl | (rw [upd2_row (by first | decide | omega)]) | refine upd2_cg ?_))) ?_
                refine y_ireturn rfl rfl rfl ?_
                refine y_ret1 ?_
                refine y_ireturn rfl rfl rfl ?_
                exact hQ0 _ eb_b46 (by first | omega | (simp only [show ySeat x2 = x2 from if_neg (by omega)]; omega) | (simp only [show ySeat x2 = Int32.ofInt 8 from if_pos (by omega), show (Int32.ofInt 8).toInt.toNat = 8 from by decide]; omega)) _ _ _ _ _ _ _ hS ((hR0.grow hX).up (Nat.le_succ K) hk6) (hK.x hRo hno hX) hth (by first | (rw [show x3.toInt = 0 by omega]; first | rfl | (simp only [show ySeat x2 = x2 from if_neg (by omega)]; rfl) | (simp only [show ySeat x2 = Int32.ofInt 8 from if_pos (by omega), show (Int32.ofInt 8).toInt.toNat = 8 from by decide]; rfl)) | (rw [show x3.toInt = 1 by omega]; first | rfl | (simp only [show ySeat x2 = x2 from if_neg (by omega)]; rfl) | (simp only [show ySeat x2 = Int32.ofInt 8 from if_pos (by omega), show (Int32.ofInt 8).toInt.toNat = 8 from by decide]; rfl)) | (rw [show x3.toInt = 2 by omega]; first | rfl | (simp only [show ySeat x2 = x2 from if_neg (by omega)]; rfl) | (simp only [show ySeat x2 = Int32.ofInt 8 from if_pos (by omega), show (Int32.ofInt 8).toInt.toNat = 8 from by decide]; rfl))) ((hB.trans hX).rf1 (by omega)) (by omega) (by omega)
              · rw [yz_1] at h_50
                refine y_aload rfl rfl ?_
                obtain ⟨hR_v52, hb_v52, ht_v52⟩ := hR0.ven hlo_b46 hb0_b46 ht_b46 (j := 2) (by decide)
                have hb0_v52 := hb_v52
                have hb_v52 := Nat.lt_of_lt_of_le hb_v52 hn
                have hlo_v52 : 94 ≤ b46 + 1 + 2 := by omega
                have hR2_v52 := (congrFun (hX.2.1 b46 hb_b46).2.2 2).trans hR_v52
                refine y_getR rfl ((hX.2.1 _ hb_b46).1.trans ht_b46) (Nat.lt_of_lt_of_le hb_b46 hX.1) rfl rfl hR2_v52 ?_
                refine y_iload_n rfl rfl ?_
                refine y_ialoadw (j := 8) (J := I (b46 + 1 + 2)) rfl ((hX.2.1 _ hb_v52).1.trans ht_v52) (Nat.lt_of_lt_of_le hb_v52 hX.1) (by decide) (by decide) rfl (((hB.trans hX).n (by omega)).trans (by repeat (first | rfl | (rw [upd2_row (by first | decide | omega)]) | refine upd2_cg ?_))) ?_
                refine y_goto rfl j_X14_ventureTold_49 ?_
                refine y_ireturn rfl rfl rfl ?_
                refine y_ret1 ?_
                refine y_ireturn rfl rfl rfl ?_
                exact hQ0 _ eb_b46 (by first | omega | (simp only [show ySeat x2 = x2 from if_neg (by omega)]; omega) | (simp only [show ySeat x2 = Int32.ofInt 8 from if_pos (by omega), show (Int32.ofInt 8).toInt.toNat = 8 from by decide]; omega)) _ _ _ _ _ _ _ hS ((hR0.grow hX).up (Nat.le_succ K) hk6) (hK.x hRo hno hX) hth (by first | (rw [show x3.toInt = 0 by omega]; first | rfl | (simp only [show ySeat x2 = x2 from if_neg (by omega)]; rfl) | (simp only [show ySeat x2 = Int32.ofInt 8 from if_pos (by omega), show (Int32.ofInt 8).toInt.toNat = 8 from by decide]; rfl)) | (rw [show x3.toInt = 1 by omega]; first | rfl | (simp only [show ySeat x2 = x2 from if_neg (by omega)]; rfl) | (simp only [show ySeat x2 = Int32.ofInt 8 from if_pos (by omega), show (Int32.ofInt 8).toInt.toNat = 8 from by decide]; rfl)) | (rw [show x3.toInt = 2 by omega]; first | rfl | (simp only [show ySeat x2 = x2 from if_neg (by omega)]; rfl) | (simp only [show ySeat x2 = Int32.ofInt 8 from if_pos (by omega), show (Int32.ofInt 8).toInt.toNat = 8 from by decide]; rfl))) ((hB.trans hX).rf1 (by omega)) (by omega) (by omega)
            · refine y_aload rfl rfl ?_
              obtain ⟨hR_v53, hb_v53, ht_v53⟩ := hR0.ven hlo_b46 hb0_b46 ht_b46 (j := 1) (by decide)
              have hb0_v53 := hb_v53
              have hb_v53 := Nat.lt_of_lt_of_le hb_v53 hn
              have hlo_v53 : 94 ≤ b46 + 1 + 1 := by omega
              have hR2_v53 := (congrFun (hX.2.1 b46 hb_b46).2.2 1).trans hR_v53
              refine y_getR rfl ((hX.2.1 _ hb_b46).1.trans ht_b46) (Nat.lt_of_lt_of_le hb_b46 hX.1) rfl rfl hR2_v53 ?_
              refine y_iload_n rfl rfl ?_
              refine y_ialoadw (j := 8) (J := I (b46 + 1 + 1)) rfl ((hX.2.1 _ hb_v53).1.trans ht_v53) (Nat.lt_of_lt_of_le hb_v53 hX.1) (by decide) (by decide) rfl (((hB.trans hX).n (by omega)).trans (by repeat (first | rfl | (rw [upd2_row (by first | decide | omega)]) | refine upd2_cg ?_))) ?_
              refine y_goto rfl j_X14_ventureTold_49 ?_
              refine y_ireturn rfl rfl rfl ?_
              refine y_ret1 ?_
              refine y_ireturn rfl rfl rfl ?_
              exact hQ0 _ eb_b46 (by first | omega | (simp only [show ySeat x2 = x2 from if_neg (by omega)]; omega) | (simp only [show ySeat x2 = Int32.ofInt 8 from if_pos (by omega), show (Int32.ofInt 8).toInt.toNat = 8 from by decide]; omega)) _ _ _ _ _ _ _ hS ((hR0.grow hX).up (Nat.le_succ K) hk6) (hK.x hRo hno hX) hth (by first | (rw [show x3.toInt = 0 by omega]; first | rfl | (simp only [show ySeat x2 = x2 from if_neg (by omega)]; rfl) | (simp only [show ySeat x2 = Int32.ofInt 8 from if_pos (by omega), show (Int32.ofInt 8).toInt.toNat = 8 from by decide]; rfl)) | (rw [show x3.toInt = 1 by omega]; first | rfl | (simp only [show ySeat x2 = x2 from if_neg (by omega)]; rfl) | (simp only [show ySeat x2 = Int32.ofInt 8 from if_pos (by omega), show (Int32.ofInt 8).toInt.toNat = 8 from by decide]; rfl)) | (rw [show x3.toInt = 2 by omega]; first | rfl | (simp only [show ySeat x2 = x2 from if_neg (by omega)]; rfl) | (simp only [show ySeat x2 = Int32.ofInt 8 from if_pos (by omega), show (Int32.ofInt 8).toInt.toNat = 8 from by decide]; rfl))) ((hB.trans hX).rf1 (by omega)) (by omega) (by omega)
        · rw [yz_0] at h_35
          rw [yz_2] at h_35
          refine y_ret1 ?_
          refine y_if_neF rfl (by decide) ?_
          refine y_iconst rfl ?_
          refine y_goto rfl j_X14_ofVenture_44 ?_
          refine y_iconst rfl ?_
          refine y_virt rfl rfl rfl rfl rfl (ySh.t hS rfl) (ySh.n hS rfl) ?_
          refine y_in (M := xm_X14_refuse) (ls := [some _, some _, some _]) rfl rfl rfl ?_
          refine y_iload_n rfl rfl ?_
          refine y_if_eqF rfl (by decide) ?_
          refine y_aload_n rfl rfl ?_
          refine y_getIv (v := Int32.ofInt (0)) rfl (ySh.t hS rfl) (ySh.n hS rfl) rfl rfl hth ?_
          refine y_if_neF rfl (by decide) ?_
          refine y_aload_n rfl rfl ?_
          refine y_iload_n rfl rfl ?_
          refine y_putI rfl (ySh.t hS rfl) (ySh.n hS rfl) rfl (Nat.le_of_ble_eq_true rfl) rfl rfl ?_
          refine y_nameI (fun I54 e54 => ?_)
          have hR1 := (hR0.grow hX).mod0 e54 (by decide) (by decide)
          have hK := (hK.x hRo hno hX).upI (upI e54) (by decide) (by decide) (fun i hi => by have := (hRo.l87.2.2.2.2 i hi).2.1; omega) (by rw [e54, upd2_ne (.inr (by decide))]; exact Int.le_refl _)
          have hth : I54 83 0 = Int32.ofInt (2) := by rw [e54, upd2_self]
          have hzz : ySz8 I32 I54 := ySz8_of (upI e54) (by rw [e54]; exact ⟨upd2_ne (.inr (by decide)), upd2_ne (.inr (by decide))⟩)
          have hB := (hB.trans hX).wr e54 rfl
          have h8 : ∀ a, 84 ≤ a → a ≤ 86 → I54 a = I a := fun a h1 h2 => (upI e54 a (by omega)).trans ((hX.2.1 a (by omega)).2.1.trans (h8 a h1 h2))
          have h3k : ∀ k, k ≠ 0 → I54 83 k = I 83 k := fun k hk => (congrFun (congrFun e54 83) k).trans ((upd2_ne (.inr hk)).trans ((congrFun (hX.2.1 83 (by omega)).2.1 k).trans (h3k k hk)))
          have hg := (hg.gx hX (by omega)).skip e54 (by decide)
          have hday : I54 83 1 = I 83 1 := (congrFun (congrFun e54 83) 1).trans ((upd2_ne (.inr (by decide))).trans ((congrFun (hX.2.1 83 (by omega)).2.1 1).trans hday))
          have hRb : ∀ a, a < n → R a = R a := fun a ha => (hX.2.1 a (by omega)).2.2.trans (hRb a ha)
          have hb83 : ∀ a, a ≠ 83 → a < n → I54 a = I a := fun a ha hb => (upI e54 a ha).trans ((hX.2.1 a (by omega)).2.1.trans (hb83 a ha hb))
          have hS0 := hS
          have hR0 := hR1
          have hn := Nat.le_refl n
          have h94 := hS0.1
          have hX := @yX.rf n tg I54 R
          have hS := hS0.x hX
          have hR := hR0.x hn hX
          have hz := hX.sz h94
          have hxn := hX.1
          have hN := hR0.1
          have hnb := hR0.2.2.2.2.2.2
          have hthB := hth
          refine y_aload_n rfl rfl ?_
          refine y_getIv (v := Int32.ofInt (2)) rfl (ySh.t hS rfl) (ySh.n hS rfl) rfl rfl hth ?_
          refine y_if_leF rfl (by decide) ?_
          refine y_iconst rfl ?_
          refine y_goto rfl j_X14_refuse_28 ?_
          refine y_ireturn rfl rfl rfl ?_
          refine y_ret1 ?_
          refine y_if_eqF rfl (by decide) ?_
          refine y_iconst rfl ?_
          refine y_goto rfl j_X14_ofVenture_65 ?_
          refine y_ireturn rfl rfl rfl ?_
          exact hQ2 (by first | omega | (simp only [show ySeat x2 = x2 from if_neg (by omega)]; omega) | (simp only [show ySeat x2 = Int32.ofInt 8 from if_pos (by omega), show (Int32.ofInt 8).toInt.toNat = 8 from by decide]; omega)) _ _ _ _ _ _ _ hS ((hR0.grow hX).up (Nat.le_succ K) hk6) (hK.x hRo hno hX) hth ((hB.trans hX).rf2 (by omega)) (by omega) (by omega)
      · rw [yz_0] at h_31
        try rw [ysub (by rw [yz_1]; omega) (by rw [yz_1]; omega), yz_1] at h_31
        refine y_ret1 ?_
        refine y_if_neF rfl (by decide) ?_
        refine y_iconst rfl ?_
        refine y_goto rfl j_X14_isNobody_19 ?_
        refine y_ireturn rfl rfl rfl ?_
        refine y_ret1 ?_
        refine y_if_eqF rfl (by decide) ?_
        refine y_iconst rfl ?_
        refine y_goto rfl j_X14_isNoOne_18 ?_
        refine y_ireturn rfl rfl rfl ?_
        refine y_ret1 ?_
        refine y_if_eqF rfl (by decide) ?_
        refine y_iconst rfl ?_
        refine y_goto rfl j_X14_ofVenture_22 ?_
        refine y_iconst rfl ?_
        refine y_virt rfl rfl rfl rfl rfl (ySh.t hS rfl) (ySh.n hS rfl) ?_
        refine y_in (M := xm_X14_start) (ls := [some _, some _, some _]) rfl rfl rfl ?_
        refine y_aload_n rfl rfl ?_
        refine y_iconst rfl ?_
        refine y_putI rfl (ySh.t hS rfl) (ySh.n hS rfl) rfl (Nat.le_of_ble_eq_true rfl) rfl rfl ?_
        refine y_nameI (fun I55 e55 => ?_)
        have hR1 := (hR0.grow hX).mod0 e55 (by decide) (by decide)
        have hK := (hK.x hRo hno hX).upI (upI e55) (by decide) (by decide) (fun i hi => by have := (hRo.l87.2.2.2.2 i hi).2.1; omega) (by rw [e55, upd2_ne (.inr (by decide))]; exact Int.le_refl _)
        have hth : I55 83 0 = Int32.ofInt (0) := by rw [e55, upd2_self]
        have hzz : ySz8 I I55 := ySz8_of (upI e55) (by rw [e55]; exact ⟨upd2_ne (.inr (by decide)), upd2_ne (.inr (by decide))⟩)
        have hB := (hB.trans hX).wr e55 rfl
        have h8 : ∀ a, 84 ≤ a → a ≤ 86 → I55 a = I a := fun a h1 h2 => (upI e55 a (by omega)).trans ((hX.2.1 a (by omega)).2.1.trans (h8 a h1 h2))
        have h3k : ∀ k, k ≠ 0 → I55 83 k = I 83 k := fun k hk => (congrFun (congrFun e55 83) k).trans ((upd2_ne (.inr hk)).trans ((congrFun (hX.2.1 83 (by omega)).2.1 k).trans (h3k k hk)))
        have hg := (hg.gx hX (by omega)).skip e55 (by decide)
        have hday : I55 83 1 = I 83 1 := (congrFun (congrFun e55 83) 1).trans ((upd2_ne (.inr (by decide))).trans ((congrFun (hX.2.1 83 (by omega)).2.1 1).trans hday))
        have hRb : ∀ a, a < n → R a = R a := fun a ha => (hX.2.1 a (by omega)).2.2.trans (hRb a ha)
        have hb83 : ∀ a, a ≠ 83 → a < n → I55 a = I a := fun a ha hb => (upI e55 a ha).trans ((hX.2.1 a (by omega)).2.1.trans (hb83 a ha hb))
        have hS0 := hS
        have hR0 := hR1
        have hn := Nat.le_refl n
        have h94 := hS0.1
        have hX := @yX.rf n tg I55 R
        have hS := hS0.x hX
        have hR := hR0.x hn hX
        have hz := hX.sz h94
        have hxn := hX.1
        have hN := hR0.1
        have hnb := hR0.2.2.2.2.2.2
        have hthB := hth
        refine y_aload_n rfl rfl ?_
        refine y_iload_n rfl rfl ?_
        refine y_iload_n rfl rfl ?_
        refine y_virt rfl rfl rfl rfl rfl (ySh.t hS rfl) (ySh.n hS rfl) ?_
        refine y_in (M := xm_X14_refuse) (ls := [some _, some _, some _]) rfl rfl rfl ?_
        refine y_iload_n rfl rfl ?_
        refine y_if_eqF rfl (by decide) ?_
        refine y_aload_n rfl rfl ?_
        refine y_getIv (v := Int32.ofInt (0)) rfl (ySh.t hS rfl) (ySh.n hS rfl) rfl rfl hth ?_
        refine y_if_neF rfl (by decide) ?_
        refine y_aload_n rfl rfl ?_
        refine y_iload_n rfl rfl ?_
        refine y_putI rfl (ySh.t hS rfl) (ySh.n hS rfl) rfl (Nat.le_of_ble_eq_true rfl) rfl rfl ?_
        refine y_nameI (fun I56 e56 => ?_)
        have hR1 := (hR0.grow hX).mod0 e56 (by decide) (by decide)
        have hK := (hK.x hRo hno hX).upI (upI e56) (by decide) (by decide) (fun i hi => by have := (hRo.l87.2.2.2.2 i hi).2.1; omega) (by rw [e56, upd2_ne (.inr (by decide))]; exact Int.le_refl _)
        have hth : I56 83 0 = Int32.ofInt (1) := by rw [e56, upd2_self]
        have hzz : ySz8 I55 I56 := ySz8_of (upI e56) (by rw [e56]; exact ⟨upd2_ne (.inr (by decide)), upd2_ne (.inr (by decide))⟩)
        have hB := (hB.trans hX).wr e56 rfl
        have h8 : ∀ a, 84 ≤ a → a ≤ 86 → I56 a = I a := fun a h1 h2 => (upI e56 a (by omega)).trans ((hX.2.1 a (by omega)).2.1.trans (h8 a h1 h2))
        have h3k : ∀ k, k ≠ 0 → I56 83 k = I 83 k := fun k hk => (congrFun (congrFun e56 83) k).trans ((upd2_ne (.inr hk)).trans ((congrFun (hX.2.1 83 (by omega)).2.1 k).trans (h3k k hk)))
        have hg := (hg.gx hX (by omega)).skip e56 (by decide)
        have hday : I56 83 1 = I 83 1 := (congrFun (congrFun e56 83) 1).trans ((upd2_ne (.inr (by decide))).trans ((congrFun (hX.2.1 83 (by omega)).2.1 1).trans hday))
        have hRb : ∀ a, a < n → R a = R a := fun a ha => (hX.2.1 a (by omega)).2.2.trans (hRb a ha)
        have hb83 : ∀ a, a ≠ 83 → a < n → I56 a = I a := fun a ha hb => (upI e56 a ha).trans ((hX.2.1 a (by omega)).2.1.trans (hb83 a ha hb))
        have hS0 := hS
        have hR0 := hR1
        have hn := Nat.le_refl n
        have h94 := hS0.1
        have hX := @yX.rf n tg I56 R
        have hS := hS0.x hX
        have hR := hR0.x hn hX
        have hz := hX.sz h94
        have hxn := hX.1
        have hN := hR0.1
        have hnb := hR0.2.2.2.2.2.2
        have hthB := hth
        refine y_aload_n rfl rfl ?_
        refine y_getIv (v := Int32.ofInt (1)) rfl (ySh.t hS rfl) (ySh.n hS rfl) rfl rfl hth ?_
        refine y_if_leF rfl (by decide) ?_
        refine y_iconst rfl ?_
        refine y_goto rfl j_X14_refuse_28 ?_
        refine y_ireturn rfl rfl rfl ?_
        refine y_ret1 ?_
        refine y_ireturn rfl rfl rfl ?_
        refine y_ret1 ?_
        refine y_if_neT rfl j_X14_ofVenture_51 (by decide) ?_
        refine y_iconst rfl ?_
        refine y_goto rfl j_X14_ofVenture_65 ?_
        refine y_ireturn rfl rfl rfl ?_
        exact hQ1 (by first | omega | (simp only [show ySeat x2 = x2 from if_neg (by omega)]; omega) | (simp only [show ySeat x2 = Int32.ofInt 8 from if_pos (by omega), show (Int32.ofInt 8).toInt.toNat = 8 from by decide]; omega)) _ _ _ _ _ _ _ hS ((hR0.grow hX).up (Nat.le_succ K) hk6) (hK.x hRo hno hX) hth ((hB.trans hX).rf2 (by omega)) (by omega) (by omega)
  · rw [yz_0] at h_3
    try rw [ysub (by rw [yz_1]; omega) (by rw [yz_1]; omega), yz_1] at h_3
    refine y_ret1 ?_
    refine y_if_neF rfl (by decide) ?_
    refine y_iconst rfl ?_
    refine y_goto rfl j_X14_isNoVenture_22 ?_
    refine y_ireturn rfl rfl rfl ?_
    refine y_ret1 ?_
    refine y_if_neT rfl j_X14_ofVenture_17 (by decide) ?_
    refine y_iconst rfl ?_
    refine y_goto rfl j_X14_ofVenture_22 ?_
    refine y_iconst rfl ?_
    refine y_virt rfl rfl rfl rfl rfl (ySh.t hS rfl) (ySh.n hS rfl) ?_
    refine y_in (M := xm_X14_start) (ls := [some _, some _, some _]) rfl rfl rfl ?_
    refine y_aload_n rfl rfl ?_
    refine y_iconst rfl ?_
    refine y_putI rfl (ySh.t hS rfl) (ySh.n hS rfl) rfl (Nat.le_of_ble_eq_true rfl) rfl rfl ?_
    refine y_nameI (fun I57 e57 => ?_)
    have hR1 := (hR0.grow hX).mod0 e57 (by decide) (by decide)
    have hK := (hK.x hRo hno hX).upI (upI e57) (by decide) (by decide) (fun i hi => by have := (hRo.l87.2.2.2.2 i hi).2.1; omega) (by rw [e57, upd2_ne (.inr (by decide))]; exact Int.le_refl _)
    have hth : I57 83 0 = Int32.ofInt (0) := by rw [e57, upd2_self]
    have hzz : ySz8 I I57 := ySz8_of (upI e57) (by rw [e57]; exact ⟨upd2_ne (.inr (by decide)), upd2_ne (.inr (by decide))⟩)
    have hB := (hB.trans hX).wr e57 rfl
    have h8 : ∀ a, 84 ≤ a → a ≤ 86 → I57 a = I a := fun a h1 h2 => (upI e57 a (by omega)).trans ((hX.2.1 a (by omega)).2.1.trans (h8 a h1 h2))
    have h3k : ∀ k, k ≠ 0 → I57 83 k = I 83 k := fun k hk => (congrFun (congrFun e57 83) k).trans ((upd2_ne (.inr hk)).trans ((congrFun (hX.2.1 83 (by omega)).2.1 k).trans (h3k k hk)))
    have hg := (hg.gx hX (by omega)).skip e57 (by decide)
    have hday : I57 83 1 = I 83 1 := (congrFun (congrFun e57 83) 1).trans ((upd2_ne (.inr (by decide))).trans ((congrFun (hX.2.1 83 (by omega)).2.1 1).trans hday))
    have hRb : ∀ a, a < n → R a = R a := fun a ha => (hX.2.1 a (by omega)).2.2.trans (hRb a ha)
    have hb83 : ∀ a, a ≠ 83 → a < n → I57 a = I a := fun a ha hb => (upI e57 a ha).trans ((hX.2.1 a (by omega)).2.1.trans (hb83 a ha hb))
    have hS0 := hS
    have hR0 := hR1
    have hn := Nat.le_refl n
    have h94 := hS0.1
    have hX := @yX.rf n tg I57 R
    have hS := hS0.x hX
    have hR := hR0.x hn hX
    have hz := hX.sz h94
    have hxn := hX.1
    have hN := hR0.1
    have hnb := hR0.2.2.2.2.2.2
    have hthB := hth
    refine y_aload_n rfl rfl ?_
    refine y_iload_n rfl rfl ?_
    refine y_iload_n rfl rfl ?_
    refine y_virt rfl rfl rfl rfl rfl (ySh.t hS rfl) (ySh.n hS rfl) ?_
    refine y_in (M := xm_X14_refuse) (ls := [some _, some _, some _]) rfl rfl rfl ?_
    refine y_iload_n rfl rfl ?_
    refine y_if_eqF rfl (by decide) ?_
    refine y_aload_n rfl rfl ?_
    refine y_getIv (v := Int32.ofInt (0)) rfl (ySh.t hS rfl) (ySh.n hS rfl) rfl rfl hth ?_
    refine y_if_neF rfl (by decide) ?_
    refine y_aload_n rfl rfl ?_
    refine y_iload_n rfl rfl ?_
    refine y_putI rfl (ySh.t hS rfl) (ySh.n hS rfl) rfl (Nat.le_of_ble_eq_true rfl) rfl rfl ?_
    refine y_nameI (fun I58 e58 => ?_)
    have hR1 := (hR0.grow hX).mod0 e58 (by decide) (by decide)
    have hK := (hK.x hRo hno hX).upI (upI e58) (by decide) (by decide) (fun i hi => by have := (hRo.l87.2.2.2.2 i hi).2.1; omega) (by rw [e58, upd2_ne (.inr (by decide))]; exact Int.le_refl _)
    have hth : I58 83 0 = Int32.ofInt (1) := by rw [e58, upd2_self]
    have hzz : ySz8 I57 I58 := ySz8_of (upI e58) (by rw [e58]; exact ⟨upd2_ne (.inr (by decide)), upd2_ne (.inr (by decide))⟩)
    have hB := (hB.trans hX).wr e58 rfl
    have h8 : ∀ a, 84 ≤ a → a ≤ 86 → I58 a = I a := fun a h1 h2 => (upI e58 a (by omega)).trans ((hX.2.1 a (by omega)).2.1.trans (h8 a h1 h2))
    have h3k : ∀ k, k ≠ 0 → I58 83 k = I 83 k := fun k hk => (congrFun (congrFun e58 83) k).trans ((upd2_ne (.inr hk)).trans ((congrFun (hX.2.1 83 (by omega)).2.1 k).trans (h3k k hk)))
    have hg := (hg.gx hX (by omega)).skip e58 (by decide)
    have hday : I58 83 1 = I 83 1 := (congrFun (congrFun e58 83) 1).trans ((upd2_ne (.inr (by decide))).trans ((congrFun (hX.2.1 83 (by omega)).2.1 1).trans hday))
    have hRb : ∀ a, a < n → R a = R a := fun a ha => (hX.2.1 a (by omega)).2.2.trans (hRb a ha)
    have hb83 : ∀ a, a ≠ 83 → a < n → I58 a = I a := fun a ha hb => (upI e58 a ha).trans ((hX.2.1 a (by omega)).2.1.trans (hb83 a ha hb))
    have hS0 := hS
    have hR0 := hR1
    have hn := Nat.le_refl n
    have h94 := hS0.1
    have hX := @yX.rf n tg I58 R
    have hS := hS0.x hX
    have hR := hR0.x hn hX
    have hz := hX.sz h94
    have hxn := hX.1
    have hN := hR0.1
    have hnb := hR0.2.2.2.2.2.2
    have hthB := hth
    refine y_aload_n rfl rfl ?_
    refine y_getIv (v := Int32.ofInt (1)) rfl (ySh.t hS rfl) (ySh.n hS rfl) rfl rfl hth ?_
    refine y_if_leF rfl (by decide) ?_
    refine y_iconst rfl ?_
    refine y_goto rfl j_X14_refuse_28 ?_
    refine y_ireturn rfl rfl rfl ?_
    refine y_ret1 ?_
    refine y_ireturn rfl rfl rfl ?_
    refine y_ret1 ?_
    refine y_if_neT rfl j_X14_ofVenture_51 (by decide) ?_
    refine y_iconst rfl ?_
    refine y_goto rfl j_X14_ofVenture_65 ?_
    refine y_ireturn rfl rfl rfl ?_
    exact hQ1 (by first | omega | (simp only [show ySeat x2 = x2 from if_neg (by omega)]; omega) | (simp only [show ySeat x2 = Int32.ofInt 8 from if_pos (by omega), show (Int32.ofInt 8).toInt.toNat = 8 from by decide]; omega)) _ _ _ _ _ _ _ hS ((hR0.grow hX).up (Nat.le_succ K) hk6) (hK.x hRo hno hX) hth ((hB.trans hX).rf2 (by omega)) (by omega) (by omega)
end YXW8
