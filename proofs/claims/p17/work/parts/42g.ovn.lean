/-! WHAT IS TOLD OF A VENTURE, ON BOTH SIDES (by ex8v.py) -/
/-- which row of a venture is asked for -/
def yOVf (w : Int) : Nat := if w = 0 then 1 else if w = 1 then 2 else 3
theorem yOVf_lt {w : Int} : yOVf w < 4 := by
  unfold yOVf
  split
  · decide
  · split <;> decide
section YXV8
variable {n : Nat} {tg : Nat → yT} {I : Nat → Nat → Int32} {R : Nat → Nat → Value} {c s : Nat} {Q : yQ}
theorem g_ofVenture (hS : ySh n tg R) (hC : yCI I) {x1 x2 x3 : Int32} (hE0 : ¬ ((0 ≤ x1.toInt ∧ x1.toInt < (I 69 0).toInt) ∧ (x2.toInt = -1 ∨ 0 ≤ x2.toInt ∧ x2.toInt < (I 38 0).toInt)) → Q (.inr "java/lang/IndexOutOfBoundsException") (n, tg, I, R) (c + 1) (s + 6)) (hE1 : ((0 ≤ x1.toInt ∧ x1.toInt < (I 69 0).toInt) ∧ (x2.toInt = -1 ∨ 0 ≤ x2.toInt ∧ x2.toInt < (I 38 0).toInt)) ∧ ¬ (0 ≤ x3.toInt ∧ x3.toInt ≤ 2) → Q (.inr "java/lang/IllegalArgumentException") (n, tg, I, R) (c + 1) (s + 6)) (hQ : ((0 ≤ x1.toInt ∧ x1.toInt < (I 69 0).toInt) ∧ (x2.toInt = -1 ∨ 0 ≤ x2.toInt ∧ x2.toInt < (I 38 0).toInt)) ∧ (0 ≤ x3.toInt ∧ x3.toInt ≤ 2) → ∀ v : Int32, v = I (70 + yOVf x3.toInt) (yAtI x1 (ySeat x2)).toInt.toNat → Q (.inl (some (.int v))) (n, tg, I, R) c s) : yC 146 [.ref 34, .int x1, .int x2, .int x3] (n, tg, I, R) c s Q := by
  have hF : yFt I I := yFt.rf
  refine y_in (M := xm_X8_ofVenture) (ls := [some _, some _, some _, some _, _]) rfl rfl rfl ?_
  refine y_aload_n rfl rfl ?_
  refine y_getR rfl (ySh.t hS rfl) (ySh.n hS rfl) rfl rfl (ySh.r hS rfl) ?_
  refine y_iload_n rfl rfl ?_
  refine y_virt rfl rfl rfl rfl rfl (ySh.t hS rfl) (ySh.n hS rfl) ?_
  refine y_in (M := xm_X7_has) (ls := [some _, some _]) rfl rfl rfl ?_
  refine y_iload_n rfl rfl ?_
  refine y_if_lt rfl j_X7_has_16 (fun h_1 => ?_) (fun h_2 => ?_)
  · refine y_iconst rfl ?_
    refine y_ireturn rfl rfl rfl ?_
    refine y_ret1 ?_
    refine y_if_eqT rfl j_X8_ofVenture_19 (by decide) ?_
    refine y_throw rfl rfl rfl ?_
    exact hE0 (by (first | omega | (simp only [show ySeat x2 = x2 from if_neg (by omega)]; omega) | (simp only [show ySeat x2 = Int32.ofInt 8 from if_pos (by omega)]; omega)))
  · refine y_iload_n rfl rfl ?_
    refine y_aload_n rfl rfl ?_
    refine y_getIv (v := I 69 0) rfl (ySh.t hS rfl) (ySh.n hS rfl) rfl rfl rfl ?_
    refine y_icmp_ge rfl j_X7_has_16 (fun h_3 => ?_) (fun h_4 => ?_)
    · refine y_iconst rfl ?_
      refine y_ireturn rfl rfl rfl ?_
      refine y_ret1 ?_
      refine y_if_eqT rfl j_X8_ofVenture_19 (by decide) ?_
      refine y_throw rfl rfl rfl ?_
      exact hE0 (by (first | omega | (simp only [show ySeat x2 = x2 from if_neg (by omega)]; omega) | (simp only [show ySeat x2 = Int32.ofInt 8 from if_pos (by omega)]; omega)))
    · refine y_iconst rfl ?_
      refine y_goto rfl j_X7_has_17 ?_
      refine y_ireturn rfl rfl rfl ?_
      refine y_ret1 ?_
      refine y_if_eqF rfl (by decide) ?_
      refine y_aload_n rfl rfl ?_
      refine y_iload_n rfl rfl ?_
      refine y_virt rfl rfl rfl rfl rfl (ySh.t hS rfl) (ySh.n hS rfl) ?_
      refine y_in (M := xm_X8_isParty) (ls := [some _, some _]) rfl rfl rfl ?_
      refine y_iload_n rfl rfl ?_
      refine y_iconst rfl ?_
      refine y_icmp_eq rfl j_X8_isParty_16 (fun h_5 => ?_) (fun h_6 => ?_)
      · rw [yz_m1] at h_5
        refine y_iconst rfl ?_
        refine y_goto rfl j_X8_isParty_21 ?_
        refine y_ireturn rfl rfl rfl ?_
        refine y_ret1 ?_
        refine y_if_neT rfl j_X8_ofVenture_30 (by decide) ?_
        refine y_iload_n rfl rfl ?_
        refine y_static rfl rfl rfl rfl rfl ?_
        refine y_in (M := xm_X8_placeOf) (ls := [some _]) rfl rfl rfl ?_
        refine y_iload_n rfl rfl ?_
        refine y_iconst rfl ?_
        refine y_icmp_ne rfl j_X8_placeOf_10 (fun h_7 => ?_) (fun h_8 => ?_)
        · rw [yz_m1] at h_7
          refine y_iload_n rfl rfl ?_
          refine y_ireturn rfl rfl rfl ?_
          refine y_ret1 ?_
          refine y_istore (ls' := [some _, some _, some _, some _, some _]) rfl rfl rfl ?_
          refine y_iload_n rfl rfl ?_
          refine y_sw rfl (fun h_10 => ?_) (fun h_9 => ?_)
          · refine y_swOut rfl j_X8_ofVenture_97 h_10 ?_
            refine y_throw rfl rfl rfl ?_
            exact hE1 (by (first | omega | (simp only [show ySeat x2 = x2 from if_neg (by omega)]; omega) | (simp only [show ySeat x2 = Int32.ofInt 8 from if_pos (by omega)]; omega)))
          rcases ySwC0_2 h_9 with h_9 | h_9 | h_9
          · refine y_swIn (j := 0) rfl h_9 (by decide) j_X8_ofVenture_64 ?_
            refine y_aload_n rfl rfl ?_
            refine y_getR rfl (ySh.t hS rfl) (ySh.n hS rfl) rfl rfl (ySh.r hS rfl) ?_
            refine y_iload_n rfl rfl ?_
            refine y_iload rfl rfl ?_
            refine y_virt rfl rfl rfl rfl rfl (ySh.t hS rfl) (ySh.n hS rfl) ?_
            refine y_in (M := xm_X7_capitalOf) (ls := [some _, some _, some _]) rfl rfl rfl ?_
            refine y_aload_n rfl rfl ?_
            refine y_getR rfl (ySh.t hS rfl) (ySh.n hS rfl) rfl rfl (ySh.r hS rfl) ?_
            refine y_aload_n rfl rfl ?_
            refine y_iload_n rfl rfl ?_
            refine y_iload_n rfl rfl ?_
            refine y_virt rfl rfl rfl rfl rfl (ySh.t hS rfl) (ySh.n hS rfl) ?_
            refine spx_at (by omega) (by omega) (by omega) (by omega) (fun hz11 => ?_)
            refine y_ret1 ?_
            refine y_ialoadv (J := I 71) rfl (ySh.t hS rfl) (ySh.n hS rfl) (by omega) (by omega) rfl ?_
            refine y_ireturn rfl rfl rfl ?_
            refine y_ret1 ?_
            refine y_ireturn rfl rfl rfl ?_
            first | (exfalso; omega) | (exact hQ (by (first | omega | (simp only [show ySeat x2 = x2 from if_neg (by omega)]; omega) | (simp only [show ySeat x2 = Int32.ofInt 8 from if_pos (by omega)]; omega))) _ (by rw [show x3.toInt = 0 by omega]; first | (simp only [show ySeat x2 = x2 from if_neg (by omega)]; rfl) | (simp only [show ySeat x2 = Int32.ofInt 8 from if_pos (by omega)]; rfl)))
          · refine y_swIn (j := 1) rfl h_9 (by decide) j_X8_ofVenture_75 ?_
            refine y_aload_n rfl rfl ?_
            refine y_getR rfl (ySh.t hS rfl) (ySh.n hS rfl) rfl rfl (ySh.r hS rfl) ?_
            refine y_iload_n rfl rfl ?_
            refine y_iload rfl rfl ?_
            refine y_virt rfl rfl rfl rfl rfl (ySh.t hS rfl) (ySh.n hS rfl) ?_
            refine y_in (M := xm_X7_shareOf) (ls := [some _, some _, some _]) rfl rfl rfl ?_
            refine y_aload_n rfl rfl ?_
            refine y_getR rfl (ySh.t hS rfl) (ySh.n hS rfl) rfl rfl (ySh.r hS rfl) ?_
            refine y_aload_n rfl rfl ?_
            refine y_iload_n rfl rfl ?_
            refine y_iload_n rfl rfl ?_
            refine y_virt rfl rfl rfl rfl rfl (ySh.t hS rfl) (ySh.n hS rfl) ?_
            refine spx_at (by omega) (by omega) (by omega) (by omega) (fun hz12 => ?_)
            refine y_ret1 ?_
            refine y_ialoadv (J := I 72) rfl (ySh.t hS rfl) (ySh.n hS rfl) (by omega) (by omega) rfl ?_
            refine y_ireturn rfl rfl rfl ?_
            refine y_ret1 ?_
            refine y_ireturn rfl rfl rfl ?_
            first | (exfalso; omega) | (exact hQ (by (first | omega | (simp only [show ySeat x2 = x2 from if_neg (by omega)]; omega) | (simp only [show ySeat x2 = Int32.ofInt 8 from if_pos (by omega)]; omega))) _ (by rw [show x3.toInt = 1 by omega]; first | (simp only [show ySeat x2 = x2 from if_neg (by omega)]; rfl) | (simp only [show ySeat x2 = Int32.ofInt 8 from if_pos (by omega)]; rfl)))
          · refine y_swIn (j := 2) rfl h_9 (by decide) j_X8_ofVenture_86 ?_
            refine y_aload_n rfl rfl ?_
            refine y_getR rfl (ySh.t hS rfl) (ySh.n hS rfl) rfl rfl (ySh.r hS rfl) ?_
            refine y_iload_n rfl rfl ?_
            refine y_iload rfl rfl ?_
            refine y_virt rfl rfl rfl rfl rfl (ySh.t hS rfl) (ySh.n hS rfl) ?_
            refine y_in (M := xm_X7_gainOf) (ls := [some _, some _, some _]) rfl rfl rfl ?_
            refine y_aload_n rfl rfl ?_
            refine y_getR rfl (ySh.t hS rfl) (ySh.n hS rfl) rfl rfl (ySh.r hS rfl) ?_
            refine y_aload_n rfl rfl ?_
            refine y_iload_n rfl rfl ?_
            refine y_iload_n rfl rfl ?_
            refine y_virt rfl rfl rfl rfl rfl (ySh.t hS rfl) (ySh.n hS rfl) ?_
            refine spx_at (by omega) (by omega) (by omega) (by omega) (fun hz13 => ?_)
            refine y_ret1 ?_
            refine y_ialoadv (J := I 73) rfl (ySh.t hS rfl) (ySh.n hS rfl) (by omega) (by omega) rfl ?_
            refine y_ireturn rfl rfl rfl ?_
            refine y_ret1 ?_
            refine y_ireturn rfl rfl rfl ?_
            first | (exfalso; omega) | (exact hQ (by (first | omega | (simp only [show ySeat x2 = x2 from if_neg (by omega)]; omega) | (simp only [show ySeat x2 = Int32.ofInt 8 from if_pos (by omega)]; omega))) _ (by rw [show x3.toInt = 2 by omega]; first | (simp only [show ySeat x2 = x2 from if_neg (by omega)]; rfl) | (simp only [show ySeat x2 = Int32.ofInt 8 from if_pos (by omega)]; rfl)))
        · rw [yz_m1] at h_8
          refine y_bip rfl (by decide) ?_
          refine y_goto rfl j_X8_placeOf_11 ?_
          refine y_ireturn rfl rfl rfl ?_
          refine y_ret1 ?_
          refine y_istore (ls' := [some _, some _, some _, some _, some _]) rfl rfl rfl ?_
          refine y_iload_n rfl rfl ?_
          refine y_sw rfl (fun h_15 => ?_) (fun h_14 => ?_)
          · refine y_swOut rfl j_X8_ofVenture_97 h_15 ?_
            refine y_throw rfl rfl rfl ?_
            exact hE1 (by (first | omega | (simp only [show ySeat x2 = x2 from if_neg (by omega)]; omega) | (simp only [show ySeat x2 = Int32.ofInt 8 from if_pos (by omega)]; omega)))
          rcases ySwC0_2 h_14 with h_14 | h_14 | h_14
          · refine y_swIn (j := 0) rfl h_14 (by decide) j_X8_ofVenture_64 ?_
            refine y_aload_n rfl rfl ?_
            refine y_getR rfl (ySh.t hS rfl) (ySh.n hS rfl) rfl rfl (ySh.r hS rfl) ?_
            refine y_iload_n rfl rfl ?_
            refine y_iload rfl rfl ?_
            refine y_virt rfl rfl rfl rfl rfl (ySh.t hS rfl) (ySh.n hS rfl) ?_
            refine y_in (M := xm_X7_capitalOf) (ls := [some _, some _, some _]) rfl rfl rfl ?_
            refine y_aload_n rfl rfl ?_
            refine y_getR rfl (ySh.t hS rfl) (ySh.n hS rfl) rfl rfl (ySh.r hS rfl) ?_
            refine y_aload_n rfl rfl ?_
            refine y_iload_n rfl rfl ?_
            refine y_iload_n rfl rfl ?_
            refine y_virt rfl rfl rfl rfl rfl (ySh.t hS rfl) (ySh.n hS rfl) ?_
            refine spx_at (by omega) (by omega) (by decide) (by decide) (fun hz16 => ?_)
            rw [yz_8] at hz16
            refine y_ret1 ?_
            refine y_ialoadv (J := I 71) rfl (ySh.t hS rfl) (ySh.n hS rfl) (by omega) (by omega) rfl ?_
            refine y_ireturn rfl rfl rfl ?_
            refine y_ret1 ?_
            refine y_ireturn rfl rfl rfl ?_
            first | (exfalso; omega) | (exact hQ (by (first | omega | (simp only [show ySeat x2 = x2 from if_neg (by omega)]; omega) | (simp only [show ySeat x2 = Int32.ofInt 8 from if_pos (by omega)]; omega))) _ (by rw [show x3.toInt = 0 by omega]; first | (simp only [show ySeat x2 = x2 from if_neg (by omega)]; rfl) | (simp only [show ySeat x2 = Int32.ofInt 8 from if_pos (by omega)]; rfl)))
          · refine y_swIn (j := 1) rfl h_14 (by decide) j_X8_ofVenture_75 ?_
            refine y_aload_n rfl rfl ?_
            refine y_getR rfl (ySh.t hS rfl) (ySh.n hS rfl) rfl rfl (ySh.r hS rfl) ?_
            refine y_iload_n rfl rfl ?_
            refine y_iload rfl rfl ?_
            refine y_virt rfl rfl rfl rfl rfl (ySh.t hS rfl) (ySh.n hS rfl) ?_
            refine y_in (M := xm_X7_shareOf) (ls := [some _, some _, some _]) rfl rfl rfl ?_
            refine y_aload_n rfl rfl ?_
            refine y_getR rfl (ySh.t hS rfl) (ySh.n hS rfl) rfl rfl (ySh.r hS rfl) ?_
            refine y_aload_n rfl rfl ?_
            refine y_iload_n rfl rfl ?_
            refine y_iload_n rfl rfl ?_
            refine y_virt rfl rfl rfl rfl rfl (ySh.t hS rfl) (ySh.n hS rfl) ?_
            refine spx_at (by omega) (by omega) (by decide) (by decide) (fun hz17 => ?_)
            rw [yz_8] at hz17
            refine y_ret1 ?_
            refine y_ialoadv (J := I 72) rfl (ySh.t hS rfl) (ySh.n hS rfl) (by omega) (by omega) rfl ?_
            refine y_ireturn rfl rfl rfl ?_
            refine y_ret1 ?_
            refine y_ireturn rfl rfl rfl ?_
            first | (exfalso; omega) | (exact hQ (by (first | omega | (simp only [show ySeat x2 = x2 from if_neg (by omega)]; omega) | (simp only [show ySeat x2 = Int32.ofInt 8 from if_pos (by omega)]; omega))) _ (by rw [show x3.toInt = 1 by omega]; first | (simp only [show ySeat x2 = x2 from if_neg (by omega)]; rfl) | (simp only [show ySeat x2 = Int32.ofInt 8 from if_pos (by omega)]; rfl)))
          · refine y_swIn (j := 2) rfl h_14 (by decide) j_X8_ofVenture_86 ?_
            refine y_aload_n rfl rfl ?_
            refine y_getR rfl (ySh.t hS rfl) (ySh.n hS rfl) rfl rfl (ySh.r hS rfl) ?_
            refine y_iload_n rfl rfl ?_
            refine y_iload rfl rfl ?_
            refine y_virt rfl rfl rfl rfl rfl (ySh.t hS rfl) (ySh.n hS rfl) ?_
            refine y_in (M := xm_X7_gainOf) (ls := [some _, some _, some _]) rfl rfl rfl ?_
            refine y_aload_n rfl rfl ?_
            refine y_getR rfl (ySh.t hS rfl) (ySh.n hS rfl) rfl rfl (ySh.r hS rfl) ?_
            refine y_aload_n rfl rfl ?_
            refine y_iload_n rfl rfl ?_
            refine y_iload_n rfl rfl ?_
            refine y_virt rfl rfl rfl rfl rfl (ySh.t hS rfl) (ySh.n hS rfl) ?_
            refine spx_at (by omega) (by omega) (by decide) (by decide) (fun hz18 => ?_)
            rw [yz_8] at hz18
            refine y_ret1 ?_
            refine y_ialoadv (J := I 73) rfl (ySh.t hS rfl) (ySh.n hS rfl) (by omega) (by omega) rfl ?_
            refine y_ireturn rfl rfl rfl ?_
            refine y_ret1 ?_
            refine y_ireturn rfl rfl rfl ?_
            first | (exfalso; omega) | (exact hQ (by (first | omega | (simp only [show ySeat x2 = x2 from if_neg (by omega)]; omega) | (simp only [show ySeat x2 = Int32.ofInt 8 from if_pos (by omega)]; omega))) _ (by rw [show x3.toInt = 2 by omega]; first | (simp only [show ySeat x2 = x2 from if_neg (by omega)]; rfl) | (simp only [show ySeat x2 = Int32.ofInt 8 from if_pos (by omega)]; rfl)))
      · rw [yz_m1] at h_6
        refine y_aload_n rfl rfl ?_
        refine y_getR rfl (ySh.t hS rfl) (ySh.n hS rfl) rfl rfl (ySh.r hS rfl) ?_
        refine y_iload_n rfl rfl ?_
        refine y_virt rfl rfl rfl rfl rfl (ySh.t hS rfl) (ySh.n hS rfl) ?_
        refine y_in (M := xm_X4_has) (ls := [some _, some _]) rfl rfl rfl ?_
        refine y_iload_n rfl rfl ?_
        refine y_if_lt rfl j_X4_has_16 (fun h_19 => ?_) (fun h_20 => ?_)
        · refine y_iconst rfl ?_
          refine y_ireturn rfl rfl rfl ?_
          refine y_ret1 ?_
          refine y_if_eqT rfl j_X8_isParty_20 (by decide) ?_
          refine y_iconst rfl ?_
          refine y_ireturn rfl rfl rfl ?_
          refine y_ret1 ?_
          refine y_if_neF rfl (by decide) ?_
          refine y_throw rfl rfl rfl ?_
          exact hE0 (by (first | omega | (simp only [show ySeat x2 = x2 from if_neg (by omega)]; omega) | (simp only [show ySeat x2 = Int32.ofInt 8 from if_pos (by omega)]; omega)))
        · refine y_iload_n rfl rfl ?_
          refine y_aload_n rfl rfl ?_
          refine y_getIv (v := I 38 0) rfl (ySh.t hS rfl) (ySh.n hS rfl) rfl rfl rfl ?_
          refine y_icmp_ge rfl j_X4_has_16 (fun h_21 => ?_) (fun h_22 => ?_)
          · refine y_iconst rfl ?_
            refine y_ireturn rfl rfl rfl ?_
            refine y_ret1 ?_
            refine y_if_eqT rfl j_X8_isParty_20 (by decide) ?_
            refine y_iconst rfl ?_
            refine y_ireturn rfl rfl rfl ?_
            refine y_ret1 ?_
            refine y_if_neF rfl (by decide) ?_
            refine y_throw rfl rfl rfl ?_
            exact hE0 (by (first | omega | (simp only [show ySeat x2 = x2 from if_neg (by omega)]; omega) | (simp only [show ySeat x2 = Int32.ofInt 8 from if_pos (by omega)]; omega)))
          · refine y_iconst rfl ?_
            refine y_goto rfl j_X4_has_17 ?_
            refine y_ireturn rfl rfl rfl ?_
            refine y_ret1 ?_
            refine y_if_eqF rfl (by decide) ?_
            refine y_iconst rfl ?_
            refine y_goto rfl j_X8_isParty_21 ?_
            refine y_ireturn rfl rfl rfl ?_
            refine y_ret1 ?_
            refine y_if_neT rfl j_X8_ofVenture_30 (by decide) ?_
            refine y_iload_n rfl rfl ?_
            refine y_static rfl rfl rfl rfl rfl ?_
            refine y_in (M := xm_X8_placeOf) (ls := [some _]) rfl rfl rfl ?_
            refine y_iload_n rfl rfl ?_
            refine y_iconst rfl ?_
            refine y_icmp_ne rfl j_X8_placeOf_10 (fun h_23 => ?_) (fun h_24 => ?_)
            · rw [yz_m1] at h_23
              refine y_iload_n rfl rfl ?_
              refine y_ireturn rfl rfl rfl ?_
              refine y_ret1 ?_
              refine y_istore (ls' := [some _, some _, some _, some _, some _]) rfl rfl rfl ?_
              refine y_iload_n rfl rfl ?_
              refine y_sw rfl (fun h_26 => ?_) (fun h_25 => ?_)
              · refine y_swOut rfl j_X8_ofVenture_97 h_26 ?_
                refine y_throw rfl rfl rfl ?_
                exact hE1 (by (first | omega | (simp only [show ySeat x2 = x2 from if_neg (by omega)]; omega) | (simp only [show ySeat x2 = Int32.ofInt 8 from if_pos (by omega)]; omega)))
              rcases ySwC0_2 h_25 with h_25 | h_25 | h_25
              · refine y_swIn (j := 0) rfl h_25 (by decide) j_X8_ofVenture_64 ?_
                refine y_aload_n rfl rfl ?_
                refine y_getR rfl (ySh.t hS rfl) (ySh.n hS rfl) rfl rfl (ySh.r hS rfl) ?_
                refine y_iload_n rfl rfl ?_
                refine y_iload rfl rfl ?_
                refine y_virt rfl rfl rfl rfl rfl (ySh.t hS rfl) (ySh.n hS rfl) ?_
                refine y_in (M := xm_X7_capitalOf) (ls := [some _, some _, some _]) rfl rfl rfl ?_
                refine y_aload_n rfl rfl ?_
                refine y_getR rfl (ySh.t hS rfl) (ySh.n hS rfl) rfl rfl (ySh.r hS rfl) ?_
                refine y_aload_n rfl rfl ?_
                refine y_iload_n rfl rfl ?_
                refine y_iload_n rfl rfl ?_
                refine y_virt rfl rfl rfl rfl rfl (ySh.t hS rfl) (ySh.n hS rfl) ?_
                refine spx_at (by omega) (by omega) (by omega) (by omega) (fun hz27 => ?_)
                refine y_ret1 ?_
                refine y_ialoadv (J := I 71) rfl (ySh.t hS rfl) (ySh.n hS rfl) (by omega) (by omega) rfl ?_
                refine y_ireturn rfl rfl rfl ?_
                refine y_ret1 ?_
                refine y_ireturn rfl rfl rfl ?_
                first | (exfalso; omega) | (exact hQ (by (first | omega | (simp only [show ySeat x2 = x2 from if_neg (by omega)]; omega) | (simp only [show ySeat x2 = Int32.ofInt 8 from if_pos (by omega)]; omega))) _ (by rw [show x3.toInt = 0 by omega]; first | (simp only [show ySeat x2 = x2 from if_neg (by omega)]; rfl) | (simp only [show ySeat x2 = Int32.ofInt 8 from if_pos (by omega)]; rfl)))
              · refine y_swIn (j := 1) rfl h_25 (by decide) j_X8_ofVenture_75 ?_
                refine y_aload_n rfl rfl ?_
                refine y_getR rfl (ySh.t hS rfl) (ySh.n hS rfl) rfl rfl (ySh.r hS rfl) ?_
                refine y_iload_n rfl rfl ?_
                refine y_iload rfl rfl ?_
                refine y_virt rfl rfl rfl rfl rfl (ySh.t hS rfl) (ySh.n hS rfl) ?_
                refine y_in (M := xm_X7_shareOf) (ls := [some _, some _, some _]) rfl rfl rfl ?_
                refine y_aload_n rfl rfl ?_
                refine y_getR rfl (ySh.t hS rfl) (ySh.n hS rfl) rfl rfl (ySh.r hS rfl) ?_
                refine y_aload_n rfl rfl ?_
                refine y_iload_n rfl rfl ?_
                refine y_iload_n rfl rfl ?_
                refine y_virt rfl rfl rfl rfl rfl (ySh.t hS rfl) (ySh.n hS rfl) ?_
                refine spx_at (by omega) (by omega) (by omega) (by omega) (fun hz28 => ?_)
                refine y_ret1 ?_
                refine y_ialoadv (J := I 72) rfl (ySh.t hS rfl) (ySh.n hS rfl) (by omega) (by omega) rfl ?_
                refine y_ireturn rfl rfl rfl ?_
                refine y_ret1 ?_
                refine y_ireturn rfl rfl rfl ?_
                first | (exfalso; omega) | (exact hQ (by (first | omega | (simp only [show ySeat x2 = x2 from if_neg (by omega)]; omega) | (simp only [show ySeat x2 = Int32.ofInt 8 from if_pos (by omega)]; omega))) _ (by rw [show x3.toInt = 1 by omega]; first | (simp only [show ySeat x2 = x2 from if_neg (by omega)]; rfl) | (simp only [show ySeat x2 = Int32.ofInt 8 from if_pos (by omega)]; rfl)))
              · refine y_swIn (j := 2) rfl h_25 (by decide) j_X8_ofVenture_86 ?_
                refine y_aload_n rfl rfl ?_
                refine y_getR rfl (ySh.t hS rfl) (ySh.n hS rfl) rfl rfl (ySh.r hS rfl) ?_
                refine y_iload_n rfl rfl ?_
                refine y_iload rfl rfl ?_
                refine y_virt rfl rfl rfl rfl rfl (ySh.t hS rfl) (ySh.n hS rfl) ?_
                refine y_in (M := xm_X7_gainOf) (ls := [some _, some _, some _]) rfl rfl rfl ?_
                refine y_aload_n rfl rfl ?_
                refine y_getR rfl (ySh.t hS rfl) (ySh.n hS rfl) rfl rfl (ySh.r hS rfl) ?_
                refine y_aload_n rfl rfl ?_
                refine y_iload_n rfl rfl ?_
                refine y_iload_n rfl rfl ?_
                refine y_virt rfl rfl rfl rfl rfl (ySh.t hS rfl) (ySh.n hS rfl) ?_
                refine spx_at (by omega) (by omega) (by omega) (by omega) (fun hz29 => ?_)
                refine y_ret1 ?_
                refine y_ialoadv (J := I 73) rfl (ySh.t hS rfl) (ySh.n hS rfl) (by omega) (by omega) rfl ?_
                refine y_ireturn rfl rfl rfl ?_
                refine y_ret1 ?_
                refine y_ireturn rfl rfl rfl ?_
                first | (exfalso; omega) | (exact hQ (by (first | omega | (simp only [show ySeat x2 = x2 from if_neg (by omega)]; omega) | (simp only [show ySeat x2 = Int32.ofInt 8 from if_pos (by omega)]; omega))) _ (by rw [show x3.toInt = 2 by omega]; first | (simp only [show ySeat x2 = x2 from if_neg (by omega)]; rfl) | (simp only [show ySeat x2 = Int32.ofInt 8 from if_pos (by omega)]; rfl)))
            · rw [yz_m1] at h_24
              refine y_bip rfl (by decide) ?_
              refine y_goto rfl j_X8_placeOf_11 ?_
              refine y_ireturn rfl rfl rfl ?_
              refine y_ret1 ?_
              refine y_istore (ls' := [some _, some _, some _, some _, some _]) rfl rfl rfl ?_
              refine y_iload_n rfl rfl ?_
              refine y_sw rfl (fun h_31 => ?_) (fun h_30 => ?_)
              · refine y_swOut rfl j_X8_ofVenture_97 h_31 ?_
                refine y_throw rfl rfl rfl ?_
                exact hE1 (by (first | omega | (simp only [show ySeat x2 = x2 from if_neg (by omega)]; omega) | (simp only [show ySeat x2 = Int32.ofInt 8 from if_pos (by omega)]; omega)))
              rcases ySwC0_2 h_30 with h_30 | h_30 | h_30
              · refine y_swIn (j := 0) rfl h_30 (by decide) j_X8_ofVenture_64 ?_
                refine y_aload_n rfl rfl ?_
                refine y_getR rfl (ySh.t hS rfl) (ySh.n hS rfl) rfl rfl (ySh.r hS rfl) ?_
                refine y_iload_n rfl rfl ?_
                refine y_iload rfl rfl ?_
                refine y_virt rfl rfl rfl rfl rfl (ySh.t hS rfl) (ySh.n hS rfl) ?_
                refine y_in (M := xm_X7_capitalOf) (ls := [some _, some _, some _]) rfl rfl rfl ?_
                refine y_aload_n rfl rfl ?_
                refine y_getR rfl (ySh.t hS rfl) (ySh.n hS rfl) rfl rfl (ySh.r hS rfl) ?_
                refine y_aload_n rfl rfl ?_
                refine y_iload_n rfl rfl ?_
                refine y_iload_n rfl rfl ?_
                refine y_virt rfl rfl rfl rfl rfl (ySh.t hS rfl) (ySh.n hS rfl) ?_
                refine spx_at (by omega) (by omega) (by decide) (by decide) (fun hz32 => ?_)
                rw [yz_8] at hz32
                refine y_ret1 ?_
                refine y_ialoadv (J := I 71) rfl (ySh.t hS rfl) (ySh.n hS rfl) (by omega) (by omega) rfl ?_
                refine y_ireturn rfl rfl rfl ?_
                refine y_ret1 ?_
                refine y_ireturn rfl rfl rfl ?_
                first | (exfalso; omega) | (exact hQ (by (first | omega | (simp only [show ySeat x2 = x2 from if_neg (by omega)]; omega) | (simp only [show ySeat x2 = Int32.ofInt 8 from if_pos (by omega)]; omega))) _ (by rw [show x3.toInt = 0 by omega]; first | (simp only [show ySeat x2 = x2 from if_neg (by omega)]; rfl) | (simp only [show ySeat x2 = Int32.ofInt 8 from if_pos (by omega)]; rfl)))
              · refine y_swIn (j := 1) rfl h_30 (by decide) j_X8_ofVenture_75 ?_
                refine y_aload_n rfl rfl ?_
                refine y_getR rfl (ySh.t hS rfl) (ySh.n hS rfl) rfl rfl (ySh.r hS rfl) ?_
                refine y_iload_n rfl rfl ?_
                refine y_iload rfl rfl ?_
                refine y_virt rfl rfl rfl rfl rfl (ySh.t hS rfl) (ySh.n hS rfl) ?_
                refine y_in (M := xm_X7_shareOf) (ls := [some _, some _, some _]) rfl rfl rfl ?_
                refine y_aload_n rfl rfl ?_
                refine y_getR rfl (ySh.t hS rfl) (ySh.n hS rfl) rfl rfl (ySh.r hS rfl) ?_
                refine y_aload_n rfl rfl ?_
                refine y_iload_n rfl rfl ?_
                refine y_iload_n rfl rfl ?_
                refine y_virt rfl rfl rfl rfl rfl (ySh.t hS rfl) (ySh.n hS rfl) ?_
                refine spx_at (by omega) (by omega) (by decide) (by decide) (fun hz33 => ?_)
                rw [yz_8] at hz33
                refine y_ret1 ?_
                refine y_ialoadv (J := I 72) rfl (ySh.t hS rfl) (ySh.n hS rfl) (by omega) (by omega) rfl ?_
                refine y_ireturn rfl rfl rfl ?_
                refine y_ret1 ?_
                refine y_ireturn rfl rfl rfl ?_
                first | (exfalso; omega) | (exact hQ (by (first | omega | (simp only [show ySeat x2 = x2 from if_neg (by omega)]; omega) | (simp only [show ySeat x2 = Int32.ofInt 8 from if_pos (by omega)]; omega))) _ (by rw [show x3.toInt = 1 by omega]; first | (simp only [show ySeat x2 = x2 from if_neg (by omega)]; rfl) | (simp only [show ySeat x2 = Int32.ofInt 8 from if_pos (by omega)]; rfl)))
              · refine y_swIn (j := 2) rfl h_30 (by decide) j_X8_ofVenture_86 ?_
                refine y_aload_n rfl rfl ?_
                refine y_getR rfl (ySh.t hS rfl) (ySh.n hS rfl) rfl rfl (ySh.r hS rfl) ?_
                refine y_iload_n rfl rfl ?_
                refine y_iload rfl rfl ?_
                refine y_virt rfl rfl rfl rfl rfl (ySh.t hS rfl) (ySh.n hS rfl) ?_
                refine y_in (M := xm_X7_gainOf) (ls := [some _, some _, some _]) rfl rfl rfl ?_
                refine y_aload_n rfl rfl ?_
                refine y_getR rfl (ySh.t hS rfl) (ySh.n hS rfl) rfl rfl (ySh.r hS rfl) ?_
                refine y_aload_n rfl rfl ?_
                refine y_iload_n rfl rfl ?_
                refine y_iload_n rfl rfl ?_
                refine y_virt rfl rfl rfl rfl rfl (ySh.t hS rfl) (ySh.n hS rfl) ?_
                refine spx_at (by omega) (by omega) (by decide) (by decide) (fun hz34 => ?_)
                rw [yz_8] at hz34
                refine y_ret1 ?_
                refine y_ialoadv (J := I 73) rfl (ySh.t hS rfl) (ySh.n hS rfl) (by omega) (by omega) rfl ?_
                refine y_ireturn rfl rfl rfl ?_
                refine y_ret1 ?_
                refine y_ireturn rfl rfl rfl ?_
                first | (exfalso; omega) | (exact hQ (by (first | omega | (simp only [show ySeat x2 = x2 from if_neg (by omega)]; omega) | (simp only [show ySeat x2 = Int32.ofInt 8 from if_pos (by omega)]; omega))) _ (by rw [show x3.toInt = 2 by omega]; first | (simp only [show ySeat x2 = x2 from if_neg (by omega)]; rfl) | (simp only [show ySeat x2 = Int32.ofInt 8 from if_pos (by omega)]; rfl)))
end YXV8
section YXW8
variable {K nb n : Nat} {tg : Nat → yT} {I : Nat → Nat → Int32} {R : Nat → Nat → Value} {c s : Nat} {Q : yQ}
theorem h_ofVenture (hS0 : ySh n tg R) (hR0 : yRI K n tg I R) (hk6 : K < 600) {x1 x2 x3 : Int32} (hQ1 : ¬ ((0 ≤ x1.toInt ∧ x1.toInt < (I 91 2).toInt) ∧ (x2.toInt = -1 ∨ 0 ≤ x2.toInt ∧ x2.toInt < (I 83 8).toInt)) → ∀ (v : Int32) n1 tg1 I1 R1 c1 s1, ySh n1 tg1 R1 → yRI (K + 1) n1 tg1 I1 R1 → yKp n tg I R n1 tg1 I1 R1 → I1 83 0 = Int32.ofInt 1 → yRf n I R I1 R1 → c1 ≤ c + 0 → s1 ≤ s + 0 → Q (.inl (some (.int v))) (n1, tg1, I1, R1) c1 s1) (hQ2 : ((0 ≤ x1.toInt ∧ x1.toInt < (I 91 2).toInt) ∧ (x2.toInt = -1 ∨ 0 ≤ x2.toInt ∧ x2.toInt < (I 83 8).toInt)) ∧ ¬ (0 ≤ x3.toInt ∧ x3.toInt ≤ 2) → ∀ (v : Int32) n1 tg1 I1 R1 c1 s1, ySh n1 tg1 R1 → yRI (K + 1) n1 tg1 I1 R1 → yKp n tg I R n1 tg1 I1 R1 → I1 83 0 = Int32.ofInt 2 → yRf n I R I1 R1 → c1 ≤ c + 0 → s1 ≤ s + 0 → Q (.inl (some (.int v))) (n1, tg1, I1, R1) c1 s1) (hQ0 : ∀ b, b = yAd R 91 x1.toInt.toNat → ((0 ≤ x1.toInt ∧ x1.toInt < (I 91 2).toInt) ∧ (x2.toInt = -1 ∨ 0 ≤ x2.toInt ∧ x2.toInt < (I 83 8).toInt)) ∧ (0 ≤ x3.toInt ∧ x3.toInt ≤ 2) → ∀ (v : Int32) n1 tg1 I1 R1 c1 s1, ySh n1 tg1 R1 → yRI (K + 1) n1 tg1 I1 R1 → yKp n tg I R n1 tg1 I1 R1 → I1 83 0 = Int32.ofInt 0 → v = I (b + 1 + yOVf x3.toInt) (ySeat x2).toInt.toNat → yRf n I R I1 R1 → c1 ≤ c + 0 → s1 ≤ s + 0 → Q (.inl (some (.int v))) (n1, tg1, I1, R1) c1 s1) : yC 236 [.ref 83, .int x1, .int x2, .int x3] (n, tg, I, R) c s Q := by
  have hno := Nat.le_refl n
  have hn := hno
  have hRo := hR0
  have hK : yKp n tg I R n tg I R := yKp.rf
  have hX : yX n tg I R n tg I R := yX.rf
  have hS := hS0
  have hR := hR0
  have h94 : 94 ≤ n := hS0.1
  have hz : ySz I I := hX.sz h94
  have hxn := hX.1
  have hN := hR0.1
  have hnb : 94 ≤ n := hR0.2.2.2.2.2.2
  have hg : yGm n I I := yGm.rf
  have hday : I 83 1 = I 83 1 := rfl
  have hb83 : ∀ a, a ≠ 83 → a < n → I a = I a := fun _ _ _ => rfl
  have hRb : ∀ a, a < n → R a = R a := fun _ _ => rfl
  have hB : yX n tg I R n tg I R := yX.rf
  have h8 : ∀ a, 84 ≤ a → a ≤ 86 → I a = I a := fun _ _ _ => rfl
  have h3k : ∀ k, k ≠ 0 → I 83 k = I 83 k := fun _ _ => rfl
  refine y_in (M := xm_X14_ofVenture) (ls := [some _, some _, some _, some _]) rfl rfl rfl ?_
  refine y_aload_n rfl rfl ?_
  refine y_aload_n rfl rfl ?_
  refine y_iload_n rfl rfl ?_
  refine y_virt rfl rfl rfl rfl rfl (ySh.t hS rfl) (ySh.n hS rfl) ?_
  refine y_in (M := xm_X14_isNoVenture) (ls := [some _, some _]) rfl rfl rfl ?_
  refine y_iload_n rfl rfl ?_
  refine y_iconst rfl ?_
  refine y_aload_n rfl rfl ?_
  refine y_getR rfl (ySh.t hS rfl) (ySh.n hS rfl) rfl rfl (ySh.r hS rfl) ?_
  refine y_virt rfl rfl rfl rfl rfl (ySh.t hS rfl) (ySh.n hS rfl) ?_
  refine y_in (M := xm_Jx4a65c_size_8abf5) (ls := [some _]) rfl rfl rfl ?_
  refine y_aload_n rfl rfl ?_
  refine y_getI rfl (ySh.t hS rfl) (ySh.n hS rfl) rfl rfl ?_
  refine y_ireturn rfl rfl rfl ?_
  refine y_ret1 ?_
  refine y_iconst rfl ?_
  refine y_isub rfl ?_
  refine y_static rfl rfl rfl rfl rfl ?_
  refine r_isIn (fun h_1 h_2 => ?_) (fun h_3 => ?_)
  · rw [yz_0] at h_1
    try rw [ysub (by rw [yz_1]; omega) (by rw [yz_1]; omega), yz_1] at h_2
    refine y_ret1 ?_
    refine y_if_neT rfl j_X14_isNoVenture_21 (by decide) ?_
    refine y_iconst rfl ?_
    refine y_ireturn rfl rfl rfl ?_
    refine y_ret1 ?_
    refine y_if_neF rfl (by decide) ?_
    refine y_aload_n rfl rfl ?_
    refine y_iload_n rfl rfl ?_
    refine y_virt rfl rfl rfl rfl rfl (ySh.t hS rfl) (ySh.n hS rfl) ?_
    refine y_in (M := xm_X14_isNoOne) (ls := [some _, some _]) rfl rfl rfl ?_
    refine y_iload_n rfl rfl ?_
    refine y_iconst rfl ?_
    refine y_icmp_eq rfl j_X14_isNoOne_17 (fun h_4 => ?_) (fun h_5 => ?_)
    · rw [yz_m1] at h_4
      refine y_iconst rfl ?_
      refine y_ireturn rfl rfl rfl ?_
      refine y_ret1 ?_
      refine y_if_eqT rfl j_X14_ofVenture_21 (by decide) ?_
      refine y_iconst rfl ?_
      refine y_iconst rfl ?_
      refine y_virt rfl rfl rfl rfl rfl (ySh.t hS rfl) (ySh.n hS rfl) ?_
      refine y_in (M := xm_X14_start) (ls := [some _, some _, some _]) rfl rfl rfl ?_
      refine y_aload_n rfl rfl ?_
      refine y_iconst rfl ?_
      refine y_putI rfl (ySh.t hS rfl) (ySh.n hS rfl) rfl (Nat.le_of_ble_eq_true rfl) rfl rfl ?_
      refine y_nameI (fun I6 e6 => ?_)
      have hR1 := (hR0.grow hX).mod0 e6 (by decide) (by decide)
      have hK := (hK.x hRo hno hX).upI (upI e6) (by decide) (by decide) (fun i hi => by have := (hRo.l87.2.2.2.2 i hi).2.1; omega) (by rw [e6, upd2_ne (.inr (by decide))]; exact Int.le_refl _)
      have hth : I6 83 0 = Int32.ofInt (0) := by rw [e6, upd2_self]
      have hzz : ySz8 I I6 := ySz8_of (upI e6) (by rw [e6]; exact ⟨upd2_ne (.inr (by decide)), upd2_ne (.inr (by decide))⟩)
      have hB := (hB.trans hX).wr e6 rfl
      have h8 : ∀ a, 84 ≤ a → a ≤ 86 → I6 a = I a := fun a h1 h2 => (upI e6 a (by omega)).trans ((hX.2.1 a (by omega)).2.1.trans (h8 a h1 h2))
      have h3k : ∀ k, k ≠ 0 → I6 83 k = I 83 k := fun k hk => (congrFun (congrFun e6 83) k).trans ((upd2_ne (.inr hk)).trans ((congrFun (hX.2.1 83 (by omega)).2.1 k).trans (h3k k hk)))
      have hg := (hg.gx hX (by omega)).skip e6 (by decide)
      have hday : I6 83 1 = I 83 1 := (congrFun (congrFun e6 83) 1).trans ((upd2_ne (.inr (by decide))).trans ((congrFun (hX.2.1 83 (by omega)).2.1 1).trans hday))
      have hRb : ∀ a, a < n → R a = R a := fun a ha => (hX.2.1 a (by omega)).2.2.trans (hRb a ha)
      have hb83 : ∀ a, a ≠ 83 → a < n → I6 a = I a := fun a ha hb => (upI e6 a ha).trans ((hX.2.1 a (by omega)).2.1.trans (hb83 a ha hb))
      have hS0 := hS
      have hR0 := hR1
      have hn := Nat.le_refl n
      have h94 := hS0.1
      have hX := @yX.rf n tg I6 R
      have hS := hS0.x hX
      have hR := hR0.x hn hX
      have hz := hX.sz h94
      have hxn := hX.1
      have hN := hR0.1
      have hnb := hR0.2.2.2.2.2.2
      have hthB := hth
      refine y_aload_n rfl rfl ?_
      refine y_iload_n rfl rfl ?_
      refine y_iload_n rfl rfl ?_
      refine y_virt rfl rfl rfl rfl rfl (ySh.t hS rfl) (ySh.n hS rfl) ?_
      refine y_in (M := xm_X14_refuse) (ls := [some _, some _, some _]) rfl rfl rfl ?_
      refine y_iload_n rfl rfl ?_
      refine y_if_eqT rfl j_X14_refuse_16 (by decide) ?_
      refine y_aload_n rfl rfl ?_
      refine y_getIv (v := Int32.ofInt (0)) rfl (ySh.t hS rfl) (ySh.n hS rfl) rfl rfl hth ?_
      refine y_if_leT rfl j_X14_refuse_27 (by decide) ?_
      refine y_iconst rfl ?_
      refine y_ireturn rfl rfl rfl ?_
      refine y_ret1 ?_
      refine y_ireturn rfl rfl rfl ?_
      refine y_ret1 ?_
      refine y_if_neF rfl (by decide) ?_
      refine y_aload_n rfl rfl ?_
      refine y_iload_n rfl rfl ?_
      refine y_iconst rfl ?_
      refine y_iconst rfl ?_
      refine y_static rfl rfl rfl rfl rfl ?_
      refine r_isIn (fun h_7 h_8 => ?_) (fun h_9 => ?_)
      · rw [yz_0] at h_7
        rw [yz_2] at h_8
        refine y_ret1 ?_
        refine y_if_neT rfl j_X14_ofVenture_43 (by decide) ?_
        refine y_iconst rfl ?_
        refine y_iconst rfl ?_
        refine y_virt rfl rfl rfl rfl rfl (ySh.t hS rfl) (ySh.n hS rfl) ?_
        refine y_in (M := xm_X14_refuse) (ls := [some _, some _, some _]) rfl rfl rfl ?_
        refine y_iload_n rfl rfl ?_
        refine y_if_eqT rfl j_X14_refuse_16 (by decide) ?_
        refine y_aload_n rfl rfl ?_
        refine y_getIv (v := Int32.ofInt (0)) rfl (ySh.t hS rfl) (ySh.n hS rfl) rfl rfl hth ?_
        refine y_if_leT rfl j_X14_refuse_27 (by decide) ?_
        refine y_iconst rfl ?_
        refine y_ireturn rfl rfl rfl ?_
        refine y_ret1 ?_
        refine y_if_eqT rfl j_X14_ofVenture_55 (by decide) ?_
        refine y_aload_n rfl rfl ?_
        refine y_iload_n rfl rfl ?_
        refine y_iload_n rfl rfl ?_
        refine y_static rfl rfl rfl rfl rfl ?_
        refine y_in (M := xm_X14_seat) (ls := [some _]) rfl rfl rfl ?_
        refine y_iload_n rfl rfl ?_
        refine y_iconst rfl ?_
        refine y_icmp_ne rfl j_X14_seat_10 (fun h_10 => ?_) (fun h_11 => ?_)
        · rw [yz_m1] at h_10
          refine y_iload_n rfl rfl ?_
          refine y_ireturn rfl rfl rfl ?_
          refine y_ret1 ?_
          refine y_iload_n rfl rfl ?_
          refine y_virt rfl rfl rfl rfl rfl (ySh.t hS rfl) (ySh.n hS rfl) ?_
          refine r_ventureTold hS hR (Nat.le_trans hn hX.1) (by omega) (by omega) (by omega) (by omega) (fun v_12 => ?_)
          refine y_ret1 ?_
          refine y_ireturn rfl rfl rfl ?_
          exact hQ0 _ eb_None (by first | omega | (simp only [show ySeat x2 = x2 from if_neg (by omega)]; omega) | (simp only [show ySeat x2 = Int32.ofInt 8 from if_pos (by omega), show (Int32.ofInt 8).toInt.toNat = 8 from by decide]; omega)) _ _ _ _ _ _ _ hS ((hR0.grow hX).up (Nat.le_succ K) hk6) (hK.x hRo hno hX) hth (by first | (rw [show x3.toInt = 0 by omega]; first | rfl | (simp only [show ySeat x2 = x2 from if_neg (by omega)]; rfl) | (simp only [show ySeat x2 = Int32.ofInt 8 from if_pos (by omega), show (Int32.ofInt 8).toInt.toNat = 8 from by decide]; rfl)) | (rw [show x3.toInt = 1 by omega]; first | rfl | (simp only [show ySeat x2 = x2 from if_neg (by omega)]; rfl) | (simp only [show ySeat x2 = Int32.ofInt 8 from if_pos (by omega), show (Int32.ofInt 8).toInt.toNat = 8 from by decide]; rfl)) | (rw [show x3.toInt = 2 by omega]; first | rfl | (simp only [show ySeat x2 = x2 from if_neg (by omega)]; rfl) | (simp only [show ySeat x2 = Int32.ofInt 8 from if_pos (by omega), show (Int32.ofInt 8).toInt.toNat = 8 from by decide]; rfl))) ((hB.trans hX).rf1 (by omega)) (by omega) (by omega)
        · rw [yz_m1] at h_11
          refine y_bip rfl (by decide) ?_
          refine y_goto rfl j_X14_seat_11 ?_
          refine y_ireturn rfl rfl rfl ?_
          refine y_ret1 ?_
          refine y_iload_n rfl rfl ?_
          refine y_virt rfl rfl rfl rfl rfl (ySh.t hS rfl) (ySh.n hS rfl) ?_
          refine r_ventureTold hS hR (Nat.le_trans hn hX.1) (by omega) (by omega) (by rw [yz_8]; decide) (by rw [yz_8]; decide) (fun v_13 => ?_)
          refine y_ret1 ?_
          refine y_ireturn rfl rfl rfl ?_
          exact hQ0 _ eb_None (by first | omega | (simp only [show ySeat x2 = x2 from if_neg (by omega)]; omega) | (simp only [show ySeat x2 = Int32.ofInt 8 from if_pos (by omega), show (Int32.ofInt 8).toInt.toNat = 8 from by decide]; omega)) _ _ _ _ _ _ _ hS ((hR0.grow hX).up (Nat.le_succ K) hk6) (hK.x hRo hno hX) hth (by first | (rw [show x3.toInt = 0 by omega]; first | rfl | (simp only [show ySeat x2 = x2 from if_neg (by omega)]; rfl) | (simp only [show ySeat x2 = Int32.ofInt 8 from if_pos (by omega), show (Int32.ofInt 8).toInt.toNat = 8 from by decide]; rfl)) | (rw [show x3.toInt = 1 by omega]; first | rfl | (simp only [show ySeat x2 = x2 from if_neg (by omega)]; rfl) | (simp only [show ySeat x2 = Int32.ofInt 8 from if_pos (by omega), show (Int32.ofInt 8).toInt.toNat = 8 from by decide]; rfl)) | (rw [show x3.toInt = 2 by omega]; first | rfl | (simp only [show ySeat x2 = x2 from if_neg (by omega)]; rfl) | (simp only [show ySeat x2 = Int32.ofInt 8 from if_pos (by omega), show (Int32.ofInt 8).toInt.toNat = 8 from by decide]; rfl))) ((hB.trans hX).rf1 (by omega)) (by omega) (by omega)
      · rw [yz_0] at h_9
        rw [yz_2] at h_9
        refine y_ret1 ?_
        refine y_if_neF rfl (by decide) ?_
        refine y_iconst rfl ?_
        refine y_goto rfl j_X14_ofVenture_44 ?_
        refine y_iconst rfl ?_
        refine y_virt rfl rfl rfl rfl rfl (ySh.t hS rfl) (ySh.n hS rfl) ?_
        refine y_in (M := xm_X14_refuse) (ls := [some _, some _, some _]) rfl rfl rfl ?_
        refine y_iload_n rfl rfl ?_
        refine y_if_eqF rfl (by decide) ?_
        refine y_aload_n rfl rfl ?_
        refine y_getIv (v := Int32.ofInt (0)) rfl (ySh.t hS rfl) (ySh.n hS rfl) rfl rfl hth ?_
        refine y_if_neF rfl (by decide) ?_
        refine y_aload_n rfl rfl ?_
        refine y_iload_n rfl rfl ?_
        refine y_putI rfl (ySh.t hS rfl) (ySh.n hS rfl) rfl (Nat.le_of_ble_eq_true rfl) rfl rfl ?_
        refine y_nameI (fun I14 e14 => ?_)
        have hR1 := (hR0.grow hX).mod0 e14 (by decide) (by decide)
        have hK := (hK.x hRo hno hX).upI (upI e14) (by decide) (by decide) (fun i hi => by have := (hRo.l87.2.2.2.2 i hi).2.1; omega) (by rw [e14, upd2_ne (.inr (by decide))]; exact Int.le_refl _)
        have hth : I14 83 0 = Int32.ofInt (2) := by rw [e14, upd2_self]
        have hzz : ySz8 I6 I14 := ySz8_of (upI e14) (by rw [e14]; exact ⟨upd2_ne (.inr (by decide)), upd2_ne (.inr (by decide))⟩)
        have hB := (hB.trans hX).wr e14 rfl
        have h8 : ∀ a, 84 ≤ a → a ≤ 86 → I14 a = I a := fun a h1 h2 => (upI e14 a (by omega)).trans ((hX.2.1 a (by omega)).2.1.trans (h8 a h1 h2))
        have h3k : ∀ k, k ≠ 0 → I14 83 k = I 83 k := fun k hk => (congrFun (congrFun e14 83) k).trans ((upd2_ne (.inr hk)).trans ((congrFun (hX.2.1 83 (by omega)).2.1 k).trans (h3k k hk)))
        have hg := (hg.gx hX (by omega)).skip e14 (by decide)
        have hday : I14 83 1 = I 83 1 := (congrFun (congrFun e14 83) 1).trans ((upd2_ne (.inr (by decide))).trans ((congrFun (hX.2.1 83 (by omega)).2.1 1).trans hday))
        have hRb : ∀ a, a < n → R a = R a := fun a ha => (hX.2.1 a (by omega)).2.2.trans (hRb a ha)
        have hb83 : ∀ a, a ≠ 83 → a < n → I14 a = I a := fun a ha hb => (upI e14 a ha).trans ((hX.2.1 a (by omega)).2.1.trans (hb83 a ha hb))
        have hS0 := hS
        have hR0 := hR1
        have hn := Nat.le_refl n
        have h94 := hS0.1
        have hX := @yX.rf n tg I14 R
        have hS := hS0.x hX
        have hR := hR0.x hn hX
        have hz := hX.sz h94
        have hxn := hX.1
        have hN := hR0.1
        have hnb := hR0.2.2.2.2.2.2
        have hthB := hth
        refine y_aload_n rfl rfl ?_
        refine y_getIv (v := Int32.ofInt (2)) rfl (ySh.t hS rfl) (ySh.n hS rfl) rfl rfl hth ?_
        refine y_if_leF rfl (by decide) ?_
        refine y_iconst rfl ?_
        refine y_goto rfl j_X14_refuse_28 ?_
        refine y_ireturn rfl rfl rfl ?_
        refine y_ret1 ?_
        refine y_if_eqF rfl (by decide) ?_
        refine y_iconst rfl ?_
        refine y_goto rfl j_X14_ofVenture_65 ?_
        refine y_ireturn rfl rfl rfl ?_
        exact hQ2 (by first | omega | (simp only [show ySeat x2 = x2 from if_neg (by omega)]; omega) | (simp only [show ySeat x2 = Int32.ofInt 8 from if_pos (by omega), show (Int32.ofInt 8).toInt.toNat = 8 from by decide]; omega)) _ _ _ _ _ _ _ hS ((hR0.grow hX).up (Nat.le_succ K) hk6) (hK.x hRo hno hX) hth ((hB.trans hX).rf2 (by omega)) (by omega) (by omega)
    · rw [yz_m1] at h_5
      refine y_aload_n rfl rfl ?_
      refine y_iload_n rfl rfl ?_
      refine y_virt rfl rfl rfl rfl rfl (ySh.t hS rfl) (ySh.n hS rfl) ?_
      refine y_in (M := xm_X14_isNobody) (ls := [some _, some _]) rfl rfl rfl ?_
      refine y_iload_n rfl rfl ?_
      refine y_iconst rfl ?_
      refine y_aload_n rfl rfl ?_
      refine y_getIv (v := I 83 8) rfl (ySh.t hS rfl) (ySh.n hS rfl) rfl rfl ((congrFun ((hB.trans hX).n (by omega : 83 < n)) 8).trans (by repeat (first | rfl | rw [upd2_ne (by first | exact .inl (by omega) | exact .inr (by decide))]))) ?_
      refine y_iconst rfl ?_
      refine y_isub rfl ?_
      refine y_static rfl rfl rfl rfl rfl ?_
      refine r_isIn (fun h_15 h_16 => ?_) (fun h_17 => ?_)
      · rw [yz_0] at h_15
        try rw [ysub (by rw [yz_1]; omega) (by rw [yz_1]; omega), yz_1] at h_16
        refine y_ret1 ?_
        refine y_if_neT rfl j_X14_isNobody_18 (by decide) ?_
        refine y_iconst rfl ?_
        refine y_ireturn rfl rfl rfl ?_
        refine y_ret1 ?_
        refine y_if_eqT rfl j_X14_isNoOne_17 (by decide) ?_
        refine y_iconst rfl ?_
        refine y_ireturn rfl rfl rfl ?_
        refine y_ret1 ?_
        refine y_if_eqT rfl j_X14_ofVenture_21 (by decide) ?_
        refine y_iconst rfl ?_
        refine y_iconst rfl ?_
        refine y_virt rfl rfl rfl rfl rfl (ySh.t hS rfl) (ySh.n hS rfl) ?_
        refine y_in (M := xm_X14_start) (ls := [some _, some _, some _]) rfl rfl rfl ?_
        refine y_aload_n rfl rfl ?_
        refine y_iconst rfl ?_
        refine y_putI rfl (ySh.t hS rfl) (ySh.n hS rfl) rfl (Nat.le_of_ble_eq_true rfl) rfl rfl ?_
        refine y_nameI (fun I18 e18 => ?_)
        have hR1 := (hR0.grow hX).mod0 e18 (by decide) (by decide)
        have hK := (hK.x hRo hno hX).upI (upI e18) (by decide) (by decide) (fun i hi => by have := (hRo.l87.2.2.2.2 i hi).2.1; omega) (by rw [e18, upd2_ne (.inr (by decide))]; exact Int.le_refl _)
        have hth : I18 83 0 = Int32.ofInt (0) := by rw [e18, upd2_self]
        have hzz : ySz8 I I18 := ySz8_of (upI e18) (by rw [e18]; exact ⟨upd2_ne (.inr (by decide)), upd2_ne (.inr (by decide))⟩)
        have hB := (hB.trans hX).wr e18 rfl
        have h8 : ∀ a, 84 ≤ a → a ≤ 86 → I18 a = I a := fun a h1 h2 => (upI e18 a (by omega)).trans ((hX.2.1 a (by omega)).2.1.trans (h8 a h1 h2))
        have h3k : ∀ k, k ≠ 0 → I18 83 k = I 83 k := fun k hk => (congrFun (congrFun e18 83) k).trans ((upd2_ne (.inr hk)).trans ((congrFun (hX.2.1 83 (by omega)).2.1 k).trans (h3k k hk)))
        have hg := (hg.gx hX (by omega)).skip e18 (by decide)
        have hday : I18 83 1 = I 83 1 := (congrFun (congrFun e18 83) 1).trans ((upd2_ne (.inr (by decide))).trans ((congrFun (hX.2.1 83 (by omega)).2.1 1).trans hday))
        have hRb : ∀ a, a < n → R a = R a := fun a ha => (hX.2.1 a (by omega)).2.2.trans (hRb a ha)
        have hb83 : ∀ a, a ≠ 83 → a < n → I18 a = I a := fun a ha hb => (upI e18 a ha).trans ((hX.2.1 a (by omega)).2.1.trans (hb83 a ha hb))
        have hS0 := hS
        have hR0 := hR1
        have hn := Nat.le_refl n
        have h94 := hS0.1
        have hX := @yX.rf n tg I18 R
        have hS := hS0.x hX
        have hR := hR0.x hn hX
        have hz := hX.sz h94
        have hxn := hX.1
        have hN := hR0.1
        have hnb := hR0.2.2.2.2.2.2
        have hthB := hth
        refine y_aload_n rfl rfl ?_
        refine y_iload_n rfl rfl ?_
        refine y_iload_n rfl rfl ?_
        refine y_virt rfl rfl rfl rfl rfl (ySh.t hS rfl) (ySh.n hS rfl) ?_
        refine y_in (M := xm_X14_refuse) (ls := [some _, some _, some _]) rfl rfl rfl ?_
        refine y_iload_n rfl rfl ?_
        refine y_if_eqT rfl j_X14_refuse_16 (by decide) ?_
        refine y_aload_n rfl rfl ?_
        refine y_getIv (v := Int32.ofInt (0)) rfl (ySh.t hS rfl) (ySh.n hS rfl) rfl rfl hth ?_
        refine y_if_leT rfl j_X14_refuse_27 (by decide) ?_
        refine y_iconst rfl ?_
        refine y_ireturn rfl rfl rfl ?_
        refine y_ret1 ?_
        refine y_ireturn rfl rfl rfl ?_
        refine y_ret1 ?_
        refine y_if_neF rfl (by decide) ?_
        refine y_aload_n rfl rfl ?_
        refine y_iload_n rfl rfl ?_
        refine y_iconst rfl ?_
        refine y_iconst rfl ?_
        refine y_static rfl rfl rfl rfl rfl ?_
        refine r_isIn (fun h_19 h_20 => ?_) (fun h_21 => ?_)
        · rw [yz_0] at h_19
          rw [yz_2] at h_20
          refine y_ret1 ?_
          refine y_if_neT rfl j_X14_ofVenture_43 (by decide) ?_
          refine y_iconst rfl ?_
          refine y_iconst rfl ?_
          refine y_virt rfl rfl rfl rfl rfl (ySh.t hS rfl) (ySh.n hS rfl) ?_
          refine y_in (M := xm_X14_refuse) (ls := [some _, some _, some _]) rfl rfl rfl ?_
          refine y_iload_n rfl rfl ?_
          refine y_if_eqT rfl j_X14_refuse_16 (by decide) ?_
          refine y_aload_n rfl rfl ?_
          refine y_getIv (v := Int32.ofInt (0)) rfl (ySh.t hS rfl) (ySh.n hS rfl) rfl rfl hth ?_
          refine y_if_leT rfl j_X14_refuse_27 (by decide) ?_
          refine y_iconst rfl ?_
          refine y_ireturn rfl rfl rfl ?_
          refine y_ret1 ?_
          refine y_if_eqT rfl j_X14_ofVenture_55 (by decide) ?_
          refine y_aload_n rfl rfl ?_
          refine y_iload_n rfl rfl ?_
          refine y_iload_n rfl rfl ?_
          refine y_static rfl rfl rfl rfl rfl ?_
          refine y_in (M := xm_X14_seat) (ls := [some _]) rfl rfl rfl ?_
          refine y_iload_n rfl rfl ?_
          refine y_iconst rfl ?_
          refine y_icmp_ne rfl j_X14_seat_10 (fun h_22 => ?_) (fun h_23 => ?_)
          · rw [yz_m1] at h_22
            refine y_iload_n rfl rfl ?_
            refine y_ireturn rfl rfl rfl ?_
            refine y_ret1 ?_
            refine y_iload_n rfl rfl ?_
            refine y_virt rfl rfl rfl rfl rfl (ySh.t hS rfl) (ySh.n hS rfl) ?_
            refine r_ventureTold hS hR (Nat.le_trans hn hX.1) (by omega) (by omega) (by omega) (by omega) (fun v_24 => ?_)
            refine y_ret1 ?_
            refine y_ireturn rfl rfl rfl ?_
            exact hQ0 _ eb_None (by first | omega | (simp only [show ySeat x2 = x2 from if_neg (by omega)]; omega) | (simp only [show ySeat x2 = Int32.ofInt 8 from if_pos (by omega), show (Int32.ofInt 8).toInt.toNat = 8 from by decide]; omega)) _ _ _ _ _ _ _ hS ((hR0.grow hX).up (Nat.le_succ K) hk6) (hK.x hRo hno hX) hth (by first | (rw [show x3.toInt = 0 by omega]; first | rfl | (simp only [show ySeat x2 = x2 from if_neg (by omega)]; rfl) | (simp only [show ySeat x2 = Int32.ofInt 8 from if_pos (by omega), show (Int32.ofInt 8).toInt.toNat = 8 from by decide]; rfl)) | (rw [show x3.toInt = 1 by omega]; first | rfl | (simp only [show ySeat x2 = x2 from if_neg (by omega)]; rfl) | (simp only [show ySeat x2 = Int32.ofInt 8 from if_pos (by omega), show (Int32.ofInt 8).toInt.toNat = 8 from by decide]; rfl)) | (rw [show x3.toInt = 2 by omega]; first | rfl | (simp only [show ySeat x2 = x2 from if_neg (by omega)]; rfl) | (simp only [show ySeat x2 = Int32.ofInt 8 from if_pos (by omega), show (Int32.ofInt 8).toInt.toNat = 8 from by decide]; rfl))) ((hB.trans hX).rf1 (by omega)) (by omega) (by omega)
          · rw [yz_m1] at h_23
            refine y_bip rfl (by decide) ?_
            refine y_goto rfl j_X14_seat_11 ?_
            refine y_ireturn rfl rfl rfl ?_
            refine y_ret1 ?_
            refine y_iload_n rfl rfl ?_
            refine y_virt rfl rfl rfl rfl rfl (ySh.t hS rfl) (ySh.n hS rfl) ?_
            refine r_ventureTold hS hR (Nat.le_trans hn hX.1) (by omega) (by omega) (by rw [yz_8]; decide) (by rw [yz_8]; decide) (fun v_25 => ?_)
            refine y_ret1 ?_
            refine y_ireturn rfl rfl rfl ?_
            exact hQ0 _ eb_None (by first | omega | (simp only [show ySeat x2 = x2 from if_neg (by omega)]; omega) | (simp only [show ySeat x2 = Int32.ofInt 8 from if_pos (by omega), show (Int32.ofInt 8).toInt.toNat = 8 from by decide]; omega)) _ _ _ _ _ _ _ hS ((hR0.grow hX).up (Nat.le_succ K) hk6) (hK.x hRo hno hX) hth (by first | (rw [show x3.toInt = 0 by omega]; first | rfl | (simp only [show ySeat x2 = x2 from if_neg (by omega)]; rfl) | (simp only [show ySeat x2 = Int32.ofInt 8 from if_pos (by omega), show (Int32.ofInt 8).toInt.toNat = 8 from by decide]; rfl)) | (rw [show x3.toInt = 1 by omega]; first | rfl | (simp only [show ySeat x2 = x2 from if_neg (by omega)]; rfl) | (simp only [show ySeat x2 = Int32.ofInt 8 from if_pos (by omega), show (Int32.ofInt 8).toInt.toNat = 8 from by decide]; rfl)) | (rw [show x3.toInt = 2 by omega]; first | rfl | (simp only [show ySeat x2 = x2 from if_neg (by omega)]; rfl) | (simp only [show ySeat x2 = Int32.ofInt 8 from if_pos (by omega), show (Int32.ofInt 8).toInt.toNat = 8 from by decide]; rfl))) ((hB.trans hX).rf1 (by omega)) (by omega) (by omega)
        · rw [yz_0] at h_21
          rw [yz_2] at h_21
          refine y_ret1 ?_
          refine y_if_neF rfl (by decide) ?_
          refine y_iconst rfl ?_
          refine y_goto rfl j_X14_ofVenture_44 ?_
          refine y_iconst rfl ?_
          refine y_virt rfl rfl rfl rfl rfl (ySh.t hS rfl) (ySh.n hS rfl) ?_
          refine y_in (M := xm_X14_refuse) (ls := [some _, some _, some _]) rfl rfl rfl ?_
          refine y_iload_n rfl rfl ?_
          refine y_if_eqF rfl (by decide) ?_
          refine y_aload_n rfl rfl ?_
          refine y_getIv (v := Int32.ofInt (0)) rfl (ySh.t hS rfl) (ySh.n hS rfl) rfl rfl hth ?_
          refine y_if_neF rfl (by decide) ?_
          refine y_aload_n rfl rfl ?_
          refine y_iload_n rfl rfl ?_
          refine y_putI rfl (ySh.t hS rfl) (ySh.n hS rfl) rfl (Nat.le_of_ble_eq_true rfl) rfl rfl ?_
          refine y_nameI (fun I26 e26 => ?_)
          have hR1 := (hR0.grow hX).mod0 e26 (by decide) (by decide)
          have hK := (hK.x hRo hno hX).upI (upI e26) (by decide) (by decide) (fun i hi => by have := (hRo.l87.2.2.2.2 i hi).2.1; omega) (by rw [e26, upd2_ne (.inr (by decide))]; exact Int.le_refl _)
          have hth : I26 83 0 = Int32.ofInt (2) := by rw [e26, upd2_self]
          have hzz : ySz8 I18 I26 := ySz8_of (upI e26) (by rw [e26]; exact ⟨upd2_ne (.inr (by decide)), upd2_ne (.inr (by decide))⟩)
          have hB := (hB.trans hX).wr e26 rfl
          have h8 : ∀ a, 84 ≤ a → a ≤ 86 → I26 a = I a := fun a h1 h2 => (upI e26 a (by omega)).trans ((hX.2.1 a (by omega)).2.1.trans (h8 a h1 h2))
          have h3k : ∀ k, k ≠ 0 → I26 83 k = I 83 k := fun k hk => (congrFun (congrFun e26 83) k).trans ((upd2_ne (.inr hk)).trans ((congrFun (hX.2.1 83 (by omega)).2.1 k).trans (h3k k hk)))
          have hg := (hg.gx hX (by omega)).skip e26 (by decide)
          have hday : I26 83 1 = I 83 1 := (congrFun (congrFun e26 83) 1).trans ((upd2_ne (.inr (by decide))).trans ((congrFun (hX.2.1 83 (by omega)).2.1 1).trans hday))
          have hRb : ∀ a, a < n → R a = R a := fun a ha => (hX.2.1 a (by omega)).2.2.trans (hRb a ha)
          have hb83 : ∀ a, a ≠ 83 → a < n → I26 a = I a := fun a ha hb => (upI e26 a ha).trans ((hX.2.1 a (by omega)).2.1.trans (hb83 a ha hb))
          have hS0 := hS
          have hR0 := hR1
          have hn := Nat.le_refl n
          have h94 := hS0.1
          have hX := @yX.rf n tg I26 R
          have hS := hS0.x hX
          have hR := hR0.x hn hX
          have hz := hX.sz h94
          have hxn := hX.1
          have hN := hR0.1
          have hnb := hR0.2.2.2.2.2.2
          have hthB := hth
          refine y_aload_n rfl rfl ?_
          refine y_getIv (v := Int32.ofInt (2)) rfl (ySh.t hS rfl) (ySh.n hS rfl) rfl rfl hth ?_
          refine y_if_leF rfl (by decide) ?_
          refine y_iconst rfl ?_
          refine y_goto rfl j_X14_refuse_28 ?_
          refine y_ireturn rfl rfl rfl ?_
          refine y_ret1 ?_
          refine y_if_eqF rfl (by decide) ?_
          refine y_iconst rfl ?_
          refine y_goto rfl j_X14_ofVenture_65 ?_
          refine y_ireturn rfl rfl rfl ?_
          exact hQ2 (by first | omega | (simp only [show ySeat x2 = x2 from if_neg (by omega)]; omega) | (simp only [show ySeat x2 = Int32.ofInt 8 from if_pos (by omega), show (Int32.ofInt 8).toInt.toNat = 8 from by decide]; omega)) _ _ _ _ _ _ _ hS ((hR0.grow hX).up (Nat.le_succ K) hk6) (hK.x hRo hno hX) hth ((hB.trans hX).rf2 (by omega)) (by omega) (by omega)
      · rw [yz_0] at h_17
        try rw [ysub (by rw [yz_1]; omega) (by rw [yz_1]; omega), yz_1] at h_17
        refine y_ret1 ?_
        refine y_if_neF rfl (by decide) ?_
        refine y_iconst rfl ?_
        refine y_goto rfl j_X14_isNobody_19 ?_
        refine y_ireturn rfl rfl rfl ?_
        refine y_ret1 ?_
        refine y_if_eqF rfl (by decide) ?_
        refine y_iconst rfl ?_
        refine y_goto rfl j_X14_isNoOne_18 ?_
        refine y_ireturn rfl rfl rfl ?_
        refine y_ret1 ?_
        refine y_if_eqF rfl (by decide) ?_
        refine y_iconst rfl ?_
        refine y_goto rfl j_X14_ofVenture_22 ?_
        refine y_iconst rfl ?_
        refine y_virt rfl rfl rfl rfl rfl (ySh.t hS rfl) (ySh.n hS rfl) ?_
        refine y_in (M := xm_X14_start) (ls := [some _, some _, some _]) rfl rfl rfl ?_
        refine y_aload_n rfl rfl ?_
        refine y_iconst rfl ?_
        refine y_putI rfl (ySh.t hS rfl) (ySh.n hS rfl) rfl (Nat.le_of_ble_eq_true rfl) rfl rfl ?_
        refine y_nameI (fun I27 e27 => ?_)
        have hR1 := (hR0.grow hX).mod0 e27 (by decide) (by decide)
        have hK := (hK.x hRo hno hX).upI (upI e27) (by decide) (by decide) (fun i hi => by have := (hRo.l87.2.2.2.2 i hi).2.1; omega) (by rw [e27, upd2_ne (.inr (by decide))]; exact Int.le_refl _)
        have hth : I27 83 0 = Int32.ofInt (0) := by rw [e27, upd2_self]
        have hzz : ySz8 I I27 := ySz8_of (upI e27) (by rw [e27]; exact ⟨upd2_ne (.inr (by decide)), upd2_ne (.inr (by decide))⟩)
        have hB := (hB.trans hX).wr e27 rfl
        have h8 : ∀ a, 84 ≤ a → a ≤ 86 → I27 a = I a := fun a h1 h2 => (upI e27 a (by omega)).trans ((hX.2.1 a (by omega)).2.1.trans (h8 a h1 h2))
        have h3k : ∀ k, k ≠ 0 → I27 83 k = I 83 k := fun k hk => (congrFun (congrFun e27 83) k).trans ((upd2_ne (.inr hk)).trans ((congrFun (hX.2.1 83 (by omega)).2.1 k).trans (h3k k hk)))
        have hg := (hg.gx hX (by omega)).skip e27 (by decide)
        have hday : I27 83 1 = I 83 1 := (congrFun (congrFun e27 83) 1).trans ((upd2_ne (.inr (by decide))).trans ((congrFun (hX.2.1 83 (by omega)).2.1 1).trans hday))
        have hRb : ∀ a, a < n → R a = R a := fun a ha => (hX.2.1 a (by omega)).2.2.trans (hRb a ha)
        have hb83 : ∀ a, a ≠ 83 → a < n → I27 a = I a := fun a ha hb => (upI e27 a ha).trans ((hX.2.1 a (by omega)).2.1.trans (hb83 a ha hb))
        have hS0 := hS
        have hR0 := hR1
        have hn := Nat.le_refl n
        have h94 := hS0.1
        have hX := @yX.rf n tg I27 R
        have hS := hS0.x hX
        have hR := hR0.x hn hX
        have hz := hX.sz h94
        have hxn := hX.1
        have hN := hR0.1
        have hnb := hR0.2.2.2.2.2.2
        have hthB := hth
        refine y_aload_n rfl rfl ?_
        refine y_iload_n rfl rfl ?_
        refine y_iload_n rfl rfl ?_
        refine y_virt rfl rfl rfl rfl rfl (ySh.t hS rfl) (ySh.n hS rfl) ?_
        refine y_in (M := xm_X14_refuse) (ls := [some _, some _, some _]) rfl rfl rfl ?_
        refine y_iload_n rfl rfl ?_
        refine y_if_eqF rfl (by decide) ?_
        refine y_aload_n rfl rfl ?_
        refine y_getIv (v := Int32.ofInt (0)) rfl (ySh.t hS rfl) (ySh.n hS rfl) rfl rfl hth ?_
        refine y_if_neF rfl (by decide) ?_
        refine y_aload_n rfl rfl ?_
        refine y_iload_n rfl rfl ?_
        refine y_putI rfl (ySh.t hS rfl) (ySh.n hS rfl) rfl (Nat.le_of_ble_eq_true rfl) rfl rfl ?_
        refine y_nameI (fun I28 e28 => ?_)
        have hR1 := (hR0.grow hX).mod0 e28 (by decide) (by decide)
        have hK := (hK.x hRo hno hX).upI (upI e28) (by decide) (by decide) (fun i hi => by have := (hRo.l87.2.2.2.2 i hi).2.1; omega) (by rw [e28, upd2_ne (.inr (by decide))]; exact Int.le_refl _)
        have hth : I28 83 0 = Int32.ofInt (1) := by rw [e28, upd2_self]
        have hzz : ySz8 I27 I28 := ySz8_of (upI e28) (by rw [e28]; exact ⟨upd2_ne (.inr (by decide)), upd2_ne (.inr (by decide))⟩)
        have hB := (hB.trans hX).wr e28 rfl
        have h8 : ∀ a, 84 ≤ a → a ≤ 86 → I28 a = I a := fun a h1 h2 => (upI e28 a (by omega)).trans ((hX.2.1 a (by omega)).2.1.trans (h8 a h1 h2))
        have h3k : ∀ k, k ≠ 0 → I28 83 k = I 83 k := fun k hk => (congrFun (congrFun e28 83) k).trans ((upd2_ne (.inr hk)).trans ((congrFun (hX.2.1 83 (by omega)).2.1 k).trans (h3k k hk)))
        have hg := (hg.gx hX (by omega)).skip e28 (by decide)
        have hday : I28 83 1 = I 83 1 := (congrFun (congrFun e28 83) 1).trans ((upd2_ne (.inr (by decide))).trans ((congrFun (hX.2.1 83 (by omega)).2.1 1).trans hday))
        have hRb : ∀ a, a < n → R a = R a := fun a ha => (hX.2.1 a (by omega)).2.2.trans (hRb a ha)
        have hb83 : ∀ a, a ≠ 83 → a < n → I28 a = I a := fun a ha hb => (upI e28 a ha).trans ((hX.2.1 a (by omega)).2.1.trans (hb83 a ha hb))
        have hS0 := hS
        have hR0 := hR1
        have hn := Nat.le_refl n
        have h94 := hS0.1
        have hX := @yX.rf n tg I28 R
        have hS := hS0.x hX
        have hR := hR0.x hn hX
        have hz := hX.sz h94
        have hxn := hX.1
        have hN := hR0.1
        have hnb := hR0.2.2.2.2.2.2
        have hthB := hth
        refine y_aload_n rfl rfl ?_
        refine y_getIv (v := Int32.ofInt (1)) rfl (ySh.t hS rfl) (ySh.n hS rfl) rfl rfl hth ?_
        refine y_if_leF rfl (by decide) ?_
        refine y_iconst rfl ?_
        refine y_goto rfl j_X14_refuse_28 ?_
        refine y_ireturn rfl rfl rfl ?_
        refine y_ret1 ?_
        refine y_ireturn rfl rfl rfl ?_
        refine y_ret1 ?_
        refine y_if_neT rfl j_X14_ofVenture_51 (by decide) ?_
        refine y_iconst rfl ?_
        refine y_goto rfl j_X14_ofVenture_65 ?_
        refine y_ireturn rfl rfl rfl ?_
        exact hQ1 (by first | omega | (simp only [show ySeat x2 = x2 from if_neg (by omega)]; omega) | (simp only [show ySeat x2 = Int32.ofInt 8 from if_pos (by omega), show (Int32.ofInt 8).toInt.toNat = 8 from by decide]; omega)) _ _ _ _ _ _ _ hS ((hR0.grow hX).up (Nat.le_succ K) hk6) (hK.x hRo hno hX) hth ((hB.trans hX).rf2 (by omega)) (by omega) (by omega)
  · rw [yz_0] at h_3
    try rw [ysub (by rw [yz_1]; omega) (by rw [yz_1]; omega), yz_1] at h_3
    refine y_ret1 ?_
    refine y_if_neF rfl (by decide) ?_
    refine y_iconst rfl ?_
    refine y_goto rfl j_X14_isNoVenture_22 ?_
    refine y_ireturn rfl rfl rfl ?_
    refine y_ret1 ?_
    refine y_if_neT rfl j_X14_ofVenture_17 (by decide) ?_
    refine y_iconst rfl ?_
    refine y_goto rfl j_X14_ofVenture_22 ?_
    refine y_iconst rfl ?_
    refine y_virt rfl rfl rfl rfl rfl (ySh.t hS rfl) (ySh.n hS rfl) ?_
    refine y_in (M := xm_X14_start) (ls := [some _, some _, some _]) rfl rfl rfl ?_
    refine y_aload_n rfl rfl ?_
    refine y_iconst rfl ?_
    refine y_putI rfl (ySh.t hS rfl) (ySh.n hS rfl) rfl (Nat.le_of_ble_eq_true rfl) rfl rfl ?_
    refine y_nameI (fun I29 e29 => ?_)
    have hR1 := (hR0.grow hX).mod0 e29 (by decide) (by decide)
    have hK := (hK.x hRo hno hX).upI (upI e29) (by decide) (by decide) (fun i hi => by have := (hRo.l87.2.2.2.2 i hi).2.1; omega) (by rw [e29, upd2_ne (.inr (by decide))]; exact Int.le_refl _)
    have hth : I29 83 0 = Int32.ofInt (0) := by rw [e29, upd2_self]
    have hzz : ySz8 I I29 := ySz8_of (upI e29) (by rw [e29]; exact ⟨upd2_ne (.inr (by decide)), upd2_ne (.inr (by decide))⟩)
    have hB := (hB.trans hX).wr e29 rfl
    have h8 : ∀ a, 84 ≤ a → a ≤ 86 → I29 a = I a := fun a h1 h2 => (upI e29 a (by omega)).trans ((hX.2.1 a (by omega)).2.1.trans (h8 a h1 h2))
    have h3k : ∀ k, k ≠ 0 → I29 83 k = I 83 k := fun k hk => (congrFun (congrFun e29 83) k).trans ((upd2_ne (.inr hk)).trans ((congrFun (hX.2.1 83 (by omega)).2.1 k).trans (h3k k hk)))
    have hg := (hg.gx hX (by omega)).skip e29 (by decide)
    have hday : I29 83 1 = I 83 1 := (congrFun (congrFun e29 83) 1).trans ((upd2_ne (.inr (by decide))).trans ((congrFun (hX.2.1 83 (by omega)).2.1 1).trans hday))
    have hRb : ∀ a, a < n → R a = R a := fun a ha => (hX.2.1 a (by omega)).2.2.trans (hRb a ha)
    have hb83 : ∀ a, a ≠ 83 → a < n → I29 a = I a := fun a ha hb => (upI e29 a ha).trans ((hX.2.1 a (by omega)).2.1.trans (hb83 a ha hb))
    have hS0 := hS
    have hR0 := hR1
    have hn := Nat.le_refl n
    have h94 := hS0.1
    have hX := @yX.rf n tg I29 R
    have hS := hS0.x hX
    have hR := hR0.x hn hX
    have hz := hX.sz h94
    have hxn := hX.1
    have hN := hR0.1
    have hnb := hR0.2.2.2.2.2.2
    have hthB := hth
    refine y_aload_n rfl rfl ?_
    refine y_iload_n rfl rfl ?_
    refine y_iload_n rfl rfl ?_
    refine y_virt rfl rfl rfl rfl rfl (ySh.t hS rfl) (ySh.n hS rfl) ?_
    refine y_in (M := xm_X14_refuse) (ls := [some _, some _, some _]) rfl rfl rfl ?_
    refine y_iload_n rfl rfl ?_
    refine y_if_eqF rfl (by decide) ?_
    refine y_aload_n rfl rfl ?_
    refine y_getIv (v := Int32.ofInt (0)) rfl (ySh.t hS rfl) (ySh.n hS rfl) rfl rfl hth ?_
    refine y_if_neF rfl (by decide) ?_
    refine y_aload_n rfl rfl ?_
    refine y_iload_n rfl rfl ?_
    refine y_putI rfl (ySh.t hS rfl) (ySh.n hS rfl) rfl (Nat.le_of_ble_eq_true rfl) rfl rfl ?_
    refine y_nameI (fun I30 e30 => ?_)
    have hR1 := (hR0.grow hX).mod0 e30 (by decide) (by decide)
    have hK := (hK.x hRo hno hX).upI (upI e30) (by decide) (by decide) (fun i hi => by have := (hRo.l87.2.2.2.2 i hi).2.1; omega) (by rw [e30, upd2_ne (.inr (by decide))]; exact Int.le_refl _)
    have hth : I30 83 0 = Int32.ofInt (1) := by rw [e30, upd2_self]
    have hzz : ySz8 I29 I30 := ySz8_of (upI e30) (by rw [e30]; exact ⟨upd2_ne (.inr (by decide)), upd2_ne (.inr (by decide))⟩)
    have hB := (hB.trans hX).wr e30 rfl
    have h8 : ∀ a, 84 ≤ a → a ≤ 86 → I30 a = I a := fun a h1 h2 => (upI e30 a (by omega)).trans ((hX.2.1 a (by omega)).2.1.trans (h8 a h1 h2))
    have h3k : ∀ k, k ≠ 0 → I30 83 k = I 83 k := fun k hk => (congrFun (congrFun e30 83) k).trans ((upd2_ne (.inr hk)).trans ((congrFun (hX.2.1 83 (by omega)).2.1 k).trans (h3k k hk)))
    have hg := (hg.gx hX (by omega)).skip e30 (by decide)
    have hday : I30 83 1 = I 83 1 := (congrFun (congrFun e30 83) 1).trans ((upd2_ne (.inr (by decide))).trans ((congrFun (hX.2.1 83 (by omega)).2.1 1).trans hday))
    have hRb : ∀ a, a < n → R a = R a := fun a ha => (hX.2.1 a (by omega)).2.2.trans (hRb a ha)
    have hb83 : ∀ a, a ≠ 83 → a < n → I30 a = I a := fun a ha hb => (upI e30 a ha).trans ((hX.2.1 a (by omega)).2.1.trans (hb83 a ha hb))
    have hS0 := hS
    have hR0 := hR1
    have hn := Nat.le_refl n
    have h94 := hS0.1
    have hX := @yX.rf n tg I30 R
    have hS := hS0.x hX
    have hR := hR0.x hn hX
    have hz := hX.sz h94
    have hxn := hX.1
    have hN := hR0.1
    have hnb := hR0.2.2.2.2.2.2
    have hthB := hth
    refine y_aload_n rfl rfl ?_
    refine y_getIv (v := Int32.ofInt (1)) rfl (ySh.t hS rfl) (ySh.n hS rfl) rfl rfl hth ?_
    refine y_if_leF rfl (by decide) ?_
    refine y_iconst rfl ?_
    refine y_goto rfl j_X14_refuse_28 ?_
    refine y_ireturn rfl rfl rfl ?_
    refine y_ret1 ?_
    refine y_ireturn rfl rfl rfl ?_
    refine y_ret1 ?_
    refine y_if_neT rfl j_X14_ofVenture_51 (by decide) ?_
    refine y_iconst rfl ?_
    refine y_goto rfl j_X14_ofVenture_65 ?_
    refine y_ireturn rfl rfl rfl ?_
    exact hQ1 (by first | omega | (simp only [show ySeat x2 = x2 from if_neg (by omega)]; omega) | (simp only [show ySeat x2 = Int32.ofInt 8 from if_pos (by omega), show (Int32.ofInt 8).toInt.toNat = 8 from by decide]; omega)) _ _ _ _ _ _ _ hS ((hR0.grow hX).up (Nat.le_succ K) hk6) (hK.x hRo hno hX) hth ((hB.trans hX).rf2 (by omega)) (by omega) (by omega)
end YXW8
