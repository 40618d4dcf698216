/-! WHAT IS TOLD OF A VENTURE, ON BOTH SIDES (by ex8v.py) -/
/-- which row of a venture is asked for -/
def yOVf (w : Int) : Nat := if w = 0 then 1 else if w = 1 then 2 else 3
theorem yOVf_lt {w : Int} : yOVf w < 4 := by
  unfold yOVf
  split
  · decide
  · split <;> decide
section YXV8
variable {n : Nat} {tg : Nat → yT} {I : Nat → Nat → Int32} {R : Nat → Nat → Value} {c s : Nat} {Q : yQ}
theorem g_ofVenture (hS : ySh n tg R) (hC : yCI I) {x1 x2 x3 : Int32} (hE0 : ¬ ((0 ≤ x1.toInt ∧ x1.toInt < (I 69 0).toInt) ∧ (x2.toInt = -1 ∨ 0 ≤ x2.toInt ∧ x2.toInt < (I 38 0).toInt)) → Q (.inr "java/lang/IndexOutOfBoundsException") (n, tg, I, R) (c + 1) (s + 6)) (hE1 : ((0 ≤ x1.toInt ∧ x1.toInt < (I 69 0).toInt) ∧ (x2.toInt = -1 ∨ 0 ≤ x2.toInt ∧ x2.toInt < (I 38 0).toInt)) ∧ ¬ (0 ≤ x3.toInt ∧ x3.toInt ≤ 2) → Q (.inr "java/lang/IllegalArgumentException") (n, tg, I, R) (c + 1) (s + 6)) (hQ : ((0 ≤ x1.toInt ∧ x1.toInt < (I 69 0).toInt) ∧ (x2.toInt = -1 ∨ 0 ≤ x2.toInt ∧ x2.toInt < (I 38 0).toInt)) ∧ (0 ≤ x3.toInt ∧ x3.toInt ≤ 2) → ∀ v : Int32, v = I (70 + yOVf x3.toInt) (yAtI x1 (ySeat x2)).toInt.toNat → Q (.inl (some (.int v))) (n, tg, I, R) c s) : yC 146 [.ref 34, .int x1, .int x2, .int x3] (n, tg, I, R) c s Q := by
  have hF : yFt I I := yFt.rf
  refine y_in (M := xm_X8_ofVenture) (ls := [some _, some _, some _, some _, _]) rfl rfl rfl ?_
  refine y_aload_n rfl rfl ?_
  refine y_getR rfl (ySh.t hS rfl) (ySh.n hS rfl) rfl rfl (ySh.r hS rfl) ?_
  refine y_iload_n rfl rfl ?_
  refine y_virt rfl rfl rfl rfl rfl (ySh.t hS rfl) (ySh.n hS rfl) ?_
  refine y_in (M := xm_X7_has) (ls := [some _, some _]) rfl rfl rfl ?_
  refine y_iload_n rfl rfl ?_
  refine y_if_lt rfl j_X7_has_16 (fun h_1 => ?_) (fun h_2 => ?_)
  · refine y_iconst rfl ?_
    refine y_ireturn rfl rfl rfl ?_
    refine y_ret1 ?_
    refine y_if_eqT rfl j_X8_ofVenture_19 (by decide) ?_
    refine y_throw rfl rfl rfl ?_
    exact hE0 (by (first | omega | (simp only [show ySeat x2 = x2 from if_neg (by omega)]; omega) | (simp only [show ySeat x2 = Int32.ofInt 8 from if_pos (by omega)]; omega)))
  · refine y_iload_n rfl rfl ?_
    refine y_aload_n rfl rfl ?_
    refine y_getIv (v := I 69 0) rfl (ySh.t hS rfl) (ySh.n hS rfl) rfl rfl rfl ?_
    refine y_icmp_ge rfl j_X7_has_16 (fun h_3 => ?_) (fun h_4 => ?_)
    · refine y_iconst rfl ?_
      refine y_ireturn rfl rfl rfl ?_
      refine y_ret1 ?_
      refine y_if_eqT rfl j_X8_ofVenture_19 (by decide) ?_
      refine y_throw rfl rfl rfl ?_
      exact hE0 (by (first | omega | (simp only [show ySeat x2 = x2 from if_neg (by omega)]; omega) | (simp only [show ySeat x2 = Int32.ofInt 8 from if_pos (by omega)]; omega)))
    · refine y_iconst rfl ?_
      refine y_goto rfl j_X7_has_17 ?_
      refine y_ireturn rfl rfl rfl ?_
      refine y_ret1 ?_
      refine y_if_eqF rfl (by decide) ?_
      refine y_aload_n rfl rfl ?_
      refine y_iload_n rfl rfl ?_
      refine y_virt rfl rfl rfl rfl rfl (ySh.t hS rfl) (ySh.n hS rfl) ?_
      refine y_in (M := xm_X8_isParty) (ls := [some _, some _]) rfl rfl rfl ?_
      refine y_iload_n rfl rfl ?_
      refine y_iconst rfl ?_
      refine y_icmp_eq rfl j_X8_isParty_16 (fun h_5 => ?_) (fun h_6 => ?_)
      · rw [yz_m1] at h_5
        refine y_iconst rfl ?_
        refine y_goto rfl j_X8_isParty_21 ?_
        refine y_ireturn rfl rfl rfl ?_
        refine y_ret1 ?_
        refine y_if_neT rfl j_X8_ofVenture_30 (by decide) ?_
        refine y_iload_n rfl rfl ?_
        refine y_static rfl rfl rfl rfl rfl ?_
        refine y_in (M := xm_X8_placeOf) (ls := [some _]) rfl rfl rfl ?_
        refine y_iload_n rfl rfl ?_
        refine y_iconst rfl ?_
        refine y_icmp_ne rfl j_X8_placeOf_10 (fun h_7 => ?_) (fun h_8 => ?_)
        · rw [yz_m1] at h_7
          refine y_iload_n rfl rfl ?_
          refine y_ireturn rfl rfl rfl ?_
          refine y_ret1 ?_
          refine y_istore (ls' := [some _, some _, some _, some _, some _]) rfl rfl rfl ?_
          refine y_iload_n rfl rfl ?_
          refine y_sw rfl (fun h_10 => ?_) (fun h_9 => ?_)
          · refine y_swOut rfl j_X8_ofVenture_97 h_10 ?_
            refine y_throw rfl rfl rfl ?_
            exact hE1 (by (first | omega | (simp only [show ySeat x2 = x2 from if_neg (by omega)]; omega) | (simp only [show ySeat x2 = Int32.ofInt 8 from if_pos (by omega)]; omega)))
          rcases ySwC0_2 h_9 with h_9 | h_9 | h_9
          · refine y_swIn (j := 0) rfl h_9 (by decide) j_X8_ofVenture_64 ?_
            refine y_aload_n rfl rfl ?_
            refine y_getR rfl (ySh.t hS rfl) (ySh.n hS rfl) rfl rfl (ySh.r hS rfl) ?_
            refine y_iload_n rfl rfl ?_
            refine y_iload rfl rfl ?_
            refine y_virt rfl rfl rfl rfl rfl (ySh.t hS rfl) (ySh.n hS rfl) ?_
            refine y_in (M := xm_X7_capitalOf) (ls := [some _, some _, some _]) rfl rfl rfl ?_
            refine y_aload_n rfl rfl ?_
            refine y_getR rfl (ySh.t hS rfl) (ySh.n hS rfl) rfl rfl (ySh.r hS rfl) ?_
            refine y_aload_n rfl rfl ?_
            refine y_iload_n rfl rfl ?_
            refine y_iload_n rfl rfl ?_
            refine y_virt rfl rfl rfl rfl rfl (ySh.t hS rfl) (ySh.n hS rfl) ?_
            refine spx_at (by omega) (by omega) (by omega) (by omega) (fun hz11 => ?_)
            refine y_ret1 ?_
            refine y_ialoadv (J := I 71) rfl (ySh.t hS rfl) (ySh.n hS rfl) (by omega) (by omega) rfl ?_
            refine y_ireturn rfl rfl rfl ?_
            refine y_ret1 ?_
            refine y_ireturn rfl rfl rfl ?_
            first | (exfalso; omega) | (exact hQ (by (first | omega | (simp only [show ySeat x2 = x2 from if_neg (by omega)]; omega) | (simp only [show ySeat x2 = Int32.ofInt 8 from if_pos (by omega)]; omega))) _ (by rw [show x3.toInt = 0 by omega]; first | (simp only [show ySeat x2 = x2 from if_neg (by omega)]; rfl) | (simp only [show ySeat x2 = Int32.ofInt 8 from if_pos (by omega)]; rfl)))
          · refine y_swIn (j := 1) rfl h_9 (by decide) j_X8_ofVenture_75 ?_
            refine y_aload_n rfl rfl ?_
            refine y_getR rfl (ySh.t hS rfl) (ySh.n hS rfl) rfl rfl (ySh.r hS rfl) ?_
            refine y_iload_n rfl rfl ?_
            refine y_iload rfl rfl ?_
            refine y_virt rfl rfl rfl rfl rfl (ySh.t hS rfl) (ySh.n hS rfl) ?_
            refine y_in (M := xm_X7_shareOf) (ls := [some _, some _, some _]) rfl rfl rfl ?_
            refine y_aload_n rfl rfl ?_
            refine y_getR rfl (ySh.t hS rfl) (ySh.n hS rfl) rfl rfl (ySh.r hS rfl) ?_
            refine y_aload_n rfl rfl ?_
            refine y_iload_n rfl rfl ?_
            refine y_iload_n rfl rfl ?_
            refine y_virt rfl rfl rfl rfl rfl (ySh.t hS rfl) (ySh.n hS rfl) ?_
            refine spx_at (by omega) (by omega) (by omega) (by omega) (fun hz12 => ?_)
            refine y_ret1 ?_
            refine y_ialoadv (J := I 72) rfl (ySh.t hS rfl) (ySh.n hS rfl) (by omega) (by omega) rfl ?_
            refine y_ireturn rfl rfl rfl ?_
            refine y_ret1 ?_
            refine y_ireturn rfl rfl rfl ?_
            first | (exfalso; omega) | (exact hQ (by (first | omega | (simp only [show ySeat x2 = x2 from if_neg (by omega)]; omega) | (simp only [show ySeat x2 = Int32.ofInt 8 from if_pos (by omega)]; omega))) _ (by rw [show x3.toInt = 1 by omega]; first | (simp only [show ySeat x2 = x2 from if_neg (by omega)]; rfl) | (simp only [show ySeat x2 = Int32.ofInt 8 from if_pos (by omega)]; rfl)))
          · refine y_swIn (j := 2) rfl h_9 (by decide) j_X8_ofVenture_86 ?_
            refine y_aload_n rfl rfl ?_
            refine y_getR rfl (ySh.t hS rfl) (ySh.n hS rfl) rfl rfl (ySh.r hS rfl) ?_
            refine y_iload_n rfl rfl ?_
            refine y_iload rfl rfl ?_
            refine y_virt rfl rfl rfl rfl rfl (ySh.t hS rfl) (ySh.n hS rfl) ?_
            refine y_in (M := xm_X7_gainOf) (ls := [some _, some _, some _]) rfl rfl rfl ?_
            refine y_aload_n rfl rfl ?_
            refine y_getR rfl (ySh.t hS rfl) (ySh.n hS rfl) rfl rfl (ySh.r hS rfl) ?_
            refine y_aload_n rfl rfl ?_
            refine y_iload_n rfl rfl ?_
            refine y_iload_n rfl rfl ?_
            refine y_virt rfl rfl rfl rfl rfl (ySh.t hS rfl) (ySh.n hS rfl) ?_
            refine spx_at (by omega) (by omega) (by omega) (by omega) (fun hz13 => ?_)
            refine y_ret1 ?_
            refine y_ialoadv (J := I 73) rfl (ySh.t hS rfl) (ySh.n hS rfl) (by omega) (by omega) rfl ?_
            refine y_ireturn rfl rfl rfl ?_
            refine y_ret1 ?_
            refine y_ireturn rfl rfl rfl ?_
            first | (exfalso; omega) | (exact hQ (by (first | omega | (simp only [show ySeat x2 = x2 from if_neg (by omega)]; omega) | (simp only [show ySeat x2 = Int32.ofInt 8 from if_pos (by omega)]; omega))) _ (by rw [show x3.toInt = 2 by omega]; first | (simp only [show ySeat x2 = x2 from if_neg (by omega)]; rfl) | (simp only [show ySeat x2 = Int32.ofInt 8 from if_pos (by omega)]; rfl)))
        · rw [yz_m1] at h_8
          refine y_bip rfl (by decide) ?_
          refine y_goto rfl j_X8_placeOf_11 ?_
          refine y_ireturn rfl rfl rfl ?_
          refine y_ret1 ?_
          refine y_istore (ls' := [some _, some _, some _, some _, some _]) rfl rfl rfl ?_
          refine y_iload_n rfl rfl ?_
          refine y_sw rfl (fun h_15 => ?_) (fun h_14 => ?_)
          · refine y_swOut rfl j_X8_ofVenture_97 h_15 ?_
            refine y_throw rfl rfl rfl ?_
            exact hE1 (by (first | omega | (simp only [show ySeat x2 = x2 from if_neg (by omega)]; omega) | (simp only [show ySeat x2 = Int32.ofInt 8 from if_pos (by omega)]; omega)))
          rcases ySwC0_2 h_14 with h_14 | h_14 | h_14
          · refine y_swIn (j := 0) rfl h_14 (by decide) j_X8_ofVenture_64 ?_
            refine y_aload_n rfl rfl ?_
            refine y_getR rfl (ySh.t hS rfl) (ySh.n hS rfl) rfl rfl (ySh.r hS rfl) ?_
            refine y_iload_n rfl rfl ?_
            refine y_iload rfl rfl ?_
            refine y_virt rfl rfl rfl rfl rfl (ySh.t hS rfl) (ySh.n hS rfl) ?_
            refine y_in (M := xm_X7_capitalOf) (ls := [some _, some _, some _]) rfl rfl rfl ?_
            refine y_aload_n rfl rfl ?_
            refine y_getR rfl (ySh.t hS rfl) (ySh.n hS rfl) rfl rfl (ySh.r hS rfl) ?_
            refine y_aload_n rfl rfl ?_
            refine y_iload_n rfl rfl ?_
            refine y_iload_n rfl rfl ?_
            refine y_virt rfl rfl rfl rfl rfl (ySh.t hS rfl) (ySh.n hS rfl) ?_
            refine spx_at (by omega) (by omega) (by decide) (by decide) (fun hz16 => ?_)
            rw [yz_8] at hz16
            refine y_ret1 ?_
            refine y_ialoadv (J := I 71) rfl (ySh.t hS rfl) (ySh.n hS rfl) (by omega) (by omega) rfl ?_
            refine y_ireturn rfl rfl rfl ?_
            refine y_ret1 ?_
            refine y_ireturn rfl rfl rfl ?_
            first | (exfalso; omega) | (exact hQ (by (first | omega | (simp only [show ySeat x2 = x2 from if_neg (by omega)]; omega) | (simp only [show ySeat x2 = Int32.ofInt 8 from if_pos (by omega)]; omega))) _ (by rw [show x3.toInt = 0 by omega]; first | (simp only [show ySeat x2 = x2 from if_neg (by omega)]; rfl) | (simp only [show ySeat x2 = Int32.ofInt 8 from if_pos (by omega)]; rfl)))
          · refine y_swIn (j := 1) rfl h_14 (by decide) j_X8_ofVenture_75 ?_
            refine y_aload_n rfl rfl ?_
            refine y_getR rfl (ySh.t hS rfl) (ySh.n hS rfl) rfl rfl (ySh.r hS rfl) ?_
            refine y_iload_n rfl rfl ?_
            refine y_iload rfl rfl ?_
            refine y_virt rfl rfl rfl rfl rfl (ySh.t hS rfl) (ySh.n hS rfl) ?_
            refine y_in (M := xm_X7_shareOf) (ls := [some _, some _, some _]) rfl rfl rfl ?_
            refine y_aload_n rfl rfl ?_
            refine y_getR rfl (ySh.t hS rfl) (ySh.n hS rfl) rfl rfl (ySh.r hS rfl) ?_
            refine y_aload_n rfl rfl ?_
            refine y_iload_n rfl rfl ?_
            refine y_iload_n rfl rfl ?_
            refine y_virt rfl rfl rfl rfl rfl (ySh.t hS rfl) (ySh.n hS rfl) ?_
            refine spx_at (by omega) (by omega) (by decide) (by decide) (fun hz17 => ?_)
            rw [yz_8] at hz17
            refine y_ret1 ?_
            refine y_ialoadv (J := I 72) rfl (ySh.t hS rfl) (ySh.n hS rfl) (by omega) (by omega) rfl ?_
            refine y_ireturn rfl rfl rfl ?_
            refine y_ret1 ?_
            refine y_ireturn rfl rfl rfl ?_
            first | (exfalso; omega) | (exact hQ (by (first | omega | (simp only [show ySeat x2 = x2 from if_neg (by omega)]; omega) | (simp only [show ySeat x2 = Int32.ofInt 8 from if_pos (by omega)]; omega))) _ (by rw [show x3.toInt = 1 by omega]; first | (simp only [show ySeat x2 = x2 from if_neg (by omega)]; rfl) | (simp only [show ySeat x2 = Int32.ofInt 8 from if_pos (by omega)]; rfl)))
          · refine y_swIn (j := 2) rfl h_14 (by decide) j_X8_ofVenture_86 ?_
            refine y_aload_n rfl rfl ?_
            refine y_getR rfl (ySh.t hS rfl) (ySh.n hS rfl) rfl rfl (ySh.r hS rfl) ?_
            refine y_iload_n rfl rfl ?_
            refine y_iload rfl rfl ?_
            refine y_virt rfl rfl rfl rfl rfl (ySh.t hS rfl) (ySh.n hS rfl) ?_
            refine y_in (M := xm_X7_gainOf) (ls := [some _, some _, some _]) rfl rfl rfl ?_
            refine y_aload_n rfl rfl ?_
            refine y_getR rfl (ySh.t hS rfl) (ySh.n hS rfl) rfl rfl (ySh.r hS rfl) ?_
            refine y_aload_n rfl rfl ?_
            refine y_iload_n rfl rfl ?_
            refine y_iload_n rfl rfl ?_
            refine y_virt rfl rfl rfl rfl rfl (ySh.t hS rfl) (ySh.n hS rfl) ?_
            refine spx_at (by omega) (by omega) (by decide) (by decide) (fun hz18 => ?_)
            rw [yz_8] at hz18
            refine y_ret1 ?_
            refine y_ialoadv (J := I 73) rfl (ySh.t hS rfl) (ySh.n hS rfl) (by omega) (by omega) rfl ?_
            refine y_ireturn rfl rfl rfl ?_
            refine y_ret1 ?_
            refine y_ireturn rfl rfl rfl ?_
            first | (exfalso; omega) | (exact hQ (by (first | omega | (simp only [show ySeat x2 = x2 from if_neg (by omega)]; omega) | (simp only [show ySeat x2 = Int32.ofInt 8 from if_pos (by omega)]; omega))) _ (by rw [show x3.toInt = 2 by omega]; first | (simp only [show ySeat x2 = x2 from if_neg (by omega)]; rfl) | (simp only [show ySeat x2 = Int32.ofInt 8 from if_pos (by omega)]; rfl)))
      · rw [yz_m1] at h_6
        refine y_aload_n rfl rfl ?_
        refine y_getR rfl (ySh.t hS rfl) (ySh.n hS rfl) rfl rfl (ySh.r hS rfl) ?_
        refine y_iload_n rfl rfl ?_
        refine y_virt rfl rfl rfl rfl rfl (ySh.t hS rfl) (ySh.n hS rfl) ?_
        refine y_in (M := xm_X4_has) (ls := [some _, some _]) rfl rfl rfl ?_
        refine y_iload_n rfl rfl ?_
        refine y_if_lt rfl j_X4_has_16 (fun h_19 => ?_) (fun h_20 => ?_)
        · refine y_iconst rfl ?_
          refine y_ireturn rfl rfl rfl ?_
          refine y_ret1 ?_
          refine y_if_eqT rfl j_X8_isParty_20 (by decide) ?_
          refine y_iconst rfl ?_
          refine y_ireturn rfl rfl rfl ?_
          refine y_ret1 ?_
          refine y_if_neF rfl (by decide) ?_
          refine y_throw rfl rfl rfl ?_
          exact hE0 (by (first | omega | (simp only [show ySeat x2 = x2 from if_neg (by omega)]; omega) | (simp only [show ySeat x2 = Int32.ofInt 8 from if_pos (by omega)]; omega)))
        · refine y_iload_n rfl rfl ?_
          refine y_aload_n rfl rfl ?_
          refine y_getIv (v := I 38 0) rfl (ySh.t hS rfl) (ySh.n hS rfl) rfl rfl rfl ?_
          refine y_icmp_ge rfl j_X4_has_16 (fun h_21 => ?_) (fun h_22 => ?_)
          · refine y_iconst rfl ?_
            refine y_ireturn rfl rfl rfl ?_
            refine y_ret1 ?_
            refine y_if_eqT rfl j_X8_isParty_20 (by decide) ?_
            refine y_iconst rfl ?_
            refine y_ireturn rfl rfl rfl ?_
            refine y_ret1 ?_
            refine y_if_neF rfl (by decide) ?_
            refine y_throw rfl rfl rfl ?_
            exact hE0 (by (first | omega | (simp only [show ySeat x2 = x2 from if_neg (by omega)]; omega) | (simp only [show ySeat x2 = Int32.ofInt 8 from if_pos (by omega)]; omega)))
          · refine y_iconst rfl ?_
            refine y_goto rfl j_X4_has_17 ?_
            refine y_ireturn rfl rfl rfl ?_
            refine y_ret1 ?_
            refine y_if_eqF rfl (by decide) ?_
            refine y_iconst rfl ?_
            refine y_goto rfl j_X8_isParty_21 ?_
            refine y_ireturn rfl rfl rfl ?_
            refine y_ret1 ?_
            refine y_if_neT rfl j_X8_ofVenture_30 (by decide) ?_
            refine y_iload_n rfl rfl ?_
            refine y_static rfl rfl rfl rfl rfl ?_
            refine y_in (M := xm_X8_placeOf) (ls := [some _]) rfl rfl rfl ?_
            refine y_iload_n rfl rfl ?_
            refine y_iconst rfl ?_
            refine y_icmp_ne rfl j_X8_placeOf_10 (fun h_23 => ?_) (fun h_24 => ?_)
            · rw [yz_m1] at h_23
              refine y_iload_n rfl rfl ?_
              refine y_ireturn rfl rfl rfl ?_
              refine y_ret1 ?_
              refine y_istore (ls' := [some _, some _, some _, some _, some _]) rfl rfl rfl ?_
              refine y_iload_n rfl rfl ?_
              refine y_sw rfl (fun h_26 => ?_) (fun h_25 => ?_)
              · refine y_swOut rfl j_X8_ofVenture_97 h_26 ?_
                refine y_throw rfl rfl rfl ?_
                exact hE1 (by (first | omega | (simp only [show ySeat x2 = x2 from if_neg (by omega)]; omega) | (simp only [show ySeat x2 = Int32.ofInt 8 from if_pos (by omega)]; omega)))
              rcases ySwC0_2 h_25 with h_25 | h_25 | h_25
              · refine y_swIn (j := 0) rfl h_25 (by decide) j_X8_ofVenture_64 ?_
                refine y_aload_n rfl rfl ?_
                refine y_getR rfl (ySh.t hS rfl) (ySh.n hS rfl) rfl rfl (ySh.r hS rfl) ?_
                refine y_iload_n rfl rfl ?_
                refine y_iload rfl rfl ?_
                refine y_virt rfl rfl rfl rfl rfl (ySh.t hS rfl) (ySh.n hS rfl) ?_
                refine y_in (M := xm_X7_capitalOf) (ls := [some _, some _, some _]) rfl rfl rfl ?_
                refine y_aload_n rfl rfl ?_
                refine y_getR rfl (ySh.t hS rfl) (ySh.n hS rfl) rfl rfl (ySh.r hS rfl) ?_
                refine y_aload_n rfl rfl ?_
                refine y_iload_n rfl rfl ?_
                refine y_iload_n rfl rfl ?_
                refine y_virt rfl rfl rfl rfl rfl (ySh.t hS rfl) (ySh.n hS rfl) ?_
                refine spx_at (by omega) (by omega) (by omega) (by omega) (fun hz27 => ?_)
                refine y_ret1 ?_
                refine y_ialoadv (J := I 71) rfl (ySh.t hS rfl) (ySh.n hS rfl) (by omega) (by omega) rfl ?_
                refine y_ireturn rfl rfl rfl ?_
                refine y_ret1 ?_
                refine y_ireturn rfl rfl rfl ?_
                first | (exfalso; omega) | (exact hQ (by (first | omega | (simp only [show ySeat x2 = x2 from if_neg (by omega)]; omega) | (simp only [show ySeat x2 = Int32.ofInt 8 from if_pos (by omega)]; omega))) _ (by rw [show x3.toInt = 0 by omega]; first | (simp only [show ySeat x2 = x2 from if_neg (by omega)]; rfl) | (simp only [show ySeat x2 = Int32.ofInt 8 from if_pos (by omega)]; rfl)))
              · refine y_swIn (j := 1) rfl h_25 (by decide) j_X8_ofVenture_75 ?_
                refine y_aload_n rfl rfl ?_
                refine y_getR rfl (ySh.t hS rfl) (ySh.n hS rfl) rfl rfl (ySh.r hS rfl) ?_
                refine y_iload_n rfl rfl ?_
                refine y_iload rfl rfl ?_
                refine y_virt rfl rfl rfl rfl rfl (ySh.t hS rfl) (ySh.n hS rfl) ?_
                refine y_in (M := xm_X7_shareOf) (ls := [some _, some _, some _]) rfl rfl rfl ?_
                refine y_aload_n rfl rfl ?_
                refine y_getR rfl (ySh.t hS rfl) (ySh.n hS rfl) rfl rfl (ySh.r hS rfl) ?_
                refine y_aload_n rfl rfl ?_
                refine y_iload_n rfl rfl ?_
                refine y_iload_n rfl rfl ?_
                refine y_virt rfl rfl rfl rfl rfl (ySh.t hS rfl) (ySh.n hS rfl) ?_
                refine spx_at (by omega) (by omega) (by omega) (by omega) (fun hz28 => ?_)
                refine y_ret1 ?_
                refine y_ialoadv (J := I 72) rfl (ySh.t hS rfl) (ySh.n hS rfl) (by omega) (by omega) rfl ?_
                refine y_ireturn rfl rfl rfl ?_
                refine y_ret1 ?_
                refine y_ireturn rfl rfl rfl ?_
                first | (exfalso; omega) | (exact hQ (by (first | omega | (simp only [show ySeat x2 = x2 from if_neg (by omega)]; omega) | (simp only [show ySeat x2 = Int32.ofInt 8 from if_pos (by omega)]; omega))) _ (by rw [show x3.toInt = 1 by omega]; first | (simp only [show ySeat x2 = x2 from if_neg (by omega)]; rfl) | (simp only [show ySeat x2 = Int32.ofInt 8 from if_pos (by omega)]; rfl)))
              · refine y_swIn (j := 2) rfl h_25 (by decide) j_X8_ofVenture_86 ?_
                refine y_aload_n rfl rfl ?_
                refine y_getR rfl (ySh.t hS rfl) (ySh.n hS rfl) rfl rfl (ySh.r hS rfl) ?_
                refine y_iload_n rfl rfl ?_
                refine y_iload rfl rfl ?_
                refine y_virt rfl rfl rfl rfl rfl (ySh.t hS rfl) (ySh.n hS rfl) ?_
                refine y_in (M := xm_X7_gainOf) (ls := [some _, some _, some _]) rfl rfl rfl ?_
                refine y_aload_n rfl rfl ?_
                refine y_getR rfl (ySh.t hS rfl) (ySh.n hS rfl) rfl rfl (ySh.r hS rfl) ?_
                refine y_aload_n rfl rfl ?_
                refine y_iload_n rfl rfl ?_
                refine y_iload_n rfl rfl ?_
                refine y_virt rfl rfl rfl rfl rfl (ySh.t hS rfl) (ySh.n hS rfl) ?_
                refine spx_at (by omega) (by omega) (by omega) (by omega) (fun hz29 => ?_)
                refine y_ret1 ?_
                refine y_ialoadv (J := I 73) rfl (ySh.t hS rfl) (ySh.n hS rfl) (by omega) (by omega) rfl ?_
                refine y_ireturn rfl rfl rfl ?_
                refine y_ret1 ?_
                refine y_ireturn rfl rfl rfl ?_
                first | (exfalso; omega) | (exact hQ (by (first | omega | (simp only [show ySeat x2 = x2 from if_neg (by omega)]; omega) | (simp only [show ySeat x2 = Int32.ofInt 8 from if_pos (by omega)]; omega))) _ (by rw [show x3.toInt = 2 by omega]; first | (simp only [show ySeat x2 = x2 from if_neg (by omega)]; rfl) | (simp only [show ySeat x2 = Int32.ofInt 8 from if_pos (by omega)]; rfl)))
            · rw [yz_m1] at h_24
              refine y_bip rfl (by decide) ?_
              refine y_goto rfl j_X8_placeOf_11 ?_
              refine y_ireturn rfl rfl rfl ?_
              refine y_ret1 ?_
              refine y_istore (ls' := [some _, some _, some _, some _, some _]) rfl rfl rfl ?_
              refine y_iload_n rfl rfl ?_
              refine y_sw rfl (fun h_31 => ?_) (fun h_30 => ?_)
              · refine y_swOut rfl j_X8_ofVenture_97 h_31 ?_
                refine y_throw rfl rfl rfl ?_
                exact hE1 (by (first | omega | (simp only [show ySeat x2 = x2 from if_neg (by omega)]; omega) | (simp only [show ySeat x2 = Int32.ofInt 8 from if_pos (by omega)]; omega)))
              rcases ySwC0_2 h_30 with h_30 | h_30 | h_30
              · refine y_swIn (j := 0) rfl h_30 (by decide) j_X8_ofVenture_64 ?_
                refine y_aload_n rfl rfl ?_
                refine y_getR rfl (ySh.t hS rfl) (ySh.n hS rfl) rfl rfl (ySh.r hS rfl) ?_
                refine y_iload_n rfl rfl ?_
                refine y_iload rfl rfl ?_
                refine y_virt rfl rfl rfl rfl rfl (ySh.t hS rfl) (ySh.n hS rfl) ?_
                refine y_in (M := xm_X7_capitalOf) (ls := [some _, some _, some _]) rfl rfl rfl ?_
                refine y_aload_n rfl rfl ?_
                refine y_getR rfl (ySh.t hS rfl) (ySh.n hS rfl) rfl rfl (ySh.r hS rfl) ?_
                refine y_aload_n rfl rfl ?_
                refine y_iload_n rfl rfl ?_
                refine y_iload_n rfl rfl ?_
                refine y_virt rfl rfl rfl rfl rfl (ySh.t hS rfl) (ySh.n hS rfl) ?_
                refine spx_at (by omega) (by omega) (by decide) (by decide) (fun hz32 => ?_)
                rw [yz_8] at hz32
                refine y_ret1 ?_
                refine y_ialoadv (J := I 71) rfl (ySh.t hS rfl) (ySh.n hS rfl) (by omega) (by omega) rfl ?_
                refine y_ireturn rfl rfl rfl ?_
                refine y_ret1 ?_
                refine y_ireturn rfl rfl rfl ?_
                first | (exfalso; omega) | (exact hQ (by (first | omega | (simp only [show ySeat x2 = x2 from if_neg (by omega)]; omega) | (simp only [show ySeat x2 = Int32.ofInt 8 from if_pos (by omega)]; omega))) _ (by rw [show x3.toInt = 0 by omega]; first | (simp only [show ySeat x2 = x2 from if_neg (by omega)]; rfl) | (simp only [show ySeat x2 = Int32.ofInt 8 from if_pos (by omega)]; rfl)))
              · refine y_swIn (j := 1) rfl h_30 (by decide) j_X8_ofVenture_75 ?_
                refine y_aload_n rfl rfl ?_
                refine y_getR rfl (ySh.t hS rfl) (ySh.n hS rfl) rfl rfl (ySh.r hS rfl) ?_
                refine y_iload_n rfl rfl ?_
                refine y_iload rfl rfl ?_
                refine y_virt rfl rfl rfl rfl rfl (ySh.t hS rfl) (ySh.n hS rfl) ?_
                refine y_in (M := xm_X7_shareOf) (ls := [some _, some _, some _]) rfl rfl rfl ?_
                refine y_aload_n rfl rfl ?_
                refine y_getR rfl (ySh.t hS rfl) (ySh.n hS rfl) rfl rfl (ySh.r hS rfl) ?_
                refine y_aload_n rfl rfl ?_
                refine y_iload_n rfl rfl ?_
                refine y_iload_n rfl rfl ?_
                refine y_virt rfl rfl rfl rfl rfl (ySh.t hS rfl) (ySh.n hS rfl) ?_
                refine spx_at (by omega) (by omega) (by decide) (by decide) (fun hz33 => ?_)
                rw [yz_8] at hz33
                refine y_ret1 ?_
                refine y_ialoadv (J := I 72) rfl (ySh.t hS rfl) (ySh.n hS rfl) (by omega) (by omega) rfl ?_
                refine y_ireturn rfl rfl rfl ?_
                refine y_ret1 ?_
                refine y_ireturn rfl rfl rfl ?_
                first | (exfalso; omega) | (exact hQ (by (first | omega | (simp only [show ySeat x2 = x2 from if_neg (by omega)]; omega) | (simp only [show ySeat x2 = Int32.ofInt 8 from if_pos (by omega)]; omega))) _ (by rw [show x3.toInt = 1 by omega]; first | (simp only [show ySeat x2 = x2 from if_neg (by omega)]; rfl) | (simp only [show ySeat x2 = Int32.ofInt 8 from if_pos (by omega)]; rfl)))
              · refine y_swIn (j := 2) rfl h_30 (by decide) j_X8_ofVenture_86 ?_
                refine y_aload_n rfl rfl ?_
                refine y_getR rfl (ySh.t hS rfl) (ySh.n hS rfl) rfl rfl (ySh.r hS rfl) ?_
                refine y_iload_n rfl rfl ?_
                refine y_iload rfl rfl ?_
                refine y_virt rfl rfl rfl rfl rfl (ySh.t hS rfl) (ySh.n hS rfl) ?_
                refine y_in (M := xm_X7_gainOf) (ls := [some _, some _, some _]) rfl rfl rfl ?_
                refine y_aload_n rfl rfl ?_
                refine y_getR rfl (ySh.t hS rfl) (ySh.n hS rfl) rfl rfl (ySh.r hS rfl) ?_
                refine y_aload_n rfl rfl ?_
                refine y_iload_n rfl rfl ?_
                refine y_iload_n rfl rfl ?_
                refine y_virt rfl rfl rfl rfl rfl (ySh.t hS rfl) (ySh.n hS rfl) ?_
                refine spx_at (by omega) (by omega) (by decide) (by decide) (fun hz34 => ?_)
                rw [yz_8] at hz34
                refine y_ret1 ?_
                refine y_ialoadv (J := I 73) rfl (ySh.t hS rfl) (ySh.n hS rfl) (by omega) (by omega) rfl ?_
                refine y_ireturn rfl rfl rfl ?_
                refine y_ret1 ?_
                refine y_ireturn rfl rfl rfl ?_
                first | (exfalso; omega) | (exact hQ (by (first | omega | (simp only [show ySeat x2 = x2 from if_neg (by omega)]; omega) | (simp only [show ySeat x2 = Int32.ofInt 8 from if_pos (by omega)]; omega))) _ (by rw [show x3.toInt = 2 by omega]; first | (simp only [show ySeat x2 = x2 from if_neg (by omega)]; rfl) | (simp only [show ySeat x2 = Int32.ofInt 8 from if_pos (by omega)]; rfl)))
end YXV8
section YXW8
variable {K nb n : Nat} {tg : Nat → yT} {I : Nat → Nat → Int32} {R : Nat → Nat → Value} {c s : Nat} {Q : yQ}
end YXW8
