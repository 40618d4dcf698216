/-! THE CLASS: its methods, safe (by gen19.py) -/
section YMET
variable {n : Nat} {tg : Nat → yT} {I : Nat → Nat → Int32} {R : Nat → Nat → Value} {c s : Nat} {Q : yQ}
theorem sp_isOpen_X5 (hS : ySh n tg R) (hC : yCI I) {x1 : Int32} (hv0 : 0 ≤ x1.toInt) (hv1 : x1.toInt < 12) (hQ1 : Q (.inl (some (.int (Int32.ofInt 1)))) (n, tg, I, R) c s) (hQ0 : Q (.inl (some (.int (Int32.ofInt 0)))) (n, tg, I, R) c s) : yC 81 [.ref 48, .int x1] (n, tg, I, R) c s Q := by
  refine y_in (M := xm_X5_isOpen) (ls := [some _, some _]) rfl rfl rfl ?_
  refine y_aload_n rfl rfl ?_
  refine y_iload_n rfl rfl ?_
  refine y_virt rfl rfl rfl rfl rfl (ySh.t hS rfl) (ySh.n hS rfl) ?_
  refine y_in (M := xm_X5_isVoid) (ls := [some _, some _]) rfl rfl rfl ?_
  refine y_aload_n rfl rfl ?_
  refine y_getR rfl (ySh.t hS rfl) (ySh.n hS rfl) rfl rfl (ySh.r hS rfl) ?_
  refine y_iload_n rfl rfl ?_
  refine y_iaload rfl (ySh.t hS rfl) (ySh.n hS rfl) (by omega) (by omega) ?_
  refine y_if_eq rfl j_X5_isVoid_13 (fun h_1 => ?_) (fun h_2 => ?_)
  · refine y_iconst rfl ?_
    refine y_ireturn rfl rfl rfl ?_
    refine y_ret1 ?_
    refine y_if_neF rfl (by decide) ?_
    refine y_aload_n rfl rfl ?_
    refine y_getR rfl (ySh.t hS rfl) (ySh.n hS rfl) rfl rfl (ySh.r hS rfl) ?_
    refine y_iload_n rfl rfl ?_
    refine y_iaload rfl (ySh.t hS rfl) (ySh.n hS rfl) (by omega) (by omega) ?_
    refine y_aload_n rfl rfl ?_
    refine y_getR rfl (ySh.t hS rfl) (ySh.n hS rfl) rfl rfl (ySh.r hS rfl) ?_
    refine y_iload_n rfl rfl ?_
    refine y_iaload rfl (ySh.t hS rfl) (ySh.n hS rfl) (by omega) (by omega) ?_
    refine y_icmp_ge rfl j_X5_isOpen_27 (fun h_3 => ?_) (fun h_4 => ?_)
    · refine y_iconst rfl ?_
      refine y_ireturn rfl rfl rfl ?_
      exact hQ0
    · refine y_iconst rfl ?_
      refine y_goto rfl j_X5_isOpen_28 ?_
      refine y_ireturn rfl rfl rfl ?_
      exact hQ1
  · refine y_iconst rfl ?_
    refine y_goto rfl j_X5_isVoid_14 ?_
    refine y_ireturn rfl rfl rfl ?_
    refine y_ret1 ?_
    refine y_if_neT rfl j_X5_isOpen_27 (by decide) ?_
    refine y_iconst rfl ?_
    refine y_ireturn rfl rfl rfl ?_
    exact hQ0
theorem sp_nextPart_X5 (hS : ySh n tg R) (hC : yCI I) {x1 : Int32} (hv0 : 0 ≤ x1.toInt) (hv1 : x1.toInt < 12) (hQ : ∀ v, Q (.inl (some (.int v))) (n, tg, I, R) c s) : yC 85 [.ref 48, .int x1] (n, tg, I, R) c s Q := by
  refine y_in (M := xm_X5_nextPart) (ls := [some _, some _]) rfl rfl rfl ?_
  refine y_aload_n rfl rfl ?_
  refine y_iload_n rfl rfl ?_
  refine y_virt rfl rfl rfl rfl rfl (ySh.t hS rfl) (ySh.n hS rfl) ?_
  refine y_in (M := xm_X5_partsLeft) (ls := [some _, some _]) rfl rfl rfl ?_
  refine y_aload_n rfl rfl ?_
  refine y_iload_n rfl rfl ?_
  refine y_virt rfl rfl rfl rfl rfl (ySh.t hS rfl) (ySh.n hS rfl) ?_
  refine sp_isOpen_X5 hS hC (by omega) (by omega) ?_ ?_
  · refine y_ret1 ?_
    refine y_if_eqF rfl (by decide) ?_
    refine y_aload_n rfl rfl ?_
    refine y_getR rfl (ySh.t hS rfl) (ySh.n hS rfl) rfl rfl (ySh.r hS rfl) ?_
    refine y_iload_n rfl rfl ?_
    refine y_iaload rfl (ySh.t hS rfl) (ySh.n hS rfl) (by omega) (by omega) ?_
    refine y_aload_n rfl rfl ?_
    refine y_getR rfl (ySh.t hS rfl) (ySh.n hS rfl) rfl rfl (ySh.r hS rfl) ?_
    refine y_iload_n rfl rfl ?_
    refine y_iaload rfl (ySh.t hS rfl) (ySh.n hS rfl) (by omega) (by omega) ?_
    refine y_isub rfl ?_
    refine y_goto rfl j_X5_partsLeft_25 ?_
    refine y_ireturn rfl rfl rfl ?_
    refine y_ret1 ?_
    refine y_iconst rfl ?_
    refine y_icmp_le rfl j_X5_nextPart_17 (fun h_1 => ?_) (fun h_2 => ?_)
    · rw [yz_1] at h_1
      refine y_aload_n rfl rfl ?_
      refine y_iload_n rfl rfl ?_
      refine y_virt rfl rfl rfl rfl rfl (ySh.t hS rfl) (ySh.n hS rfl) ?_
      refine y_in (M := xm_X5_debt) (ls := [some _, some _]) rfl rfl rfl ?_
      refine y_aload_n rfl rfl ?_
      refine y_iload_n rfl rfl ?_
      refine y_virt rfl rfl rfl rfl rfl (ySh.t hS rfl) (ySh.n hS rfl) ?_
      refine sp_isOpen_X5 hS hC (by omega) (by omega) ?_ ?_
      · refine y_ret1 ?_
        refine y_if_eqF rfl (by decide) ?_
        refine y_aload_n rfl rfl ?_
        refine y_getR rfl (ySh.t hS rfl) (ySh.n hS rfl) rfl rfl (ySh.r hS rfl) ?_
        refine y_iload_n rfl rfl ?_
        refine y_iaload rfl (ySh.t hS rfl) (ySh.n hS rfl) (by omega) (by omega) ?_
        refine y_aload_n rfl rfl ?_
        refine y_getR rfl (ySh.t hS rfl) (ySh.n hS rfl) rfl rfl (ySh.r hS rfl) ?_
        refine y_iload_n rfl rfl ?_
        refine y_iaload rfl (ySh.t hS rfl) (ySh.n hS rfl) (by omega) (by omega) ?_
        refine y_aload_n rfl rfl ?_
        refine y_iload_n rfl rfl ?_
        refine y_virt rfl rfl rfl rfl rfl (ySh.t hS rfl) (ySh.n hS rfl) ?_
        refine y_in (M := xm_X5_plainPart) (ls := [some _, some _]) rfl rfl rfl ?_
        refine y_aload_n rfl rfl ?_
        refine y_getR rfl (ySh.t hS rfl) (ySh.n hS rfl) rfl rfl (ySh.r hS rfl) ?_
        refine y_iload_n rfl rfl ?_
        refine y_iaload rfl (ySh.t hS rfl) (ySh.n hS rfl) (by omega) (by omega) ?_
        refine y_i2l rfl ?_
        refine y_lconst rfl ?_
        refine y_aload_n rfl rfl ?_
        refine y_getR rfl (ySh.t hS rfl) (ySh.n hS rfl) rfl rfl (ySh.r hS rfl) ?_
        refine y_iload_n rfl rfl ?_
        refine y_iaload rfl (ySh.t hS rfl) (ySh.n hS rfl) (by omega) (by omega) ?_
        refine y_i2l rfl ?_
        refine y_static rfl rfl rfl rfl rfl ?_
        refine sp_portion ?_
        refine y_ret1 ?_
        refine y_ireturn rfl rfl rfl ?_
        refine y_ret1 ?_
        refine y_imul rfl ?_
        refine y_isub rfl ?_
        refine y_goto rfl j_X5_debt_31 ?_
        refine y_ireturn rfl rfl rfl ?_
        refine y_ret1 ?_
        refine y_ireturn rfl rfl rfl ?_
        exact hQ _
      · refine y_ret1 ?_
        refine y_if_eqT rfl j_X5_debt_30 (by decide) ?_
        refine y_iconst rfl ?_
        refine y_ireturn rfl rfl rfl ?_
        refine y_ret1 ?_
        refine y_ireturn rfl rfl rfl ?_
        exact hQ _
    · rw [yz_1] at h_2
      refine y_aload_n rfl rfl ?_
      refine y_iload_n rfl rfl ?_
      refine y_virt rfl rfl rfl rfl rfl (ySh.t hS rfl) (ySh.n hS rfl) ?_
      refine y_in (M := xm_X5_plainPart) (ls := [some _, some _]) rfl rfl rfl ?_
      refine y_aload_n rfl rfl ?_
      refine y_getR rfl (ySh.t hS rfl) (ySh.n hS rfl) rfl rfl (ySh.r hS rfl) ?_
      refine y_iload_n rfl rfl ?_
      refine y_iaload rfl (ySh.t hS rfl) (ySh.n hS rfl) (by omega) (by omega) ?_
      refine y_i2l rfl ?_
      refine y_lconst rfl ?_
      refine y_aload_n rfl rfl ?_
      refine y_getR rfl (ySh.t hS rfl) (ySh.n hS rfl) rfl rfl (ySh.r hS rfl) ?_
      refine y_iload_n rfl rfl ?_
      refine y_iaload rfl (ySh.t hS rfl) (ySh.n hS rfl) (by omega) (by omega) ?_
      refine y_i2l rfl ?_
      refine y_static rfl rfl rfl rfl rfl ?_
      refine sp_portion ?_
      refine y_ret1 ?_
      refine y_ireturn rfl rfl rfl ?_
      refine y_ret1 ?_
      refine y_goto rfl j_X5_nextPart_22 ?_
      refine y_ireturn rfl rfl rfl ?_
      exact hQ _
  · refine y_ret1 ?_
    refine y_if_eqT rfl j_X5_partsLeft_24 (by decide) ?_
    refine y_iconst rfl ?_
    refine y_ireturn rfl rfl rfl ?_
    refine y_ret1 ?_
    refine y_iconst rfl ?_
    refine y_icmp_leT rfl j_X5_nextPart_17 (by decide) ?_
    refine y_aload_n rfl rfl ?_
    refine y_iload_n rfl rfl ?_
    refine y_virt rfl rfl rfl rfl rfl (ySh.t hS rfl) (ySh.n hS rfl) ?_
    refine y_in (M := xm_X5_debt) (ls := [some _, some _]) rfl rfl rfl ?_
    refine y_aload_n rfl rfl ?_
    refine y_iload_n rfl rfl ?_
    refine y_virt rfl rfl rfl rfl rfl (ySh.t hS rfl) (ySh.n hS rfl) ?_
    refine sp_isOpen_X5 hS hC (by omega) (by omega) ?_ ?_
    · refine y_ret1 ?_
      refine y_if_eqF rfl (by decide) ?_
      refine y_aload_n rfl rfl ?_
      refine y_getR rfl (ySh.t hS rfl) (ySh.n hS rfl) rfl rfl (ySh.r hS rfl) ?_
      refine y_iload_n rfl rfl ?_
      refine y_iaload rfl (ySh.t hS rfl) (ySh.n hS rfl) (by omega) (by omega) ?_
      refine y_aload_n rfl rfl ?_
      refine y_getR rfl (ySh.t hS rfl) (ySh.n hS rfl) rfl rfl (ySh.r hS rfl) ?_
      refine y_iload_n rfl rfl ?_
      refine y_iaload rfl (ySh.t hS rfl) (ySh.n hS rfl) (by omega) (by omega) ?_
      refine y_aload_n rfl rfl ?_
      refine y_iload_n rfl rfl ?_
      refine y_virt rfl rfl rfl rfl rfl (ySh.t hS rfl) (ySh.n hS rfl) ?_
      refine y_in (M := xm_X5_plainPart) (ls := [some _, some _]) rfl rfl rfl ?_
      refine y_aload_n rfl rfl ?_
      refine y_getR rfl (ySh.t hS rfl) (ySh.n hS rfl) rfl rfl (ySh.r hS rfl) ?_
      refine y_iload_n rfl rfl ?_
      refine y_iaload rfl (ySh.t hS rfl) (ySh.n hS rfl) (by omega) (by omega) ?_
      refine y_i2l rfl ?_
      refine y_lconst rfl ?_
      refine y_aload_n rfl rfl ?_
      refine y_getR rfl (ySh.t hS rfl) (ySh.n hS rfl) rfl rfl (ySh.r hS rfl) ?_
      refine y_iload_n rfl rfl ?_
      refine y_iaload rfl (ySh.t hS rfl) (ySh.n hS rfl) (by omega) (by omega) ?_
      refine y_i2l rfl ?_
      refine y_static rfl rfl rfl rfl rfl ?_
      refine sp_portion ?_
      refine y_ret1 ?_
      refine y_ireturn rfl rfl rfl ?_
      refine y_ret1 ?_
      refine y_imul rfl ?_
      refine y_isub rfl ?_
      refine y_goto rfl j_X5_debt_31 ?_
      refine y_ireturn rfl rfl rfl ?_
      refine y_ret1 ?_
      refine y_ireturn rfl rfl rfl ?_
      exact hQ _
    · refine y_ret1 ?_
      refine y_if_eqT rfl j_X5_debt_30 (by decide) ?_
      refine y_iconst rfl ?_
      refine y_ireturn rfl rfl rfl ?_
      refine y_ret1 ?_
      refine y_ireturn rfl rfl rfl ?_
      exact hQ _
theorem sp_nextDay_X5 (hS : ySh n tg R) (hC : yCI I) {x1 : Int32} (hv0 : 0 ≤ x1.toInt) (hv1 : x1.toInt < 12) (hQ : ∀ v, Q (.inl (some (.int v))) (n, tg, I, R) c s) : yC 86 [.ref 48, .int x1] (n, tg, I, R) c s Q := by
  refine y_in (M := xm_X5_nextDay) (ls := [some _, some _]) rfl rfl rfl ?_
  refine y_aload_n rfl rfl ?_
  refine y_iload_n rfl rfl ?_
  refine y_virt rfl rfl rfl rfl rfl (ySh.t hS rfl) (ySh.n hS rfl) ?_
  refine sp_isOpen_X5 hS hC (by omega) (by omega) ?_ ?_
  · refine y_ret1 ?_
    refine y_if_eqF rfl (by decide) ?_
    refine y_aload_n rfl rfl ?_
    refine y_getR rfl (ySh.t hS rfl) (ySh.n hS rfl) rfl rfl (ySh.r hS rfl) ?_
    refine y_iload_n rfl rfl ?_
    refine y_iaload rfl (ySh.t hS rfl) (ySh.n hS rfl) (by omega) (by omega) ?_
    refine y_bip rfl (by decide) ?_
    refine y_aload_n rfl rfl ?_
    refine y_getR rfl (ySh.t hS rfl) (ySh.n hS rfl) rfl rfl (ySh.r hS rfl) ?_
    refine y_iload_n rfl rfl ?_
    refine y_iaload rfl (ySh.t hS rfl) (ySh.n hS rfl) (by omega) (by omega) ?_
    refine y_iconst rfl ?_
    refine y_iadd rfl ?_
    refine y_imul rfl ?_
    refine y_iadd rfl ?_
    refine y_goto rfl j_X5_nextDay_30 ?_
    refine y_ireturn rfl rfl rfl ?_
    exact hQ _
  · refine y_ret1 ?_
    refine y_if_eqT rfl j_X5_nextDay_29 (by decide) ?_
    refine y_iconst rfl ?_
    refine y_ireturn rfl rfl rfl ?_
    exact hQ _
theorem sp_missingPillars_X8 (hS : ySh n tg R) (hC : yCI I) {x1 x2 : Int32} (hv0 : 0 ≤ x1.toInt) (hv1 : x1.toInt < 16) (hQ : ∀ v, Q (.inl (some (.int v))) (n, tg, I, R) c s) : yC 167 [.ref 34, .int x1, .int x2] (n, tg, I, R) c s Q := by
  refine y_in (M := xm_X8_missingPillars) (ls := [some _, some _, some _, _]) rfl rfl rfl ?_
  refine y_iconst rfl ?_
  refine y_istore_n (ls' := [some _, some _, some _, some _]) rfl rfl rfl ?_
  refine y_aload_n rfl rfl ?_
  refine y_getR rfl (ySh.t hS rfl) (ySh.n hS rfl) rfl rfl (ySh.r hS rfl) ?_
  refine y_getR rfl (ySh.t hS rfl) (ySh.n hS rfl) rfl rfl (ySh.r hS rfl) ?_
  refine y_iload_n rfl rfl ?_
  refine y_iaload rfl (ySh.t hS rfl) (ySh.n hS rfl) (by omega) (by omega) ?_
  refine y_bip rfl (by decide) ?_
  refine y_icmp_eq rfl j_X8_missingPillars_23 (fun h_1 => ?_) (fun h_2 => ?_)
  · rw [yz_8] at h_1
    refine y_aload_n rfl rfl ?_
    refine y_getR rfl (ySh.t hS rfl) (ySh.n hS rfl) rfl rfl (ySh.r hS rfl) ?_
    refine y_getR rfl (ySh.t hS rfl) (ySh.n hS rfl) rfl rfl (ySh.r hS rfl) ?_
    refine y_iload_n rfl rfl ?_
    refine y_baload rfl (ySh.t hS rfl) rfl (ySh.n hS rfl) (by omega) (by omega) ?_
    refine y_if_ne rfl j_X8_missingPillars_50 (fun h_3 => ?_) (fun h_4 => ?_)
    · refine y_aload_n rfl rfl ?_
      refine y_getR rfl (ySh.t hS rfl) (ySh.n hS rfl) rfl rfl (ySh.r hS rfl) ?_
      refine y_getR rfl (ySh.t hS rfl) (ySh.n hS rfl) rfl rfl (ySh.r hS rfl) ?_
      refine y_iload_n rfl rfl ?_
      refine y_baload rfl (ySh.t hS rfl) rfl (ySh.n hS rfl) (by omega) (by omega) ?_
      refine y_if_eq rfl j_X8_missingPillars_66 (fun h_5 => ?_) (fun h_6 => ?_)
      · refine y_aload_n rfl rfl ?_
        refine y_getR rfl (ySh.t hS rfl) (ySh.n hS rfl) rfl rfl (ySh.r hS rfl) ?_
        refine y_getR rfl (ySh.t hS rfl) (ySh.n hS rfl) rfl rfl (ySh.r hS rfl) ?_
        refine y_iload_n rfl rfl ?_
        refine y_iaload rfl (ySh.t hS rfl) (ySh.n hS rfl) (by omega) (by omega) ?_
        refine y_iload_n rfl rfl ?_
        refine y_icmp_ne rfl j_X8_missingPillars_84 (fun h_7 => ?_) (fun h_8 => ?_)
        · refine y_iload_n rfl rfl ?_
          refine y_ireturn rfl rfl rfl ?_
          exact hQ _
        · refine y_iload_n rfl rfl ?_
          refine y_bip rfl (by decide) ?_
          refine y_ior rfl ?_
          refine y_istore_n (ls' := [some _, some _, some _, some _]) rfl rfl rfl ?_
          refine y_iload_n rfl rfl ?_
          refine y_ireturn rfl rfl rfl ?_
          exact hQ _
      · refine y_iload_n rfl rfl ?_
        refine y_iconst rfl ?_
        refine y_ior rfl ?_
        refine y_istore_n (ls' := [some _, some _, some _, some _]) rfl rfl rfl ?_
        refine y_aload_n rfl rfl ?_
        refine y_getR rfl (ySh.t hS rfl) (ySh.n hS rfl) rfl rfl (ySh.r hS rfl) ?_
        refine y_getR rfl (ySh.t hS rfl) (ySh.n hS rfl) rfl rfl (ySh.r hS rfl) ?_
        refine y_iload_n rfl rfl ?_
        refine y_iaload rfl (ySh.t hS rfl) (ySh.n hS rfl) (by omega) (by omega) ?_
        refine y_iload_n rfl rfl ?_
        refine y_icmp_ne rfl j_X8_missingPillars_84 (fun h_9 => ?_) (fun h_10 => ?_)
        · refine y_iload_n rfl rfl ?_
          refine y_ireturn rfl rfl rfl ?_
          exact hQ _
        · refine y_iload_n rfl rfl ?_
          refine y_bip rfl (by decide) ?_
          refine y_ior rfl ?_
          refine y_istore_n (ls' := [some _, some _, some _, some _]) rfl rfl rfl ?_
          refine y_iload_n rfl rfl ?_
          refine y_ireturn rfl rfl rfl ?_
          exact hQ _
    · refine y_aload_n rfl rfl ?_
      refine y_getR rfl (ySh.t hS rfl) (ySh.n hS rfl) rfl rfl (ySh.r hS rfl) ?_
      refine y_iconst rfl ?_
      refine y_virt rfl rfl rfl rfl rfl (ySh.t hS rfl) (ySh.n hS rfl) ?_
      refine sp_isAllowedNow hS (by decide) (by decide) (fun h_11 => ?_) (fun h_12 => ?_)
      · refine y_ret1 ?_
        refine y_if_neT rfl j_X8_missingPillars_50 (by decide) ?_
        refine y_aload_n rfl rfl ?_
        refine y_getR rfl (ySh.t hS rfl) (ySh.n hS rfl) rfl rfl (ySh.r hS rfl) ?_
        refine y_getR rfl (ySh.t hS rfl) (ySh.n hS rfl) rfl rfl (ySh.r hS rfl) ?_
        refine y_iload_n rfl rfl ?_
        refine y_baload rfl (ySh.t hS rfl) rfl (ySh.n hS rfl) (by omega) (by omega) ?_
        refine y_if_eq rfl j_X8_missingPillars_66 (fun h_13 => ?_) (fun h_14 => ?_)
        · refine y_aload_n rfl rfl ?_
          refine y_getR rfl (ySh.t hS rfl) (ySh.n hS rfl) rfl rfl (ySh.r hS rfl) ?_
          refine y_getR rfl (ySh.t hS rfl) (ySh.n hS rfl) rfl rfl (ySh.r hS rfl) ?_
          refine y_iload_n rfl rfl ?_
          refine y_iaload rfl (ySh.t hS rfl) (ySh.n hS rfl) (by omega) (by omega) ?_
          refine y_iload_n rfl rfl ?_
          refine y_icmp_ne rfl j_X8_missingPillars_84 (fun h_15 => ?_) (fun h_16 => ?_)
          · refine y_iload_n rfl rfl ?_
            refine y_ireturn rfl rfl rfl ?_
            exact hQ _
          · refine y_iload_n rfl rfl ?_
            refine y_bip rfl (by decide) ?_
            refine y_ior rfl ?_
            refine y_istore_n (ls' := [some _, some _, some _, some _]) rfl rfl rfl ?_
            refine y_iload_n rfl rfl ?_
            refine y_ireturn rfl rfl rfl ?_
            exact hQ _
        · refine y_iload_n rfl rfl ?_
          refine y_iconst rfl ?_
          refine y_ior rfl ?_
          refine y_istore_n (ls' := [some _, some _, some _, some _]) rfl rfl rfl ?_
          refine y_aload_n rfl rfl ?_
          refine y_getR rfl (ySh.t hS rfl) (ySh.n hS rfl) rfl rfl (ySh.r hS rfl) ?_
          refine y_getR rfl (ySh.t hS rfl) (ySh.n hS rfl) rfl rfl (ySh.r hS rfl) ?_
          refine y_iload_n rfl rfl ?_
          refine y_iaload rfl (ySh.t hS rfl) (ySh.n hS rfl) (by omega) (by omega) ?_
          refine y_iload_n rfl rfl ?_
          refine y_icmp_ne rfl j_X8_missingPillars_84 (fun h_17 => ?_) (fun h_18 => ?_)
          · refine y_iload_n rfl rfl ?_
            refine y_ireturn rfl rfl rfl ?_
            exact hQ _
          · refine y_iload_n rfl rfl ?_
            refine y_bip rfl (by decide) ?_
            refine y_ior rfl ?_
            refine y_istore_n (ls' := [some _, some _, some _, some _]) rfl rfl rfl ?_
            refine y_iload_n rfl rfl ?_
            refine y_ireturn rfl rfl rfl ?_
            exact hQ _
      · refine y_ret1 ?_
        refine y_if_neF rfl (by decide) ?_
        refine y_iload_n rfl rfl ?_
        refine y_iconst rfl ?_
        refine y_ior rfl ?_
        refine y_istore_n (ls' := [some _, some _, some _, some _]) rfl rfl rfl ?_
        refine y_aload_n rfl rfl ?_
        refine y_getR rfl (ySh.t hS rfl) (ySh.n hS rfl) rfl rfl (ySh.r hS rfl) ?_
        refine y_getR rfl (ySh.t hS rfl) (ySh.n hS rfl) rfl rfl (ySh.r hS rfl) ?_
        refine y_iload_n rfl rfl ?_
        refine y_baload rfl (ySh.t hS rfl) rfl (ySh.n hS rfl) (by omega) (by omega) ?_
        refine y_if_eq rfl j_X8_missingPillars_66 (fun h_19 => ?_) (fun h_20 => ?_)
        · refine y_aload_n rfl rfl ?_
          refine y_getR rfl (ySh.t hS rfl) (ySh.n hS rfl) rfl rfl (ySh.r hS rfl) ?_
          refine y_getR rfl (ySh.t hS rfl) (ySh.n hS rfl) rfl rfl (ySh.r hS rfl) ?_
          refine y_iload_n rfl rfl ?_
          refine y_iaload rfl (ySh.t hS rfl) (ySh.n hS rfl) (by omega) (by omega) ?_
          refine y_iload_n rfl rfl ?_
          refine y_icmp_ne rfl j_X8_missingPillars_84 (fun h_21 => ?_) (fun h_22 => ?_)
          · refine y_iload_n rfl rfl ?_
            refine y_ireturn rfl rfl rfl ?_
            exact hQ _
          · refine y_iload_n rfl rfl ?_
            refine y_bip rfl (by decide) ?_
            refine y_ior rfl ?_
            refine y_istore_n (ls' := [some _, some _, some _, some _]) rfl rfl rfl ?_
            refine y_iload_n rfl rfl ?_
            refine y_ireturn rfl rfl rfl ?_
            exact hQ _
        · refine y_iload_n rfl rfl ?_
          refine y_iconst rfl ?_
          refine y_ior rfl ?_
          refine y_istore_n (ls' := [some _, some _, some _, some _]) rfl rfl rfl ?_
          refine y_aload_n rfl rfl ?_
          refine y_getR rfl (ySh.t hS rfl) (ySh.n hS rfl) rfl rfl (ySh.r hS rfl) ?_
          refine y_getR rfl (ySh.t hS rfl) (ySh.n hS rfl) rfl rfl (ySh.r hS rfl) ?_
          refine y_iload_n rfl rfl ?_
          refine y_iaload rfl (ySh.t hS rfl) (ySh.n hS rfl) (by omega) (by omega) ?_
          refine y_iload_n rfl rfl ?_
          refine y_icmp_ne rfl j_X8_missingPillars_84 (fun h_23 => ?_) (fun h_24 => ?_)
          · refine y_iload_n rfl rfl ?_
            refine y_ireturn rfl rfl rfl ?_
            exact hQ _
          · refine y_iload_n rfl rfl ?_
            refine y_bip rfl (by decide) ?_
            refine y_ior rfl ?_
            refine y_istore_n (ls' := [some _, some _, some _, some _]) rfl rfl rfl ?_
            refine y_iload_n rfl rfl ?_
            refine y_ireturn rfl rfl rfl ?_
            exact hQ _
  · rw [yz_8] at h_2
    refine y_iload_n rfl rfl ?_
    refine y_iconst rfl ?_
    refine y_ior rfl ?_
    refine y_istore_n (ls' := [some _, some _, some _, some _]) rfl rfl rfl ?_
    refine y_goto rfl j_X8_missingPillars_50 ?_
    refine y_aload_n rfl rfl ?_
    refine y_getR rfl (ySh.t hS rfl) (ySh.n hS rfl) rfl rfl (ySh.r hS rfl) ?_
    refine y_getR rfl (ySh.t hS rfl) (ySh.n hS rfl) rfl rfl (ySh.r hS rfl) ?_
    refine y_iload_n rfl rfl ?_
    refine y_baload rfl (ySh.t hS rfl) rfl (ySh.n hS rfl) (by omega) (by omega) ?_
    refine y_if_eq rfl j_X8_missingPillars_66 (fun h_25 => ?_) (fun h_26 => ?_)
    · refine y_aload_n rfl rfl ?_
      refine y_getR rfl (ySh.t hS rfl) (ySh.n hS rfl) rfl rfl (ySh.r hS rfl) ?_
      refine y_getR rfl (ySh.t hS rfl) (ySh.n hS rfl) rfl rfl (ySh.r hS rfl) ?_
      refine y_iload_n rfl rfl ?_
      refine y_iaload rfl (ySh.t hS rfl) (ySh.n hS rfl) (by omega) (by omega) ?_
      refine y_iload_n rfl rfl ?_
      refine y_icmp_ne rfl j_X8_missingPillars_84 (fun h_27 => ?_) (fun h_28 => ?_)
      · refine y_iload_n rfl rfl ?_
        refine y_ireturn rfl rfl rfl ?_
        exact hQ _
      · refine y_iload_n rfl rfl ?_
        refine y_bip rfl (by decide) ?_
        refine y_ior rfl ?_
        refine y_istore_n (ls' := [some _, some _, some _, some _]) rfl rfl rfl ?_
        refine y_iload_n rfl rfl ?_
        refine y_ireturn rfl rfl rfl ?_
        exact hQ _
    · refine y_iload_n rfl rfl ?_
      refine y_iconst rfl ?_
      refine y_ior rfl ?_
      refine y_istore_n (ls' := [some _, some _, some _, some _]) rfl rfl rfl ?_
      refine y_aload_n rfl rfl ?_
      refine y_getR rfl (ySh.t hS rfl) (ySh.n hS rfl) rfl rfl (ySh.r hS rfl) ?_
      refine y_getR rfl (ySh.t hS rfl) (ySh.n hS rfl) rfl rfl (ySh.r hS rfl) ?_
      refine y_iload_n rfl rfl ?_
      refine y_iaload rfl (ySh.t hS rfl) (ySh.n hS rfl) (by omega) (by omega) ?_
      refine y_iload_n rfl rfl ?_
      refine y_icmp_ne rfl j_X8_missingPillars_84 (fun h_29 => ?_) (fun h_30 => ?_)
      · refine y_iload_n rfl rfl ?_
        refine y_ireturn rfl rfl rfl ?_
        exact hQ _
      · refine y_iload_n rfl rfl ?_
        refine y_bip rfl (by decide) ?_
        refine y_ior rfl ?_
        refine y_istore_n (ls' := [some _, some _, some _, some _]) rfl rfl rfl ?_
        refine y_iload_n rfl rfl ?_
        refine y_ireturn rfl rfl rfl ?_
        exact hQ _
theorem m_ofPerson (hS : ySh n tg R) (hC : yCI I) {x1 x2 : Int32} (hE0 : ¬ (0 ≤ x1.toInt ∧ x1.toInt < (I 38 0).toInt) → Q (.inr "java/lang/IndexOutOfBoundsException") (n, tg, I, R) (c + 1) (s + 6)) (hE1 : ¬ (0 ≤ x2.toInt ∧ x2.toInt ≤ 7) → Q (.inr "java/lang/IllegalArgumentException") (n, tg, I, R) (c + 1) (s + 6)) (hQ : ∀ v, Q (.inl (some (.int v))) (n, tg, I, R) c s) : yC 142 [.ref 34, .int x1, .int x2] (n, tg, I, R) c s Q := by
  refine y_in (M := xm_X8_ofPerson) (ls := [some _, some _, some _]) rfl rfl rfl ?_
  refine y_aload_n rfl rfl ?_
  refine y_getR rfl (ySh.t hS rfl) (ySh.n hS rfl) rfl rfl (ySh.r hS rfl) ?_
  refine y_iload_n rfl rfl ?_
  refine y_virt rfl rfl rfl rfl rfl (ySh.t hS rfl) (ySh.n hS rfl) ?_
  refine y_in (M := xm_X4_has) (ls := [some _, some _]) rfl rfl rfl ?_
  refine y_iload_n rfl rfl ?_
  refine y_if_lt rfl j_X4_has_16 (fun h_1 => ?_) (fun h_2 => ?_)
  · refine y_iconst rfl ?_
    refine y_ireturn rfl rfl rfl ?_
    refine y_ret1 ?_
    refine y_if_neF rfl (by decide) ?_
    refine y_throw rfl rfl rfl ?_
    exact hE0 (by omega)
  · refine y_iload_n rfl rfl ?_
    refine y_aload_n rfl rfl ?_
    refine y_getI rfl (ySh.t hS rfl) (ySh.n hS rfl) rfl rfl ?_
    refine y_icmp_ge rfl j_X4_has_16 (fun h_3 => ?_) (fun h_4 => ?_)
    · refine y_iconst rfl ?_
      refine y_ireturn rfl rfl rfl ?_
      refine y_ret1 ?_
      refine y_if_neF rfl (by decide) ?_
      refine y_throw rfl rfl rfl ?_
      exact hE0 (by omega)
    · refine y_iconst rfl ?_
      refine y_goto rfl j_X4_has_17 ?_
      refine y_ireturn rfl rfl rfl ?_
      refine y_ret1 ?_
      refine y_if_neT rfl j_X8_ofPerson_22 (by decide) ?_
      refine y_iload_n rfl rfl ?_
      refine y_sw rfl (fun h_6 => ?_) (fun h_5 => ?_)
      · refine y_swOut rfl j_X8_ofPerson_143 h_6 ?_
        refine y_throw rfl rfl rfl ?_
        exact hE1 (by omega)
      rcases ySwC0_7 h_5 with h_5 | h_5 | h_5 | h_5 | h_5 | h_5 | h_5 | h_5
      · refine y_swIn (j := 0) rfl h_5 (by decide) j_X8_ofPerson_68 ?_
        refine y_aload_n rfl rfl ?_
        refine y_getR rfl (ySh.t hS rfl) (ySh.n hS rfl) rfl rfl (ySh.r hS rfl) ?_
        refine y_getR rfl (ySh.t hS rfl) (ySh.n hS rfl) rfl rfl (ySh.r hS rfl) ?_
        refine y_iload_n rfl rfl ?_
        refine y_iaload rfl (ySh.t hS rfl) (ySh.n hS rfl) (by omega) (by omega) ?_
        refine y_ireturn rfl rfl rfl ?_
        exact hQ _
      · refine y_swIn (j := 1) rfl h_5 (by decide) j_X8_ofPerson_78 ?_
        refine y_aload_n rfl rfl ?_
        refine y_getR rfl (ySh.t hS rfl) (ySh.n hS rfl) rfl rfl (ySh.r hS rfl) ?_
        refine y_iload_n rfl rfl ?_
        refine y_virt rfl rfl rfl rfl rfl (ySh.t hS rfl) (ySh.n hS rfl) ?_
        refine sp_ownedBy_X6 hS hC (fun v_ => ?_)
        refine y_ret1 ?_
        refine y_ireturn rfl rfl rfl ?_
        exact hQ _
      · refine y_swIn (j := 2) rfl h_5 (by decide) j_X8_ofPerson_87 ?_
        refine y_aload_n rfl rfl ?_
        refine y_getR rfl (ySh.t hS rfl) (ySh.n hS rfl) rfl rfl (ySh.r hS rfl) ?_
        refine y_getR rfl (ySh.t hS rfl) (ySh.n hS rfl) rfl rfl (ySh.r hS rfl) ?_
        refine y_iload_n rfl rfl ?_
        refine y_iaload rfl (ySh.t hS rfl) (ySh.n hS rfl) (by omega) (by omega) ?_
        refine y_ireturn rfl rfl rfl ?_
        exact hQ _
      · refine y_swIn (j := 3) rfl h_5 (by decide) j_X8_ofPerson_97 ?_
        refine y_aload_n rfl rfl ?_
        refine y_getR rfl (ySh.t hS rfl) (ySh.n hS rfl) rfl rfl (ySh.r hS rfl) ?_
        refine y_getR rfl (ySh.t hS rfl) (ySh.n hS rfl) rfl rfl (ySh.r hS rfl) ?_
        refine y_iload_n rfl rfl ?_
        refine y_iaload rfl (ySh.t hS rfl) (ySh.n hS rfl) (by omega) (by omega) ?_
        refine y_ireturn rfl rfl rfl ?_
        exact hQ _
      · refine y_swIn (j := 4) rfl h_5 (by decide) j_X8_ofPerson_107 ?_
        refine y_aload_n rfl rfl ?_
        refine y_getR rfl (ySh.t hS rfl) (ySh.n hS rfl) rfl rfl (ySh.r hS rfl) ?_
        refine y_iload_n rfl rfl ?_
        refine y_virt rfl rfl rfl rfl rfl (ySh.t hS rfl) (ySh.n hS rfl) ?_
        refine sp_partsLeftOf_X5 hS hC (fun v_ => ?_)
        refine y_ret1 ?_
        refine y_ireturn rfl rfl rfl ?_
        exact hQ _
      · refine y_swIn (j := 5) rfl h_5 (by decide) j_X8_ofPerson_116 ?_
        refine y_aload_n rfl rfl ?_
        refine y_getR rfl (ySh.t hS rfl) (ySh.n hS rfl) rfl rfl (ySh.r hS rfl) ?_
        refine y_iload_n rfl rfl ?_
        refine y_virt rfl rfl rfl rfl rfl (ySh.t hS rfl) (ySh.n hS rfl) ?_
        refine sp_debtOf_X5 hS hC (fun v_ => ?_)
        refine y_ret1 ?_
        refine y_ireturn rfl rfl rfl ?_
        exact hQ _
      · refine y_swIn (j := 6) rfl h_5 (by decide) j_X8_ofPerson_125 ?_
        refine y_aload_n rfl rfl ?_
        refine y_getR rfl (ySh.t hS rfl) (ySh.n hS rfl) rfl rfl (ySh.r hS rfl) ?_
        refine y_iload_n rfl rfl ?_
        refine y_virt rfl rfl rfl rfl rfl (ySh.t hS rfl) (ySh.n hS rfl) ?_
        refine sp_openOf_X2 hS hC (fun v_ => ?_)
        refine y_ret1 ?_
        refine y_ireturn rfl rfl rfl ?_
        exact hQ _
      · refine y_swIn (j := 7) rfl h_5 (by decide) j_X8_ofPerson_134 ?_
        refine y_aload_n rfl rfl ?_
        refine y_getR rfl (ySh.t hS rfl) (ySh.n hS rfl) rfl rfl (ySh.r hS rfl) ?_
        refine y_iload_n rfl rfl ?_
        refine y_virt rfl rfl rfl rfl rfl (ySh.t hS rfl) (ySh.n hS rfl) ?_
        refine sp_capitalEverywhere_X7 hS hC (by omega) (by omega) (fun v_ => ?_)
        refine y_ret1 ?_
        refine y_ireturn rfl rfl rfl ?_
        exact hQ _
theorem m_ofThing (hS : ySh n tg R) (hC : yCI I) {x1 x2 : Int32} (hE0 : ¬ (0 ≤ x1.toInt ∧ x1.toInt < (I 40 0).toInt) → Q (.inr "java/lang/IndexOutOfBoundsException") (n, tg, I, R) (c + 1) (s + 6)) (hE1 : ¬ (0 ≤ x2.toInt ∧ x2.toInt ≤ 6) → Q (.inr "java/lang/IllegalArgumentException") (n, tg, I, R) (c + 1) (s + 6)) (hQ : ∀ v, Q (.inl (some (.int v))) (n, tg, I, R) c s) : yC 143 [.ref 34, .int x1, .int x2] (n, tg, I, R) c s Q := by
  refine y_in (M := xm_X8_ofThing) (ls := [some _, some _, some _]) rfl rfl rfl ?_
  refine y_aload_n rfl rfl ?_
  refine y_getR rfl (ySh.t hS rfl) (ySh.n hS rfl) rfl rfl (ySh.r hS rfl) ?_
  refine y_iload_n rfl rfl ?_
  refine y_virt rfl rfl rfl rfl rfl (ySh.t hS rfl) (ySh.n hS rfl) ?_
  refine y_in (M := xm_X6_has) (ls := [some _, some _]) rfl rfl rfl ?_
  refine y_iload_n rfl rfl ?_
  refine y_if_lt rfl j_X6_has_16 (fun h_1 => ?_) (fun h_2 => ?_)
  · refine y_iconst rfl ?_
    refine y_ireturn rfl rfl rfl ?_
    refine y_ret1 ?_
    refine y_if_neF rfl (by decide) ?_
    refine y_throw rfl rfl rfl ?_
    exact hE0 (by omega)
  · refine y_iload_n rfl rfl ?_
    refine y_aload_n rfl rfl ?_
    refine y_getI rfl (ySh.t hS rfl) (ySh.n hS rfl) rfl rfl ?_
    refine y_icmp_ge rfl j_X6_has_16 (fun h_3 => ?_) (fun h_4 => ?_)
    · refine y_iconst rfl ?_
      refine y_ireturn rfl rfl rfl ?_
      refine y_ret1 ?_
      refine y_if_neF rfl (by decide) ?_
      refine y_throw rfl rfl rfl ?_
      exact hE0 (by omega)
    · refine y_iconst rfl ?_
      refine y_goto rfl j_X6_has_17 ?_
      refine y_ireturn rfl rfl rfl ?_
      refine y_ret1 ?_
      refine y_if_neT rfl j_X8_ofThing_21 (by decide) ?_
      refine y_iload_n rfl rfl ?_
      refine y_sw rfl (fun h_6 => ?_) (fun h_5 => ?_)
      · refine y_swOut rfl j_X8_ofThing_150 h_6 ?_
        refine y_throw rfl rfl rfl ?_
        exact hE1 (by omega)
      rcases ySwC0_6 h_5 with h_5 | h_5 | h_5 | h_5 | h_5 | h_5 | h_5
      · refine y_swIn (j := 0) rfl h_5 (by decide) j_X8_ofThing_64 ?_
        refine y_aload_n rfl rfl ?_
        refine y_getR rfl (ySh.t hS rfl) (ySh.n hS rfl) rfl rfl (ySh.r hS rfl) ?_
        refine y_getR rfl (ySh.t hS rfl) (ySh.n hS rfl) rfl rfl (ySh.r hS rfl) ?_
        refine y_iload_n rfl rfl ?_
        refine y_iaload rfl (ySh.t hS rfl) (ySh.n hS rfl) (by omega) (by omega) ?_
        refine y_ireturn rfl rfl rfl ?_
        exact hQ _
      · refine y_swIn (j := 1) rfl h_5 (by decide) j_X8_ofThing_74 ?_
        refine y_aload_n rfl rfl ?_
        refine y_getR rfl (ySh.t hS rfl) (ySh.n hS rfl) rfl rfl (ySh.r hS rfl) ?_
        refine y_getR rfl (ySh.t hS rfl) (ySh.n hS rfl) rfl rfl (ySh.r hS rfl) ?_
        refine y_iload_n rfl rfl ?_
        refine y_iaload rfl (ySh.t hS rfl) (ySh.n hS rfl) (by omega) (by omega) ?_
        refine y_ireturn rfl rfl rfl ?_
        exact hQ _
      · refine y_swIn (j := 2) rfl h_5 (by decide) j_X8_ofThing_84 ?_
        refine y_aload_n rfl rfl ?_
        refine y_getR rfl (ySh.t hS rfl) (ySh.n hS rfl) rfl rfl (ySh.r hS rfl) ?_
        refine y_getR rfl (ySh.t hS rfl) (ySh.n hS rfl) rfl rfl (ySh.r hS rfl) ?_
        refine y_iload_n rfl rfl ?_
        refine y_baload rfl (ySh.t hS rfl) rfl (ySh.n hS rfl) (by omega) (by omega) ?_
        refine y_if_eq rfl j_X8_ofThing_100 (fun h_7 => ?_) (fun h_8 => ?_)
        · refine y_iconst rfl ?_
          refine y_ireturn rfl rfl rfl ?_
          exact hQ _
        · refine y_iconst rfl ?_
          refine y_goto rfl j_X8_ofThing_101 ?_
          refine y_ireturn rfl rfl rfl ?_
          exact hQ _
      · refine y_swIn (j := 3) rfl h_5 (by decide) j_X8_ofThing_102 ?_
        refine y_aload_n rfl rfl ?_
        refine y_getR rfl (ySh.t hS rfl) (ySh.n hS rfl) rfl rfl (ySh.r hS rfl) ?_
        refine y_getR rfl (ySh.t hS rfl) (ySh.n hS rfl) rfl rfl (ySh.r hS rfl) ?_
        refine y_iload_n rfl rfl ?_
        refine y_baload rfl (ySh.t hS rfl) rfl (ySh.n hS rfl) (by omega) (by omega) ?_
        refine y_if_eq rfl j_X8_ofThing_118 (fun h_9 => ?_) (fun h_10 => ?_)
        · refine y_iconst rfl ?_
          refine y_ireturn rfl rfl rfl ?_
          exact hQ _
        · refine y_iconst rfl ?_
          refine y_goto rfl j_X8_ofThing_119 ?_
          refine y_ireturn rfl rfl rfl ?_
          exact hQ _
      · refine y_swIn (j := 4) rfl h_5 (by decide) j_X8_ofThing_120 ?_
        refine y_aload_n rfl rfl ?_
        refine y_getR rfl (ySh.t hS rfl) (ySh.n hS rfl) rfl rfl (ySh.r hS rfl) ?_
        refine y_getR rfl (ySh.t hS rfl) (ySh.n hS rfl) rfl rfl (ySh.r hS rfl) ?_
        refine y_iload_n rfl rfl ?_
        refine y_iaload rfl (ySh.t hS rfl) (ySh.n hS rfl) (by omega) (by omega) ?_
        refine y_ireturn rfl rfl rfl ?_
        exact hQ _
      · refine y_swIn (j := 5) rfl h_5 (by decide) j_X8_ofThing_130 ?_
        refine y_aload_n rfl rfl ?_
        refine y_getR rfl (ySh.t hS rfl) (ySh.n hS rfl) rfl rfl (ySh.r hS rfl) ?_
        refine y_getR rfl (ySh.t hS rfl) (ySh.n hS rfl) rfl rfl (ySh.r hS rfl) ?_
        refine y_iload_n rfl rfl ?_
        refine y_iaload rfl (ySh.t hS rfl) (ySh.n hS rfl) (by omega) (by omega) ?_
        refine y_ireturn rfl rfl rfl ?_
        exact hQ _
      · refine y_swIn (j := 6) rfl h_5 (by decide) j_X8_ofThing_140 ?_
        refine y_aload_n rfl rfl ?_
        refine y_getR rfl (ySh.t hS rfl) (ySh.n hS rfl) rfl rfl (ySh.r hS rfl) ?_
        refine y_getR rfl (ySh.t hS rfl) (ySh.n hS rfl) rfl rfl (ySh.r hS rfl) ?_
        refine y_iload_n rfl rfl ?_
        refine y_iaload rfl (ySh.t hS rfl) (ySh.n hS rfl) (by omega) (by omega) ?_
        refine y_ireturn rfl rfl rfl ?_
        exact hQ _
theorem m_ofSale (hS : ySh n tg R) (hC : yCI I) {x1 x2 : Int32} (hE0 : ¬ (0 ≤ x1.toInt ∧ x1.toInt < (I 48 0).toInt) → Q (.inr "java/lang/IndexOutOfBoundsException") (n, tg, I, R) (c + 1) (s + 6)) (hE1 : ¬ (0 ≤ x2.toInt ∧ x2.toInt ≤ 9) → Q (.inr "java/lang/IllegalArgumentException") (n, tg, I, R) (c + 1) (s + 6)) (hQ : ∀ v, Q (.inl (some (.int v))) (n, tg, I, R) c s) : yC 144 [.ref 34, .int x1, .int x2] (n, tg, I, R) c s Q := by
  refine y_in (M := xm_X8_ofSale) (ls := [some _, some _, some _]) rfl rfl rfl ?_
  refine y_aload_n rfl rfl ?_
  refine y_getR rfl (ySh.t hS rfl) (ySh.n hS rfl) rfl rfl (ySh.r hS rfl) ?_
  refine y_iload_n rfl rfl ?_
  refine y_virt rfl rfl rfl rfl rfl (ySh.t hS rfl) (ySh.n hS rfl) ?_
  refine y_in (M := xm_X5_has) (ls := [some _, some _]) rfl rfl rfl ?_
  refine y_iload_n rfl rfl ?_
  refine y_if_lt rfl j_X5_has_16 (fun h_1 => ?_) (fun h_2 => ?_)
  · refine y_iconst rfl ?_
    refine y_ireturn rfl rfl rfl ?_
    refine y_ret1 ?_
    refine y_if_neF rfl (by decide) ?_
    refine y_throw rfl rfl rfl ?_
    exact hE0 (by omega)
  · refine y_iload_n rfl rfl ?_
    refine y_aload_n rfl rfl ?_
    refine y_getI rfl (ySh.t hS rfl) (ySh.n hS rfl) rfl rfl ?_
    refine y_icmp_ge rfl j_X5_has_16 (fun h_3 => ?_) (fun h_4 => ?_)
    · refine y_iconst rfl ?_
      refine y_ireturn rfl rfl rfl ?_
      refine y_ret1 ?_
      refine y_if_neF rfl (by decide) ?_
      refine y_throw rfl rfl rfl ?_
      exact hE0 (by omega)
    · refine y_iconst rfl ?_
      refine y_goto rfl j_X5_has_17 ?_
      refine y_ireturn rfl rfl rfl ?_
      refine y_ret1 ?_
      refine y_if_neT rfl j_X8_ofSale_21 (by decide) ?_
      refine y_iload_n rfl rfl ?_
      refine y_sw rfl (fun h_6 => ?_) (fun h_5 => ?_)
      · refine y_swOut rfl j_X8_ofSale_174 h_6 ?_
        refine y_throw rfl rfl rfl ?_
        exact hE1 (by omega)
      rcases ySwC0_9 h_5 with h_5 | h_5 | h_5 | h_5 | h_5 | h_5 | h_5 | h_5 | h_5 | h_5
      · refine y_swIn (j := 0) rfl h_5 (by decide) j_X8_ofSale_76 ?_
        refine y_aload_n rfl rfl ?_
        refine y_getR rfl (ySh.t hS rfl) (ySh.n hS rfl) rfl rfl (ySh.r hS rfl) ?_
        refine y_getR rfl (ySh.t hS rfl) (ySh.n hS rfl) rfl rfl (ySh.r hS rfl) ?_
        refine y_iload_n rfl rfl ?_
        refine y_iaload rfl (ySh.t hS rfl) (ySh.n hS rfl) (by omega) (by omega) ?_
        refine y_ireturn rfl rfl rfl ?_
        exact hQ _
      · refine y_swIn (j := 1) rfl h_5 (by decide) j_X8_ofSale_86 ?_
        refine y_aload_n rfl rfl ?_
        refine y_getR rfl (ySh.t hS rfl) (ySh.n hS rfl) rfl rfl (ySh.r hS rfl) ?_
        refine y_getR rfl (ySh.t hS rfl) (ySh.n hS rfl) rfl rfl (ySh.r hS rfl) ?_
        refine y_iload_n rfl rfl ?_
        refine y_iaload rfl (ySh.t hS rfl) (ySh.n hS rfl) (by omega) (by omega) ?_
        refine y_ireturn rfl rfl rfl ?_
        exact hQ _
      · refine y_swIn (j := 2) rfl h_5 (by decide) j_X8_ofSale_96 ?_
        refine y_aload_n rfl rfl ?_
        refine y_getR rfl (ySh.t hS rfl) (ySh.n hS rfl) rfl rfl (ySh.r hS rfl) ?_
        refine y_getR rfl (ySh.t hS rfl) (ySh.n hS rfl) rfl rfl (ySh.r hS rfl) ?_
        refine y_iload_n rfl rfl ?_
        refine y_iaload rfl (ySh.t hS rfl) (ySh.n hS rfl) (by omega) (by omega) ?_
        refine y_ireturn rfl rfl rfl ?_
        exact hQ _
      · refine y_swIn (j := 3) rfl h_5 (by decide) j_X8_ofSale_106 ?_
        refine y_aload_n rfl rfl ?_
        refine y_getR rfl (ySh.t hS rfl) (ySh.n hS rfl) rfl rfl (ySh.r hS rfl) ?_
        refine y_getR rfl (ySh.t hS rfl) (ySh.n hS rfl) rfl rfl (ySh.r hS rfl) ?_
        refine y_iload_n rfl rfl ?_
        refine y_iaload rfl (ySh.t hS rfl) (ySh.n hS rfl) (by omega) (by omega) ?_
        refine y_ireturn rfl rfl rfl ?_
        exact hQ _
      · refine y_swIn (j := 4) rfl h_5 (by decide) j_X8_ofSale_116 ?_
        refine y_aload_n rfl rfl ?_
        refine y_getR rfl (ySh.t hS rfl) (ySh.n hS rfl) rfl rfl (ySh.r hS rfl) ?_
        refine y_getR rfl (ySh.t hS rfl) (ySh.n hS rfl) rfl rfl (ySh.r hS rfl) ?_
        refine y_iload_n rfl rfl ?_
        refine y_iaload rfl (ySh.t hS rfl) (ySh.n hS rfl) (by omega) (by omega) ?_
        refine y_ireturn rfl rfl rfl ?_
        exact hQ _
      · refine y_swIn (j := 5) rfl h_5 (by decide) j_X8_ofSale_126 ?_
        refine y_aload_n rfl rfl ?_
        refine y_getR rfl (ySh.t hS rfl) (ySh.n hS rfl) rfl rfl (ySh.r hS rfl) ?_
        refine y_getR rfl (ySh.t hS rfl) (ySh.n hS rfl) rfl rfl (ySh.r hS rfl) ?_
        refine y_iload_n rfl rfl ?_
        refine y_iaload rfl (ySh.t hS rfl) (ySh.n hS rfl) (by omega) (by omega) ?_
        refine y_ireturn rfl rfl rfl ?_
        exact hQ _
      · refine y_swIn (j := 6) rfl h_5 (by decide) j_X8_ofSale_136 ?_
        refine y_aload_n rfl rfl ?_
        refine y_getR rfl (ySh.t hS rfl) (ySh.n hS rfl) rfl rfl (ySh.r hS rfl) ?_
        refine y_iload_n rfl rfl ?_
        refine y_virt rfl rfl rfl rfl rfl (ySh.t hS rfl) (ySh.n hS rfl) ?_
        refine sp_nextDay_X5 hS hC (by omega) (by omega) (fun v_ => ?_)
        refine y_ret1 ?_
        refine y_ireturn rfl rfl rfl ?_
        exact hQ _
      · refine y_swIn (j := 7) rfl h_5 (by decide) j_X8_ofSale_145 ?_
        refine y_aload_n rfl rfl ?_
        refine y_getR rfl (ySh.t hS rfl) (ySh.n hS rfl) rfl rfl (ySh.r hS rfl) ?_
        refine y_iload_n rfl rfl ?_
        refine y_virt rfl rfl rfl rfl rfl (ySh.t hS rfl) (ySh.n hS rfl) ?_
        refine sp_nextPart_X5 hS hC (by omega) (by omega) (fun v_ => ?_)
        refine y_ret1 ?_
        refine y_ireturn rfl rfl rfl ?_
        exact hQ _
      · refine y_swIn (j := 8) rfl h_5 (by decide) j_X8_ofSale_154 ?_
        refine y_aload_n rfl rfl ?_
        refine y_getR rfl (ySh.t hS rfl) (ySh.n hS rfl) rfl rfl (ySh.r hS rfl) ?_
        refine y_getR rfl (ySh.t hS rfl) (ySh.n hS rfl) rfl rfl (ySh.r hS rfl) ?_
        refine y_iload_n rfl rfl ?_
        refine y_iaload rfl (ySh.t hS rfl) (ySh.n hS rfl) (by omega) (by omega) ?_
        refine y_ireturn rfl rfl rfl ?_
        exact hQ _
      · refine y_swIn (j := 9) rfl h_5 (by decide) j_X8_ofSale_164 ?_
        refine y_aload_n rfl rfl ?_
        refine y_getR rfl (ySh.t hS rfl) (ySh.n hS rfl) rfl rfl (ySh.r hS rfl) ?_
        refine y_getR rfl (ySh.t hS rfl) (ySh.n hS rfl) rfl rfl (ySh.r hS rfl) ?_
        refine y_iload_n rfl rfl ?_
        refine y_iaload rfl (ySh.t hS rfl) (ySh.n hS rfl) (by omega) (by omega) ?_
        refine y_ireturn rfl rfl rfl ?_
        exact hQ _
theorem m_ofLease (hS : ySh n tg R) (hC : yCI I) {x1 x2 : Int32} (hE0 : ¬ (0 ≤ x1.toInt ∧ x1.toInt < (I 59 0).toInt) → Q (.inr "java/lang/IndexOutOfBoundsException") (n, tg, I, R) (c + 1) (s + 6)) (hE1 : ¬ (0 ≤ x2.toInt ∧ x2.toInt ≤ 5) → Q (.inr "java/lang/IllegalArgumentException") (n, tg, I, R) (c + 1) (s + 6)) (hQ : ∀ v, Q (.inl (some (.int v))) (n, tg, I, R) c s) : yC 145 [.ref 34, .int x1, .int x2] (n, tg, I, R) c s Q := by
  refine y_in (M := xm_X8_ofLease) (ls := [some _, some _, some _]) rfl rfl rfl ?_
  refine y_aload_n rfl rfl ?_
  refine y_getR rfl (ySh.t hS rfl) (ySh.n hS rfl) rfl rfl (ySh.r hS rfl) ?_
  refine y_iload_n rfl rfl ?_
  refine y_virt rfl rfl rfl rfl rfl (ySh.t hS rfl) (ySh.n hS rfl) ?_
  refine y_in (M := xm_X2_has) (ls := [some _, some _]) rfl rfl rfl ?_
  refine y_iload_n rfl rfl ?_
  refine y_if_lt rfl j_X2_has_16 (fun h_1 => ?_) (fun h_2 => ?_)
  · refine y_iconst rfl ?_
    refine y_ireturn rfl rfl rfl ?_
    refine y_ret1 ?_
    refine y_if_neF rfl (by decide) ?_
    refine y_throw rfl rfl rfl ?_
    exact hE0 (by omega)
  · refine y_iload_n rfl rfl ?_
    refine y_aload_n rfl rfl ?_
    refine y_getI rfl (ySh.t hS rfl) (ySh.n hS rfl) rfl rfl ?_
    refine y_icmp_ge rfl j_X2_has_16 (fun h_3 => ?_) (fun h_4 => ?_)
    · refine y_iconst rfl ?_
      refine y_ireturn rfl rfl rfl ?_
      refine y_ret1 ?_
      refine y_if_neF rfl (by decide) ?_
      refine y_throw rfl rfl rfl ?_
      exact hE0 (by omega)
    · refine y_iconst rfl ?_
      refine y_goto rfl j_X2_has_17 ?_
      refine y_ireturn rfl rfl rfl ?_
      refine y_ret1 ?_
      refine y_if_neT rfl j_X8_ofLease_21 (by decide) ?_
      refine y_iload_n rfl rfl ?_
      refine y_sw rfl (fun h_6 => ?_) (fun h_5 => ?_)
      · refine y_swOut rfl j_X8_ofLease_144 h_6 ?_
        refine y_throw rfl rfl rfl ?_
        exact hE1 (by omega)
      rcases ySwC0_5 h_5 with h_5 | h_5 | h_5 | h_5 | h_5 | h_5
      · refine y_swIn (j := 0) rfl h_5 (by decide) j_X8_ofLease_60 ?_
        refine y_aload_n rfl rfl ?_
        refine y_getR rfl (ySh.t hS rfl) (ySh.n hS rfl) rfl rfl (ySh.r hS rfl) ?_
        refine y_getR rfl (ySh.t hS rfl) (ySh.n hS rfl) rfl rfl (ySh.r hS rfl) ?_
        refine y_iload_n rfl rfl ?_
        refine y_iaload rfl (ySh.t hS rfl) (ySh.n hS rfl) (by omega) (by omega) ?_
        refine y_ireturn rfl rfl rfl ?_
        exact hQ _
      · refine y_swIn (j := 1) rfl h_5 (by decide) j_X8_ofLease_70 ?_
        refine y_aload_n rfl rfl ?_
        refine y_getR rfl (ySh.t hS rfl) (ySh.n hS rfl) rfl rfl (ySh.r hS rfl) ?_
        refine y_getR rfl (ySh.t hS rfl) (ySh.n hS rfl) rfl rfl (ySh.r hS rfl) ?_
        refine y_iload_n rfl rfl ?_
        refine y_iaload rfl (ySh.t hS rfl) (ySh.n hS rfl) (by omega) (by omega) ?_
        refine y_ireturn rfl rfl rfl ?_
        exact hQ _
      · refine y_swIn (j := 2) rfl h_5 (by decide) j_X8_ofLease_80 ?_
        refine y_aload_n rfl rfl ?_
        refine y_getR rfl (ySh.t hS rfl) (ySh.n hS rfl) rfl rfl (ySh.r hS rfl) ?_
        refine y_getR rfl (ySh.t hS rfl) (ySh.n hS rfl) rfl rfl (ySh.r hS rfl) ?_
        refine y_iload_n rfl rfl ?_
        refine y_baload rfl (ySh.t hS rfl) rfl (ySh.n hS rfl) (by omega) (by omega) ?_
        refine y_if_eq rfl j_X8_ofLease_96 (fun h_7 => ?_) (fun h_8 => ?_)
        · refine y_iconst rfl ?_
          refine y_ireturn rfl rfl rfl ?_
          exact hQ _
        · refine y_iconst rfl ?_
          refine y_goto rfl j_X8_ofLease_97 ?_
          refine y_ireturn rfl rfl rfl ?_
          exact hQ _
      · refine y_swIn (j := 3) rfl h_5 (by decide) j_X8_ofLease_98 ?_
        refine y_aload_n rfl rfl ?_
        refine y_getR rfl (ySh.t hS rfl) (ySh.n hS rfl) rfl rfl (ySh.r hS rfl) ?_
        refine y_getR rfl (ySh.t hS rfl) (ySh.n hS rfl) rfl rfl (ySh.r hS rfl) ?_
        refine y_iload_n rfl rfl ?_
        refine y_iaload rfl (ySh.t hS rfl) (ySh.n hS rfl) (by omega) (by omega) ?_
        refine y_ireturn rfl rfl rfl ?_
        exact hQ _
      · refine y_swIn (j := 4) rfl h_5 (by decide) j_X8_ofLease_108 ?_
        refine y_aload_n rfl rfl ?_
        refine y_getR rfl (ySh.t hS rfl) (ySh.n hS rfl) rfl rfl (ySh.r hS rfl) ?_
        refine y_getR rfl (ySh.t hS rfl) (ySh.n hS rfl) rfl rfl (ySh.r hS rfl) ?_
        refine y_iload_n rfl rfl ?_
        refine y_iaload rfl (ySh.t hS rfl) (ySh.n hS rfl) (by omega) (by omega) ?_
        refine y_ireturn rfl rfl rfl ?_
        exact hQ _
      · refine y_swIn (j := 5) rfl h_5 (by decide) j_X8_ofLease_118 ?_
        refine y_aload_n rfl rfl ?_
        refine y_getR rfl (ySh.t hS rfl) (ySh.n hS rfl) rfl rfl (ySh.r hS rfl) ?_
        refine y_getR rfl (ySh.t hS rfl) (ySh.n hS rfl) rfl rfl (ySh.r hS rfl) ?_
        refine y_iload_n rfl rfl ?_
        refine y_baload rfl (ySh.t hS rfl) rfl (ySh.n hS rfl) (by omega) (by omega) ?_
        refine y_if_eq rfl j_X8_ofLease_134 (fun h_9 => ?_) (fun h_10 => ?_)
        · refine y_aload_n rfl rfl ?_
          refine y_getR rfl (ySh.t hS rfl) (ySh.n hS rfl) rfl rfl (ySh.r hS rfl) ?_
          refine y_getR rfl (ySh.t hS rfl) (ySh.n hS rfl) rfl rfl (ySh.r hS rfl) ?_
          refine y_iload_n rfl rfl ?_
          refine y_iaload rfl (ySh.t hS rfl) (ySh.n hS rfl) (by omega) (by omega) ?_
          refine y_ireturn rfl rfl rfl ?_
          exact hQ _
        · refine y_iconst rfl ?_
          refine y_goto rfl j_X8_ofLease_143 ?_
          refine y_ireturn rfl rfl rfl ?_
          exact hQ _
theorem m_ofVenture (hS : ySh n tg R) (hC : yCI I) {x1 x2 x3 : Int32} (hE0 : ¬ (0 ≤ x1.toInt ∧ x1.toInt < (I 69 0).toInt ∧ (x2.toInt = -1 ∨ 0 ≤ x2.toInt ∧ x2.toInt < (I 38 0).toInt)) → Q (.inr "java/lang/IndexOutOfBoundsException") (n, tg, I, R) (c + 1) (s + 6)) (hE1 : ¬ (0 ≤ x3.toInt ∧ x3.toInt ≤ 2) → Q (.inr "java/lang/IllegalArgumentException") (n, tg, I, R) (c + 1) (s + 6)) (hQ : ∀ v, Q (.inl (some (.int v))) (n, tg, I, R) c s) : yC 146 [.ref 34, .int x1, .int x2, .int x3] (n, tg, I, R) c s Q := by
  refine y_in (M := xm_X8_ofVenture) (ls := [some _, some _, some _, some _, _]) rfl rfl rfl ?_
  refine y_aload_n rfl rfl ?_
  refine y_getR rfl (ySh.t hS rfl) (ySh.n hS rfl) rfl rfl (ySh.r hS rfl) ?_
  refine y_iload_n rfl rfl ?_
  refine y_virt rfl rfl rfl rfl rfl (ySh.t hS rfl) (ySh.n hS rfl) ?_
  refine y_in (M := xm_X7_has) (ls := [some _, some _]) rfl rfl rfl ?_
  refine y_iload_n rfl rfl ?_
  refine y_if_lt rfl j_X7_has_16 (fun h_1 => ?_) (fun h_2 => ?_)
  · refine y_iconst rfl ?_
    refine y_ireturn rfl rfl rfl ?_
    refine y_ret1 ?_
    refine y_if_eqT rfl j_X8_ofVenture_19 (by decide) ?_
    refine y_throw rfl rfl rfl ?_
    exact hE0 (by omega)
  · refine y_iload_n rfl rfl ?_
    refine y_aload_n rfl rfl ?_
    refine y_getI rfl (ySh.t hS rfl) (ySh.n hS rfl) rfl rfl ?_
    refine y_icmp_ge rfl j_X7_has_16 (fun h_3 => ?_) (fun h_4 => ?_)
    · refine y_iconst rfl ?_
      refine y_ireturn rfl rfl rfl ?_
      refine y_ret1 ?_
      refine y_if_eqT rfl j_X8_ofVenture_19 (by decide) ?_
      refine y_throw rfl rfl rfl ?_
      exact hE0 (by omega)
    · refine y_iconst rfl ?_
      refine y_goto rfl j_X7_has_17 ?_
      refine y_ireturn rfl rfl rfl ?_
      refine y_ret1 ?_
      refine y_if_eqF rfl (by decide) ?_
      refine y_aload_n rfl rfl ?_
      refine y_iload_n rfl rfl ?_
      refine y_virt rfl rfl rfl rfl rfl (ySh.t hS rfl) (ySh.n hS rfl) ?_
      refine y_in (M := xm_X8_isParty) (ls := [some _, some _]) rfl rfl rfl ?_
      refine y_iload_n rfl rfl ?_
      refine y_iconst rfl ?_
      refine y_icmp_eq rfl j_X8_isParty_16 (fun h_5 => ?_) (fun h_6 => ?_)
      · rw [yz_m1] at h_5
        refine y_iconst rfl ?_
        refine y_goto rfl j_X8_isParty_21 ?_
        refine y_ireturn rfl rfl rfl ?_
        refine y_ret1 ?_
        refine y_if_neT rfl j_X8_ofVenture_30 (by decide) ?_
        refine y_iload_n rfl rfl ?_
        refine y_static rfl rfl rfl rfl rfl ?_
        refine y_in (M := xm_X8_placeOf) (ls := [some _]) rfl rfl rfl ?_
        refine y_iload_n rfl rfl ?_
        refine y_iconst rfl ?_
        refine y_icmp_ne rfl j_X8_placeOf_10 (fun h_7 => ?_) (fun h_8 => ?_)
        · rw [yz_m1] at h_7
          refine y_iload_n rfl rfl ?_
          refine y_ireturn rfl rfl rfl ?_
          refine y_ret1 ?_
          refine y_istore (ls' := [some _, some _, some _, some _, some _]) rfl rfl rfl ?_
          refine y_iload_n rfl rfl ?_
          refine y_sw rfl (fun h_10 => ?_) (fun h_9 => ?_)
          · refine y_swOut rfl j_X8_ofVenture_97 h_10 ?_
            refine y_throw rfl rfl rfl ?_
            exact hE1 (by omega)
          rcases ySwC0_2 h_9 with h_9 | h_9 | h_9
          · refine y_swIn (j := 0) rfl h_9 (by decide) j_X8_ofVenture_64 ?_
            refine y_aload_n rfl rfl ?_
            refine y_getR rfl (ySh.t hS rfl) (ySh.n hS rfl) rfl rfl (ySh.r hS rfl) ?_
            refine y_iload_n rfl rfl ?_
            refine y_iload rfl rfl ?_
            refine y_virt rfl rfl rfl rfl rfl (ySh.t hS rfl) (ySh.n hS rfl) ?_
            refine y_in (M := xm_X7_capitalOf) (ls := [some _, some _, some _]) rfl rfl rfl ?_
            refine y_aload_n rfl rfl ?_
            refine y_getR rfl (ySh.t hS rfl) (ySh.n hS rfl) rfl rfl (ySh.r hS rfl) ?_
            refine y_aload_n rfl rfl ?_
            refine y_iload_n rfl rfl ?_
            refine y_iload_n rfl rfl ?_
            refine y_virt rfl rfl rfl rfl rfl (ySh.t hS rfl) (ySh.n hS rfl) ?_
            refine sp_at (by omega) (by omega) (by omega) (by omega) (fun z_ hz11 => ?_)
            refine y_ret1 ?_
            refine y_iaload rfl (ySh.t hS rfl) (ySh.n hS rfl) (by omega) (by omega) ?_
            refine y_ireturn rfl rfl rfl ?_
            refine y_ret1 ?_
            refine y_ireturn rfl rfl rfl ?_
            exact hQ _
          · refine y_swIn (j := 1) rfl h_9 (by decide) j_X8_ofVenture_75 ?_
            refine y_aload_n rfl rfl ?_
            refine y_getR rfl (ySh.t hS rfl) (ySh.n hS rfl) rfl rfl (ySh.r hS rfl) ?_
            refine y_iload_n rfl rfl ?_
            refine y_iload rfl rfl ?_
            refine y_virt rfl rfl rfl rfl rfl (ySh.t hS rfl) (ySh.n hS rfl) ?_
            refine y_in (M := xm_X7_shareOf) (ls := [some _, some _, some _]) rfl rfl rfl ?_
            refine y_aload_n rfl rfl ?_
            refine y_getR rfl (ySh.t hS rfl) (ySh.n hS rfl) rfl rfl (ySh.r hS rfl) ?_
            refine y_aload_n rfl rfl ?_
            refine y_iload_n rfl rfl ?_
            refine y_iload_n rfl rfl ?_
            refine y_virt rfl rfl rfl rfl rfl (ySh.t hS rfl) (ySh.n hS rfl) ?_
            refine sp_at (by omega) (by omega) (by omega) (by omega) (fun z_ hz12 => ?_)
            refine y_ret1 ?_
            refine y_iaload rfl (ySh.t hS rfl) (ySh.n hS rfl) (by omega) (by omega) ?_
            refine y_ireturn rfl rfl rfl ?_
            refine y_ret1 ?_
            refine y_ireturn rfl rfl rfl ?_
            exact hQ _
          · refine y_swIn (j := 2) rfl h_9 (by decide) j_X8_ofVenture_86 ?_
            refine y_aload_n rfl rfl ?_
            refine y_getR rfl (ySh.t hS rfl) (ySh.n hS rfl) rfl rfl (ySh.r hS rfl) ?_
            refine y_iload_n rfl rfl ?_
            refine y_iload rfl rfl ?_
            refine y_virt rfl rfl rfl rfl rfl (ySh.t hS rfl) (ySh.n hS rfl) ?_
            refine y_in (M := xm_X7_gainOf) (ls := [some _, some _, some _]) rfl rfl rfl ?_
            refine y_aload_n rfl rfl ?_
            refine y_getR rfl (ySh.t hS rfl) (ySh.n hS rfl) rfl rfl (ySh.r hS rfl) ?_
            refine y_aload_n rfl rfl ?_
            refine y_iload_n rfl rfl ?_
            refine y_iload_n rfl rfl ?_
            refine y_virt rfl rfl rfl rfl rfl (ySh.t hS rfl) (ySh.n hS rfl) ?_
            refine sp_at (by omega) (by omega) (by omega) (by omega) (fun z_ hz13 => ?_)
            refine y_ret1 ?_
            refine y_iaload rfl (ySh.t hS rfl) (ySh.n hS rfl) (by omega) (by omega) ?_
            refine y_ireturn rfl rfl rfl ?_
            refine y_ret1 ?_
            refine y_ireturn rfl rfl rfl ?_
            exact hQ _
        · rw [yz_m1] at h_8
          refine y_bip rfl (by decide) ?_
          refine y_goto rfl j_X8_placeOf_11 ?_
          refine y_ireturn rfl rfl rfl ?_
          refine y_ret1 ?_
          refine y_istore (ls' := [some _, some _, some _, some _, some _]) rfl rfl rfl ?_
          refine y_iload_n rfl rfl ?_
          refine y_sw rfl (fun h_15 => ?_) (fun h_14 => ?_)
          · refine y_swOut rfl j_X8_ofVenture_97 h_15 ?_
            refine y_throw rfl rfl rfl ?_
            exact hE1 (by omega)
          rcases ySwC0_2 h_14 with h_14 | h_14 | h_14
          · refine y_swIn (j := 0) rfl h_14 (by decide) j_X8_ofVenture_64 ?_
            refine y_aload_n rfl rfl ?_
            refine y_getR rfl (ySh.t hS rfl) (ySh.n hS rfl) rfl rfl (ySh.r hS rfl) ?_
            refine y_iload_n rfl rfl ?_
            refine y_iload rfl rfl ?_
            refine y_virt rfl rfl rfl rfl rfl (ySh.t hS rfl) (ySh.n hS rfl) ?_
            refine y_in (M := xm_X7_capitalOf) (ls := [some _, some _, some _]) rfl rfl rfl ?_
            refine y_aload_n rfl rfl ?_
            refine y_getR rfl (ySh.t hS rfl) (ySh.n hS rfl) rfl rfl (ySh.r hS rfl) ?_
            refine y_aload_n rfl rfl ?_
            refine y_iload_n rfl rfl ?_
            refine y_iload_n rfl rfl ?_
            refine y_virt rfl rfl rfl rfl rfl (ySh.t hS rfl) (ySh.n hS rfl) ?_
            refine sp_at (by omega) (by omega) (by decide) (by decide) (fun z_ hz16 => ?_)
            rw [yz_8] at hz16
            refine y_ret1 ?_
            refine y_iaload rfl (ySh.t hS rfl) (ySh.n hS rfl) (by omega) (by omega) ?_
            refine y_ireturn rfl rfl rfl ?_
            refine y_ret1 ?_
            refine y_ireturn rfl rfl rfl ?_
            exact hQ _
          · refine y_swIn (j := 1) rfl h_14 (by decide) j_X8_ofVenture_75 ?_
            refine y_aload_n rfl rfl ?_
            refine y_getR rfl (ySh.t hS rfl) (ySh.n hS rfl) rfl rfl (ySh.r hS rfl) ?_
            refine y_iload_n rfl rfl ?_
            refine y_iload rfl rfl ?_
            refine y_virt rfl rfl rfl rfl rfl (ySh.t hS rfl) (ySh.n hS rfl) ?_
            refine y_in (M := xm_X7_shareOf) (ls := [some _, some _, some _]) rfl rfl rfl ?_
            refine y_aload_n rfl rfl ?_
            refine y_getR rfl (ySh.t hS rfl) (ySh.n hS rfl) rfl rfl (ySh.r hS rfl) ?_
            refine y_aload_n rfl rfl ?_
            refine y_iload_n rfl rfl ?_
            refine y_iload_n rfl rfl ?_
            refine y_virt rfl rfl rfl rfl rfl (ySh.t hS rfl) (ySh.n hS rfl) ?_
            refine sp_at (by omega) (by omega) (by decide) (by decide) (fun z_ hz17 => ?_)
            rw [yz_8] at hz17
            refine y_ret1 ?_
            refine y_iaload rfl (ySh.t hS rfl) (ySh.n hS rfl) (by omega) (by omega) ?_
            refine y_ireturn rfl rfl rfl ?_
            refine y_ret1 ?_
            refine y_ireturn rfl rfl rfl ?_
            exact hQ _
          · refine y_swIn (j := 2) rfl h_14 (by decide) j_X8_ofVenture_86 ?_
            refine y_aload_n rfl rfl ?_
            refine y_getR rfl (ySh.t hS rfl) (ySh.n hS rfl) rfl rfl (ySh.r hS rfl) ?_
            refine y_iload_n rfl rfl ?_
            refine y_iload rfl rfl ?_
            refine y_virt rfl rfl rfl rfl rfl (ySh.t hS rfl) (ySh.n hS rfl) ?_
            refine y_in (M := xm_X7_gainOf) (ls := [some _, some _, some _]) rfl rfl rfl ?_
            refine y_aload_n rfl rfl ?_
            refine y_getR rfl (ySh.t hS rfl) (ySh.n hS rfl) rfl rfl (ySh.r hS rfl) ?_
            refine y_aload_n rfl rfl ?_
            refine y_iload_n rfl rfl ?_
            refine y_iload_n rfl rfl ?_
            refine y_virt rfl rfl rfl rfl rfl (ySh.t hS rfl) (ySh.n hS rfl) ?_
            refine sp_at (by omega) (by omega) (by decide) (by decide) (fun z_ hz18 => ?_)
            rw [yz_8] at hz18
            refine y_ret1 ?_
            refine y_iaload rfl (ySh.t hS rfl) (ySh.n hS rfl) (by omega) (by omega) ?_
            refine y_ireturn rfl rfl rfl ?_
            refine y_ret1 ?_
            refine y_ireturn rfl rfl rfl ?_
            exact hQ _
      · rw [yz_m1] at h_6
        refine y_aload_n rfl rfl ?_
        refine y_getR rfl (ySh.t hS rfl) (ySh.n hS rfl) rfl rfl (ySh.r hS rfl) ?_
        refine y_iload_n rfl rfl ?_
        refine y_virt rfl rfl rfl rfl rfl (ySh.t hS rfl) (ySh.n hS rfl) ?_
        refine y_in (M := xm_X4_has) (ls := [some _, some _]) rfl rfl rfl ?_
        refine y_iload_n rfl rfl ?_
        refine y_if_lt rfl j_X4_has_16 (fun h_19 => ?_) (fun h_20 => ?_)
        · refine y_iconst rfl ?_
          refine y_ireturn rfl rfl rfl ?_
          refine y_ret1 ?_
          refine y_if_eqT rfl j_X8_isParty_20 (by decide) ?_
          refine y_iconst rfl ?_
          refine y_ireturn rfl rfl rfl ?_
          refine y_ret1 ?_
          refine y_if_neF rfl (by decide) ?_
          refine y_throw rfl rfl rfl ?_
          exact hE0 (by omega)
        · refine y_iload_n rfl rfl ?_
          refine y_aload_n rfl rfl ?_
          refine y_getI rfl (ySh.t hS rfl) (ySh.n hS rfl) rfl rfl ?_
          refine y_icmp_ge rfl j_X4_has_16 (fun h_21 => ?_) (fun h_22 => ?_)
          · refine y_iconst rfl ?_
            refine y_ireturn rfl rfl rfl ?_
            refine y_ret1 ?_
            refine y_if_eqT rfl j_X8_isParty_20 (by decide) ?_
            refine y_iconst rfl ?_
            refine y_ireturn rfl rfl rfl ?_
            refine y_ret1 ?_
            refine y_if_neF rfl (by decide) ?_
            refine y_throw rfl rfl rfl ?_
            exact hE0 (by omega)
          · refine y_iconst rfl ?_
            refine y_goto rfl j_X4_has_17 ?_
            refine y_ireturn rfl rfl rfl ?_
            refine y_ret1 ?_
            refine y_if_eqF rfl (by decide) ?_
            refine y_iconst rfl ?_
            refine y_goto rfl j_X8_isParty_21 ?_
            refine y_ireturn rfl rfl rfl ?_
            refine y_ret1 ?_
            refine y_if_neT rfl j_X8_ofVenture_30 (by decide) ?_
            refine y_iload_n rfl rfl ?_
            refine y_static rfl rfl rfl rfl rfl ?_
            refine y_in (M := xm_X8_placeOf) (ls := [some _]) rfl rfl rfl ?_
            refine y_iload_n rfl rfl ?_
            refine y_iconst rfl ?_
            refine y_icmp_ne rfl j_X8_placeOf_10 (fun h_23 => ?_) (fun h_24 => ?_)
            · rw [yz_m1] at h_23
              refine y_iload_n rfl rfl ?_
              refine y_ireturn rfl rfl rfl ?_
              refine y_ret1 ?_
              refine y_istore (ls' := [some _, some _, some _, some _, some _]) rfl rfl rfl ?_
              refine y_iload_n rfl rfl ?_
              refine y_sw rfl (fun h_26 => ?_) (fun h_25 => ?_)
              · refine y_swOut rfl j_X8_ofVenture_97 h_26 ?_
                refine y_throw rfl rfl rfl ?_
                exact hE1 (by omega)
              rcases ySwC0_2 h_25 with h_25 | h_25 | h_25
              · refine y_swIn (j := 0) rfl h_25 (by decide) j_X8_ofVenture_64 ?_
                refine y_aload_n rfl rfl ?_
                refine y_getR rfl (ySh.t hS rfl) (ySh.n hS rfl) rfl rfl (ySh.r hS rfl) ?_
                refine y_iload_n rfl rfl ?_
                refine y_iload rfl rfl ?_
                refine y_virt rfl rfl rfl rfl rfl (ySh.t hS rfl) (ySh.n hS rfl) ?_
                refine y_in (M := xm_X7_capitalOf) (ls := [some _, some _, some _]) rfl rfl rfl ?_
                refine y_aload_n rfl rfl ?_
                refine y_getR rfl (ySh.t hS rfl) (ySh.n hS rfl) rfl rfl (ySh.r hS rfl) ?_
                refine y_aload_n rfl rfl ?_
                refine y_iload_n rfl rfl ?_
                refine y_iload_n rfl rfl ?_
                refine y_virt rfl rfl rfl rfl rfl (ySh.t hS rfl) (ySh.n hS rfl) ?_
                refine sp_at (by omega) (by omega) (by omega) (by omega) (fun z_ hz27 => ?_)
                refine y_ret1 ?_
                refine y_iaload rfl (ySh.t hS rfl) (ySh.n hS rfl) (by omega) (by omega) ?_
                refine y_ireturn rfl rfl rfl ?_
                refine y_ret1 ?_
                refine y_ireturn rfl rfl rfl ?_
                exact hQ _
              · refine y_swIn (j := 1) rfl h_25 (by decide) j_X8_ofVenture_75 ?_
                refine y_aload_n rfl rfl ?_
                refine y_getR rfl (ySh.t hS rfl) (ySh.n hS rfl) rfl rfl (ySh.r hS rfl) ?_
                refine y_iload_n rfl rfl ?_
                refine y_iload rfl rfl ?_
                refine y_virt rfl rfl rfl rfl rfl (ySh.t hS rfl) (ySh.n hS rfl) ?_
                refine y_in (M := xm_X7_shareOf) (ls := [some _, some _, some _]) rfl rfl rfl ?_
                refine y_aload_n rfl rfl ?_
                refine y_getR rfl (ySh.t hS rfl) (ySh.n hS rfl) rfl rfl (ySh.r hS rfl) ?_
                refine y_aload_n rfl rfl ?_
                refine y_iload_n rfl rfl ?_
                refine y_iload_n rfl rfl ?_
                refine y_virt rfl rfl rfl rfl rfl (ySh.t hS rfl) (ySh.n hS rfl) ?_
                refine sp_at (by omega) (by omega) (by omega) (by omega) (fun z_ hz28 => ?_)
                refine y_ret1 ?_
                refine y_iaload rfl (ySh.t hS rfl) (ySh.n hS rfl) (by omega) (by omega) ?_
                refine y_ireturn rfl rfl rfl ?_
                refine y_ret1 ?_
                refine y_ireturn rfl rfl rfl ?_
                exact hQ _
              · refine y_swIn (j := 2) rfl h_25 (by decide) j_X8_ofVenture_86 ?_
                refine y_aload_n rfl rfl ?_
                refine y_getR rfl (ySh.t hS rfl) (ySh.n hS rfl) rfl rfl (ySh.r hS rfl) ?_
                refine y_iload_n rfl rfl ?_
                refine y_iload rfl rfl ?_
                refine y_virt rfl rfl rfl rfl rfl (ySh.t hS rfl) (ySh.n hS rfl) ?_
                refine y_in (M := xm_X7_gainOf) (ls := [some _, some _, some _]) rfl rfl rfl ?_
                refine y_aload_n rfl rfl ?_
                refine y_getR rfl (ySh.t hS rfl) (ySh.n hS rfl) rfl rfl (ySh.r hS rfl) ?_
                refine y_aload_n rfl rfl ?_
                refine y_iload_n rfl rfl ?_
                refine y_iload_n rfl rfl ?_
                refine y_virt rfl rfl rfl rfl rfl (ySh.t hS rfl) (ySh.n hS rfl) ?_
                refine sp_at (by omega) (by omega) (by omega) (by omega) (fun z_ hz29 => ?_)
                refine y_ret1 ?_
                refine y_iaload rfl (ySh.t hS rfl) (ySh.n hS rfl) (by omega) (by omega) ?_
                refine y_ireturn rfl rfl rfl ?_
                refine y_ret1 ?_
                refine y_ireturn rfl rfl rfl ?_
                exact hQ _
            · rw [yz_m1] at h_24
              refine y_bip rfl (by decide) ?_
              refine y_goto rfl j_X8_placeOf_11 ?_
              refine y_ireturn rfl rfl rfl ?_
              refine y_ret1 ?_
              refine y_istore (ls' := [some _, some _, some _, some _, some _]) rfl rfl rfl ?_
              refine y_iload_n rfl rfl ?_
              refine y_sw rfl (fun h_31 => ?_) (fun h_30 => ?_)
              · refine y_swOut rfl j_X8_ofVenture_97 h_31 ?_
                refine y_throw rfl rfl rfl ?_
                exact hE1 (by omega)
              rcases ySwC0_2 h_30 with h_30 | h_30 | h_30
              · refine y_swIn (j := 0) rfl h_30 (by decide) j_X8_ofVenture_64 ?_
                refine y_aload_n rfl rfl ?_
                refine y_getR rfl (ySh.t hS rfl) (ySh.n hS rfl) rfl rfl (ySh.r hS rfl) ?_
                refine y_iload_n rfl rfl ?_
                refine y_iload rfl rfl ?_
                refine y_virt rfl rfl rfl rfl rfl (ySh.t hS rfl) (ySh.n hS rfl) ?_
                refine y_in (M := xm_X7_capitalOf) (ls := [some _, some _, some _]) rfl rfl rfl ?_
                refine y_aload_n rfl rfl ?_
                refine y_getR rfl (ySh.t hS rfl) (ySh.n hS rfl) rfl rfl (ySh.r hS rfl) ?_
                refine y_aload_n rfl rfl ?_
                refine y_iload_n rfl rfl ?_
                refine y_iload_n rfl rfl ?_
                refine y_virt rfl rfl rfl rfl rfl (ySh.t hS rfl) (ySh.n hS rfl) ?_
                refine sp_at (by omega) (by omega) (by decide) (by decide) (fun z_ hz32 => ?_)
                rw [yz_8] at hz32
                refine y_ret1 ?_
                refine y_iaload rfl (ySh.t hS rfl) (ySh.n hS rfl) (by omega) (by omega) ?_
                refine y_ireturn rfl rfl rfl ?_
                refine y_ret1 ?_
                refine y_ireturn rfl rfl rfl ?_
                exact hQ _
              · refine y_swIn (j := 1) rfl h_30 (by decide) j_X8_ofVenture_75 ?_
                refine y_aload_n rfl rfl ?_
                refine y_getR rfl (ySh.t hS rfl) (ySh.n hS rfl) rfl rfl (ySh.r hS rfl) ?_
                refine y_iload_n rfl rfl ?_
                refine y_iload rfl rfl ?_
                refine y_virt rfl rfl rfl rfl rfl (ySh.t hS rfl) (ySh.n hS rfl) ?_
                refine y_in (M := xm_X7_shareOf) (ls := [some _, some _, some _]) rfl rfl rfl ?_
                refine y_aload_n rfl rfl ?_
                refine y_getR rfl (ySh.t hS rfl) (ySh.n hS rfl) rfl rfl (ySh.r hS rfl) ?_
                refine y_aload_n rfl rfl ?_
                refine y_iload_n rfl rfl ?_
                refine y_iload_n rfl rfl ?_
                refine y_virt rfl rfl rfl rfl rfl (ySh.t hS rfl) (ySh.n hS rfl) ?_
                refine sp_at (by omega) (by omega) (by decide) (by decide) (fun z_ hz33 => ?_)
                rw [yz_8] at hz33
                refine y_ret1 ?_
                refine y_iaload rfl (ySh.t hS rfl) (ySh.n hS rfl) (by omega) (by omega) ?_
                refine y_ireturn rfl rfl rfl ?_
                refine y_ret1 ?_
                refine y_ireturn rfl rfl rfl ?_
                exact hQ _
              · refine y_swIn (j := 2) rfl h_30 (by decide) j_X8_ofVenture_86 ?_
                refine y_aload_n rfl rfl ?_
                refine y_getR rfl (ySh.t hS rfl) (ySh.n hS rfl) rfl rfl (ySh.r hS rfl) ?_
                refine y_iload_n rfl rfl ?_
                refine y_iload rfl rfl ?_
                refine y_virt rfl rfl rfl rfl rfl (ySh.t hS rfl) (ySh.n hS rfl) ?_
                refine y_in (M := xm_X7_gainOf) (ls := [some _, some _, some _]) rfl rfl rfl ?_
                refine y_aload_n rfl rfl ?_
                refine y_getR rfl (ySh.t hS rfl) (ySh.n hS rfl) rfl rfl (ySh.r hS rfl) ?_
                refine y_aload_n rfl rfl ?_
                refine y_iload_n rfl rfl ?_
                refine y_iload_n rfl rfl ?_
                refine y_virt rfl rfl rfl rfl rfl (ySh.t hS rfl) (ySh.n hS rfl) ?_
                refine sp_at (by omega) (by omega) (by decide) (by decide) (fun z_ hz34 => ?_)
                rw [yz_8] at hz34
                refine y_ret1 ?_
                refine y_iaload rfl (ySh.t hS rfl) (ySh.n hS rfl) (by omega) (by omega) ?_
                refine y_ireturn rfl rfl rfl ?_
                refine y_ret1 ?_
                refine y_ireturn rfl rfl rfl ?_
                exact hQ _
theorem m_ofFirm (hS : ySh n tg R) (hC : yCI I) {x1 x2 : Int32} (hE0 : ¬ (0 ≤ x1.toInt ∧ x1.toInt < (I 77 0).toInt) → Q (.inr "java/lang/IndexOutOfBoundsException") (n, tg, I, R) (c + 1) (s + 6)) (hE1 : ¬ (0 ≤ x2.toInt ∧ x2.toInt ≤ 4) → Q (.inr "java/lang/IllegalArgumentException") (n, tg, I, R) (c + 1) (s + 6)) (hQ : ∀ v, Q (.inl (some (.int v))) (n, tg, I, R) c s) : yC 147 [.ref 34, .int x1, .int x2] (n, tg, I, R) c s Q := by
  have hz := (yshl (x := I 77 0) (by omega) (by omega)).1.2
  refine y_in (M := xm_X8_ofFirm) (ls := [some _, some _, some _]) rfl rfl rfl ?_
  refine y_aload_n rfl rfl ?_
  refine y_getR rfl (ySh.t hS rfl) (ySh.n hS rfl) rfl rfl (ySh.r hS rfl) ?_
  refine y_iload_n rfl rfl ?_
  refine y_virt rfl rfl rfl rfl rfl (ySh.t hS rfl) (ySh.n hS rfl) ?_
  refine y_in (M := xm_X1_has) (ls := [some _, some _]) rfl rfl rfl ?_
  refine y_iload_n rfl rfl ?_
  refine y_if_lt rfl j_X1_has_16 (fun h_1 => ?_) (fun h_2 => ?_)
  · refine y_iconst rfl ?_
    refine y_ireturn rfl rfl rfl ?_
    refine y_ret1 ?_
    refine y_if_neF rfl (by decide) ?_
    refine y_throw rfl rfl rfl ?_
    exact hE0 (by omega)
  · refine y_iload_n rfl rfl ?_
    refine y_aload_n rfl rfl ?_
    refine y_getI rfl (ySh.t hS rfl) (ySh.n hS rfl) rfl rfl ?_
    refine y_icmp_ge rfl j_X1_has_16 (fun h_3 => ?_) (fun h_4 => ?_)
    · refine y_iconst rfl ?_
      refine y_ireturn rfl rfl rfl ?_
      refine y_ret1 ?_
      refine y_if_neF rfl (by decide) ?_
      refine y_throw rfl rfl rfl ?_
      exact hE0 (by omega)
    · refine y_iconst rfl ?_
      refine y_goto rfl j_X1_has_17 ?_
      refine y_ireturn rfl rfl rfl ?_
      refine y_ret1 ?_
      refine y_if_neT rfl j_X8_ofFirm_22 (by decide) ?_
      refine y_iload_n rfl rfl ?_
      refine y_sw rfl (fun h_6 => ?_) (fun h_5 => ?_)
      · refine y_swOut rfl j_X8_ofFirm_122 h_6 ?_
        refine y_throw rfl rfl rfl ?_
        exact hE1 (by omega)
      rcases ySwC0_4 h_5 with h_5 | h_5 | h_5 | h_5 | h_5
      · refine y_swIn (j := 0) rfl h_5 (by decide) j_X8_ofFirm_56 ?_
        refine y_aload_n rfl rfl ?_
        refine y_getR rfl (ySh.t hS rfl) (ySh.n hS rfl) rfl rfl (ySh.r hS rfl) ?_
        refine y_iload_n rfl rfl ?_
        refine y_virt rfl rfl rfl rfl rfl (ySh.t hS rfl) (ySh.n hS rfl) ?_
        refine y_in (M := xm_X1_isClean) (ls := [some _, some _]) rfl rfl rfl ?_
        refine y_aload_n rfl rfl ?_
        refine y_getI rfl (ySh.t hS rfl) (ySh.n hS rfl) rfl rfl ?_
        refine y_iload_n rfl rfl ?_
        refine y_ishr rfl ?_
        refine y_iconst rfl ?_
        refine y_iand rfl ?_
        refine y_iconst rfl ?_
        refine y_icmp_ne rfl j_X1_isClean_16 (fun h_7 => ?_) (fun h_8 => ?_)
        · rw [yz_1] at h_7
          refine y_iconst rfl ?_
          refine y_ireturn rfl rfl rfl ?_
          refine y_ret1 ?_
          refine y_if_eqT rfl j_X8_ofFirm_71 (by decide) ?_
          refine y_iconst rfl ?_
          refine y_ireturn rfl rfl rfl ?_
          exact hQ _
        · rw [yz_1] at h_8
          refine y_iconst rfl ?_
          refine y_goto rfl j_X1_isClean_17 ?_
          refine y_ireturn rfl rfl rfl ?_
          refine y_ret1 ?_
          refine y_if_eqF rfl (by decide) ?_
          refine y_iconst rfl ?_
          refine y_goto rfl j_X8_ofFirm_72 ?_
          refine y_ireturn rfl rfl rfl ?_
          exact hQ _
      · refine y_swIn (j := 1) rfl h_5 (by decide) j_X8_ofFirm_73 ?_
        refine y_aload_n rfl rfl ?_
        refine y_getR rfl (ySh.t hS rfl) (ySh.n hS rfl) rfl rfl (ySh.r hS rfl) ?_
        refine y_iload_n rfl rfl ?_
        refine y_virt rfl rfl rfl rfl rfl (ySh.t hS rfl) (ySh.n hS rfl) ?_
        refine y_in (M := xm_X1_isHeld) (ls := [some _, some _]) rfl rfl rfl ?_
        refine y_aload_n rfl rfl ?_
        refine y_getI rfl (ySh.t hS rfl) (ySh.n hS rfl) rfl rfl ?_
        refine y_iload_n rfl rfl ?_
        refine y_ishr rfl ?_
        refine y_iconst rfl ?_
        refine y_iand rfl ?_
        refine y_iconst rfl ?_
        refine y_icmp_ne rfl j_X1_isHeld_16 (fun h_9 => ?_) (fun h_10 => ?_)
        · rw [yz_1] at h_9
          refine y_iconst rfl ?_
          refine y_ireturn rfl rfl rfl ?_
          refine y_ret1 ?_
          refine y_if_eqT rfl j_X8_ofFirm_88 (by decide) ?_
          refine y_iconst rfl ?_
          refine y_ireturn rfl rfl rfl ?_
          exact hQ _
        · rw [yz_1] at h_10
          refine y_iconst rfl ?_
          refine y_goto rfl j_X1_isHeld_17 ?_
          refine y_ireturn rfl rfl rfl ?_
          refine y_ret1 ?_
          refine y_if_eqF rfl (by decide) ?_
          refine y_iconst rfl ?_
          refine y_goto rfl j_X8_ofFirm_89 ?_
          refine y_ireturn rfl rfl rfl ?_
          exact hQ _
      · refine y_swIn (j := 2) rfl h_5 (by decide) j_X8_ofFirm_90 ?_
        refine y_aload_n rfl rfl ?_
        refine y_getR rfl (ySh.t hS rfl) (ySh.n hS rfl) rfl rfl (ySh.r hS rfl) ?_
        refine y_getR rfl (ySh.t hS rfl) (ySh.n hS rfl) rfl rfl (ySh.r hS rfl) ?_
        refine y_iload_n rfl rfl ?_
        refine y_iaload rfl (ySh.t hS rfl) (ySh.n hS rfl) (by omega) (by omega) ?_
        refine y_ireturn rfl rfl rfl ?_
        exact hQ _
      · refine y_swIn (j := 3) rfl h_5 (by decide) j_X8_ofFirm_100 ?_
        refine y_aload_n rfl rfl ?_
        refine y_getR rfl (ySh.t hS rfl) (ySh.n hS rfl) rfl rfl (ySh.r hS rfl) ?_
        refine y_iconst rfl ?_
        refine y_iload_n rfl rfl ?_
        refine y_ishl rfl ?_
        refine y_virt rfl rfl rfl rfl rfl (ySh.t hS rfl) (ySh.n hS rfl) ?_
        refine y_in (M := xm_X1_prices) (ls := [some _, some _]) rfl rfl rfl ?_
        refine y_aload_n rfl rfl ?_
        refine y_iload_n rfl rfl ?_
        refine y_virt rfl rfl rfl rfl rfl (ySh.t hS rfl) (ySh.n hS rfl) ?_
        refine y_in (M := xm_X1_isSet) (ls := [some _, some _]) rfl rfl rfl ?_
        refine y_iload_n rfl rfl ?_
        refine y_if_lt rfl j_X1_isSet_18 (fun h_11 => ?_) (fun h_12 => ?_)
        · refine y_iconst rfl ?_
          refine y_ireturn rfl rfl rfl ?_
          refine y_ret1 ?_
          refine y_if_eqT rfl j_X1_prices_17 (by decide) ?_
          refine y_iconst rfl ?_
          refine y_ireturn rfl rfl rfl ?_
          refine y_ret1 ?_
          refine y_ireturn rfl rfl rfl ?_
          exact hQ _
        · refine y_iload_n rfl rfl ?_
          refine y_iconst rfl ?_
          refine y_aload_n rfl rfl ?_
          refine y_getI rfl (ySh.t hS rfl) (ySh.n hS rfl) rfl rfl ?_
          refine y_ishl rfl ?_
          refine y_icmp_ge rfl j_X1_isSet_18 (fun h_13 => ?_) (fun h_14 => ?_)
          · refine y_iconst rfl ?_
            refine y_ireturn rfl rfl rfl ?_
            refine y_ret1 ?_
            refine y_if_eqT rfl j_X1_prices_17 (by decide) ?_
            refine y_iconst rfl ?_
            refine y_ireturn rfl rfl rfl ?_
            refine y_ret1 ?_
            refine y_ireturn rfl rfl rfl ?_
            exact hQ _
          · refine y_iconst rfl ?_
            refine y_goto rfl j_X1_isSet_19 ?_
            refine y_ireturn rfl rfl rfl ?_
            refine y_ret1 ?_
            refine y_if_eqF rfl (by decide) ?_
            refine y_aload_n rfl rfl ?_
            refine y_getR rfl (ySh.t hS rfl) (ySh.n hS rfl) rfl rfl (ySh.r hS rfl) ?_
            refine y_iload_n rfl rfl ?_
            refine y_iaload rfl (ySh.t hS rfl) (ySh.n hS rfl) (by omega) (by omega) ?_
            refine y_goto rfl j_X1_prices_18 ?_
            refine y_ireturn rfl rfl rfl ?_
            refine y_ret1 ?_
            refine y_ireturn rfl rfl rfl ?_
            exact hQ _
      · refine y_swIn (j := 4) rfl h_5 (by decide) j_X8_ofFirm_111 ?_
        refine y_aload_n rfl rfl ?_
        refine y_getR rfl (ySh.t hS rfl) (ySh.n hS rfl) rfl rfl (ySh.r hS rfl) ?_
        refine y_iconst rfl ?_
        refine y_iload_n rfl rfl ?_
        refine y_ishl rfl ?_
        refine y_virt rfl rfl rfl rfl rfl (ySh.t hS rfl) (ySh.n hS rfl) ?_
        refine y_in (M := xm_X1_gains) (ls := [some _, some _]) rfl rfl rfl ?_
        refine y_aload_n rfl rfl ?_
        refine y_iload_n rfl rfl ?_
        refine y_virt rfl rfl rfl rfl rfl (ySh.t hS rfl) (ySh.n hS rfl) ?_
        refine y_in (M := xm_X1_isSet) (ls := [some _, some _]) rfl rfl rfl ?_
        refine y_iload_n rfl rfl ?_
        refine y_if_lt rfl j_X1_isSet_18 (fun h_15 => ?_) (fun h_16 => ?_)
        · refine y_iconst rfl ?_
          refine y_ireturn rfl rfl rfl ?_
          refine y_ret1 ?_
          refine y_if_eqT rfl j_X1_gains_17 (by decide) ?_
          refine y_iconst rfl ?_
          refine y_ireturn rfl rfl rfl ?_
          refine y_ret1 ?_
          refine y_ireturn rfl rfl rfl ?_
          exact hQ _
        · refine y_iload_n rfl rfl ?_
          refine y_iconst rfl ?_
          refine y_aload_n rfl rfl ?_
          refine y_getI rfl (ySh.t hS rfl) (ySh.n hS rfl) rfl rfl ?_
          refine y_ishl rfl ?_
          refine y_icmp_ge rfl j_X1_isSet_18 (fun h_17 => ?_) (fun h_18 => ?_)
          · refine y_iconst rfl ?_
            refine y_ireturn rfl rfl rfl ?_
            refine y_ret1 ?_
            refine y_if_eqT rfl j_X1_gains_17 (by decide) ?_
            refine y_iconst rfl ?_
            refine y_ireturn rfl rfl rfl ?_
            refine y_ret1 ?_
            refine y_ireturn rfl rfl rfl ?_
            exact hQ _
          · refine y_iconst rfl ?_
            refine y_goto rfl j_X1_isSet_19 ?_
            refine y_ireturn rfl rfl rfl ?_
            refine y_ret1 ?_
            refine y_if_eqF rfl (by decide) ?_
            refine y_aload_n rfl rfl ?_
            refine y_getR rfl (ySh.t hS rfl) (ySh.n hS rfl) rfl rfl (ySh.r hS rfl) ?_
            refine y_iload_n rfl rfl ?_
            refine y_iaload rfl (ySh.t hS rfl) (ySh.n hS rfl) (by omega) (by omega) ?_
            refine y_goto rfl j_X1_gains_18 ?_
            refine y_ireturn rfl rfl rfl ?_
            refine y_ret1 ?_
            refine y_ireturn rfl rfl rfl ?_
            exact hQ _
theorem m_allowed (hS : ySh n tg R) (hC : yCI I) {x1 x2 : Int32} (hE0 : Q (.inr "java/lang/IndexOutOfBoundsException") (n, tg, I, R) (c + 1) (s + 6)) (hE1 : Q (.inr "java/lang/IllegalArgumentException") (n, tg, I, R) (c + 1) (s + 6)) (hQ1 : Q (.inl (some (.int (Int32.ofInt 1)))) (n, tg, I, R) c s) (hQ0 : Q (.inl (some (.int (Int32.ofInt 0)))) (n, tg, I, R) c s) : yC 148 [.ref 34, .int x1, .int x2] (n, tg, I, R) c s Q := by
  refine y_in (M := xm_X8_allowed) (ls := [some _, some _, some _]) rfl rfl rfl ?_
  refine y_iload_n rfl rfl ?_
  refine y_iconst rfl ?_
  refine y_iconst rfl ?_
  refine y_static rfl rfl rfl rfl rfl ?_
  refine y_in (M := xm_X8_isIn) (ls := [some _, some _, some _]) rfl rfl rfl ?_
  refine y_iload_n rfl rfl ?_
  refine y_iload_n rfl rfl ?_
  refine y_icmp_lt rfl j_X8_isIn_14 (fun h_1 => ?_) (fun h_2 => ?_)
  · rw [yz_0] at h_1
    refine y_iconst rfl ?_
    refine y_ireturn rfl rfl rfl ?_
    refine y_ret1 ?_
    refine y_if_neF rfl (by decide) ?_
    refine y_throw rfl rfl rfl ?_
    exact hE0
  · rw [yz_0] at h_2
    refine y_iload_n rfl rfl ?_
    refine y_iload_n rfl rfl ?_
    refine y_icmp_gt rfl j_X8_isIn_14 (fun h_3 => ?_) (fun h_4 => ?_)
    · rw [yz_4] at h_3
      refine y_iconst rfl ?_
      refine y_ireturn rfl rfl rfl ?_
      refine y_ret1 ?_
      refine y_if_neF rfl (by decide) ?_
      refine y_throw rfl rfl rfl ?_
      exact hE0
    · rw [yz_4] at h_4
      refine y_iconst rfl ?_
      refine y_goto rfl j_X8_isIn_15 ?_
      refine y_ireturn rfl rfl rfl ?_
      refine y_ret1 ?_
      refine y_if_neT rfl j_X8_allowed_20 (by decide) ?_
      refine y_iload_n rfl rfl ?_
      refine y_iconst rfl ?_
      refine y_aload_n rfl rfl ?_
      refine y_getI rfl (ySh.t hS rfl) (ySh.n hS rfl) rfl rfl ?_
      refine y_static rfl rfl rfl rfl rfl ?_
      refine y_in (M := xm_X8_isIn) (ls := [some _, some _, some _]) rfl rfl rfl ?_
      refine y_iload_n rfl rfl ?_
      refine y_iload_n rfl rfl ?_
      refine y_icmp_lt rfl j_X8_isIn_14 (fun h_5 => ?_) (fun h_6 => ?_)
      · rw [yz_0] at h_5
        refine y_iconst rfl ?_
        refine y_ireturn rfl rfl rfl ?_
        refine y_ret1 ?_
        refine y_if_neF rfl (by decide) ?_
        refine y_throw rfl rfl rfl ?_
        exact hE1
      · rw [yz_0] at h_6
        refine y_iload_n rfl rfl ?_
        refine y_iload_n rfl rfl ?_
        refine y_icmp_gt rfl j_X8_isIn_14 (fun h_7 => ?_) (fun h_8 => ?_)
        · refine y_iconst rfl ?_
          refine y_ireturn rfl rfl rfl ?_
          refine y_ret1 ?_
          refine y_if_neF rfl (by decide) ?_
          refine y_throw rfl rfl rfl ?_
          exact hE1
        · refine y_iconst rfl ?_
          refine y_goto rfl j_X8_isIn_15 ?_
          refine y_ireturn rfl rfl rfl ?_
          refine y_ret1 ?_
          refine y_if_neT rfl j_X8_allowed_43 (by decide) ?_
          refine y_iload_n rfl rfl ?_
          refine y_aload_n rfl rfl ?_
          refine y_getI rfl (ySh.t hS rfl) (ySh.n hS rfl) rfl rfl ?_
          refine y_icmp_ne rfl j_X8_allowed_62 (fun h_9 => ?_) (fun h_10 => ?_)
          · refine y_aload_n rfl rfl ?_
            refine y_getR rfl (ySh.t hS rfl) (ySh.n hS rfl) rfl rfl (ySh.r hS rfl) ?_
            refine y_iload_n rfl rfl ?_
            refine y_iload_n rfl rfl ?_
            refine y_virt rfl rfl rfl rfl rfl (ySh.t hS rfl) (ySh.n hS rfl) ?_
            refine y_in (M := xm_X0_wasAllowed) (ls := [some _, some _, some _]) rfl rfl rfl ?_
            refine y_aload_n rfl rfl ?_
            refine y_getR rfl (ySh.t hS rfl) (ySh.n hS rfl) rfl rfl (ySh.r hS rfl) ?_
            refine y_iload_n rfl rfl ?_
            refine y_baload rfl (ySh.t hS rfl) rfl (ySh.n hS rfl) (by omega) (by omega) ?_
            refine y_iload_n rfl rfl ?_
            refine y_ishr rfl ?_
            refine y_iconst rfl ?_
            refine y_iand rfl ?_
            refine y_iconst rfl ?_
            refine y_icmp_ne rfl j_X0_wasAllowed_18 (fun h_11 => ?_) (fun h_12 => ?_)
            · rw [yz_1] at h_11
              refine y_iconst rfl ?_
              refine y_ireturn rfl rfl rfl ?_
              refine y_ret1 ?_
              refine y_ireturn rfl rfl rfl ?_
              exact hQ0
            · rw [yz_1] at h_12
              refine y_iconst rfl ?_
              refine y_goto rfl j_X0_wasAllowed_19 ?_
              refine y_ireturn rfl rfl rfl ?_
              refine y_ret1 ?_
              refine y_ireturn rfl rfl rfl ?_
              exact hQ1
          · refine y_aload_n rfl rfl ?_
            refine y_getR rfl (ySh.t hS rfl) (ySh.n hS rfl) rfl rfl (ySh.r hS rfl) ?_
            refine y_iload_n rfl rfl ?_
            refine y_virt rfl rfl rfl rfl rfl (ySh.t hS rfl) (ySh.n hS rfl) ?_
            refine sp_isAllowedNow hS (by omega) (by omega) (fun h_13 => ?_) (fun h_14 => ?_)
            · refine y_ret1 ?_
              refine y_goto rfl j_X8_allowed_71 ?_
              refine y_ireturn rfl rfl rfl ?_
              exact hQ1
            · refine y_ret1 ?_
              refine y_goto rfl j_X8_allowed_71 ?_
              refine y_ireturn rfl rfl rfl ?_
              exact hQ0
theorem m_house (hS : ySh n tg R) (hC : yCI I) {x1 : Int32} (hE1 : ¬ (0 ≤ x1.toInt ∧ x1.toInt ≤ 15) → Q (.inr "java/lang/IllegalArgumentException") (n, tg, I, R) (c + 1) (s + 6)) (hQ : ∀ v, Q (.inl (some (.int v))) (n, tg, I, R) c s) : yC 149 [.ref 34, .int x1] (n, tg, I, R) c s Q := by
  refine y_in (M := xm_X8_house) (ls := [some _, some _]) rfl rfl rfl ?_
  refine y_iload_n rfl rfl ?_
  refine y_sw rfl (fun h_2 => ?_) (fun h_1 => ?_)
  · refine y_swOut rfl j_X8_house_207 h_2 ?_
    refine y_throw rfl rfl rfl ?_
    exact hE1 (by omega)
  rcases ySwC0_15 h_1 with h_1 | h_1 | h_1 | h_1 | h_1 | h_1 | h_1 | h_1 | h_1 | h_1 | h_1 | h_1 | h_1 | h_1 | h_1 | h_1
  · refine y_swIn (j := 0) rfl h_1 (by decide) j_X8_house_80 ?_
    refine y_aload_n rfl rfl ?_
    refine y_getI rfl (ySh.t hS rfl) (ySh.n hS rfl) rfl rfl ?_
    refine y_ireturn rfl rfl rfl ?_
    exact hQ _
  · refine y_swIn (j := 1) rfl h_1 (by decide) j_X8_house_85 ?_
    refine y_aload_n rfl rfl ?_
    refine y_getR rfl (ySh.t hS rfl) (ySh.n hS rfl) rfl rfl (ySh.r hS rfl) ?_
    refine y_getR rfl (ySh.t hS rfl) (ySh.n hS rfl) rfl rfl (ySh.r hS rfl) ?_
    refine y_bip rfl (by decide) ?_
    refine y_iaload rfl (ySh.t hS rfl) (ySh.n hS rfl) (by decide) (by decide) ?_
    refine y_ireturn rfl rfl rfl ?_
    exact hQ _
  · refine y_swIn (j := 2) rfl h_1 (by decide) j_X8_house_96 ?_
    refine y_aload_n rfl rfl ?_
    refine y_getR rfl (ySh.t hS rfl) (ySh.n hS rfl) rfl rfl (ySh.r hS rfl) ?_
    refine y_getI rfl (ySh.t hS rfl) (ySh.n hS rfl) rfl rfl ?_
    refine y_ireturn rfl rfl rfl ?_
    exact hQ _
  · refine y_swIn (j := 3) rfl h_1 (by decide) j_X8_house_104 ?_
    refine y_aload_n rfl rfl ?_
    refine y_getR rfl (ySh.t hS rfl) (ySh.n hS rfl) rfl rfl (ySh.r hS rfl) ?_
    refine y_getI rfl (ySh.t hS rfl) (ySh.n hS rfl) rfl rfl ?_
    refine y_ireturn rfl rfl rfl ?_
    exact hQ _
  · refine y_swIn (j := 4) rfl h_1 (by decide) j_X8_house_112 ?_
    refine y_aload_n rfl rfl ?_
    refine y_getR rfl (ySh.t hS rfl) (ySh.n hS rfl) rfl rfl (ySh.r hS rfl) ?_
    refine y_virt rfl rfl rfl rfl rfl (ySh.t hS rfl) (ySh.n hS rfl) ?_
    refine sp_deposits_X3 hS hC (fun v_ => ?_)
    refine y_ret1 ?_
    refine y_ireturn rfl rfl rfl ?_
    exact hQ _
  · refine y_swIn (j := 5) rfl h_1 (by decide) j_X8_house_120 ?_
    refine y_aload_n rfl rfl ?_
    refine y_getI rfl (ySh.t hS rfl) (ySh.n hS rfl) rfl rfl ?_
    refine y_ireturn rfl rfl rfl ?_
    exact hQ _
  · refine y_swIn (j := 6) rfl h_1 (by decide) j_X8_house_125 ?_
    refine y_aload_n rfl rfl ?_
    refine y_getR rfl (ySh.t hS rfl) (ySh.n hS rfl) rfl rfl (ySh.r hS rfl) ?_
    refine y_getI rfl (ySh.t hS rfl) (ySh.n hS rfl) rfl rfl ?_
    refine y_ireturn rfl rfl rfl ?_
    exact hQ _
  · refine y_swIn (j := 7) rfl h_1 (by decide) j_X8_house_133 ?_
    refine y_aload_n rfl rfl ?_
    refine y_getR rfl (ySh.t hS rfl) (ySh.n hS rfl) rfl rfl (ySh.r hS rfl) ?_
    refine y_virt rfl rfl rfl rfl rfl (ySh.t hS rfl) (ySh.n hS rfl) ?_
    refine sp_countVoid_X5 hS hC (fun v_ => ?_)
    refine y_ret1 ?_
    refine y_ireturn rfl rfl rfl ?_
    exact hQ _
  · refine y_swIn (j := 8) rfl h_1 (by decide) j_X8_house_141 ?_
    refine y_aload_n rfl rfl ?_
    refine y_getR rfl (ySh.t hS rfl) (ySh.n hS rfl) rfl rfl (ySh.r hS rfl) ?_
    refine y_virt rfl rfl rfl rfl rfl (ySh.t hS rfl) (ySh.n hS rfl) ?_
    refine sp_countDone_X5 hS hC (fun v_ => ?_)
    refine y_ret1 ?_
    refine y_ireturn rfl rfl rfl ?_
    exact hQ _
  · refine y_swIn (j := 9) rfl h_1 (by decide) j_X8_house_149 ?_
    refine y_aload_n rfl rfl ?_
    refine y_getR rfl (ySh.t hS rfl) (ySh.n hS rfl) rfl rfl (ySh.r hS rfl) ?_
    refine y_virt rfl rfl rfl rfl rfl (ySh.t hS rfl) (ySh.n hS rfl) ?_
    refine sp_countOpen_X2 hS hC (fun v_ => ?_)
    refine y_ret1 ?_
    refine y_ireturn rfl rfl rfl ?_
    exact hQ _
  · refine y_swIn (j := 10) rfl h_1 (by decide) j_X8_house_157 ?_
    refine y_aload_n rfl rfl ?_
    refine y_getR rfl (ySh.t hS rfl) (ySh.n hS rfl) rfl rfl (ySh.r hS rfl) ?_
    refine y_getI rfl (ySh.t hS rfl) (ySh.n hS rfl) rfl rfl ?_
    refine y_ireturn rfl rfl rfl ?_
    exact hQ _
  · refine y_swIn (j := 11) rfl h_1 (by decide) j_X8_house_165 ?_
    refine y_aload_n rfl rfl ?_
    refine y_getR rfl (ySh.t hS rfl) (ySh.n hS rfl) rfl rfl (ySh.r hS rfl) ?_
    refine y_getI rfl (ySh.t hS rfl) (ySh.n hS rfl) rfl rfl ?_
    refine y_ireturn rfl rfl rfl ?_
    exact hQ _
  · refine y_swIn (j := 12) rfl h_1 (by decide) j_X8_house_173 ?_
    refine y_aload_n rfl rfl ?_
    refine y_getR rfl (ySh.t hS rfl) (ySh.n hS rfl) rfl rfl (ySh.r hS rfl) ?_
    refine y_bip rfl (by decide) ?_
    refine y_virt rfl rfl rfl rfl rfl (ySh.t hS rfl) (ySh.n hS rfl) ?_
    refine sp_ownedBy_X6 hS hC (fun v_ => ?_)
    refine y_ret1 ?_
    refine y_ireturn rfl rfl rfl ?_
    exact hQ _
  · refine y_swIn (j := 13) rfl h_1 (by decide) j_X8_house_183 ?_
    refine y_aload_n rfl rfl ?_
    refine y_getR rfl (ySh.t hS rfl) (ySh.n hS rfl) rfl rfl (ySh.r hS rfl) ?_
    refine y_virt rfl rfl rfl rfl rfl (ySh.t hS rfl) (ySh.n hS rfl) ?_
    refine sp_cashOfPeople_X4 hS hC (fun v_ => ?_)
    refine y_ret1 ?_
    refine y_ireturn rfl rfl rfl ?_
    exact hQ _
  · refine y_swIn (j := 14) rfl h_1 (by decide) j_X8_house_191 ?_
    refine y_aload_n rfl rfl ?_
    refine y_getR rfl (ySh.t hS rfl) (ySh.n hS rfl) rfl rfl (ySh.r hS rfl) ?_
    refine y_getI rfl (ySh.t hS rfl) (ySh.n hS rfl) rfl rfl ?_
    refine y_ireturn rfl rfl rfl ?_
    exact hQ _
  · refine y_swIn (j := 15) rfl h_1 (by decide) j_X8_house_199 ?_
    refine y_aload_n rfl rfl ?_
    refine y_getR rfl (ySh.t hS rfl) (ySh.n hS rfl) rfl rfl (ySh.r hS rfl) ?_
    refine y_getI rfl (ySh.t hS rfl) (ySh.n hS rfl) rfl rfl ?_
    refine y_ireturn rfl rfl rfl ?_
    exact hQ _
theorem m_pillars (hS : ySh n tg R) (hC : yCI I) {x1 x2 : Int32} (hE0 : Q (.inr "java/lang/IndexOutOfBoundsException") (n, tg, I, R) (c + 1) (s + 6)) (hQ : ∀ v, Q (.inl (some (.int v))) (n, tg, I, R) c s) : yC 151 [.ref 34, .int x1, .int x2] (n, tg, I, R) c s Q := by
  refine y_in (M := xm_X8_pillars) (ls := [some _, some _, some _]) rfl rfl rfl ?_
  refine y_aload_n rfl rfl ?_
  refine y_getR rfl (ySh.t hS rfl) (ySh.n hS rfl) rfl rfl (ySh.r hS rfl) ?_
  refine y_iload_n rfl rfl ?_
  refine y_virt rfl rfl rfl rfl rfl (ySh.t hS rfl) (ySh.n hS rfl) ?_
  refine y_in (M := xm_X6_has) (ls := [some _, some _]) rfl rfl rfl ?_
  refine y_iload_n rfl rfl ?_
  refine y_if_lt rfl j_X6_has_16 (fun h_1 => ?_) (fun h_2 => ?_)
  · refine y_iconst rfl ?_
    refine y_ireturn rfl rfl rfl ?_
    refine y_ret1 ?_
    refine y_if_eqT rfl j_X8_pillars_22 (by decide) ?_
    refine y_throw rfl rfl rfl ?_
    exact hE0
  · refine y_iload_n rfl rfl ?_
    refine y_aload_n rfl rfl ?_
    refine y_getI rfl (ySh.t hS rfl) (ySh.n hS rfl) rfl rfl ?_
    refine y_icmp_ge rfl j_X6_has_16 (fun h_3 => ?_) (fun h_4 => ?_)
    · refine y_iconst rfl ?_
      refine y_ireturn rfl rfl rfl ?_
      refine y_ret1 ?_
      refine y_if_eqT rfl j_X8_pillars_22 (by decide) ?_
      refine y_throw rfl rfl rfl ?_
      exact hE0
    · refine y_iconst rfl ?_
      refine y_goto rfl j_X6_has_17 ?_
      refine y_ireturn rfl rfl rfl ?_
      refine y_ret1 ?_
      refine y_if_eqF rfl (by decide) ?_
      refine y_aload_n rfl rfl ?_
      refine y_getR rfl (ySh.t hS rfl) (ySh.n hS rfl) rfl rfl (ySh.r hS rfl) ?_
      refine y_iload_n rfl rfl ?_
      refine y_virt rfl rfl rfl rfl rfl (ySh.t hS rfl) (ySh.n hS rfl) ?_
      refine y_in (M := xm_X4_has) (ls := [some _, some _]) rfl rfl rfl ?_
      refine y_iload_n rfl rfl ?_
      refine y_if_lt rfl j_X4_has_16 (fun h_5 => ?_) (fun h_6 => ?_)
      · refine y_iconst rfl ?_
        refine y_ireturn rfl rfl rfl ?_
        refine y_ret1 ?_
        refine y_if_neF rfl (by decide) ?_
        refine y_throw rfl rfl rfl ?_
        exact hE0
      · refine y_iload_n rfl rfl ?_
        refine y_aload_n rfl rfl ?_
        refine y_getI rfl (ySh.t hS rfl) (ySh.n hS rfl) rfl rfl ?_
        refine y_icmp_ge rfl j_X4_has_16 (fun h_7 => ?_) (fun h_8 => ?_)
        · refine y_iconst rfl ?_
          refine y_ireturn rfl rfl rfl ?_
          refine y_ret1 ?_
          refine y_if_neF rfl (by decide) ?_
          refine y_throw rfl rfl rfl ?_
          exact hE0
        · refine y_iconst rfl ?_
          refine y_goto rfl j_X4_has_17 ?_
          refine y_ireturn rfl rfl rfl ?_
          refine y_ret1 ?_
          refine y_if_neT rfl j_X8_pillars_32 (by decide) ?_
          refine y_aload_n rfl rfl ?_
          refine y_iload_n rfl rfl ?_
          refine y_iload_n rfl rfl ?_
          refine y_virt rfl rfl rfl rfl rfl (ySh.t hS rfl) (ySh.n hS rfl) ?_
          refine sp_missingPillars_X8 hS hC (by omega) (by omega) (fun v_ => ?_)
          refine y_ret1 ?_
          refine y_ireturn rfl rfl rfl ?_
          exact hQ _
theorem m_best (hS : ySh n tg R) (hC : yCI I) {x1 x2 : Int32} (hE1 : ¬ (0 ≤ x1.toInt ∧ x1.toInt ≤ 999) → Q (.inr "java/lang/IllegalArgumentException") (n, tg, I, R) (c + 1) (s + 6)) (hQ : ∀ v, Q (.inl (some (.int v))) (n, tg, I, R) c s) : yC 152 [.ref 34, .int x1, .int x2] (n, tg, I, R) c s Q := by
  have hz := (yshl (x := I 77 0) (by omega) (by omega)).1.2
  refine y_in (M := xm_X8_best) (ls := [some _, some _, some _, _]) rfl rfl rfl ?_
  refine y_iload_n rfl rfl ?_
  refine y_iconst rfl ?_
  refine y_sip rfl (by decide) ?_
  refine y_static rfl rfl rfl rfl rfl ?_
  refine y_in (M := xm_X8_isIn) (ls := [some _, some _, some _]) rfl rfl rfl ?_
  refine y_iload_n rfl rfl ?_
  refine y_iload_n rfl rfl ?_
  refine y_icmp_lt rfl j_X8_isIn_14 (fun h_1 => ?_) (fun h_2 => ?_)
  · rw [yz_0] at h_1
    refine y_iconst rfl ?_
    refine y_ireturn rfl rfl rfl ?_
    refine y_ret1 ?_
    refine y_if_neF rfl (by decide) ?_
    refine y_throw rfl rfl rfl ?_
    exact hE1 (by omega)
  · rw [yz_0] at h_2
    refine y_iload_n rfl rfl ?_
    refine y_iload_n rfl rfl ?_
    refine y_icmp_gt rfl j_X8_isIn_14 (fun h_3 => ?_) (fun h_4 => ?_)
    · rw [yz_999] at h_3
      refine y_iconst rfl ?_
      refine y_ireturn rfl rfl rfl ?_
      refine y_ret1 ?_
      refine y_if_neF rfl (by decide) ?_
      refine y_throw rfl rfl rfl ?_
      exact hE1 (by omega)
    · rw [yz_999] at h_4
      refine y_iconst rfl ?_
      refine y_goto rfl j_X8_isIn_15 ?_
      refine y_ireturn rfl rfl rfl ?_
      refine y_ret1 ?_
      refine y_if_neT rfl j_X8_best_22 (by decide) ?_
      refine y_aload_n rfl rfl ?_
      refine y_getR rfl (ySh.t hS rfl) (ySh.n hS rfl) rfl rfl (ySh.r hS rfl) ?_
      refine y_iload_n rfl rfl ?_
      refine y_virt rfl rfl rfl rfl rfl (ySh.t hS rfl) (ySh.n hS rfl) ?_
      refine sp_bestHolding hS hC (fun v_ => ?_)
      refine y_ret1 ?_
      refine y_istore_n (ls' := [some _, some _, some _, some _]) rfl rfl rfl ?_
      refine y_iload_n rfl rfl ?_
      refine y_if_eq rfl j_X8_best_39 (fun h_5 => ?_) (fun h_6 => ?_)
      · refine y_aload_n rfl rfl ?_
        refine y_getR rfl (ySh.t hS rfl) (ySh.n hS rfl) rfl rfl (ySh.r hS rfl) ?_
        refine y_iload_n rfl rfl ?_
        refine y_virt rfl rfl rfl rfl rfl (ySh.t hS rfl) (ySh.n hS rfl) ?_
        refine y_in (M := xm_X1_gains) (ls := [some _, some _]) rfl rfl rfl ?_
        refine y_aload_n rfl rfl ?_
        refine y_iload_n rfl rfl ?_
        refine y_virt rfl rfl rfl rfl rfl (ySh.t hS rfl) (ySh.n hS rfl) ?_
        refine y_in (M := xm_X1_isSet) (ls := [some _, some _]) rfl rfl rfl ?_
        refine y_iload_n rfl rfl ?_
        refine y_if_lt rfl j_X1_isSet_18 (fun h_7 => ?_) (fun h_8 => ?_)
        · refine y_iconst rfl ?_
          refine y_ireturn rfl rfl rfl ?_
          refine y_ret1 ?_
          refine y_if_eqT rfl j_X1_gains_17 (by decide) ?_
          refine y_iconst rfl ?_
          refine y_ireturn rfl rfl rfl ?_
          refine y_ret1 ?_
          refine y_ireturn rfl rfl rfl ?_
          exact hQ _
        · refine y_iload_n rfl rfl ?_
          refine y_iconst rfl ?_
          refine y_aload_n rfl rfl ?_
          refine y_getI rfl (ySh.t hS rfl) (ySh.n hS rfl) rfl rfl ?_
          refine y_ishl rfl ?_
          refine y_icmp_ge rfl j_X1_isSet_18 (fun h_9 => ?_) (fun h_10 => ?_)
          · refine y_iconst rfl ?_
            refine y_ireturn rfl rfl rfl ?_
            refine y_ret1 ?_
            refine y_if_eqT rfl j_X1_gains_17 (by decide) ?_
            refine y_iconst rfl ?_
            refine y_ireturn rfl rfl rfl ?_
            refine y_ret1 ?_
            refine y_ireturn rfl rfl rfl ?_
            exact hQ _
          · refine y_iconst rfl ?_
            refine y_goto rfl j_X1_isSet_19 ?_
            refine y_ireturn rfl rfl rfl ?_
            refine y_ret1 ?_
            refine y_if_eqF rfl (by decide) ?_
            refine y_aload_n rfl rfl ?_
            refine y_getR rfl (ySh.t hS rfl) (ySh.n hS rfl) rfl rfl (ySh.r hS rfl) ?_
            refine y_iload_n rfl rfl ?_
            refine y_iaload rfl (ySh.t hS rfl) (ySh.n hS rfl) (by omega) (by omega) ?_
            refine y_goto rfl j_X1_gains_18 ?_
            refine y_ireturn rfl rfl rfl ?_
            refine y_ret1 ?_
            refine y_ireturn rfl rfl rfl ?_
            exact hQ _
      · refine y_iload_n rfl rfl ?_
        refine y_goto rfl j_X8_best_47 ?_
        refine y_ireturn rfl rfl rfl ?_
        exact hQ _
theorem m_wouldShare (hS : ySh n tg R) (hC : yCI I) {x1 x2 : Int32} (hE0 : Q (.inr "java/lang/IndexOutOfBoundsException") (n, tg, I, R) (c + 1) (s + 6)) (hE1 : Q (.inr "java/lang/IllegalArgumentException") (n, tg, I, R) (c + 1) (s + 6)) (hQ : ∀ v, Q (.inl (some (.int v))) (n, tg, I, R) c s) : yC 153 [.ref 34, .int x1, .int x2] (n, tg, I, R) c s Q := by
  refine y_in (M := xm_X8_wouldShare) (ls := [some _, some _, some _, _, _]) rfl rfl rfl ?_
  refine y_aload_n rfl rfl ?_
  refine y_getR rfl (ySh.t hS rfl) (ySh.n hS rfl) rfl rfl (ySh.r hS rfl) ?_
  refine y_iload_n rfl rfl ?_
  refine y_virt rfl rfl rfl rfl rfl (ySh.t hS rfl) (ySh.n hS rfl) ?_
  refine y_in (M := xm_X4_has) (ls := [some _, some _]) rfl rfl rfl ?_
  refine y_iload_n rfl rfl ?_
  refine y_if_lt rfl j_X4_has_16 (fun h_1 => ?_) (fun h_2 => ?_)
  · refine y_iconst rfl ?_
    refine y_ireturn rfl rfl rfl ?_
    refine y_ret1 ?_
    refine y_if_neF rfl (by decide) ?_
    refine y_throw rfl rfl rfl ?_
    exact hE0
  · refine y_iload_n rfl rfl ?_
    refine y_aload_n rfl rfl ?_
    refine y_getI rfl (ySh.t hS rfl) (ySh.n hS rfl) rfl rfl ?_
    refine y_icmp_ge rfl j_X4_has_16 (fun h_3 => ?_) (fun h_4 => ?_)
    · refine y_iconst rfl ?_
      refine y_ireturn rfl rfl rfl ?_
      refine y_ret1 ?_
      refine y_if_neF rfl (by decide) ?_
      refine y_throw rfl rfl rfl ?_
      exact hE0
    · refine y_iconst rfl ?_
      refine y_goto rfl j_X4_has_17 ?_
      refine y_ireturn rfl rfl rfl ?_
      refine y_ret1 ?_
      refine y_if_neT rfl j_X8_wouldShare_22 (by decide) ?_
      refine y_iload_n rfl rfl ?_
      refine y_iconst rfl ?_
      refine y_sip rfl (by decide) ?_
      refine y_static rfl rfl rfl rfl rfl ?_
      refine y_in (M := xm_X8_isIn) (ls := [some _, some _, some _]) rfl rfl rfl ?_
      refine y_iload_n rfl rfl ?_
      refine y_iload_n rfl rfl ?_
      refine y_icmp_lt rfl j_X8_isIn_14 (fun h_5 => ?_) (fun h_6 => ?_)
      · rw [yz_0] at h_5
        refine y_iconst rfl ?_
        refine y_ireturn rfl rfl rfl ?_
        refine y_ret1 ?_
        refine y_if_neF rfl (by decide) ?_
        refine y_throw rfl rfl rfl ?_
        exact hE1
      · rw [yz_0] at h_6
        refine y_iload_n rfl rfl ?_
        refine y_iload_n rfl rfl ?_
        refine y_icmp_gt rfl j_X8_isIn_14 (fun h_7 => ?_) (fun h_8 => ?_)
        · rw [yz_9999] at h_7
          refine y_iconst rfl ?_
          refine y_ireturn rfl rfl rfl ?_
          refine y_ret1 ?_
          refine y_if_neF rfl (by decide) ?_
          refine y_throw rfl rfl rfl ?_
          exact hE1
        · rw [yz_9999] at h_8
          refine y_iconst rfl ?_
          refine y_goto rfl j_X8_isIn_15 ?_
          refine y_ireturn rfl rfl rfl ?_
          refine y_ret1 ?_
          refine y_if_neT rfl j_X8_wouldShare_44 (by decide) ?_
          refine y_aload_n rfl rfl ?_
          refine y_getR rfl (ySh.t hS rfl) (ySh.n hS rfl) rfl rfl (ySh.r hS rfl) ?_
          refine y_iload_n rfl rfl ?_
          refine y_virt rfl rfl rfl rfl rfl (ySh.t hS rfl) (ySh.n hS rfl) ?_
          refine y_in (M := xm_X3_leftByManagement) (ls := [some _, some _]) rfl rfl rfl ?_
          refine y_iload_n rfl rfl ?_
          refine y_iload_n rfl rfl ?_
          refine y_aload_n rfl rfl ?_
          refine y_getI rfl (ySh.t hS rfl) (ySh.n hS rfl) rfl rfl ?_
          refine y_imul rfl ?_
          refine y_bip rfl (by decide) ?_
          refine y_idiv rfl (by decide) ?_
          refine y_isub rfl ?_
          refine y_ireturn rfl rfl rfl ?_
          refine y_ret1 ?_
          refine y_istore_n (ls' := [some _, some _, some _, some _, _]) rfl rfl rfl ?_
          refine y_aload_n rfl rfl ?_
          refine y_getR rfl (ySh.t hS rfl) (ySh.n hS rfl) rfl rfl (ySh.r hS rfl) ?_
          refine y_iload_n rfl rfl ?_
          refine y_aload_n rfl rfl ?_
          refine y_getR rfl (ySh.t hS rfl) (ySh.n hS rfl) rfl rfl (ySh.r hS rfl) ?_
          refine y_iconst rfl ?_
          refine y_virt rfl rfl rfl rfl rfl (ySh.t hS rfl) (ySh.n hS rfl) ?_
          refine sp_isAllowedNow hS (by decide) (by decide) (fun h_9 => ?_) (fun h_10 => ?_)
          · refine y_ret1 ?_
            refine y_virt rfl rfl rfl rfl rfl (ySh.t hS rfl) (ySh.n hS rfl) ?_
            refine y_in (M := xm_X3_smoothed) (ls := [some _, some _, some _]) rfl rfl rfl ?_
            refine y_iload_n rfl rfl ?_
            refine y_if_neT rfl j_X3_smoothed_6 (by decide) ?_
            refine y_iload_n rfl rfl ?_
            refine y_aload_n rfl rfl ?_
            refine y_getI rfl (ySh.t hS rfl) (ySh.n hS rfl) rfl rfl ?_
            refine y_icmp_le rfl j_X3_smoothed_21 (fun h_11 => ?_) (fun h_12 => ?_)
            · refine y_iload_n rfl rfl ?_
              refine y_aload_n rfl rfl ?_
              refine y_getI rfl (ySh.t hS rfl) (ySh.n hS rfl) rfl rfl ?_
              refine y_iload_n rfl rfl ?_
              refine y_isub rfl ?_
              refine y_aload_n rfl rfl ?_
              refine y_getI rfl (ySh.t hS rfl) (ySh.n hS rfl) rfl rfl ?_
              refine y_min rfl rfl ?_
              refine y_iadd rfl ?_
              refine y_ireturn rfl rfl rfl ?_
              refine y_ret1 ?_
              refine y_istore (ls' := [some _, some _, some _, some _, some _]) rfl rfl rfl ?_
              refine y_aload_n rfl rfl ?_
              refine y_getR rfl (ySh.t hS rfl) (ySh.n hS rfl) rfl rfl (ySh.r hS rfl) ?_
              refine y_iload_n rfl rfl ?_
              refine y_iload rfl rfl ?_
              refine y_aload_n rfl rfl ?_
              refine y_getR rfl (ySh.t hS rfl) (ySh.n hS rfl) rfl rfl (ySh.r hS rfl) ?_
              refine y_virt rfl rfl rfl rfl rfl (ySh.t hS rfl) (ySh.n hS rfl) ?_
              refine sp_weights_X3 hS hC (fun v_ => ?_)
              refine y_ret1 ?_
              refine y_virt rfl rfl rfl rfl rfl (ySh.t hS rfl) (ySh.n hS rfl) ?_
              refine y_in (M := xm_X3_portionOf) (ls := [some _, some _, some _, some _, _]) rfl rfl rfl ?_
              refine y_iload_n rfl rfl ?_
              refine y_i2l rfl ?_
              refine y_aload_n rfl rfl ?_
              refine y_getR rfl (ySh.t hS rfl) (ySh.n hS rfl) rfl rfl (ySh.r hS rfl) ?_
              refine y_iload_n rfl rfl ?_
              refine y_iaload rfl (ySh.t hS rfl) (ySh.n hS rfl) (by omega) (by omega) ?_
              refine y_i2l rfl ?_
              refine y_lload_n rfl rfl ?_
              refine y_static rfl rfl rfl rfl rfl ?_
              refine sp_portion ?_
              refine y_ret1 ?_
              refine y_ldcI (v := (99999 : Int)) rfl rfl rfl (by decide) ?_
              refine y_aload_n rfl rfl ?_
              refine y_getR rfl (ySh.t hS rfl) (ySh.n hS rfl) rfl rfl (ySh.r hS rfl) ?_
              refine y_iload_n rfl rfl ?_
              refine y_iaload rfl (ySh.t hS rfl) (ySh.n hS rfl) (by omega) (by omega) ?_
              refine y_isub rfl ?_
              refine y_min rfl rfl ?_
              refine y_ireturn rfl rfl rfl ?_
              refine y_ret1 ?_
              refine y_ireturn rfl rfl rfl ?_
              exact hQ _
            · refine y_aload_n rfl rfl ?_
              refine y_getI rfl (ySh.t hS rfl) (ySh.n hS rfl) rfl rfl ?_
              refine y_goto rfl j_X3_smoothed_36 ?_
              refine y_ireturn rfl rfl rfl ?_
              refine y_ret1 ?_
              refine y_istore (ls' := [some _, some _, some _, some _, some _]) rfl rfl rfl ?_
              refine y_aload_n rfl rfl ?_
              refine y_getR rfl (ySh.t hS rfl) (ySh.n hS rfl) rfl rfl (ySh.r hS rfl) ?_
              refine y_iload_n rfl rfl ?_
              refine y_iload rfl rfl ?_
              refine y_aload_n rfl rfl ?_
              refine y_getR rfl (ySh.t hS rfl) (ySh.n hS rfl) rfl rfl (ySh.r hS rfl) ?_
              refine y_virt rfl rfl rfl rfl rfl (ySh.t hS rfl) (ySh.n hS rfl) ?_
              refine sp_weights_X3 hS hC (fun v_ => ?_)
              refine y_ret1 ?_
              refine y_virt rfl rfl rfl rfl rfl (ySh.t hS rfl) (ySh.n hS rfl) ?_
              refine y_in (M := xm_X3_portionOf) (ls := [some _, some _, some _, some _, _]) rfl rfl rfl ?_
              refine y_iload_n rfl rfl ?_
              refine y_i2l rfl ?_
              refine y_aload_n rfl rfl ?_
              refine y_getR rfl (ySh.t hS rfl) (ySh.n hS rfl) rfl rfl (ySh.r hS rfl) ?_
              refine y_iload_n rfl rfl ?_
              refine y_iaload rfl (ySh.t hS rfl) (ySh.n hS rfl) (by omega) (by omega) ?_
              refine y_i2l rfl ?_
              refine y_lload_n rfl rfl ?_
              refine y_static rfl rfl rfl rfl rfl ?_
              refine sp_portion ?_
              refine y_ret1 ?_
              refine y_ldcI (v := (99999 : Int)) rfl rfl rfl (by decide) ?_
              refine y_aload_n rfl rfl ?_
              refine y_getR rfl (ySh.t hS rfl) (ySh.n hS rfl) rfl rfl (ySh.r hS rfl) ?_
              refine y_iload_n rfl rfl ?_
              refine y_iaload rfl (ySh.t hS rfl) (ySh.n hS rfl) (by omega) (by omega) ?_
              refine y_isub rfl ?_
              refine y_min rfl rfl ?_
              refine y_ireturn rfl rfl rfl ?_
              refine y_ret1 ?_
              refine y_ireturn rfl rfl rfl ?_
              exact hQ _
          · refine y_ret1 ?_
            refine y_virt rfl rfl rfl rfl rfl (ySh.t hS rfl) (ySh.n hS rfl) ?_
            refine y_in (M := xm_X3_smoothed) (ls := [some _, some _, some _]) rfl rfl rfl ?_
            refine y_iload_n rfl rfl ?_
            refine y_if_neF rfl (by decide) ?_
            refine y_iload_n rfl rfl ?_
            refine y_ireturn rfl rfl rfl ?_
            refine y_ret1 ?_
            refine y_istore (ls' := [some _, some _, some _, some _, some _]) rfl rfl rfl ?_
            refine y_aload_n rfl rfl ?_
            refine y_getR rfl (ySh.t hS rfl) (ySh.n hS rfl) rfl rfl (ySh.r hS rfl) ?_
            refine y_iload_n rfl rfl ?_
            refine y_iload rfl rfl ?_
            refine y_aload_n rfl rfl ?_
            refine y_getR rfl (ySh.t hS rfl) (ySh.n hS rfl) rfl rfl (ySh.r hS rfl) ?_
            refine y_virt rfl rfl rfl rfl rfl (ySh.t hS rfl) (ySh.n hS rfl) ?_
            refine sp_weights_X3 hS hC (fun v_ => ?_)
            refine y_ret1 ?_
            refine y_virt rfl rfl rfl rfl rfl (ySh.t hS rfl) (ySh.n hS rfl) ?_
            refine y_in (M := xm_X3_portionOf) (ls := [some _, some _, some _, some _, _]) rfl rfl rfl ?_
            refine y_iload_n rfl rfl ?_
            refine y_i2l rfl ?_
            refine y_aload_n rfl rfl ?_
            refine y_getR rfl (ySh.t hS rfl) (ySh.n hS rfl) rfl rfl (ySh.r hS rfl) ?_
            refine y_iload_n rfl rfl ?_
            refine y_iaload rfl (ySh.t hS rfl) (ySh.n hS rfl) (by omega) (by omega) ?_
            refine y_i2l rfl ?_
            refine y_lload_n rfl rfl ?_
            refine y_static rfl rfl rfl rfl rfl ?_
            refine sp_portion ?_
            refine y_ret1 ?_
            refine y_ldcI (v := (99999 : Int)) rfl rfl rfl (by decide) ?_
            refine y_aload_n rfl rfl ?_
            refine y_getR rfl (ySh.t hS rfl) (ySh.n hS rfl) rfl rfl (ySh.r hS rfl) ?_
            refine y_iload_n rfl rfl ?_
            refine y_iaload rfl (ySh.t hS rfl) (ySh.n hS rfl) (by omega) (by omega) ?_
            refine y_isub rfl ?_
            refine y_min rfl rfl ?_
            refine y_ireturn rfl rfl rfl ?_
            refine y_ret1 ?_
            refine y_ireturn rfl rfl rfl ?_
            exact hQ _
theorem m_isSound (hS : ySh n tg R) (hC : yCI I)  (hQ1 : Q (.inl (some (.int (Int32.ofInt 1)))) (n, tg, I, R) c s) (hQ0 : Q (.inl (some (.int (Int32.ofInt 0)))) (n, tg, I, R) c s) : yC 154 [.ref 34] (n, tg, I, R) c s Q := by
  refine y_in (M := xm_X8_isSound) (ls := [some _]) rfl rfl rfl ?_
  refine y_aload_n rfl rfl ?_
  refine y_getR rfl (ySh.t hS rfl) (ySh.n hS rfl) rfl rfl (ySh.r hS rfl) ?_
  refine y_virt rfl rfl rfl rfl rfl (ySh.t hS rfl) (ySh.n hS rfl) ?_
  refine sp_isInOrder_X3 hS hC ?_ ?_
  · refine y_ret1 ?_
    refine y_if_eqF rfl (by decide) ?_
    refine y_aload_n rfl rfl ?_
    refine y_getR rfl (ySh.t hS rfl) (ySh.n hS rfl) rfl rfl (ySh.r hS rfl) ?_
    refine y_virt rfl rfl rfl rfl rfl (ySh.t hS rfl) (ySh.n hS rfl) ?_
    refine sp_isInOrderV hS hC ?_ ?_
    · refine y_ret1 ?_
      refine y_if_eqF rfl (by decide) ?_
      refine y_aload_n rfl rfl ?_
      refine y_getR rfl (ySh.t hS rfl) (ySh.n hS rfl) rfl rfl (ySh.r hS rfl) ?_
      refine y_virt rfl rfl rfl rfl rfl (ySh.t hS rfl) (ySh.n hS rfl) ?_
      refine sp_isInOrder_X6 hS hC ?_ ?_
      · refine y_ret1 ?_
        refine y_if_eqF rfl (by decide) ?_
        refine y_aload_n rfl rfl ?_
        refine y_getR rfl (ySh.t hS rfl) (ySh.n hS rfl) rfl rfl (ySh.r hS rfl) ?_
        refine y_virt rfl rfl rfl rfl rfl (ySh.t hS rfl) (ySh.n hS rfl) ?_
        refine sp_isInOrder_X5 hS hC ?_ ?_
        · refine y_ret1 ?_
          refine y_if_eqF rfl (by decide) ?_
          refine y_aload_n rfl rfl ?_
          refine y_getR rfl (ySh.t hS rfl) (ySh.n hS rfl) rfl rfl (ySh.r hS rfl) ?_
          refine y_virt rfl rfl rfl rfl rfl (ySh.t hS rfl) (ySh.n hS rfl) ?_
          refine sp_allFees_X5 hS hC (fun v_ => ?_)
          refine y_ret1 ?_
          refine y_aload_n rfl rfl ?_
          refine y_getR rfl (ySh.t hS rfl) (ySh.n hS rfl) rfl rfl (ySh.r hS rfl) ?_
          refine y_getI rfl (ySh.t hS rfl) (ySh.n hS rfl) rfl rfl ?_
          refine y_icmp_gt rfl j_X8_isSound_61 (fun h_1 => ?_) (fun h_2 => ?_)
          · refine y_iconst rfl ?_
            refine y_ireturn rfl rfl rfl ?_
            exact hQ0
          · refine y_iconst rfl ?_
            refine y_goto rfl j_X8_isSound_62 ?_
            refine y_ireturn rfl rfl rfl ?_
            exact hQ1
        · refine y_ret1 ?_
          refine y_if_eqT rfl j_X8_isSound_61 (by decide) ?_
          refine y_iconst rfl ?_
          refine y_ireturn rfl rfl rfl ?_
          exact hQ0
      · refine y_ret1 ?_
        refine y_if_eqT rfl j_X8_isSound_61 (by decide) ?_
        refine y_iconst rfl ?_
        refine y_ireturn rfl rfl rfl ?_
        exact hQ0
    · refine y_ret1 ?_
      refine y_if_eqT rfl j_X8_isSound_61 (by decide) ?_
      refine y_iconst rfl ?_
      refine y_ireturn rfl rfl rfl ?_
      exact hQ0
  · refine y_ret1 ?_
    refine y_if_eqT rfl j_X8_isSound_61 (by decide) ?_
    refine y_iconst rfl ?_
    refine y_ireturn rfl rfl rfl ?_
    exact hQ0
theorem lp_addPeople2 (hS : ySh n tg R) (hC : yCI I) {x1 : Int64} {x5 : Int32} (h50 : 0 ≤ x5.toInt) (h51 : x5.toInt < (I 38 0).toInt) (hx : ∀ v : Int64, yW xm_X8_addPeople xc_X8_addPeople_49 [some (.ref 34), some (.long x1), none, some (.long v), none, some (.int x5), none] [] (n, tg, I, R) c s Q) : ∀ (m : Nat) (x3 : Int64) (x6 : Int32), (0 ≤ x6.toInt) → (x6.toInt ≤ 8) → 8 - x6.toInt < m → yW xm_X8_addPeople xc_X8_addPeople_20 [some (.ref 34), some (.long x1), none, some (.long x3), none, some (.int x5), some (.int x6)] [] (n, tg, I, R) c s Q := by
  intro m
  induction m with
  | zero => intro x3 x6 i0 i1 hm; exfalso; omega
  | succ m ih =>
    intro x3 x6 i0 i1 hm
    refine y_iload rfl rfl ?_
    refine y_bip rfl (by decide) ?_
    refine y_icmp_gt rfl j_X8_addPeople_49 (fun h_1 => ?_) (fun h_2 => ?_)
    · rw [yz_7] at h_1
      refine y_fgt (ls := [some _, some _, none, some _, none, some _, none]) ⟨rfl, rfl, rfl, rfl, trivial⟩ ?_
      exact hx _
    · rw [yz_7] at h_2
      refine y_lload_n rfl rfl ?_
      refine y_ldc2 rfl ?_
      refine y_lmul rfl ?_
      refine y_aload_n rfl rfl ?_
      refine y_iload rfl rfl ?_
      refine y_iload rfl rfl ?_
      refine y_virt rfl rfl rfl rfl rfl (ySh.t hS rfl) (ySh.n hS rfl) ?_
      refine m_ofPerson hS hC (fun h_ => by exfalso; omega) (fun h_ => by exfalso; omega) (fun v_ => ?_)
      refine y_ret1 ?_
      refine y_i2l rfl ?_
      refine y_ladd rfl ?_
      refine y_lstore_n (ls' := [some _, some _, _, some _, _, some _, some _]) rfl rfl rfl ?_
      refine y_iinc (ls' := [some _, some _, _, some _, _, some _, some _]) rfl rfl rfl rfl ?_
      refine y_goto rfl j_X8_addPeople_20 ?_
      exact ih _ _ (by first | omega | (rw [yinc (by omega)]; omega)) (by first | omega | (rw [yinc (by omega)]; omega)) (by first | omega | (rw [yinc (by omega)]; omega))
theorem lp_addPeople (hS : ySh n tg R) (hC : yCI I) {x1 : Int64} (hQ : ∀ v, Q (.inl (some (.long v))) (n, tg, I, R) c s) : ∀ (m : Nat) (x3 : Int64) (x5 : Int32), (0 ≤ x5.toInt) → (x5.toInt ≤ (I 38 0).toInt) → (I 38 0).toInt - x5.toInt < m → yW xm_X8_addPeople xc_X8_addPeople_5 [some (.ref 34), some (.long x1), none, some (.long x3), none, some (.int x5), none] [] (n, tg, I, R) c s Q := by
  intro m
  induction m with
  | zero => intro x3 x5 i0 i1 hm; exfalso; omega
  | succ m ih =>
    intro x3 x5 i0 i1 hm
    refine y_iload rfl rfl ?_
    refine y_aload_n rfl rfl ?_
    refine y_getR rfl (ySh.t hS rfl) (ySh.n hS rfl) rfl rfl (ySh.r hS rfl) ?_
    refine y_getI rfl (ySh.t hS rfl) (ySh.n hS rfl) rfl rfl ?_
    refine y_icmp_ge rfl j_X8_addPeople_55 (fun h_1 => ?_) (fun h_2 => ?_)
    · refine y_lload_n rfl rfl ?_
      refine y_lreturn rfl ?_
      exact hQ _
    · refine y_iconst rfl ?_
      refine y_istore (ls' := [some _, some _, _, some _, _, some _, some _]) rfl rfl rfl ?_
      refine lp_addPeople2 hS hC (by omega) (by omega) (fun v_ => ?_) 100 _ _ (by decide) (by decide) (by decide)
      refine y_iinc (ls' := [some _, some _, _, some _, _, some _, _]) rfl rfl rfl rfl ?_
      refine y_goto rfl j_X8_addPeople_5 ?_
      exact ih _ _ (by first | omega | (rw [yinc (by omega)]; omega)) (by first | omega | (rw [yinc (by omega)]; omega)) (by first | omega | (rw [yinc (by omega)]; omega))
theorem sp_addPeople (hS : ySh n tg R) (hC : yCI I) {x1 : Int64} (hQ : ∀ v, Q (.inl (some (.long v))) (n, tg, I, R) c s) : yC 156 [.ref 34, .long x1] (n, tg, I, R) c s Q := by
  refine y_in (M := xm_X8_addPeople) (ls := [some _, some _, _, _, _, _, _]) rfl rfl rfl ?_
  refine y_lload_n rfl rfl ?_
  refine y_lstore_n (ls' := [some _, some _, _, some _, _, _, _]) rfl rfl rfl ?_
  refine y_iconst rfl ?_
  refine y_istore (ls' := [some _, some _, _, some _, _, some _, _]) rfl rfl rfl ?_
  exact lp_addPeople hS hC hQ 100 _ _ (by decide) (by rw [yz_0]; omega) (by rw [yz_0]; omega)
theorem lp_addThings2 (hS : ySh n tg R) (hC : yCI I) {x1 : Int64} {x5 : Int32} (h50 : 0 ≤ x5.toInt) (h51 : x5.toInt < (I 40 0).toInt) (hx : ∀ v : Int64, yW xm_X8_addThings xc_X8_addThings_49 [some (.ref 34), some (.long x1), none, some (.long v), none, some (.int x5), none] [] (n, tg, I, R) c s Q) : ∀ (m : Nat) (x3 : Int64) (x6 : Int32), (1 ≤ x6.toInt) → (x6.toInt ≤ 7) → 7 - x6.toInt < m → yW xm_X8_addThings xc_X8_addThings_20 [some (.ref 34), some (.long x1), none, some (.long x3), none, some (.int x5), some (.int x6)] [] (n, tg, I, R) c s Q := by
  intro m
  induction m with
  | zero => intro x3 x6 i0 i1 hm; exfalso; omega
  | succ m ih =>
    intro x3 x6 i0 i1 hm
    refine y_iload rfl rfl ?_
    refine y_bip rfl (by decide) ?_
    refine y_icmp_gt rfl j_X8_addThings_49 (fun h_1 => ?_) (fun h_2 => ?_)
    · rw [yz_6] at h_1
      refine y_fgt (ls := [some _, some _, none, some _, none, some _, none]) ⟨rfl, rfl, rfl, rfl, trivial⟩ ?_
      exact hx _
    · rw [yz_6] at h_2
      refine y_lload_n rfl rfl ?_
      refine y_ldc2 rfl ?_
      refine y_lmul rfl ?_
      refine y_aload_n rfl rfl ?_
      refine y_iload rfl rfl ?_
      refine y_iload rfl rfl ?_
      refine y_virt rfl rfl rfl rfl rfl (ySh.t hS rfl) (ySh.n hS rfl) ?_
      refine m_ofThing hS hC (fun h_ => by exfalso; omega) (fun h_ => by exfalso; omega) (fun v_ => ?_)
      refine y_ret1 ?_
      refine y_i2l rfl ?_
      refine y_ladd rfl ?_
      refine y_lstore_n (ls' := [some _, some _, _, some _, _, some _, some _]) rfl rfl rfl ?_
      refine y_iinc (ls' := [some _, some _, _, some _, _, some _, some _]) rfl rfl rfl rfl ?_
      refine y_goto rfl j_X8_addThings_20 ?_
      exact ih _ _ (by first | omega | (rw [yinc (by omega)]; omega)) (by first | omega | (rw [yinc (by omega)]; omega)) (by first | omega | (rw [yinc (by omega)]; omega))
theorem lp_addThings (hS : ySh n tg R) (hC : yCI I) {x1 : Int64} (hQ : ∀ v, Q (.inl (some (.long v))) (n, tg, I, R) c s) : ∀ (m : Nat) (x3 : Int64) (x5 : Int32), (0 ≤ x5.toInt) → (x5.toInt ≤ (I 40 0).toInt) → (I 40 0).toInt - x5.toInt < m → yW xm_X8_addThings xc_X8_addThings_5 [some (.ref 34), some (.long x1), none, some (.long x3), none, some (.int x5), none] [] (n, tg, I, R) c s Q := by
  intro m
  induction m with
  | zero => intro x3 x5 i0 i1 hm; exfalso; omega
  | succ m ih =>
    intro x3 x5 i0 i1 hm
    refine y_iload rfl rfl ?_
    refine y_aload_n rfl rfl ?_
    refine y_getR rfl (ySh.t hS rfl) (ySh.n hS rfl) rfl rfl (ySh.r hS rfl) ?_
    refine y_getI rfl (ySh.t hS rfl) (ySh.n hS rfl) rfl rfl ?_
    refine y_icmp_ge rfl j_X8_addThings_55 (fun h_1 => ?_) (fun h_2 => ?_)
    · refine y_lload_n rfl rfl ?_
      refine y_lreturn rfl ?_
      exact hQ _
    · refine y_iconst rfl ?_
      refine y_istore (ls' := [some _, some _, _, some _, _, some _, some _]) rfl rfl rfl ?_
      refine lp_addThings2 hS hC (by omega) (by omega) (fun v_ => ?_) 100 _ _ (by decide) (by decide) (by decide)
      refine y_iinc (ls' := [some _, some _, _, some _, _, some _, _]) rfl rfl rfl rfl ?_
      refine y_goto rfl j_X8_addThings_5 ?_
      exact ih _ _ (by first | omega | (rw [yinc (by omega)]; omega)) (by first | omega | (rw [yinc (by omega)]; omega)) (by first | omega | (rw [yinc (by omega)]; omega))
theorem sp_addThings (hS : ySh n tg R) (hC : yCI I) {x1 : Int64} (hQ : ∀ v, Q (.inl (some (.long v))) (n, tg, I, R) c s) : yC 157 [.ref 34, .long x1] (n, tg, I, R) c s Q := by
  refine y_in (M := xm_X8_addThings) (ls := [some _, some _, _, _, _, _, _]) rfl rfl rfl ?_
  refine y_lload_n rfl rfl ?_
  refine y_lstore_n (ls' := [some _, some _, _, some _, _, _, _]) rfl rfl rfl ?_
  refine y_iconst rfl ?_
  refine y_istore (ls' := [some _, some _, _, some _, _, some _, _]) rfl rfl rfl ?_
  exact lp_addThings hS hC hQ 100 _ _ (by decide) (by rw [yz_0]; omega) (by rw [yz_0]; omega)
theorem lp_addSales2 (hS : ySh n tg R) (hC : yCI I) {x1 : Int64} {x5 : Int32} (h50 : 0 ≤ x5.toInt) (h51 : x5.toInt < (I 48 0).toInt) (hx : ∀ v : Int64, yW xm_X8_addSales xc_X8_addSales_49 [some (.ref 34), some (.long x1), none, some (.long v), none, some (.int x5), none] [] (n, tg, I, R) c s Q) : ∀ (m : Nat) (x3 : Int64) (x6 : Int32), (2 ≤ x6.toInt) → (x6.toInt ≤ 10) → 10 - x6.toInt < m → yW xm_X8_addSales xc_X8_addSales_20 [some (.ref 34), some (.long x1), none, some (.long x3), none, some (.int x5), some (.int x6)] [] (n, tg, I, R) c s Q := by
  intro m
  induction m with
  | zero => intro x3 x6 i0 i1 hm; exfalso; omega
  | succ m ih =>
    intro x3 x6 i0 i1 hm
    refine y_iload rfl rfl ?_
    refine y_bip rfl (by decide) ?_
    refine y_icmp_gt rfl j_X8_addSales_49 (fun h_1 => ?_) (fun h_2 => ?_)
    · rw [yz_9] at h_1
      refine y_fgt (ls := [some _, some _, none, some _, none, some _, none]) ⟨rfl, rfl, rfl, rfl, trivial⟩ ?_
      exact hx _
    · rw [yz_9] at h_2
      refine y_lload_n rfl rfl ?_
      refine y_ldc2 rfl ?_
      refine y_lmul rfl ?_
      refine y_aload_n rfl rfl ?_
      refine y_iload rfl rfl ?_
      refine y_iload rfl rfl ?_
      refine y_virt rfl rfl rfl rfl rfl (ySh.t hS rfl) (ySh.n hS rfl) ?_
      refine m_ofSale hS hC (fun h_ => by exfalso; omega) (fun h_ => by exfalso; omega) (fun v_ => ?_)
      refine y_ret1 ?_
      refine y_i2l rfl ?_
      refine y_ladd rfl ?_
      refine y_lstore_n (ls' := [some _, some _, _, some _, _, some _, some _]) rfl rfl rfl ?_
      refine y_iinc (ls' := [some _, some _, _, some _, _, some _, some _]) rfl rfl rfl rfl ?_
      refine y_goto rfl j_X8_addSales_20 ?_
      exact ih _ _ (by first | omega | (rw [yinc (by omega)]; omega)) (by first | omega | (rw [yinc (by omega)]; omega)) (by first | omega | (rw [yinc (by omega)]; omega))
theorem lp_addSales (hS : ySh n tg R) (hC : yCI I) {x1 : Int64} (hQ : ∀ v, Q (.inl (some (.long v))) (n, tg, I, R) c s) : ∀ (m : Nat) (x3 : Int64) (x5 : Int32), (0 ≤ x5.toInt) → (x5.toInt ≤ (I 48 0).toInt) → (I 48 0).toInt - x5.toInt < m → yW xm_X8_addSales xc_X8_addSales_5 [some (.ref 34), some (.long x1), none, some (.long x3), none, some (.int x5), none] [] (n, tg, I, R) c s Q := by
  intro m
  induction m with
  | zero => intro x3 x5 i0 i1 hm; exfalso; omega
  | succ m ih =>
    intro x3 x5 i0 i1 hm
    refine y_iload rfl rfl ?_
    refine y_aload_n rfl rfl ?_
    refine y_getR rfl (ySh.t hS rfl) (ySh.n hS rfl) rfl rfl (ySh.r hS rfl) ?_
    refine y_getI rfl (ySh.t hS rfl) (ySh.n hS rfl) rfl rfl ?_
    refine y_icmp_ge rfl j_X8_addSales_55 (fun h_1 => ?_) (fun h_2 => ?_)
    · refine y_lload_n rfl rfl ?_
      refine y_lreturn rfl ?_
      exact hQ _
    · refine y_iconst rfl ?_
      refine y_istore (ls' := [some _, some _, _, some _, _, some _, some _]) rfl rfl rfl ?_
      refine lp_addSales2 hS hC (by omega) (by omega) (fun v_ => ?_) 100 _ _ (by decide) (by decide) (by decide)
      refine y_iinc (ls' := [some _, some _, _, some _, _, some _, _]) rfl rfl rfl rfl ?_
      refine y_goto rfl j_X8_addSales_5 ?_
      exact ih _ _ (by first | omega | (rw [yinc (by omega)]; omega)) (by first | omega | (rw [yinc (by omega)]; omega)) (by first | omega | (rw [yinc (by omega)]; omega))
theorem sp_addSales (hS : ySh n tg R) (hC : yCI I) {x1 : Int64} (hQ : ∀ v, Q (.inl (some (.long v))) (n, tg, I, R) c s) : yC 158 [.ref 34, .long x1] (n, tg, I, R) c s Q := by
  refine y_in (M := xm_X8_addSales) (ls := [some _, some _, _, _, _, _, _]) rfl rfl rfl ?_
  refine y_lload_n rfl rfl ?_
  refine y_lstore_n (ls' := [some _, some _, _, some _, _, _, _]) rfl rfl rfl ?_
  refine y_iconst rfl ?_
  refine y_istore (ls' := [some _, some _, _, some _, _, some _, _]) rfl rfl rfl ?_
  exact lp_addSales hS hC hQ 100 _ _ (by decide) (by rw [yz_0]; omega) (by rw [yz_0]; omega)
theorem lp_addLeases2 (hS : ySh n tg R) (hC : yCI I) {x1 : Int64} {x5 : Int32} (h50 : 0 ≤ x5.toInt) (h51 : x5.toInt < (I 59 0).toInt) (hx : ∀ v : Int64, yW xm_X8_addLeases xc_X8_addLeases_48 [some (.ref 34), some (.long x1), none, some (.long v), none, some (.int x5), none] [] (n, tg, I, R) c s Q) : ∀ (m : Nat) (x3 : Int64) (x6 : Int32), (2 ≤ x6.toInt) → (x6.toInt ≤ 6) → 6 - x6.toInt < m → yW xm_X8_addLeases xc_X8_addLeases_20 [some (.ref 34), some (.long x1), none, some (.long x3), none, some (.int x5), some (.int x6)] [] (n, tg, I, R) c s Q := by
  intro m
  induction m with
  | zero => intro x3 x6 i0 i1 hm; exfalso; omega
  | succ m ih =>
    intro x3 x6 i0 i1 hm
    refine y_iload rfl rfl ?_
    refine y_iconst rfl ?_
    refine y_icmp_gt rfl j_X8_addLeases_48 (fun h_1 => ?_) (fun h_2 => ?_)
    · rw [yz_5] at h_1
      refine y_fgt (ls := [some _, some _, none, some _, none, some _, none]) ⟨rfl, rfl, rfl, rfl, trivial⟩ ?_
      exact hx _
    · rw [yz_5] at h_2
      refine y_lload_n rfl rfl ?_
      refine y_ldc2 rfl ?_
      refine y_lmul rfl ?_
      refine y_aload_n rfl rfl ?_
      refine y_iload rfl rfl ?_
      refine y_iload rfl rfl ?_
      refine y_virt rfl rfl rfl rfl rfl (ySh.t hS rfl) (ySh.n hS rfl) ?_
      refine m_ofLease hS hC (fun h_ => by exfalso; omega) (fun h_ => by exfalso; omega) (fun v_ => ?_)
      refine y_ret1 ?_
      refine y_i2l rfl ?_
      refine y_ladd rfl ?_
      refine y_lstore_n (ls' := [some _, some _, _, some _, _, some _, some _]) rfl rfl rfl ?_
      refine y_iinc (ls' := [some _, some _, _, some _, _, some _, some _]) rfl rfl rfl rfl ?_
      refine y_goto rfl j_X8_addLeases_20 ?_
      exact ih _ _ (by first | omega | (rw [yinc (by omega)]; omega)) (by first | omega | (rw [yinc (by omega)]; omega)) (by first | omega | (rw [yinc (by omega)]; omega))
theorem lp_addLeases (hS : ySh n tg R) (hC : yCI I) {x1 : Int64} (hQ : ∀ v, Q (.inl (some (.long v))) (n, tg, I, R) c s) : ∀ (m : Nat) (x3 : Int64) (x5 : Int32), (0 ≤ x5.toInt) → (x5.toInt ≤ (I 59 0).toInt) → (I 59 0).toInt - x5.toInt < m → yW xm_X8_addLeases xc_X8_addLeases_5 [some (.ref 34), some (.long x1), none, some (.long x3), none, some (.int x5), none] [] (n, tg, I, R) c s Q := by
  intro m
  induction m with
  | zero => intro x3 x5 i0 i1 hm; exfalso; omega
  | succ m ih =>
    intro x3 x5 i0 i1 hm
    refine y_iload rfl rfl ?_
    refine y_aload_n rfl rfl ?_
    refine y_getR rfl (ySh.t hS rfl) (ySh.n hS rfl) rfl rfl (ySh.r hS rfl) ?_
    refine y_getI rfl (ySh.t hS rfl) (ySh.n hS rfl) rfl rfl ?_
    refine y_icmp_ge rfl j_X8_addLeases_54 (fun h_1 => ?_) (fun h_2 => ?_)
    · refine y_lload_n rfl rfl ?_
      refine y_lreturn rfl ?_
      exact hQ _
    · refine y_iconst rfl ?_
      refine y_istore (ls' := [some _, some _, _, some _, _, some _, some _]) rfl rfl rfl ?_
      refine lp_addLeases2 hS hC (by omega) (by omega) (fun v_ => ?_) 100 _ _ (by decide) (by decide) (by decide)
      refine y_iinc (ls' := [some _, some _, _, some _, _, some _, _]) rfl rfl rfl rfl ?_
      refine y_goto rfl j_X8_addLeases_5 ?_
      exact ih _ _ (by first | omega | (rw [yinc (by omega)]; omega)) (by first | omega | (rw [yinc (by omega)]; omega)) (by first | omega | (rw [yinc (by omega)]; omega))
theorem sp_addLeases (hS : ySh n tg R) (hC : yCI I) {x1 : Int64} (hQ : ∀ v, Q (.inl (some (.long v))) (n, tg, I, R) c s) : yC 159 [.ref 34, .long x1] (n, tg, I, R) c s Q := by
  refine y_in (M := xm_X8_addLeases) (ls := [some _, some _, _, _, _, _, _]) rfl rfl rfl ?_
  refine y_lload_n rfl rfl ?_
  refine y_lstore_n (ls' := [some _, some _, _, some _, _, _, _]) rfl rfl rfl ?_
  refine y_iconst rfl ?_
  refine y_istore (ls' := [some _, some _, _, some _, _, some _, _]) rfl rfl rfl ?_
  exact lp_addLeases hS hC hQ 100 _ _ (by decide) (by rw [yz_0]; omega) (by rw [yz_0]; omega)
theorem lp_addFirms2 (hS : ySh n tg R) (hC : yCI I) {x1 : Int64} {x5 : Int32} (h50 : 0 ≤ x5.toInt) (h51 : x5.toInt < (I 77 0).toInt) (hx : ∀ v : Int64, yW xm_X8_addFirms xc_X8_addFirms_48 [some (.ref 34), some (.long x1), none, some (.long v), none, some (.int x5), none] [] (n, tg, I, R) c s Q) : ∀ (m : Nat) (x3 : Int64) (x6 : Int32), (0 ≤ x6.toInt) → (x6.toInt ≤ 3) → 3 - x6.toInt < m → yW xm_X8_addFirms xc_X8_addFirms_20 [some (.ref 34), some (.long x1), none, some (.long x3), none, some (.int x5), some (.int x6)] [] (n, tg, I, R) c s Q := by
  intro m
  induction m with
  | zero => intro x3 x6 i0 i1 hm; exfalso; omega
  | succ m ih =>
    intro x3 x6 i0 i1 hm
    refine y_iload rfl rfl ?_
    refine y_iconst rfl ?_
    refine y_icmp_gt rfl j_X8_addFirms_48 (fun h_1 => ?_) (fun h_2 => ?_)
    · rw [yz_2] at h_1
      refine y_fgt (ls := [some _, some _, none, some _, none, some _, none]) ⟨rfl, rfl, rfl, rfl, trivial⟩ ?_
      exact hx _
    · rw [yz_2] at h_2
      refine y_lload_n rfl rfl ?_
      refine y_ldc2 rfl ?_
      refine y_lmul rfl ?_
      refine y_aload_n rfl rfl ?_
      refine y_iload rfl rfl ?_
      refine y_iload rfl rfl ?_
      refine y_virt rfl rfl rfl rfl rfl (ySh.t hS rfl) (ySh.n hS rfl) ?_
      refine m_ofFirm hS hC (fun h_ => by exfalso; omega) (fun h_ => by exfalso; omega) (fun v_ => ?_)
      refine y_ret1 ?_
      refine y_i2l rfl ?_
      refine y_ladd rfl ?_
      refine y_lstore_n (ls' := [some _, some _, _, some _, _, some _, some _]) rfl rfl rfl ?_
      refine y_iinc (ls' := [some _, some _, _, some _, _, some _, some _]) rfl rfl rfl rfl ?_
      refine y_goto rfl j_X8_addFirms_20 ?_
      exact ih _ _ (by first | omega | (rw [yinc (by omega)]; omega)) (by first | omega | (rw [yinc (by omega)]; omega)) (by first | omega | (rw [yinc (by omega)]; omega))
theorem lp_addFirms (hS : ySh n tg R) (hC : yCI I) {x1 : Int64} (hQ : ∀ v, Q (.inl (some (.long v))) (n, tg, I, R) c s) : ∀ (m : Nat) (x3 : Int64) (x5 : Int32), (0 ≤ x5.toInt) → (x5.toInt ≤ (I 77 0).toInt) → (I 77 0).toInt - x5.toInt < m → yW xm_X8_addFirms xc_X8_addFirms_5 [some (.ref 34), some (.long x1), none, some (.long x3), none, some (.int x5), none] [] (n, tg, I, R) c s Q := by
  intro m
  induction m with
  | zero => intro x3 x5 i0 i1 hm; exfalso; omega
  | succ m ih =>
    intro x3 x5 i0 i1 hm
    refine y_iload rfl rfl ?_
    refine y_aload_n rfl rfl ?_
    refine y_getR rfl (ySh.t hS rfl) (ySh.n hS rfl) rfl rfl (ySh.r hS rfl) ?_
    refine y_getI rfl (ySh.t hS rfl) (ySh.n hS rfl) rfl rfl ?_
    refine y_icmp_ge rfl j_X8_addFirms_54 (fun h_1 => ?_) (fun h_2 => ?_)
    · refine y_lload_n rfl rfl ?_
      refine y_lreturn rfl ?_
      exact hQ _
    · refine y_iconst rfl ?_
      refine y_istore (ls' := [some _, some _, _, some _, _, some _, some _]) rfl rfl rfl ?_
      refine lp_addFirms2 hS hC (by omega) (by omega) (fun v_ => ?_) 100 _ _ (by decide) (by decide) (by decide)
      refine y_iinc (ls' := [some _, some _, _, some _, _, some _, _]) rfl rfl rfl rfl ?_
      refine y_goto rfl j_X8_addFirms_5 ?_
      exact ih _ _ (by first | omega | (rw [yinc (by omega)]; omega)) (by first | omega | (rw [yinc (by omega)]; omega)) (by first | omega | (rw [yinc (by omega)]; omega))
theorem sp_addFirms (hS : ySh n tg R) (hC : yCI I) {x1 : Int64} (hQ : ∀ v, Q (.inl (some (.long v))) (n, tg, I, R) c s) : yC 162 [.ref 34, .long x1] (n, tg, I, R) c s Q := by
  refine y_in (M := xm_X8_addFirms) (ls := [some _, some _, _, _, _, _, _]) rfl rfl rfl ?_
  refine y_lload_n rfl rfl ?_
  refine y_lstore_n (ls' := [some _, some _, _, some _, _, _, _]) rfl rfl rfl ?_
  refine y_iconst rfl ?_
  refine y_istore (ls' := [some _, some _, _, some _, _, some _, _]) rfl rfl rfl ?_
  exact lp_addFirms hS hC hQ 100 _ _ (by decide) (by rw [yz_0]; omega) (by rw [yz_0]; omega)
theorem lp_addPartner (hS : ySh n tg R) (hC : yCI I) {x1 : Int64} {x3 x4 : Int32} (hv0 : 0 ≤ x3.toInt) (hv1 : x3.toInt < (I 69 0).toInt) (hv2 : x4.toInt = -1 ∨ 0 ≤ x4.toInt ∧ x4.toInt < (I 38 0).toInt) (hQ : ∀ v, Q (.inl (some (.long v))) (n, tg, I, R) c s) : ∀ (m : Nat) (x5 : Int64) (x7 : Int32), (0 ≤ x7.toInt) → (x7.toInt ≤ 3) → 3 - x7.toInt < m → yW xm_X8_addPartner xc_X8_addPartner_6 [some (.ref 34), some (.long x1), none, some (.int x3), some (.int x4), some (.long x5), none, some (.int x7)] [] (n, tg, I, R) c s Q := by
  intro m
  induction m with
  | zero => intro x5 x7 i0 i1 hm; exfalso; omega
  | succ m ih =>
    intro x5 x7 i0 i1 hm
    refine y_iload rfl rfl ?_
    refine y_iconst rfl ?_
    refine y_icmp_gt rfl j_X8_addPartner_37 (fun h_1 => ?_) (fun h_2 => ?_)
    · rw [yz_2] at h_1
      refine y_lload rfl rfl ?_
      refine y_lreturn rfl ?_
      exact hQ _
    · rw [yz_2] at h_2
      refine y_lload rfl rfl ?_
      refine y_ldc2 rfl ?_
      refine y_lmul rfl ?_
      refine y_aload_n rfl rfl ?_
      refine y_iload_n rfl rfl ?_
      refine y_iload rfl rfl ?_
      refine y_iload rfl rfl ?_
      refine y_virt rfl rfl rfl rfl rfl (ySh.t hS rfl) (ySh.n hS rfl) ?_
      refine m_ofVenture hS hC (fun h_ => by exfalso; omega) (fun h_ => by exfalso; omega) (fun v_ => ?_)
      refine y_ret1 ?_
      refine y_i2l rfl ?_
      refine y_ladd rfl ?_
      refine y_lstore (ls' := [some _, some _, _, some _, some _, some _, _, some _]) rfl rfl rfl ?_
      refine y_iinc (ls' := [some _, some _, _, some _, some _, some _, _, some _]) rfl rfl rfl rfl ?_
      refine y_goto rfl j_X8_addPartner_6 ?_
      exact ih _ _ (by first | omega | (rw [yinc (by omega)]; omega)) (by first | omega | (rw [yinc (by omega)]; omega)) (by first | omega | (rw [yinc (by omega)]; omega))
theorem sp_addPartner (hS : ySh n tg R) (hC : yCI I) {x1 : Int64} {x3 x4 : Int32} (hv0 : 0 ≤ x3.toInt) (hv1 : x3.toInt < (I 69 0).toInt) (hv2 : x4.toInt = -1 ∨ 0 ≤ x4.toInt ∧ x4.toInt < (I 38 0).toInt) (hQ : ∀ v, Q (.inl (some (.long v))) (n, tg, I, R) c s) : yC 161 [.ref 34, .long x1, .int x3, .int x4] (n, tg, I, R) c s Q := by
  refine y_in (M := xm_X8_addPartner) (ls := [some _, some _, _, some _, some _, _, _, _]) rfl rfl rfl ?_
  refine y_lload_n rfl rfl ?_
  refine y_lstore (ls' := [some _, some _, _, some _, some _, some _, _, _]) rfl rfl rfl ?_
  refine y_iconst rfl ?_
  refine y_istore (ls' := [some _, some _, _, some _, some _, some _, _, some _]) rfl rfl rfl ?_
  exact lp_addPartner hS hC hv0 hv1 hv2 hQ 100 _ _ (by decide) (by decide) (by decide)
theorem lp_addVentures2 (hS : ySh n tg R) (hC : yCI I) {x1 : Int64} {x5 : Int32} (h50 : 0 ≤ x5.toInt) (h51 : x5.toInt < (I 69 0).toInt) (hx : ∀ v : Int64, yW xm_X8_addVentures xc_X8_addVentures_48 [some (.ref 34), some (.long x1), none, some (.long v), none, some (.int x5), none] [] (n, tg, I, R) c s Q) : ∀ (m : Nat) (x3 : Int64) (x6 : Int32), (0 ≤ x6.toInt) → (x6.toInt ≤ (I 38 0).toInt) → (I 38 0).toInt - x6.toInt < m → yW xm_X8_addVentures xc_X8_addVentures_20 [some (.ref 34), some (.long x1), none, some (.long x3), none, some (.int x5), some (.int x6)] [] (n, tg, I, R) c s Q := by
  intro m
  induction m with
  | zero => intro x3 x6 i0 i1 hm; exfalso; omega
  | succ m ih =>
    intro x3 x6 i0 i1 hm
    refine y_iload rfl rfl ?_
    refine y_aload_n rfl rfl ?_
    refine y_getR rfl (ySh.t hS rfl) (ySh.n hS rfl) rfl rfl (ySh.r hS rfl) ?_
    refine y_getI rfl (ySh.t hS rfl) (ySh.n hS rfl) rfl rfl ?_
    refine y_icmp_ge rfl j_X8_addVentures_48 (fun h_1 => ?_) (fun h_2 => ?_)
    · refine y_fgt (ls := [some _, some _, none, some _, none, some _, none]) ⟨rfl, rfl, rfl, rfl, trivial⟩ ?_
      exact hx _
    · refine y_aload_n rfl rfl ?_
      refine y_lload_n rfl rfl ?_
      refine y_iload rfl rfl ?_
      refine y_iload rfl rfl ?_
      refine y_virt rfl rfl rfl rfl rfl (ySh.t hS rfl) (ySh.n hS rfl) ?_
      refine sp_addPartner hS hC (by omega) (by omega) (Or.inr ⟨by omega, by omega⟩) (fun v_ => ?_)
      refine y_ret1 ?_
      refine y_lstore_n (ls' := [some _, some _, _, some _, _, some _, some _]) rfl rfl rfl ?_
      refine y_iinc (ls' := [some _, some _, _, some _, _, some _, some _]) rfl rfl rfl rfl ?_
      refine y_goto rfl j_X8_addVentures_20 ?_
      exact ih _ _ (by first | omega | (rw [yinc (by omega)]; omega)) (by first | omega | (rw [yinc (by omega)]; omega)) (by first | omega | (rw [yinc (by omega)]; omega))
theorem lp_addVentures (hS : ySh n tg R) (hC : yCI I) {x1 : Int64} (hQ : ∀ v, Q (.inl (some (.long v))) (n, tg, I, R) c s) : ∀ (m : Nat) (x3 : Int64) (x5 : Int32), (0 ≤ x5.toInt) → (x5.toInt ≤ (I 69 0).toInt) → (I 69 0).toInt - x5.toInt < m → yW xm_X8_addVentures xc_X8_addVentures_5 [some (.ref 34), some (.long x1), none, some (.long x3), none, some (.int x5), none] [] (n, tg, I, R) c s Q := by
  intro m
  induction m with
  | zero => intro x3 x5 i0 i1 hm; exfalso; omega
  | succ m ih =>
    intro x3 x5 i0 i1 hm
    refine y_iload rfl rfl ?_
    refine y_aload_n rfl rfl ?_
    refine y_getR rfl (ySh.t hS rfl) (ySh.n hS rfl) rfl rfl (ySh.r hS rfl) ?_
    refine y_getI rfl (ySh.t hS rfl) (ySh.n hS rfl) rfl rfl ?_
    refine y_icmp_ge rfl j_X8_addVentures_63 (fun h_1 => ?_) (fun h_2 => ?_)
    · refine y_lload_n rfl rfl ?_
      refine y_lreturn rfl ?_
      exact hQ _
    · refine y_iconst rfl ?_
      refine y_istore (ls' := [some _, some _, _, some _, _, some _, some _]) rfl rfl rfl ?_
      refine lp_addVentures2 hS hC (by omega) (by omega) (fun v_ => ?_) 100 _ _ (by decide) (by rw [yz_0]; omega) (by rw [yz_0]; omega)
      refine y_aload_n rfl rfl ?_
      refine y_lload_n rfl rfl ?_
      refine y_iload rfl rfl ?_
      refine y_iconst rfl ?_
      refine y_virt rfl rfl rfl rfl rfl (ySh.t hS rfl) (ySh.n hS rfl) ?_
      refine sp_addPartner hS hC (by omega) (by omega) (Or.inl yz_m1) (fun v_ => ?_)
      refine y_ret1 ?_
      refine y_lstore_n (ls' := [some _, some _, _, some _, _, some _, _]) rfl rfl rfl ?_
      refine y_iinc (ls' := [some _, some _, _, some _, _, some _, _]) rfl rfl rfl rfl ?_
      refine y_goto rfl j_X8_addVentures_5 ?_
      exact ih _ _ (by first | omega | (rw [yinc (by omega)]; omega)) (by first | omega | (rw [yinc (by omega)]; omega)) (by first | omega | (rw [yinc (by omega)]; omega))
theorem sp_addVentures (hS : ySh n tg R) (hC : yCI I) {x1 : Int64} (hQ : ∀ v, Q (.inl (some (.long v))) (n, tg, I, R) c s) : yC 160 [.ref 34, .long x1] (n, tg, I, R) c s Q := by
  refine y_in (M := xm_X8_addVentures) (ls := [some _, some _, _, _, _, _, _]) rfl rfl rfl ?_
  refine y_lload_n rfl rfl ?_
  refine y_lstore_n (ls' := [some _, some _, _, some _, _, _, _]) rfl rfl rfl ?_
  refine y_iconst rfl ?_
  refine y_istore (ls' := [some _, some _, _, some _, _, some _, _]) rfl rfl rfl ?_
  exact lp_addVentures hS hC hQ 100 _ _ (by decide) (by rw [yz_0]; omega) (by rw [yz_0]; omega)
theorem lp_digestB (hS : ySh n tg R) (hC : yCI I) (hQ : ∀ v, Q (.inl (some (.long v))) (n, tg, I, R) c s) : ∀ (m : Nat) (x1 : Int64) (x3 : Int32), (0 ≤ x3.toInt) → (x3.toInt ≤ 5) → 5 - x3.toInt < m → yW xm_X8_digest xc_X8_digest_69 [some (.ref 34), some (.long x1), none, some (.int x3)] [] (n, tg, I, R) c s Q := by
  intro m
  induction m with
  | zero => intro x1 x3 i0 i1 hm; exfalso; omega
  | succ m ih =>
    intro x1 x3 i0 i1 hm
    refine y_iload_n rfl rfl ?_
    refine y_iconst rfl ?_
    refine y_icmp_ge rfl j_X8_digest_104 (fun h_1 => ?_) (fun h_2 => ?_)
    · rw [yz_5] at h_1
      refine y_lload_n rfl rfl ?_
      refine y_ldc2 rfl ?_
      refine y_lmul rfl ?_
      refine y_aload_n rfl rfl ?_
      refine y_bip rfl (by decide) ?_
      refine y_iconst rfl ?_
      refine y_virt rfl rfl rfl rfl rfl (ySh.t hS rfl) (ySh.n hS rfl) ?_
      refine m_best hS hC (fun h_ => by exfalso; (try rw [yz_100] at h_); (try rw [yz_0] at h_);  omega) (fun v_ => ?_)
      refine y_ret1 ?_
      refine y_i2l rfl ?_
      refine y_ladd rfl ?_
      refine y_lstore_n (ls' := [some _, some _, _, some _]) rfl rfl rfl ?_
      refine y_lload_n rfl rfl ?_
      refine y_ldc2 rfl ?_
      refine y_lmul rfl ?_
      refine y_aload_n rfl rfl ?_
      refine y_bip rfl (by decide) ?_
      refine y_iconst rfl ?_
      refine y_virt rfl rfl rfl rfl rfl (ySh.t hS rfl) (ySh.n hS rfl) ?_
      refine m_best hS hC (fun h_ => by exfalso; (try rw [yz_100] at h_); (try rw [yz_1] at h_);  omega) (fun v_ => ?_)
      refine y_ret1 ?_
      refine y_i2l rfl ?_
      refine y_ladd rfl ?_
      refine y_lstore_n (ls' := [some _, some _, _, some _]) rfl rfl rfl ?_
      refine y_lload_n rfl rfl ?_
      refine y_ldc2 rfl ?_
      refine y_lmul rfl ?_
      refine y_aload_n rfl rfl ?_
      refine y_virt rfl rfl rfl rfl rfl (ySh.t hS rfl) (ySh.n hS rfl) ?_
      refine m_isSound hS hC  ?_ ?_
      · refine y_ret1 ?_
        refine y_if_eqF rfl (by decide) ?_
        refine y_iconst rfl ?_
        refine y_goto rfl j_X8_digest_151 ?_
        refine y_i2l rfl ?_
        refine y_ladd rfl ?_
        refine y_lreturn rfl ?_
        exact hQ _
      · refine y_ret1 ?_
        refine y_if_eqT rfl j_X8_digest_150 (by decide) ?_
        refine y_iconst rfl ?_
        refine y_i2l rfl ?_
        refine y_ladd rfl ?_
        refine y_lreturn rfl ?_
        exact hQ _
    · rw [yz_5] at h_2
      refine y_lload_n rfl rfl ?_
      refine y_ldc2 rfl ?_
      refine y_lmul rfl ?_
      refine y_aload_n rfl rfl ?_
      refine y_getR rfl (ySh.t hS rfl) (ySh.n hS rfl) rfl rfl (ySh.r hS rfl) ?_
      refine y_iload_n rfl rfl ?_
      refine y_virt rfl rfl rfl rfl rfl (ySh.t hS rfl) (ySh.n hS rfl) ?_
      refine sp_isAllowedNow hS (by omega) (by omega) (fun h_3 => ?_) (fun h_4 => ?_)
      · refine y_ret1 ?_
        refine y_if_eqF rfl (by decide) ?_
        refine y_iconst rfl ?_
        refine y_goto rfl j_X8_digest_95 ?_
        refine y_i2l rfl ?_
        refine y_ladd rfl ?_
        refine y_lstore_n (ls' := [some _, some _, _, some _]) rfl rfl rfl ?_
        refine y_iinc (ls' := [some _, some _, _, some _]) rfl rfl rfl rfl ?_
        refine y_goto rfl j_X8_digest_69 ?_
        exact ih _ _ (by first | omega | (rw [yinc (by omega)]; omega)) (by first | omega | (rw [yinc (by omega)]; omega)) (by first | omega | (rw [yinc (by omega)]; omega))
      · refine y_ret1 ?_
        refine y_if_eqT rfl j_X8_digest_94 (by decide) ?_
        refine y_iconst rfl ?_
        refine y_i2l rfl ?_
        refine y_ladd rfl ?_
        refine y_lstore_n (ls' := [some _, some _, _, some _]) rfl rfl rfl ?_
        refine y_iinc (ls' := [some _, some _, _, some _]) rfl rfl rfl rfl ?_
        refine y_goto rfl j_X8_digest_69 ?_
        exact ih _ _ (by first | omega | (rw [yinc (by omega)]; omega)) (by first | omega | (rw [yinc (by omega)]; omega)) (by first | omega | (rw [yinc (by omega)]; omega))
theorem lp_digestA (hS : ySh n tg R) (hC : yCI I) (hQ : ∀ v, Q (.inl (some (.long v))) (n, tg, I, R) c s) : ∀ (m : Nat) (x1 : Int64) (x3 : Int32), (0 ≤ x3.toInt) → (x3.toInt ≤ 16) → 16 - x3.toInt < m → yW xm_X8_digest xc_X8_digest_6 [some (.ref 34), some (.long x1), none, some (.int x3)] [] (n, tg, I, R) c s Q := by
  intro m
  induction m with
  | zero => intro x1 x3 i0 i1 hm; exfalso; omega
  | succ m ih =>
    intro x1 x3 i0 i1 hm
    refine y_iload_n rfl rfl ?_
    refine y_bip rfl (by decide) ?_
    refine y_icmp_gt rfl j_X8_digest_31 (fun h_1 => ?_) (fun h_2 => ?_)
    · rw [yz_15] at h_1
      refine y_aload_n rfl rfl ?_
      refine y_lload_n rfl rfl ?_
      refine y_virt rfl rfl rfl rfl rfl (ySh.t hS rfl) (ySh.n hS rfl) ?_
      refine sp_addPeople hS hC (fun v_ => ?_)
      refine y_ret1 ?_
      refine y_lstore_n (ls' := [some _, some _, _, some _]) rfl rfl rfl ?_
      refine y_aload_n rfl rfl ?_
      refine y_lload_n rfl rfl ?_
      refine y_virt rfl rfl rfl rfl rfl (ySh.t hS rfl) (ySh.n hS rfl) ?_
      refine sp_addThings hS hC (fun v_ => ?_)
      refine y_ret1 ?_
      refine y_lstore_n (ls' := [some _, some _, _, some _]) rfl rfl rfl ?_
      refine y_aload_n rfl rfl ?_
      refine y_lload_n rfl rfl ?_
      refine y_virt rfl rfl rfl rfl rfl (ySh.t hS rfl) (ySh.n hS rfl) ?_
      refine sp_addSales hS hC (fun v_ => ?_)
      refine y_ret1 ?_
      refine y_lstore_n (ls' := [some _, some _, _, some _]) rfl rfl rfl ?_
      refine y_aload_n rfl rfl ?_
      refine y_lload_n rfl rfl ?_
      refine y_virt rfl rfl rfl rfl rfl (ySh.t hS rfl) (ySh.n hS rfl) ?_
      refine sp_addLeases hS hC (fun v_ => ?_)
      refine y_ret1 ?_
      refine y_lstore_n (ls' := [some _, some _, _, some _]) rfl rfl rfl ?_
      refine y_aload_n rfl rfl ?_
      refine y_lload_n rfl rfl ?_
      refine y_virt rfl rfl rfl rfl rfl (ySh.t hS rfl) (ySh.n hS rfl) ?_
      refine sp_addVentures hS hC (fun v_ => ?_)
      refine y_ret1 ?_
      refine y_lstore_n (ls' := [some _, some _, _, some _]) rfl rfl rfl ?_
      refine y_aload_n rfl rfl ?_
      refine y_lload_n rfl rfl ?_
      refine y_virt rfl rfl rfl rfl rfl (ySh.t hS rfl) (ySh.n hS rfl) ?_
      refine sp_addFirms hS hC (fun v_ => ?_)
      refine y_ret1 ?_
      refine y_lstore_n (ls' := [some _, some _, _, some _]) rfl rfl rfl ?_
      refine y_iconst rfl ?_
      refine y_istore_n (ls' := [some _, some _, _, some _]) rfl rfl rfl ?_
      exact lp_digestB hS hC hQ 100 _ _ (by decide) (by decide) (by decide)
    · rw [yz_15] at h_2
      refine y_lload_n rfl rfl ?_
      refine y_ldc2 rfl ?_
      refine y_lmul rfl ?_
      refine y_aload_n rfl rfl ?_
      refine y_iload_n rfl rfl ?_
      refine y_virt rfl rfl rfl rfl rfl (ySh.t hS rfl) (ySh.n hS rfl) ?_
      refine m_house hS hC (fun h_ => by exfalso; omega) (fun v_ => ?_)
      refine y_ret1 ?_
      refine y_i2l rfl ?_
      refine y_ladd rfl ?_
      refine y_lstore_n (ls' := [some _, some _, _, some _]) rfl rfl rfl ?_
      refine y_iinc (ls' := [some _, some _, _, some _]) rfl rfl rfl rfl ?_
      refine y_goto rfl j_X8_digest_6 ?_
      exact ih _ _ (by first | omega | (rw [yinc (by omega)]; omega)) (by first | omega | (rw [yinc (by omega)]; omega)) (by first | omega | (rw [yinc (by omega)]; omega))
theorem m_digest (hS : ySh n tg R) (hC : yCI I) (hQ : ∀ v, Q (.inl (some (.long v))) (n, tg, I, R) c s) : yC 155 [.ref 34] (n, tg, I, R) c s Q := by
  refine y_in (M := xm_X8_digest) (ls := [some _, _, _, _]) rfl rfl rfl ?_
  refine y_ldc2 rfl ?_
  refine y_lstore_n (ls' := [some _, some _, _, _]) rfl rfl rfl ?_
  refine y_iconst rfl ?_
  refine y_istore_n (ls' := [some _, some _, _, some _]) rfl rfl rfl ?_
  exact lp_digestA hS hC hQ 100 _ _ (by decide) (by decide) (by decide)
end YMET
