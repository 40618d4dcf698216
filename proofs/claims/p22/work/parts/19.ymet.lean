/-! THE CLASS: its methods, safe (by gen19.py) -/
section YMET
variable {n : Nat} {tg : Nat → yT} {I : Nat → Nat → Int32} {R : Nat → Nat → Value} {c s : Nat} {Q : yQ}
theorem sp_add_X4 (hS : ySh n tg R) (hC : yCI I) {x1 x2 : Int32} (hQ : ∀ I1, yCI I1 → yFr I I1 → Q (.inl none) (n, tg, I1, R) c s) : yC 71 [.ref 38, .int x1, .int x2] (n, tg, I, R) c s Q := by
  have hF : yFr I I := yFr.rf
  refine y_in (M := xm_X4_add) (ls := [some _, some _, some _]) rfl rfl rfl ?_
  refine y_iload_n rfl rfl ?_
  refine y_iconst rfl ?_
  refine y_bip rfl (by decide) ?_
  refine y_static rfl rfl rfl rfl rfl ?_
  refine y_in (M := xm_X8_isIn) (ls := [some _, some _, some _]) rfl rfl rfl ?_
  refine y_iload_n rfl rfl ?_
  refine y_iload_n rfl rfl ?_
  refine y_icmp_lt rfl j_X8_isIn_14 (fun h_1 => ?_) (fun h_2 => ?_)
  · rw [yz_0] at h_1
    refine y_iconst rfl ?_
    refine y_ireturn rfl rfl rfl ?_
    refine y_ret1 ?_
    refine y_if_eqT rfl j_X4_add_20 (by decide) ?_
    refine y_return rfl ?_
    exact hQ _ hC (by repeat (first | exact hF | refine yFr.upd ?_ (by decide)))
  · rw [yz_0] at h_2
    refine y_iload_n rfl rfl ?_
    refine y_iload_n rfl rfl ?_
    refine y_icmp_gt rfl j_X8_isIn_14 (fun h_3 => ?_) (fun h_4 => ?_)
    · rw [yz_8] at h_3
      refine y_iconst rfl ?_
      refine y_ireturn rfl rfl rfl ?_
      refine y_ret1 ?_
      refine y_if_eqT rfl j_X4_add_20 (by decide) ?_
      refine y_return rfl ?_
      exact hQ _ hC (by repeat (first | exact hF | refine yFr.upd ?_ (by decide)))
    · rw [yz_8] at h_4
      refine y_iconst rfl ?_
      refine y_goto rfl j_X8_isIn_15 ?_
      refine y_ireturn rfl rfl rfl ?_
      refine y_ret1 ?_
      refine y_if_eqF rfl (by decide) ?_
      refine y_aload_n rfl rfl ?_
      refine y_getR rfl (ySh.t hS rfl) (ySh.n hS rfl) rfl rfl (ySh.r hS rfl) ?_
      refine y_iload_n rfl rfl ?_
      refine y_dup2 rfl rfl rfl ?_
      refine y_iaload rfl (ySh.t hS rfl) (ySh.n hS rfl) (by omega) (by omega) ?_
      refine y_iload_n rfl rfl ?_
      refine y_iadd rfl ?_
      refine y_iastore rfl (ySh.t hS rfl) (ySh.n hS rfl) (Nat.le_of_ble_eq_true rfl) (by omega) (by omega) ?_
      refine y_return rfl ?_
      exact hQ _ hC (by repeat (first | exact hF | refine yFr.upd ?_ (by decide)))
theorem sp_isOpen_X5 (hS : ySh n tg R) (hC : yCI I) {x1 : Int32} (hv0 : 0 ≤ x1.toInt) (hv1 : x1.toInt < 12) (hQ1 : Q (.inl (some (.int (Int32.ofInt 1)))) (n, tg, I, R) c s) (hQ0 : Q (.inl (some (.int (Int32.ofInt 0)))) (n, tg, I, R) c s) : yC 81 [.ref 48, .int x1] (n, tg, I, R) c s Q := by
  refine y_in (M := xm_X5_isOpen) (ls := [some _, some _]) rfl rfl rfl ?_
  refine y_aload_n rfl rfl ?_
  refine y_iload_n rfl rfl ?_
  refine y_virt rfl rfl rfl rfl rfl (ySh.t hS rfl) (ySh.n hS rfl) ?_
  refine y_in (M := xm_X5_isVoid) (ls := [some _, some _]) rfl rfl rfl ?_
  refine y_aload_n rfl rfl ?_
  refine y_getR rfl (ySh.t hS rfl) (ySh.n hS rfl) rfl rfl (ySh.r hS rfl) ?_
  refine y_iload_n rfl rfl ?_
  refine y_iaload rfl (ySh.t hS rfl) (ySh.n hS rfl) (by omega) (by omega) ?_
  refine y_if_eq rfl j_X5_isVoid_13 (fun h_1 => ?_) (fun h_2 => ?_)
  · refine y_iconst rfl ?_
    refine y_ireturn rfl rfl rfl ?_
    refine y_ret1 ?_
    refine y_if_neF rfl (by decide) ?_
    refine y_aload_n rfl rfl ?_
    refine y_getR rfl (ySh.t hS rfl) (ySh.n hS rfl) rfl rfl (ySh.r hS rfl) ?_
    refine y_iload_n rfl rfl ?_
    refine y_iaload rfl (ySh.t hS rfl) (ySh.n hS rfl) (by omega) (by omega) ?_
    refine y_aload_n rfl rfl ?_
    refine y_getR rfl (ySh.t hS rfl) (ySh.n hS rfl) rfl rfl (ySh.r hS rfl) ?_
    refine y_iload_n rfl rfl ?_
    refine y_iaload rfl (ySh.t hS rfl) (ySh.n hS rfl) (by omega) (by omega) ?_
    refine y_icmp_ge rfl j_X5_isOpen_27 (fun h_3 => ?_) (fun h_4 => ?_)
    · refine y_iconst rfl ?_
      refine y_ireturn rfl rfl rfl ?_
      exact hQ0
    · refine y_iconst rfl ?_
      refine y_goto rfl j_X5_isOpen_28 ?_
      refine y_ireturn rfl rfl rfl ?_
      exact hQ1
  · refine y_iconst rfl ?_
    refine y_goto rfl j_X5_isVoid_14 ?_
    refine y_ireturn rfl rfl rfl ?_
    refine y_ret1 ?_
    refine y_if_neT rfl j_X5_isOpen_27 (by decide) ?_
    refine y_iconst rfl ?_
    refine y_ireturn rfl rfl rfl ?_
    exact hQ0
theorem sp_nextPart_X5 (hS : ySh n tg R) (hC : yCI I) {x1 : Int32} (hv0 : 0 ≤ x1.toInt) (hv1 : x1.toInt < 12) (hQ : ∀ v, Q (.inl (some (.int v))) (n, tg, I, R) c s) : yC 85 [.ref 48, .int x1] (n, tg, I, R) c s Q := by
  refine y_in (M := xm_X5_nextPart) (ls := [some _, some _]) rfl rfl rfl ?_
  refine y_aload_n rfl rfl ?_
  refine y_iload_n rfl rfl ?_
  refine y_virt rfl rfl rfl rfl rfl (ySh.t hS rfl) (ySh.n hS rfl) ?_
  refine y_in (M := xm_X5_partsLeft) (ls := [some _, some _]) rfl rfl rfl ?_
  refine y_aload_n rfl rfl ?_
  refine y_iload_n rfl rfl ?_
  refine y_virt rfl rfl rfl rfl rfl (ySh.t hS rfl) (ySh.n hS rfl) ?_
  refine sp_isOpen_X5 hS hC (by omega) (by omega) ?_ ?_
  · refine y_ret1 ?_
    refine y_if_eqF rfl (by decide) ?_
    refine y_aload_n rfl rfl ?_
    refine y_getR rfl (ySh.t hS rfl) (ySh.n hS rfl) rfl rfl (ySh.r hS rfl) ?_
    refine y_iload_n rfl rfl ?_
    refine y_iaload rfl (ySh.t hS rfl) (ySh.n hS rfl) (by omega) (by omega) ?_
    refine y_aload_n rfl rfl ?_
    refine y_getR rfl (ySh.t hS rfl) (ySh.n hS rfl) rfl rfl (ySh.r hS rfl) ?_
    refine y_iload_n rfl rfl ?_
    refine y_iaload rfl (ySh.t hS rfl) (ySh.n hS rfl) (by omega) (by omega) ?_
    refine y_isub rfl ?_
    refine y_goto rfl j_X5_partsLeft_25 ?_
    refine y_ireturn rfl rfl rfl ?_
    refine y_ret1 ?_
    refine y_iconst rfl ?_
    refine y_icmp_le rfl j_X5_nextPart_17 (fun h_1 => ?_) (fun h_2 => ?_)
    · rw [yz_1] at h_1
      refine y_aload_n rfl rfl ?_
      refine y_iload_n rfl rfl ?_
      refine y_virt rfl rfl rfl rfl rfl (ySh.t hS rfl) (ySh.n hS rfl) ?_
      refine y_in (M := xm_X5_debt) (ls := [some _, some _]) rfl rfl rfl ?_
      refine y_aload_n rfl rfl ?_
      refine y_iload_n rfl rfl ?_
      refine y_virt rfl rfl rfl rfl rfl (ySh.t hS rfl) (ySh.n hS rfl) ?_
      refine sp_isOpen_X5 hS hC (by omega) (by omega) ?_ ?_
      · refine y_ret1 ?_
        refine y_if_eqF rfl (by decide) ?_
        refine y_aload_n rfl rfl ?_
        refine y_getR rfl (ySh.t hS rfl) (ySh.n hS rfl) rfl rfl (ySh.r hS rfl) ?_
        refine y_iload_n rfl rfl ?_
        refine y_iaload rfl (ySh.t hS rfl) (ySh.n hS rfl) (by omega) (by omega) ?_
        refine y_aload_n rfl rfl ?_
        refine y_getR rfl (ySh.t hS rfl) (ySh.n hS rfl) rfl rfl (ySh.r hS rfl) ?_
        refine y_iload_n rfl rfl ?_
        refine y_iaload rfl (ySh.t hS rfl) (ySh.n hS rfl) (by omega) (by omega) ?_
        refine y_aload_n rfl rfl ?_
        refine y_iload_n rfl rfl ?_
        refine y_virt rfl rfl rfl rfl rfl (ySh.t hS rfl) (ySh.n hS rfl) ?_
        refine y_in (M := xm_X5_plainPart) (ls := [some _, some _]) rfl rfl rfl ?_
        refine y_aload_n rfl rfl ?_
        refine y_getR rfl (ySh.t hS rfl) (ySh.n hS rfl) rfl rfl (ySh.r hS rfl) ?_
        refine y_iload_n rfl rfl ?_
        refine y_iaload rfl (ySh.t hS rfl) (ySh.n hS rfl) (by omega) (by omega) ?_
        refine y_i2l rfl ?_
        refine y_lconst rfl ?_
        refine y_aload_n rfl rfl ?_
        refine y_getR rfl (ySh.t hS rfl) (ySh.n hS rfl) rfl rfl (ySh.r hS rfl) ?_
        refine y_iload_n rfl rfl ?_
        refine y_iaload rfl (ySh.t hS rfl) (ySh.n hS rfl) (by omega) (by omega) ?_
        refine y_i2l rfl ?_
        refine y_static rfl rfl rfl rfl rfl ?_
        refine sp_portion ?_
        refine y_ret1 ?_
        refine y_ireturn rfl rfl rfl ?_
        refine y_ret1 ?_
        refine y_imul rfl ?_
        refine y_isub rfl ?_
        refine y_goto rfl j_X5_debt_31 ?_
        refine y_ireturn rfl rfl rfl ?_
        refine y_ret1 ?_
        refine y_ireturn rfl rfl rfl ?_
        exact hQ _
      · refine y_ret1 ?_
        refine y_if_eqT rfl j_X5_debt_30 (by decide) ?_
        refine y_iconst rfl ?_
        refine y_ireturn rfl rfl rfl ?_
        refine y_ret1 ?_
        refine y_ireturn rfl rfl rfl ?_
        exact hQ _
    · rw [yz_1] at h_2
      refine y_aload_n rfl rfl ?_
      refine y_iload_n rfl rfl ?_
      refine y_virt rfl rfl rfl rfl rfl (ySh.t hS rfl) (ySh.n hS rfl) ?_
      refine y_in (M := xm_X5_plainPart) (ls := [some _, some _]) rfl rfl rfl ?_
      refine y_aload_n rfl rfl ?_
      refine y_getR rfl (ySh.t hS rfl) (ySh.n hS rfl) rfl rfl (ySh.r hS rfl) ?_
      refine y_iload_n rfl rfl ?_
      refine y_iaload rfl (ySh.t hS rfl) (ySh.n hS rfl) (by omega) (by omega) ?_
      refine y_i2l rfl ?_
      refine y_lconst rfl ?_
      refine y_aload_n rfl rfl ?_
      refine y_getR rfl (ySh.t hS rfl) (ySh.n hS rfl) rfl rfl (ySh.r hS rfl) ?_
      refine y_iload_n rfl rfl ?_
      refine y_iaload rfl (ySh.t hS rfl) (ySh.n hS rfl) (by omega) (by omega) ?_
      refine y_i2l rfl ?_
      refine y_static rfl rfl rfl rfl rfl ?_
      refine sp_portion ?_
      refine y_ret1 ?_
      refine y_ireturn rfl rfl rfl ?_
      refine y_ret1 ?_
      refine y_goto rfl j_X5_nextPart_22 ?_
      refine y_ireturn rfl rfl rfl ?_
      exact hQ _
  · refine y_ret1 ?_
    refine y_if_eqT rfl j_X5_partsLeft_24 (by decide) ?_
    refine y_iconst rfl ?_
    refine y_ireturn rfl rfl rfl ?_
    refine y_ret1 ?_
    refine y_iconst rfl ?_
    refine y_icmp_leT rfl j_X5_nextPart_17 (by decide) ?_
    refine y_aload_n rfl rfl ?_
    refine y_iload_n rfl rfl ?_
    refine y_virt rfl rfl rfl rfl rfl (ySh.t hS rfl) (ySh.n hS rfl) ?_
    refine y_in (M := xm_X5_debt) (ls := [some _, some _]) rfl rfl rfl ?_
    refine y_aload_n rfl rfl ?_
    refine y_iload_n rfl rfl ?_
    refine y_virt rfl rfl rfl rfl rfl (ySh.t hS rfl) (ySh.n hS rfl) ?_
    refine sp_isOpen_X5 hS hC (by omega) (by omega) ?_ ?_
    · refine y_ret1 ?_
      refine y_if_eqF rfl (by decide) ?_
      refine y_aload_n rfl rfl ?_
      refine y_getR rfl (ySh.t hS rfl) (ySh.n hS rfl) rfl rfl (ySh.r hS rfl) ?_
      refine y_iload_n rfl rfl ?_
      refine y_iaload rfl (ySh.t hS rfl) (ySh.n hS rfl) (by omega) (by omega) ?_
      refine y_aload_n rfl rfl ?_
      refine y_getR rfl (ySh.t hS rfl) (ySh.n hS rfl) rfl rfl (ySh.r hS rfl) ?_
      refine y_iload_n rfl rfl ?_
      refine y_iaload rfl (ySh.t hS rfl) (ySh.n hS rfl) (by omega) (by omega) ?_
      refine y_aload_n rfl rfl ?_
      refine y_iload_n rfl rfl ?_
      refine y_virt rfl rfl rfl rfl rfl (ySh.t hS rfl) (ySh.n hS rfl) ?_
      refine y_in (M := xm_X5_plainPart) (ls := [some _, some _]) rfl rfl rfl ?_
      refine y_aload_n rfl rfl ?_
      refine y_getR rfl (ySh.t hS rfl) (ySh.n hS rfl) rfl rfl (ySh.r hS rfl) ?_
      refine y_iload_n rfl rfl ?_
      refine y_iaload rfl (ySh.t hS rfl) (ySh.n hS rfl) (by omega) (by omega) ?_
      refine y_i2l rfl ?_
      refine y_lconst rfl ?_
      refine y_aload_n rfl rfl ?_
      refine y_getR rfl (ySh.t hS rfl) (ySh.n hS rfl) rfl rfl (ySh.r hS rfl) ?_
      refine y_iload_n rfl rfl ?_
      refine y_iaload rfl (ySh.t hS rfl) (ySh.n hS rfl) (by omega) (by omega) ?_
      refine y_i2l rfl ?_
      refine y_static rfl rfl rfl rfl rfl ?_
      refine sp_portion ?_
      refine y_ret1 ?_
      refine y_ireturn rfl rfl rfl ?_
      refine y_ret1 ?_
      refine y_imul rfl ?_
      refine y_isub rfl ?_
      refine y_goto rfl j_X5_debt_31 ?_
      refine y_ireturn rfl rfl rfl ?_
      refine y_ret1 ?_
      refine y_ireturn rfl rfl rfl ?_
      exact hQ _
    · refine y_ret1 ?_
      refine y_if_eqT rfl j_X5_debt_30 (by decide) ?_
      refine y_iconst rfl ?_
      refine y_ireturn rfl rfl rfl ?_
      refine y_ret1 ?_
      refine y_ireturn rfl rfl rfl ?_
      exact hQ _
theorem sp_nextDay_X5 (hS : ySh n tg R) (hC : yCI I) {x1 : Int32} (hv0 : 0 ≤ x1.toInt) (hv1 : x1.toInt < 12) (hQ : ∀ v, Q (.inl (some (.int v))) (n, tg, I, R) c s) : yC 86 [.ref 48, .int x1] (n, tg, I, R) c s Q := by
  refine y_in (M := xm_X5_nextDay) (ls := [some _, some _]) rfl rfl rfl ?_
  refine y_aload_n rfl rfl ?_
  refine y_iload_n rfl rfl ?_
  refine y_virt rfl rfl rfl rfl rfl (ySh.t hS rfl) (ySh.n hS rfl) ?_
  refine sp_isOpen_X5 hS hC (by omega) (by omega) ?_ ?_
  · refine y_ret1 ?_
    refine y_if_eqF rfl (by decide) ?_
    refine y_aload_n rfl rfl ?_
    refine y_getR rfl (ySh.t hS rfl) (ySh.n hS rfl) rfl rfl (ySh.r hS rfl) ?_
    refine y_iload_n rfl rfl ?_
    refine y_iaload rfl (ySh.t hS rfl) (ySh.n hS rfl) (by omega) (by omega) ?_
    refine y_bip rfl (by decide) ?_
    refine y_aload_n rfl rfl ?_
    refine y_getR rfl (ySh.t hS rfl) (ySh.n hS rfl) rfl rfl (ySh.r hS rfl) ?_
    refine y_iload_n rfl rfl ?_
    refine y_iaload rfl (ySh.t hS rfl) (ySh.n hS rfl) (by omega) (by omega) ?_
    refine y_iconst rfl ?_
    refine y_iadd rfl ?_
    refine y_imul rfl ?_
    refine y_iadd rfl ?_
    refine y_goto rfl j_X5_nextDay_30 ?_
    refine y_ireturn rfl rfl rfl ?_
    exact hQ _
  · refine y_ret1 ?_
    refine y_if_eqT rfl j_X5_nextDay_29 (by decide) ?_
    refine y_iconst rfl ?_
    refine y_ireturn rfl rfl rfl ?_
    exact hQ _
theorem sp_rebate_X5 (hS : ySh n tg R) (hC : yCI I) {x1 x2 : Int32} (hv0 : 0 ≤ x1.toInt) (hv1 : x1.toInt < 12) (hQ : ∀ v, Q (.inl (some (.int v))) (n, tg, I, R) c s) : yC 87 [.ref 48, .int x1, .int x2] (n, tg, I, R) c s Q := by
  refine y_in (M := xm_X5_rebate) (ls := [some _, some _, some _]) rfl rfl rfl ?_
  refine y_aload_n rfl rfl ?_
  refine y_getR rfl (ySh.t hS rfl) (ySh.n hS rfl) rfl rfl (ySh.r hS rfl) ?_
  refine y_iload_n rfl rfl ?_
  refine y_iaload rfl (ySh.t hS rfl) (ySh.n hS rfl) (by omega) (by omega) ?_
  refine y_i2l rfl ?_
  refine y_iload_n rfl rfl ?_
  refine y_i2l rfl ?_
  refine y_bip rfl (by decide) ?_
  refine y_aload_n rfl rfl ?_
  refine y_getR rfl (ySh.t hS rfl) (ySh.n hS rfl) rfl rfl (ySh.r hS rfl) ?_
  refine y_iload_n rfl rfl ?_
  refine y_iaload rfl (ySh.t hS rfl) (ySh.n hS rfl) (by omega) (by omega) ?_
  refine y_iadd rfl ?_
  refine y_i2l rfl ?_
  refine y_static rfl rfl rfl rfl rfl ?_
  refine sp_portion ?_
  refine y_ret1 ?_
  refine y_iconst rfl ?_
  refine y_idiv rfl (by decide) ?_
  refine y_ireturn rfl rfl rfl ?_
  exact hQ _
theorem sp_missingPillars_X8 (hS : ySh n tg R) (hC : yCI I) {x1 x2 : Int32} (hv0 : 0 ≤ x1.toInt) (hv1 : x1.toInt < 16) (hQ : ∀ v, Q (.inl (some (.int v))) (n, tg, I, R) c s) : yC 167 [.ref 34, .int x1, .int x2] (n, tg, I, R) c s Q := by
  refine y_in (M := xm_X8_missingPillars) (ls := [some _, some _, some _, _]) rfl rfl rfl ?_
  refine y_iconst rfl ?_
  refine y_istore_n (ls' := [some _, some _, some _, some _]) rfl rfl rfl ?_
  refine y_aload_n rfl rfl ?_
  refine y_getR rfl (ySh.t hS rfl) (ySh.n hS rfl) rfl rfl (ySh.r hS rfl) ?_
  refine y_getR rfl (ySh.t hS rfl) (ySh.n hS rfl) rfl rfl (ySh.r hS rfl) ?_
  refine y_iload_n rfl rfl ?_
  refine y_iaload rfl (ySh.t hS rfl) (ySh.n hS rfl) (by omega) (by omega) ?_
  refine y_bip rfl (by decide) ?_
  refine y_icmp_eq rfl j_X8_missingPillars_23 (fun h_1 => ?_) (fun h_2 => ?_)
  · rw [yz_8] at h_1
    refine y_aload_n rfl rfl ?_
    refine y_getR rfl (ySh.t hS rfl) (ySh.n hS rfl) rfl rfl (ySh.r hS rfl) ?_
    refine y_getR rfl (ySh.t hS rfl) (ySh.n hS rfl) rfl rfl (ySh.r hS rfl) ?_
    refine y_iload_n rfl rfl ?_
    refine y_baload rfl (ySh.t hS rfl) rfl (ySh.n hS rfl) (by omega) (by omega) ?_
    refine y_if_ne rfl j_X8_missingPillars_50 (fun h_3 => ?_) (fun h_4 => ?_)
    · refine y_aload_n rfl rfl ?_
      refine y_getR rfl (ySh.t hS rfl) (ySh.n hS rfl) rfl rfl (ySh.r hS rfl) ?_
      refine y_getR rfl (ySh.t hS rfl) (ySh.n hS rfl) rfl rfl (ySh.r hS rfl) ?_
      refine y_iload_n rfl rfl ?_
      refine y_baload rfl (ySh.t hS rfl) rfl (ySh.n hS rfl) (by omega) (by omega) ?_
      refine y_if_eq rfl j_X8_missingPillars_66 (fun h_5 => ?_) (fun h_6 => ?_)
      · refine y_aload_n rfl rfl ?_
        refine y_getR rfl (ySh.t hS rfl) (ySh.n hS rfl) rfl rfl (ySh.r hS rfl) ?_
        refine y_getR rfl (ySh.t hS rfl) (ySh.n hS rfl) rfl rfl (ySh.r hS rfl) ?_
        refine y_iload_n rfl rfl ?_
        refine y_iaload rfl (ySh.t hS rfl) (ySh.n hS rfl) (by omega) (by omega) ?_
        refine y_iload_n rfl rfl ?_
        refine y_icmp_ne rfl j_X8_missingPillars_84 (fun h_7 => ?_) (fun h_8 => ?_)
        · refine y_iload_n rfl rfl ?_
          refine y_ireturn rfl rfl rfl ?_
          exact hQ _
        · refine y_iload_n rfl rfl ?_
          refine y_bip rfl (by decide) ?_
          refine y_ior rfl ?_
          refine y_istore_n (ls' := [some _, some _, some _, some _]) rfl rfl rfl ?_
          refine y_iload_n rfl rfl ?_
          refine y_ireturn rfl rfl rfl ?_
          exact hQ _
      · refine y_iload_n rfl rfl ?_
        refine y_iconst rfl ?_
        refine y_ior rfl ?_
        refine y_istore_n (ls' := [some _, some _, some _, some _]) rfl rfl rfl ?_
        refine y_aload_n rfl rfl ?_
        refine y_getR rfl (ySh.t hS rfl) (ySh.n hS rfl) rfl rfl (ySh.r hS rfl) ?_
        refine y_getR rfl (ySh.t hS rfl) (ySh.n hS rfl) rfl rfl (ySh.r hS rfl) ?_
        refine y_iload_n rfl rfl ?_
        refine y_iaload rfl (ySh.t hS rfl) (ySh.n hS rfl) (by omega) (by omega) ?_
        refine y_iload_n rfl rfl ?_
        refine y_icmp_ne rfl j_X8_missingPillars_84 (fun h_9 => ?_) (fun h_10 => ?_)
        · refine y_iload_n rfl rfl ?_
          refine y_ireturn rfl rfl rfl ?_
          exact hQ _
        · refine y_iload_n rfl rfl ?_
          refine y_bip rfl (by decide) ?_
          refine y_ior rfl ?_
          refine y_istore_n (ls' := [some _, some _, some _, some _]) rfl rfl rfl ?_
          refine y_iload_n rfl rfl ?_
          refine y_ireturn rfl rfl rfl ?_
          exact hQ _
    · refine y_aload_n rfl rfl ?_
      refine y_getR rfl (ySh.t hS rfl) (ySh.n hS rfl) rfl rfl (ySh.r hS rfl) ?_
      refine y_iconst rfl ?_
      refine y_virt rfl rfl rfl rfl rfl (ySh.t hS rfl) (ySh.n hS rfl) ?_
      refine sp_isAllowedNow hS (by decide) (by decide) (fun h_11 => ?_) (fun h_12 => ?_)
      · refine y_ret1 ?_
        refine y_if_neT rfl j_X8_missingPillars_50 (by decide) ?_
        refine y_aload_n rfl rfl ?_
        refine y_getR rfl (ySh.t hS rfl) (ySh.n hS rfl) rfl rfl (ySh.r hS rfl) ?_
        refine y_getR rfl (ySh.t hS rfl) (ySh.n hS rfl) rfl rfl (ySh.r hS rfl) ?_
        refine y_iload_n rfl rfl ?_
        refine y_baload rfl (ySh.t hS rfl) rfl (ySh.n hS rfl) (by omega) (by omega) ?_
        refine y_if_eq rfl j_X8_missingPillars_66 (fun h_13 => ?_) (fun h_14 => ?_)
        · refine y_aload_n rfl rfl ?_
          refine y_getR rfl (ySh.t hS rfl) (ySh.n hS rfl) rfl rfl (ySh.r hS rfl) ?_
          refine y_getR rfl (ySh.t hS rfl) (ySh.n hS rfl) rfl rfl (ySh.r hS rfl) ?_
          refine y_iload_n rfl rfl ?_
          refine y_iaload rfl (ySh.t hS rfl) (ySh.n hS rfl) (by omega) (by omega) ?_
          refine y_iload_n rfl rfl ?_
          refine y_icmp_ne rfl j_X8_missingPillars_84 (fun h_15 => ?_) (fun h_16 => ?_)
          · refine y_iload_n rfl rfl ?_
            refine y_ireturn rfl rfl rfl ?_
            exact hQ _
          · refine y_iload_n rfl rfl ?_
            refine y_bip rfl (by decide) ?_
            refine y_ior rfl ?_
            refine y_istore_n (ls' := [some _, some _, some _, some _]) rfl rfl rfl ?_
            refine y_iload_n rfl rfl ?_
            refine y_ireturn rfl rfl rfl ?_
            exact hQ _
        · refine y_iload_n rfl rfl ?_
          refine y_iconst rfl ?_
          refine y_ior rfl ?_
          refine y_istore_n (ls' := [some _, some _, some _, some _]) rfl rfl rfl ?_
          refine y_aload_n rfl rfl ?_
          refine y_getR rfl (ySh.t hS rfl) (ySh.n hS rfl) rfl rfl (ySh.r hS rfl) ?_
          refine y_getR rfl (ySh.t hS rfl) (ySh.n hS rfl) rfl rfl (ySh.r hS rfl) ?_
          refine y_iload_n rfl rfl ?_
          refine y_iaload rfl (ySh.t hS rfl) (ySh.n hS rfl) (by omega) (by omega) ?_
          refine y_iload_n rfl rfl ?_
          refine y_icmp_ne rfl j_X8_missingPillars_84 (fun h_17 => ?_) (fun h_18 => ?_)
          · refine y_iload_n rfl rfl ?_
            refine y_ireturn rfl rfl rfl ?_
            exact hQ _
          · refine y_iload_n rfl rfl ?_
            refine y_bip rfl (by decide) ?_
            refine y_ior rfl ?_
            refine y_istore_n (ls' := [some _, some _, some _, some _]) rfl rfl rfl ?_
            refine y_iload_n rfl rfl ?_
            refine y_ireturn rfl rfl rfl ?_
            exact hQ _
      · refine y_ret1 ?_
        refine y_if_neF rfl (by decide) ?_
        refine y_iload_n rfl rfl ?_
        refine y_iconst rfl ?_
        refine y_ior rfl ?_
        refine y_istore_n (ls' := [some _, some _, some _, some _]) rfl rfl rfl ?_
        refine y_aload_n rfl rfl ?_
        refine y_getR rfl (ySh.t hS rfl) (ySh.n hS rfl) rfl rfl (ySh.r hS rfl) ?_
        refine y_getR rfl (ySh.t hS rfl) (ySh.n hS rfl) rfl rfl (ySh.r hS rfl) ?_
        refine y_iload_n rfl rfl ?_
        refine y_baload rfl (ySh.t hS rfl) rfl (ySh.n hS rfl) (by omega) (by omega) ?_
        refine y_if_eq rfl j_X8_missingPillars_66 (fun h_19 => ?_) (fun h_20 => ?_)
        · refine y_aload_n rfl rfl ?_
          refine y_getR rfl (ySh.t hS rfl) (ySh.n hS rfl) rfl rfl (ySh.r hS rfl) ?_
          refine y_getR rfl (ySh.t hS rfl) (ySh.n hS rfl) rfl rfl (ySh.r hS rfl) ?_
          refine y_iload_n rfl rfl ?_
          refine y_iaload rfl (ySh.t hS rfl) (ySh.n hS rfl) (by omega) (by omega) ?_
          refine y_iload_n rfl rfl ?_
          refine y_icmp_ne rfl j_X8_missingPillars_84 (fun h_21 => ?_) (fun h_22 => ?_)
          · refine y_iload_n rfl rfl ?_
            refine y_ireturn rfl rfl rfl ?_
            exact hQ _
          · refine y_iload_n rfl rfl ?_
            refine y_bip rfl (by decide) ?_
            refine y_ior rfl ?_
            refine y_istore_n (ls' := [some _, some _, some _, some _]) rfl rfl rfl ?_
            refine y_iload_n rfl rfl ?_
            refine y_ireturn rfl rfl rfl ?_
            exact hQ _
        · refine y_iload_n rfl rfl ?_
          refine y_iconst rfl ?_
          refine y_ior rfl ?_
          refine y_istore_n (ls' := [some _, some _, some _, some _]) rfl rfl rfl ?_
          refine y_aload_n rfl rfl ?_
          refine y_getR rfl (ySh.t hS rfl) (ySh.n hS rfl) rfl rfl (ySh.r hS rfl) ?_
          refine y_getR rfl (ySh.t hS rfl) (ySh.n hS rfl) rfl rfl (ySh.r hS rfl) ?_
          refine y_iload_n rfl rfl ?_
          refine y_iaload rfl (ySh.t hS rfl) (ySh.n hS rfl) (by omega) (by omega) ?_
          refine y_iload_n rfl rfl ?_
          refine y_icmp_ne rfl j_X8_missingPillars_84 (fun h_23 => ?_) (fun h_24 => ?_)
          · refine y_iload_n rfl rfl ?_
            refine y_ireturn rfl rfl rfl ?_
            exact hQ _
          · refine y_iload_n rfl rfl ?_
            refine y_bip rfl (by decide) ?_
            refine y_ior rfl ?_
            refine y_istore_n (ls' := [some _, some _, some _, some _]) rfl rfl rfl ?_
            refine y_iload_n rfl rfl ?_
            refine y_ireturn rfl rfl rfl ?_
            exact hQ _
  · rw [yz_8] at h_2
    refine y_iload_n rfl rfl ?_
    refine y_iconst rfl ?_
    refine y_ior rfl ?_
    refine y_istore_n (ls' := [some _, some _, some _, some _]) rfl rfl rfl ?_
    refine y_goto rfl j_X8_missingPillars_50 ?_
    refine y_aload_n rfl rfl ?_
    refine y_getR rfl (ySh.t hS rfl) (ySh.n hS rfl) rfl rfl (ySh.r hS rfl) ?_
    refine y_getR rfl (ySh.t hS rfl) (ySh.n hS rfl) rfl rfl (ySh.r hS rfl) ?_
    refine y_iload_n rfl rfl ?_
    refine y_baload rfl (ySh.t hS rfl) rfl (ySh.n hS rfl) (by omega) (by omega) ?_
    refine y_if_eq rfl j_X8_missingPillars_66 (fun h_25 => ?_) (fun h_26 => ?_)
    · refine y_aload_n rfl rfl ?_
      refine y_getR rfl (ySh.t hS rfl) (ySh.n hS rfl) rfl rfl (ySh.r hS rfl) ?_
      refine y_getR rfl (ySh.t hS rfl) (ySh.n hS rfl) rfl rfl (ySh.r hS rfl) ?_
      refine y_iload_n rfl rfl ?_
      refine y_iaload rfl (ySh.t hS rfl) (ySh.n hS rfl) (by omega) (by omega) ?_
      refine y_iload_n rfl rfl ?_
      refine y_icmp_ne rfl j_X8_missingPillars_84 (fun h_27 => ?_) (fun h_28 => ?_)
      · refine y_iload_n rfl rfl ?_
        refine y_ireturn rfl rfl rfl ?_
        exact hQ _
      · refine y_iload_n rfl rfl ?_
        refine y_bip rfl (by decide) ?_
        refine y_ior rfl ?_
        refine y_istore_n (ls' := [some _, some _, some _, some _]) rfl rfl rfl ?_
        refine y_iload_n rfl rfl ?_
        refine y_ireturn rfl rfl rfl ?_
        exact hQ _
    · refine y_iload_n rfl rfl ?_
      refine y_iconst rfl ?_
      refine y_ior rfl ?_
      refine y_istore_n (ls' := [some _, some _, some _, some _]) rfl rfl rfl ?_
      refine y_aload_n rfl rfl ?_
      refine y_getR rfl (ySh.t hS rfl) (ySh.n hS rfl) rfl rfl (ySh.r hS rfl) ?_
      refine y_getR rfl (ySh.t hS rfl) (ySh.n hS rfl) rfl rfl (ySh.r hS rfl) ?_
      refine y_iload_n rfl rfl ?_
      refine y_iaload rfl (ySh.t hS rfl) (ySh.n hS rfl) (by omega) (by omega) ?_
      refine y_iload_n rfl rfl ?_
      refine y_icmp_ne rfl j_X8_missingPillars_84 (fun h_29 => ?_) (fun h_30 => ?_)
      · refine y_iload_n rfl rfl ?_
        refine y_ireturn rfl rfl rfl ?_
        exact hQ _
      · refine y_iload_n rfl rfl ?_
        refine y_bip rfl (by decide) ?_
        refine y_ior rfl ?_
        refine y_istore_n (ls' := [some _, some _, some _, some _]) rfl rfl rfl ?_
        refine y_iload_n rfl rfl ?_
        refine y_ireturn rfl rfl rfl ?_
        exact hQ _
theorem sp_canLease_X8 (hS : ySh n tg R) (hC : yCI I) {x1 x2 : Int32} (hv0 : 0 ≤ x1.toInt) (hv1 : x1.toInt < 16) (hQ1 : Q (.inl (some (.int (Int32.ofInt 1)))) (n, tg, I, R) c s) (hQ0 : Q (.inl (some (.int (Int32.ofInt 0)))) (n, tg, I, R) c s) : yC 168 [.ref 34, .int x1, .int x2] (n, tg, I, R) c s Q := by
  refine y_in (M := xm_X8_canLease) (ls := [some _, some _, some _]) rfl rfl rfl ?_
  refine y_aload_n rfl rfl ?_
  refine y_getR rfl (ySh.t hS rfl) (ySh.n hS rfl) rfl rfl (ySh.r hS rfl) ?_
  refine y_getR rfl (ySh.t hS rfl) (ySh.n hS rfl) rfl rfl (ySh.r hS rfl) ?_
  refine y_iload_n rfl rfl ?_
  refine y_iaload rfl (ySh.t hS rfl) (ySh.n hS rfl) (by omega) (by omega) ?_
  refine y_bip rfl (by decide) ?_
  refine y_icmp_ne rfl j_X8_canLease_77 (fun h_1 => ?_) (fun h_2 => ?_)
  · rw [yz_8] at h_1
    refine y_iconst rfl ?_
    refine y_ireturn rfl rfl rfl ?_
    exact hQ0
  · rw [yz_8] at h_2
    refine y_aload_n rfl rfl ?_
    refine y_getR rfl (ySh.t hS rfl) (ySh.n hS rfl) rfl rfl (ySh.r hS rfl) ?_
    refine y_getR rfl (ySh.t hS rfl) (ySh.n hS rfl) rfl rfl (ySh.r hS rfl) ?_
    refine y_iload_n rfl rfl ?_
    refine y_baload rfl (ySh.t hS rfl) rfl (ySh.n hS rfl) (by omega) (by omega) ?_
    refine y_if_eq rfl j_X8_canLease_77 (fun h_3 => ?_) (fun h_4 => ?_)
    · refine y_iconst rfl ?_
      refine y_ireturn rfl rfl rfl ?_
      exact hQ0
    · refine y_aload_n rfl rfl ?_
      refine y_getR rfl (ySh.t hS rfl) (ySh.n hS rfl) rfl rfl (ySh.r hS rfl) ?_
      refine y_getR rfl (ySh.t hS rfl) (ySh.n hS rfl) rfl rfl (ySh.r hS rfl) ?_
      refine y_iload_n rfl rfl ?_
      refine y_baload rfl (ySh.t hS rfl) rfl (ySh.n hS rfl) (by omega) (by omega) ?_
      refine y_if_ne rfl j_X8_canLease_77 (fun h_5 => ?_) (fun h_6 => ?_)
      · refine y_iconst rfl ?_
        refine y_ireturn rfl rfl rfl ?_
        exact hQ0
      · refine y_aload_n rfl rfl ?_
        refine y_getR rfl (ySh.t hS rfl) (ySh.n hS rfl) rfl rfl (ySh.r hS rfl) ?_
        refine y_iload_n rfl rfl ?_
        refine y_virt rfl rfl rfl rfl rfl (ySh.t hS rfl) (ySh.n hS rfl) ?_
        refine y_in (M := xm_X6_isLeased) (ls := [some _, some _]) rfl rfl rfl ?_
        refine y_aload_n rfl rfl ?_
        refine y_getR rfl (ySh.t hS rfl) (ySh.n hS rfl) rfl rfl (ySh.r hS rfl) ?_
        refine y_iload_n rfl rfl ?_
        refine y_iaload rfl (ySh.t hS rfl) (ySh.n hS rfl) (by omega) (by omega) ?_
        refine y_iconst rfl ?_
        refine y_icmp_eq rfl j_X6_isLeased_14 (fun h_7 => ?_) (fun h_8 => ?_)
        · rw [yz_m1] at h_7
          refine y_iconst rfl ?_
          refine y_ireturn rfl rfl rfl ?_
          refine y_ret1 ?_
          refine y_if_neF rfl (by decide) ?_
          refine y_aload_n rfl rfl ?_
          refine y_getR rfl (ySh.t hS rfl) (ySh.n hS rfl) rfl rfl (ySh.r hS rfl) ?_
          refine y_getR rfl (ySh.t hS rfl) (ySh.n hS rfl) rfl rfl (ySh.r hS rfl) ?_
          refine y_iload_n rfl rfl ?_
          refine y_iaload rfl (ySh.t hS rfl) (ySh.n hS rfl) (by omega) (by omega) ?_
          refine y_iload_n rfl rfl ?_
          refine y_icmp_ne rfl j_X8_canLease_73 (fun h_9 => ?_) (fun h_10 => ?_)
          · refine y_iconst rfl ?_
            refine y_goto rfl j_X8_canLease_78 ?_
            refine y_ireturn rfl rfl rfl ?_
            exact hQ1
          · refine y_aload_n rfl rfl ?_
            refine y_getR rfl (ySh.t hS rfl) (ySh.n hS rfl) rfl rfl (ySh.r hS rfl) ?_
            refine y_iconst rfl ?_
            refine y_virt rfl rfl rfl rfl rfl (ySh.t hS rfl) (ySh.n hS rfl) ?_
            refine sp_isAllowedNow hS (by decide) (by decide) (fun h_11 => ?_) (fun h_12 => ?_)
            · refine y_ret1 ?_
              refine y_if_eqF rfl (by decide) ?_
              refine y_iconst rfl ?_
              refine y_goto rfl j_X8_canLease_78 ?_
              refine y_ireturn rfl rfl rfl ?_
              exact hQ1
            · refine y_ret1 ?_
              refine y_if_eqT rfl j_X8_canLease_77 (by decide) ?_
              refine y_iconst rfl ?_
              refine y_ireturn rfl rfl rfl ?_
              exact hQ0
        · rw [yz_m1] at h_8
          refine y_iconst rfl ?_
          refine y_goto rfl j_X6_isLeased_15 ?_
          refine y_ireturn rfl rfl rfl ?_
          refine y_ret1 ?_
          refine y_if_neT rfl j_X8_canLease_77 (by decide) ?_
          refine y_iconst rfl ?_
          refine y_ireturn rfl rfl rfl ?_
          exact hQ0
theorem m_buy (hS : ySh n tg R) (hC : yCI I) {x1 : Int32} (hE0 : Q (.inr "java/lang/IndexOutOfBoundsException") (n, tg, I, R) (c + 1) (s + 6)) (hE2 : Q (.inr "java/lang/IllegalStateException") (n, tg, I, R) (c + 1) (s + 6)) (hQ : ∀ v I1, yCI I1 → yFt I I1 → Q (.inl (some (.int v))) (n, tg, I1, R) c s) : yC 124 [.ref 34, .int x1] (n, tg, I, R) c s Q := by
  have hF : yFt I I := yFt.rf
  refine y_in (M := xm_X8_buy) (ls := [some _, some _, _]) rfl rfl rfl ?_
  refine y_aload_n rfl rfl ?_
  refine y_getR rfl (ySh.t hS rfl) (ySh.n hS rfl) rfl rfl (ySh.r hS rfl) ?_
  refine y_iload_n rfl rfl ?_
  refine y_virt rfl rfl rfl rfl rfl (ySh.t hS rfl) (ySh.n hS rfl) ?_
  refine y_in (M := xm_X6_has) (ls := [some _, some _]) rfl rfl rfl ?_
  refine y_iload_n rfl rfl ?_
  refine y_if_lt rfl j_X6_has_16 (fun h_1 => ?_) (fun h_2 => ?_)
  · refine y_iconst rfl ?_
    refine y_ireturn rfl rfl rfl ?_
    refine y_ret1 ?_
    refine y_if_neF rfl (by decide) ?_
    refine y_throw rfl rfl rfl ?_
    exact hE0
  · refine y_iload_n rfl rfl ?_
    refine y_aload_n rfl rfl ?_
    refine y_getI rfl (ySh.t hS rfl) (ySh.n hS rfl) rfl rfl ?_
    refine y_icmp_ge rfl j_X6_has_16 (fun h_3 => ?_) (fun h_4 => ?_)
    · refine y_iconst rfl ?_
      refine y_ireturn rfl rfl rfl ?_
      refine y_ret1 ?_
      refine y_if_neF rfl (by decide) ?_
      refine y_throw rfl rfl rfl ?_
      exact hE0
    · refine y_iconst rfl ?_
      refine y_goto rfl j_X6_has_17 ?_
      refine y_ireturn rfl rfl rfl ?_
      refine y_ret1 ?_
      refine y_if_neT rfl j_X8_buy_21 (by decide) ?_
      refine y_aload_n rfl rfl ?_
      refine y_getR rfl (ySh.t hS rfl) (ySh.n hS rfl) rfl rfl (ySh.r hS rfl) ?_
      refine y_getR rfl (ySh.t hS rfl) (ySh.n hS rfl) rfl rfl (ySh.r hS rfl) ?_
      refine y_iload_n rfl rfl ?_
      refine y_iaload rfl (ySh.t hS rfl) (ySh.n hS rfl) (by omega) (by omega) ?_
      refine y_bip rfl (by decide) ?_
      refine y_icmp_eq rfl j_X8_buy_58 (fun h_5 => ?_) (fun h_6 => ?_)
      · rw [yz_8] at h_5
        refine y_throw rfl rfl rfl ?_
        exact hE2
      · rw [yz_8] at h_6
        refine y_aload_n rfl rfl ?_
        refine y_getR rfl (ySh.t hS rfl) (ySh.n hS rfl) rfl rfl (ySh.r hS rfl) ?_
        refine y_getR rfl (ySh.t hS rfl) (ySh.n hS rfl) rfl rfl (ySh.r hS rfl) ?_
        refine y_iload_n rfl rfl ?_
        refine y_baload rfl (ySh.t hS rfl) rfl (ySh.n hS rfl) (by omega) (by omega) ?_
        refine y_if_ne rfl j_X8_buy_58 (fun h_7 => ?_) (fun h_8 => ?_)
        · refine y_throw rfl rfl rfl ?_
          exact hE2
        · refine y_aload_n rfl rfl ?_
          refine y_getR rfl (ySh.t hS rfl) (ySh.n hS rfl) rfl rfl (ySh.r hS rfl) ?_
          refine y_iload_n rfl rfl ?_
          refine y_virt rfl rfl rfl rfl rfl (ySh.t hS rfl) (ySh.n hS rfl) ?_
          refine y_in (M := xm_X6_isLeased) (ls := [some _, some _]) rfl rfl rfl ?_
          refine y_aload_n rfl rfl ?_
          refine y_getR rfl (ySh.t hS rfl) (ySh.n hS rfl) rfl rfl (ySh.r hS rfl) ?_
          refine y_iload_n rfl rfl ?_
          refine y_iaload rfl (ySh.t hS rfl) (ySh.n hS rfl) (by omega) (by omega) ?_
          refine y_iconst rfl ?_
          refine y_icmp_eq rfl j_X6_isLeased_14 (fun h_9 => ?_) (fun h_10 => ?_)
          · rw [yz_m1] at h_9
            refine y_iconst rfl ?_
            refine y_ireturn rfl rfl rfl ?_
            refine y_ret1 ?_
            refine y_if_eqT rfl j_X8_buy_68 (by decide) ?_
            refine y_aload_n rfl rfl ?_
            refine y_getR rfl (ySh.t hS rfl) (ySh.n hS rfl) rfl rfl (ySh.r hS rfl) ?_
            refine y_getR rfl (ySh.t hS rfl) (ySh.n hS rfl) rfl rfl (ySh.r hS rfl) ?_
            refine y_iload_n rfl rfl ?_
            refine y_iaload rfl (ySh.t hS rfl) (ySh.n hS rfl) (by omega) (by omega) ?_
            refine y_istore_n (ls' := [some _, some _, some _]) rfl rfl rfl ?_
            refine y_aload_n rfl rfl ?_
            refine y_getR rfl (ySh.t hS rfl) (ySh.n hS rfl) rfl rfl (ySh.r hS rfl) ?_
            refine y_bip rfl (by decide) ?_
            refine y_aload_n rfl rfl ?_
            refine y_getR rfl (ySh.t hS rfl) (ySh.n hS rfl) rfl rfl (ySh.r hS rfl) ?_
            refine y_getR rfl (ySh.t hS rfl) (ySh.n hS rfl) rfl rfl (ySh.r hS rfl) ?_
            refine y_iload_n rfl rfl ?_
            refine y_iaload rfl (ySh.t hS rfl) (ySh.n hS rfl) (by omega) (by omega) ?_
            refine y_iload_n rfl rfl ?_
            refine y_virt rfl rfl rfl rfl rfl (ySh.t hS rfl) (ySh.n hS rfl) ?_
            refine y_in (M := xm_X4_move) (ls := [some _, some _, some _, some _]) rfl rfl rfl ?_
            refine y_aload_n rfl rfl ?_
            refine y_iload_n rfl rfl ?_
            refine y_iload_n rfl rfl ?_
            refine y_ineg rfl ?_
            refine y_virt rfl rfl rfl rfl rfl (ySh.t hS rfl) (ySh.n hS rfl) ?_
            refine sp_add_X4 hS hC (fun I21 hC hF1 => ?_)
            have hF : yFt I I21 := yFt.trans (by repeat (first | exact hF | refine yFt.upd ?_ (by decide))) hF1.t
            have hd : (I21 34 8).toInt = (I 34 8).toInt := congrArg Int32.toInt (hF1 34 8 (Or.inl (by decide)))
            refine y_ret0 ?_
            refine y_aload_n rfl rfl ?_
            refine y_iload_n rfl rfl ?_
            refine y_iload_n rfl rfl ?_
            refine y_virt rfl rfl rfl rfl rfl (ySh.t hS rfl) (ySh.n hS rfl) ?_
            refine sp_add_X4 hS hC (fun I22 hC hF1 => ?_)
            have hF : yFt I I22 := yFt.trans (by repeat (first | exact hF | refine yFt.upd ?_ (by decide))) hF1.t
            have hd : (I22 34 8).toInt = (I21 34 8).toInt := congrArg Int32.toInt (hF1 34 8 (Or.inl (by decide)))
            refine y_ret0 ?_
            refine y_return rfl ?_
            refine y_ret0 ?_
            refine y_aload_n rfl rfl ?_
            refine y_getR rfl (ySh.t hS rfl) (ySh.n hS rfl) rfl rfl (ySh.r hS rfl) ?_
            refine y_iload_n rfl rfl ?_
            refine y_virt rfl rfl rfl rfl rfl (ySh.t hS rfl) (ySh.n hS rfl) ?_
            refine y_in (M := xm_X6_acquire) (ls := [some _, some _]) rfl rfl rfl ?_
            refine y_aload_n rfl rfl ?_
            refine y_getR rfl (ySh.t hS rfl) (ySh.n hS rfl) rfl rfl (ySh.r hS rfl) ?_
            refine y_iload_n rfl rfl ?_
            refine y_aload_n rfl rfl ?_
            refine y_getR rfl (ySh.t hS rfl) (ySh.n hS rfl) rfl rfl (ySh.r hS rfl) ?_
            refine y_iload_n rfl rfl ?_
            refine y_iaload rfl (ySh.t hS rfl) (ySh.n hS rfl) (by omega) (by omega) ?_
            refine y_iastore rfl (ySh.t hS rfl) (ySh.n hS rfl) (Nat.le_of_ble_eq_true rfl) (by omega) (by omega) ?_
            refine y_aload_n rfl rfl ?_
            refine y_getR rfl (ySh.t hS rfl) (ySh.n hS rfl) rfl rfl (ySh.r hS rfl) ?_
            refine y_iload_n rfl rfl ?_
            refine y_aload_n rfl rfl ?_
            refine y_getR rfl (ySh.t hS rfl) (ySh.n hS rfl) rfl rfl (ySh.r hS rfl) ?_
            refine y_iload_n rfl rfl ?_
            refine y_iaload rfl (ySh.t hS rfl) (ySh.n hS rfl) (by omega) (by omega) ?_
            refine y_iastore rfl (ySh.t hS rfl) (ySh.n hS rfl) (Nat.le_of_ble_eq_true rfl) (by omega) (by omega) ?_
            refine y_aload_n rfl rfl ?_
            refine y_getR rfl (ySh.t hS rfl) (ySh.n hS rfl) rfl rfl (ySh.r hS rfl) ?_
            refine y_iload_n rfl rfl ?_
            refine y_bip rfl (by decide) ?_
            refine y_iastore rfl (ySh.t hS rfl) (ySh.n hS rfl) (Nat.le_of_ble_eq_true rfl) (by omega) (by omega) ?_
            refine y_aload_n rfl rfl ?_
            refine y_getR rfl (ySh.t hS rfl) (ySh.n hS rfl) rfl rfl (ySh.r hS rfl) ?_
            refine y_iload_n rfl rfl ?_
            refine y_iconst rfl ?_
            refine y_zastore rfl (ySh.t hS rfl) (ySh.n hS rfl) (Nat.le_of_ble_eq_true rfl) (by omega) (by omega) rfl ?_
            refine y_return rfl ?_
            refine y_ret0 ?_
            refine y_iload_n rfl rfl ?_
            refine y_ireturn rfl rfl rfl ?_
            exact hQ _ _ hC (by repeat (first | exact hF | refine yFt.upd ?_ (by decide)))
          · rw [yz_m1] at h_10
            refine y_iconst rfl ?_
            refine y_goto rfl j_X6_isLeased_15 ?_
            refine y_ireturn rfl rfl rfl ?_
            refine y_ret1 ?_
            refine y_if_eqF rfl (by decide) ?_
            refine y_throw rfl rfl rfl ?_
            exact hE2
theorem m_take (hS : ySh n tg R) (hC : yCI I) {x1 : Int32} (hE0 : Q (.inr "java/lang/IndexOutOfBoundsException") (n, tg, I, R) (c + 1) (s + 6)) (hE2 : Q (.inr "java/lang/IllegalStateException") (n, tg, I, R) (c + 1) (s + 6)) (hQ : ∀ v I1, yCI I1 → yFt I I1 → Q (.inl (some (.int v))) (n, tg, I1, R) c s) : yC 125 [.ref 34, .int x1] (n, tg, I, R) c s Q := by
  have hF : yFt I I := yFt.rf
  refine y_in (M := xm_X8_take) (ls := [some _, some _]) rfl rfl rfl ?_
  refine y_aload_n rfl rfl ?_
  refine y_getR rfl (ySh.t hS rfl) (ySh.n hS rfl) rfl rfl (ySh.r hS rfl) ?_
  refine y_iload_n rfl rfl ?_
  refine y_virt rfl rfl rfl rfl rfl (ySh.t hS rfl) (ySh.n hS rfl) ?_
  refine y_in (M := xm_X6_has) (ls := [some _, some _]) rfl rfl rfl ?_
  refine y_iload_n rfl rfl ?_
  refine y_if_lt rfl j_X6_has_16 (fun h_1 => ?_) (fun h_2 => ?_)
  · refine y_iconst rfl ?_
    refine y_ireturn rfl rfl rfl ?_
    refine y_ret1 ?_
    refine y_if_neF rfl (by decide) ?_
    refine y_throw rfl rfl rfl ?_
    exact hE0
  · refine y_iload_n rfl rfl ?_
    refine y_aload_n rfl rfl ?_
    refine y_getI rfl (ySh.t hS rfl) (ySh.n hS rfl) rfl rfl ?_
    refine y_icmp_ge rfl j_X6_has_16 (fun h_3 => ?_) (fun h_4 => ?_)
    · refine y_iconst rfl ?_
      refine y_ireturn rfl rfl rfl ?_
      refine y_ret1 ?_
      refine y_if_neF rfl (by decide) ?_
      refine y_throw rfl rfl rfl ?_
      exact hE0
    · refine y_iconst rfl ?_
      refine y_goto rfl j_X6_has_17 ?_
      refine y_ireturn rfl rfl rfl ?_
      refine y_ret1 ?_
      refine y_if_neT rfl j_X8_take_21 (by decide) ?_
      refine y_aload_n rfl rfl ?_
      refine y_getR rfl (ySh.t hS rfl) (ySh.n hS rfl) rfl rfl (ySh.r hS rfl) ?_
      refine y_getR rfl (ySh.t hS rfl) (ySh.n hS rfl) rfl rfl (ySh.r hS rfl) ?_
      refine y_iload_n rfl rfl ?_
      refine y_iaload rfl (ySh.t hS rfl) (ySh.n hS rfl) (by omega) (by omega) ?_
      refine y_bip rfl (by decide) ?_
      refine y_icmp_ne rfl j_X8_take_47 (fun h_5 => ?_) (fun h_6 => ?_)
      · rw [yz_8] at h_5
        refine y_throw rfl rfl rfl ?_
        exact hE2
      · rw [yz_8] at h_6
        refine y_aload_n rfl rfl ?_
        refine y_getR rfl (ySh.t hS rfl) (ySh.n hS rfl) rfl rfl (ySh.r hS rfl) ?_
        refine y_getR rfl (ySh.t hS rfl) (ySh.n hS rfl) rfl rfl (ySh.r hS rfl) ?_
        refine y_iload_n rfl rfl ?_
        refine y_baload rfl (ySh.t hS rfl) rfl (ySh.n hS rfl) (by omega) (by omega) ?_
        refine y_if_eq rfl j_X8_take_57 (fun h_7 => ?_) (fun h_8 => ?_)
        · refine y_aload_n rfl rfl ?_
          refine y_getR rfl (ySh.t hS rfl) (ySh.n hS rfl) rfl rfl (ySh.r hS rfl) ?_
          refine y_getR rfl (ySh.t hS rfl) (ySh.n hS rfl) rfl rfl (ySh.r hS rfl) ?_
          refine y_iload_n rfl rfl ?_
          refine y_iconst rfl ?_
          refine y_zastore rfl (ySh.t hS rfl) (ySh.n hS rfl) (Nat.le_of_ble_eq_true rfl) (by omega) (by omega) rfl ?_
          refine y_aload_n rfl rfl ?_
          refine y_getR rfl (ySh.t hS rfl) (ySh.n hS rfl) rfl rfl (ySh.r hS rfl) ?_
          refine y_virt rfl rfl rfl rfl rfl (ySh.t hS rfl) (ySh.n hS rfl) ?_
          refine y_setCC (by exact hC) (fun hC => ?_)
          refine sp_heldByHouse_X6 hS hC (fun v_ => ?_)
          refine y_ret1 ?_
          refine y_ireturn rfl rfl rfl ?_
          exact hQ _ _ hC (by repeat (first | exact hF | refine yFt.upd ?_ (by decide)))
        · refine y_throw rfl rfl rfl ?_
          exact hE2
theorem m_ruin (hS : ySh n tg R) (hC : yCI I) {x1 : Int32} (hE0 : Q (.inr "java/lang/IndexOutOfBoundsException") (n, tg, I, R) (c + 1) (s + 6)) (hE2 : Q (.inr "java/lang/IllegalStateException") (n, tg, I, R) (c + 1) (s + 6)) (hQ : ∀ v I1, yCI I1 → yFt I I1 → Q (.inl (some (.int v))) (n, tg, I1, R) c s) : yC 126 [.ref 34, .int x1] (n, tg, I, R) c s Q := by
  have hF : yFt I I := yFt.rf
  refine y_in (M := xm_X8_ruin) (ls := [some _, some _]) rfl rfl rfl ?_
  refine y_aload_n rfl rfl ?_
  refine y_getR rfl (ySh.t hS rfl) (ySh.n hS rfl) rfl rfl (ySh.r hS rfl) ?_
  refine y_iload_n rfl rfl ?_
  refine y_virt rfl rfl rfl rfl rfl (ySh.t hS rfl) (ySh.n hS rfl) ?_
  refine y_in (M := xm_X6_has) (ls := [some _, some _]) rfl rfl rfl ?_
  refine y_iload_n rfl rfl ?_
  refine y_if_lt rfl j_X6_has_16 (fun h_1 => ?_) (fun h_2 => ?_)
  · refine y_iconst rfl ?_
    refine y_ireturn rfl rfl rfl ?_
    refine y_ret1 ?_
    refine y_if_neF rfl (by decide) ?_
    refine y_throw rfl rfl rfl ?_
    exact hE0
  · refine y_iload_n rfl rfl ?_
    refine y_aload_n rfl rfl ?_
    refine y_getI rfl (ySh.t hS rfl) (ySh.n hS rfl) rfl rfl ?_
    refine y_icmp_ge rfl j_X6_has_16 (fun h_3 => ?_) (fun h_4 => ?_)
    · refine y_iconst rfl ?_
      refine y_ireturn rfl rfl rfl ?_
      refine y_ret1 ?_
      refine y_if_neF rfl (by decide) ?_
      refine y_throw rfl rfl rfl ?_
      exact hE0
    · refine y_iconst rfl ?_
      refine y_goto rfl j_X6_has_17 ?_
      refine y_ireturn rfl rfl rfl ?_
      refine y_ret1 ?_
      refine y_if_neT rfl j_X8_ruin_21 (by decide) ?_
      refine y_aload_n rfl rfl ?_
      refine y_getR rfl (ySh.t hS rfl) (ySh.n hS rfl) rfl rfl (ySh.r hS rfl) ?_
      refine y_getR rfl (ySh.t hS rfl) (ySh.n hS rfl) rfl rfl (ySh.r hS rfl) ?_
      refine y_iload_n rfl rfl ?_
      refine y_baload rfl (ySh.t hS rfl) rfl (ySh.n hS rfl) (by omega) (by omega) ?_
      refine y_if_eq rfl j_X8_ruin_43 (fun h_5 => ?_) (fun h_6 => ?_)
      · refine y_aload_n rfl rfl ?_
        refine y_getR rfl (ySh.t hS rfl) (ySh.n hS rfl) rfl rfl (ySh.r hS rfl) ?_
        refine y_aload_n rfl rfl ?_
        refine y_getR rfl (ySh.t hS rfl) (ySh.n hS rfl) rfl rfl (ySh.r hS rfl) ?_
        refine y_getR rfl (ySh.t hS rfl) (ySh.n hS rfl) rfl rfl (ySh.r hS rfl) ?_
        refine y_iload_n rfl rfl ?_
        refine y_iaload rfl (ySh.t hS rfl) (ySh.n hS rfl) (by omega) (by omega) ?_
        refine y_virt rfl rfl rfl rfl rfl (ySh.t hS rfl) (ySh.n hS rfl) ?_
        refine y_in (M := xm_X2_close) (ls := [some _, some _]) rfl rfl rfl ?_
        refine y_aload_n rfl rfl ?_
        refine y_iload_n rfl rfl ?_
        refine y_virt rfl rfl rfl rfl rfl (ySh.t hS rfl) (ySh.n hS rfl) ?_
        refine y_in (M := xm_X2_has) (ls := [some _, some _]) rfl rfl rfl ?_
        refine y_iload_n rfl rfl ?_
        refine y_if_lt rfl j_X2_has_16 (fun h_7 => ?_) (fun h_8 => ?_)
        · refine y_iconst rfl ?_
          refine y_ireturn rfl rfl rfl ?_
          refine y_ret1 ?_
          refine y_if_eqT rfl j_X2_close_15 (by decide) ?_
          refine y_return rfl ?_
          refine y_ret0 ?_
          refine y_aload_n rfl rfl ?_
          refine y_getR rfl (ySh.t hS rfl) (ySh.n hS rfl) rfl rfl (ySh.r hS rfl) ?_
          refine y_getR rfl (ySh.t hS rfl) (ySh.n hS rfl) rfl rfl (ySh.r hS rfl) ?_
          refine y_iload_n rfl rfl ?_
          refine y_iconst rfl ?_
          refine y_iastore rfl (ySh.t hS rfl) (ySh.n hS rfl) (Nat.le_of_ble_eq_true rfl) (by omega) (by omega) ?_
          refine y_aload_n rfl rfl ?_
          refine y_getR rfl (ySh.t hS rfl) (ySh.n hS rfl) rfl rfl (ySh.r hS rfl) ?_
          refine y_getR rfl (ySh.t hS rfl) (ySh.n hS rfl) rfl rfl (ySh.r hS rfl) ?_
          refine y_iload_n rfl rfl ?_
          refine y_iconst rfl ?_
          refine y_zastore rfl (ySh.t hS rfl) (ySh.n hS rfl) (Nat.le_of_ble_eq_true rfl) (by omega) (by omega) rfl ?_
          refine y_aload_n rfl rfl ?_
          refine y_getR rfl (ySh.t hS rfl) (ySh.n hS rfl) rfl rfl (ySh.r hS rfl) ?_
          refine y_getR rfl (ySh.t hS rfl) (ySh.n hS rfl) rfl rfl (ySh.r hS rfl) ?_
          refine y_iload_n rfl rfl ?_
          refine y_iaload rfl (ySh.t hS rfl) (ySh.n hS rfl) (by omega) (by omega) ?_
          refine y_ireturn rfl rfl rfl ?_
          exact hQ _ _ hC (by repeat (first | exact hF | refine yFt.upd ?_ (by decide)))
        · refine y_iload_n rfl rfl ?_
          refine y_aload_n rfl rfl ?_
          refine y_getI rfl (ySh.t hS rfl) (ySh.n hS rfl) rfl rfl ?_
          refine y_icmp_ge rfl j_X2_has_16 (fun h_9 => ?_) (fun h_10 => ?_)
          · refine y_iconst rfl ?_
            refine y_ireturn rfl rfl rfl ?_
            refine y_ret1 ?_
            refine y_if_eqT rfl j_X2_close_15 (by decide) ?_
            refine y_return rfl ?_
            refine y_ret0 ?_
            refine y_aload_n rfl rfl ?_
            refine y_getR rfl (ySh.t hS rfl) (ySh.n hS rfl) rfl rfl (ySh.r hS rfl) ?_
            refine y_getR rfl (ySh.t hS rfl) (ySh.n hS rfl) rfl rfl (ySh.r hS rfl) ?_
            refine y_iload_n rfl rfl ?_
            refine y_iconst rfl ?_
            refine y_iastore rfl (ySh.t hS rfl) (ySh.n hS rfl) (Nat.le_of_ble_eq_true rfl) (by omega) (by omega) ?_
            refine y_aload_n rfl rfl ?_
            refine y_getR rfl (ySh.t hS rfl) (ySh.n hS rfl) rfl rfl (ySh.r hS rfl) ?_
            refine y_getR rfl (ySh.t hS rfl) (ySh.n hS rfl) rfl rfl (ySh.r hS rfl) ?_
            refine y_iload_n rfl rfl ?_
            refine y_iconst rfl ?_
            refine y_zastore rfl (ySh.t hS rfl) (ySh.n hS rfl) (Nat.le_of_ble_eq_true rfl) (by omega) (by omega) rfl ?_
            refine y_aload_n rfl rfl ?_
            refine y_getR rfl (ySh.t hS rfl) (ySh.n hS rfl) rfl rfl (ySh.r hS rfl) ?_
            refine y_getR rfl (ySh.t hS rfl) (ySh.n hS rfl) rfl rfl (ySh.r hS rfl) ?_
            refine y_iload_n rfl rfl ?_
            refine y_iaload rfl (ySh.t hS rfl) (ySh.n hS rfl) (by omega) (by omega) ?_
            refine y_ireturn rfl rfl rfl ?_
            exact hQ _ _ hC (by repeat (first | exact hF | refine yFt.upd ?_ (by decide)))
          · refine y_iconst rfl ?_
            refine y_goto rfl j_X2_has_17 ?_
            refine y_ireturn rfl rfl rfl ?_
            refine y_ret1 ?_
            refine y_if_eqF rfl (by decide) ?_
            refine y_aload_n rfl rfl ?_
            refine y_getR rfl (ySh.t hS rfl) (ySh.n hS rfl) rfl rfl (ySh.r hS rfl) ?_
            refine y_iload_n rfl rfl ?_
            refine y_iconst rfl ?_
            refine y_zastore rfl (ySh.t hS rfl) (ySh.n hS rfl) (Nat.le_of_ble_eq_true rfl) (by omega) (by omega) rfl ?_
            refine y_return rfl ?_
            refine y_ret0 ?_
            refine y_aload_n rfl rfl ?_
            refine y_getR rfl (ySh.t hS rfl) (ySh.n hS rfl) rfl rfl (ySh.r hS rfl) ?_
            refine y_getR rfl (ySh.t hS rfl) (ySh.n hS rfl) rfl rfl (ySh.r hS rfl) ?_
            refine y_iload_n rfl rfl ?_
            refine y_iconst rfl ?_
            refine y_iastore rfl (ySh.t hS rfl) (ySh.n hS rfl) (Nat.le_of_ble_eq_true rfl) (by omega) (by omega) ?_
            refine y_aload_n rfl rfl ?_
            refine y_getR rfl (ySh.t hS rfl) (ySh.n hS rfl) rfl rfl (ySh.r hS rfl) ?_
            refine y_getR rfl (ySh.t hS rfl) (ySh.n hS rfl) rfl rfl (ySh.r hS rfl) ?_
            refine y_iload_n rfl rfl ?_
            refine y_iconst rfl ?_
            refine y_zastore rfl (ySh.t hS rfl) (ySh.n hS rfl) (Nat.le_of_ble_eq_true rfl) (by omega) (by omega) rfl ?_
            refine y_aload_n rfl rfl ?_
            refine y_getR rfl (ySh.t hS rfl) (ySh.n hS rfl) rfl rfl (ySh.r hS rfl) ?_
            refine y_getR rfl (ySh.t hS rfl) (ySh.n hS rfl) rfl rfl (ySh.r hS rfl) ?_
            refine y_iload_n rfl rfl ?_
            refine y_iaload rfl (ySh.t hS rfl) (ySh.n hS rfl) (by omega) (by omega) ?_
            refine y_ireturn rfl rfl rfl ?_
            exact hQ _ _ hC (by repeat (first | exact hF | refine yFt.upd ?_ (by decide)))
      · refine y_throw rfl rfl rfl ?_
        exact hE2
theorem m_sell (hS : ySh n tg R) (hC : yCI I) {x1 x2 x3 x4 : Int32} (hE0 : Q (.inr "java/lang/IndexOutOfBoundsException") (n, tg, I, R) (c + 1) (s + 6)) (hE1 : Q (.inr "java/lang/IllegalArgumentException") (n, tg, I, R) (c + 1) (s + 6)) (hE2 : Q (.inr "java/lang/IllegalStateException") (n, tg, I, R) (c + 1) (s + 6)) (hQ : ∀ v I1, yCI I1 → yFt I I1 → Q (.inl (some (.int v))) (n, tg, I1, R) c s) : yC 127 [.ref 34, .int x1, .int x2, .int x3, .int x4] (n, tg, I, R) c s Q := by
  have hF : yFt I I := yFt.rf
  refine y_in (M := xm_X8_sell) (ls := [some _, some _, some _, some _, some _, _, _]) rfl rfl rfl ?_
  refine y_aload_n rfl rfl ?_
  refine y_getR rfl (ySh.t hS rfl) (ySh.n hS rfl) rfl rfl (ySh.r hS rfl) ?_
  refine y_iload_n rfl rfl ?_
  refine y_virt rfl rfl rfl rfl rfl (ySh.t hS rfl) (ySh.n hS rfl) ?_
  refine y_in (M := xm_X6_has) (ls := [some _, some _]) rfl rfl rfl ?_
  refine y_iload_n rfl rfl ?_
  refine y_if_lt rfl j_X6_has_16 (fun h_1 => ?_) (fun h_2 => ?_)
  · refine y_iconst rfl ?_
    refine y_ireturn rfl rfl rfl ?_
    refine y_ret1 ?_
    refine y_if_eqT rfl j_X8_sell_22 (by decide) ?_
    refine y_throw rfl rfl rfl ?_
    exact hE0
  · refine y_iload_n rfl rfl ?_
    refine y_aload_n rfl rfl ?_
    refine y_getI rfl (ySh.t hS rfl) (ySh.n hS rfl) rfl rfl ?_
    refine y_icmp_ge rfl j_X6_has_16 (fun h_3 => ?_) (fun h_4 => ?_)
    · refine y_iconst rfl ?_
      refine y_ireturn rfl rfl rfl ?_
      refine y_ret1 ?_
      refine y_if_eqT rfl j_X8_sell_22 (by decide) ?_
      refine y_throw rfl rfl rfl ?_
      exact hE0
    · refine y_iconst rfl ?_
      refine y_goto rfl j_X6_has_17 ?_
      refine y_ireturn rfl rfl rfl ?_
      refine y_ret1 ?_
      refine y_if_eqF rfl (by decide) ?_
      refine y_aload_n rfl rfl ?_
      refine y_getR rfl (ySh.t hS rfl) (ySh.n hS rfl) rfl rfl (ySh.r hS rfl) ?_
      refine y_iload_n rfl rfl ?_
      refine y_virt rfl rfl rfl rfl rfl (ySh.t hS rfl) (ySh.n hS rfl) ?_
      refine y_in (M := xm_X4_has) (ls := [some _, some _]) rfl rfl rfl ?_
      refine y_iload_n rfl rfl ?_
      refine y_if_lt rfl j_X4_has_16 (fun h_5 => ?_) (fun h_6 => ?_)
      · refine y_iconst rfl ?_
        refine y_ireturn rfl rfl rfl ?_
        refine y_ret1 ?_
        refine y_if_neF rfl (by decide) ?_
        refine y_throw rfl rfl rfl ?_
        exact hE0
      · refine y_iload_n rfl rfl ?_
        refine y_aload_n rfl rfl ?_
        refine y_getI rfl (ySh.t hS rfl) (ySh.n hS rfl) rfl rfl ?_
        refine y_icmp_ge rfl j_X4_has_16 (fun h_7 => ?_) (fun h_8 => ?_)
        · refine y_iconst rfl ?_
          refine y_ireturn rfl rfl rfl ?_
          refine y_ret1 ?_
          refine y_if_neF rfl (by decide) ?_
          refine y_throw rfl rfl rfl ?_
          exact hE0
        · refine y_iconst rfl ?_
          refine y_goto rfl j_X4_has_17 ?_
          refine y_ireturn rfl rfl rfl ?_
          refine y_ret1 ?_
          refine y_if_neT rfl j_X8_sell_32 (by decide) ?_
          refine y_iload_n rfl rfl ?_
          refine y_iconst rfl ?_
          refine y_bip rfl (by decide) ?_
          refine y_static rfl rfl rfl rfl rfl ?_
          refine y_in (M := xm_X8_isIn) (ls := [some _, some _, some _]) rfl rfl rfl ?_
          refine y_iload_n rfl rfl ?_
          refine y_iload_n rfl rfl ?_
          refine y_icmp_lt rfl j_X8_isIn_14 (fun h_9 => ?_) (fun h_10 => ?_)
          · rw [yz_0] at h_9
            refine y_iconst rfl ?_
            refine y_ireturn rfl rfl rfl ?_
            refine y_ret1 ?_
            refine y_if_eqT rfl j_X8_sell_53 (by decide) ?_
            refine y_throw rfl rfl rfl ?_
            exact hE1
          · rw [yz_0] at h_10
            refine y_iload_n rfl rfl ?_
            refine y_iload_n rfl rfl ?_
            refine y_icmp_gt rfl j_X8_isIn_14 (fun h_11 => ?_) (fun h_12 => ?_)
            · rw [yz_99] at h_11
              refine y_iconst rfl ?_
              refine y_ireturn rfl rfl rfl ?_
              refine y_ret1 ?_
              refine y_if_eqT rfl j_X8_sell_53 (by decide) ?_
              refine y_throw rfl rfl rfl ?_
              exact hE1
            · rw [yz_99] at h_12
              refine y_iconst rfl ?_
              refine y_goto rfl j_X8_isIn_15 ?_
              refine y_ireturn rfl rfl rfl ?_
              refine y_ret1 ?_
              refine y_if_eqF rfl (by decide) ?_
              refine y_iload rfl rfl ?_
              refine y_iconst rfl ?_
              refine y_bip rfl (by decide) ?_
              refine y_static rfl rfl rfl rfl rfl ?_
              refine y_in (M := xm_X8_isIn) (ls := [some _, some _, some _]) rfl rfl rfl ?_
              refine y_iload_n rfl rfl ?_
              refine y_iload_n rfl rfl ?_
              refine y_icmp_lt rfl j_X8_isIn_14 (fun h_13 => ?_) (fun h_14 => ?_)
              · rw [yz_1] at h_13
                refine y_iconst rfl ?_
                refine y_ireturn rfl rfl rfl ?_
                refine y_ret1 ?_
                refine y_if_neF rfl (by decide) ?_
                refine y_throw rfl rfl rfl ?_
                exact hE1
              · rw [yz_1] at h_14
                refine y_iload_n rfl rfl ?_
                refine y_iload_n rfl rfl ?_
                refine y_icmp_gt rfl j_X8_isIn_14 (fun h_15 => ?_) (fun h_16 => ?_)
                · rw [yz_12] at h_15
                  refine y_iconst rfl ?_
                  refine y_ireturn rfl rfl rfl ?_
                  refine y_ret1 ?_
                  refine y_if_neF rfl (by decide) ?_
                  refine y_throw rfl rfl rfl ?_
                  exact hE1
                · rw [yz_12] at h_16
                  refine y_iconst rfl ?_
                  refine y_goto rfl j_X8_isIn_15 ?_
                  refine y_ireturn rfl rfl rfl ?_
                  refine y_ret1 ?_
                  refine y_if_neT rfl j_X8_sell_63 (by decide) ?_
                  refine y_aload_n rfl rfl ?_
                  refine y_getR rfl (ySh.t hS rfl) (ySh.n hS rfl) rfl rfl (ySh.r hS rfl) ?_
                  refine y_getI rfl (ySh.t hS rfl) (ySh.n hS rfl) rfl rfl ?_
                  refine y_bip rfl (by decide) ?_
                  refine y_icmp_ge rfl j_X8_sell_86 (fun h_17 => ?_) (fun h_18 => ?_)
                  · rw [yz_12] at h_17
                    refine y_throw rfl rfl rfl ?_
                    exact hE2
                  · rw [yz_12] at h_18
                    refine y_aload_n rfl rfl ?_
                    refine y_getR rfl (ySh.t hS rfl) (ySh.n hS rfl) rfl rfl (ySh.r hS rfl) ?_
                    refine y_iload_n rfl rfl ?_
                    refine y_virt rfl rfl rfl rfl rfl (ySh.t hS rfl) (ySh.n hS rfl) ?_
                    refine y_in (M := xm_X6_isLeased) (ls := [some _, some _]) rfl rfl rfl ?_
                    refine y_aload_n rfl rfl ?_
                    refine y_getR rfl (ySh.t hS rfl) (ySh.n hS rfl) rfl rfl (ySh.r hS rfl) ?_
                    refine y_iload_n rfl rfl ?_
                    refine y_iaload rfl (ySh.t hS rfl) (ySh.n hS rfl) (by omega) (by omega) ?_
                    refine y_iconst rfl ?_
                    refine y_icmp_eq rfl j_X6_isLeased_14 (fun h_19 => ?_) (fun h_20 => ?_)
                    · rw [yz_m1] at h_19
                      refine y_iconst rfl ?_
                      refine y_ireturn rfl rfl rfl ?_
                      refine y_ret1 ?_
                      refine y_if_eqT rfl j_X8_sell_96 (by decide) ?_
                      refine y_aload_n rfl rfl ?_
                      refine y_iload_n rfl rfl ?_
                      refine y_iload_n rfl rfl ?_
                      refine y_virt rfl rfl rfl rfl rfl (ySh.t hS rfl) (ySh.n hS rfl) ?_
                      refine sp_missingPillars_X8 hS hC (by omega) (by omega) (fun v_ => ?_)
                      refine y_ret1 ?_
                      refine y_istore (ls' := [some _, some _, some _, some _, some _, some _, _]) rfl rfl rfl ?_
                      refine y_aload_n rfl rfl ?_
                      refine y_getR rfl (ySh.t hS rfl) (ySh.n hS rfl) rfl rfl (ySh.r hS rfl) ?_
                      refine y_iload_n rfl rfl ?_
                      refine y_iload_n rfl rfl ?_
                      refine y_aload_n rfl rfl ?_
                      refine y_getR rfl (ySh.t hS rfl) (ySh.n hS rfl) rfl rfl (ySh.r hS rfl) ?_
                      refine y_getR rfl (ySh.t hS rfl) (ySh.n hS rfl) rfl rfl (ySh.r hS rfl) ?_
                      refine y_iload_n rfl rfl ?_
                      refine y_iaload rfl (ySh.t hS rfl) (ySh.n hS rfl) (by omega) (by omega) ?_
                      refine y_iload_n rfl rfl ?_
                      refine y_iload rfl rfl ?_
                      refine y_iload rfl rfl ?_
                      refine y_aload_n rfl rfl ?_
                      refine y_getI rfl (ySh.t hS rfl) (ySh.n hS rfl) rfl rfl ?_
                      refine y_virt rfl rfl rfl rfl rfl (ySh.t hS rfl) (ySh.n hS rfl) ?_
                      refine y_in (M := xm_X5_add) (ls := [some _, some _, some _, some _, some _, some _, some _, some _]) rfl rfl rfl ?_
                      refine y_aload_n rfl rfl ?_
                      refine y_getR rfl (ySh.t hS rfl) (ySh.n hS rfl) rfl rfl (ySh.r hS rfl) ?_
                      refine y_aload_n rfl rfl ?_
                      refine y_getI rfl (ySh.t hS rfl) (ySh.n hS rfl) rfl rfl ?_
                      refine y_iload_n rfl rfl ?_
                      refine y_iastore rfl (ySh.t hS rfl) (ySh.n hS rfl) (Nat.le_of_ble_eq_true rfl) (by omega) (by omega) ?_
                      refine y_aload_n rfl rfl ?_
                      refine y_getR rfl (ySh.t hS rfl) (ySh.n hS rfl) rfl rfl (ySh.r hS rfl) ?_
                      refine y_aload_n rfl rfl ?_
                      refine y_getIv (v := I 48 0) rfl (ySh.t hS rfl) (ySh.n hS rfl) rfl rfl rfl ?_
                      refine y_iload_n rfl rfl ?_
                      refine y_iastore rfl (ySh.t hS rfl) (ySh.n hS rfl) (Nat.le_of_ble_eq_true rfl) (by omega) (by omega) ?_
                      refine y_aload_n rfl rfl ?_
                      refine y_getR rfl (ySh.t hS rfl) (ySh.n hS rfl) rfl rfl (ySh.r hS rfl) ?_
                      refine y_aload_n rfl rfl ?_
                      refine y_getIv (v := I 48 0) rfl (ySh.t hS rfl) (ySh.n hS rfl) rfl rfl rfl ?_
                      refine y_iload rfl rfl ?_
                      refine y_iastore rfl (ySh.t hS rfl) (ySh.n hS rfl) (Nat.le_of_ble_eq_true rfl) (by omega) (by omega) ?_
                      refine y_aload_n rfl rfl ?_
                      refine y_getR rfl (ySh.t hS rfl) (ySh.n hS rfl) rfl rfl (ySh.r hS rfl) ?_
                      refine y_aload_n rfl rfl ?_
                      refine y_getIv (v := I 48 0) rfl (ySh.t hS rfl) (ySh.n hS rfl) rfl rfl rfl ?_
                      refine y_iload_n rfl rfl ?_
                      refine y_iload_n rfl rfl ?_
                      refine y_iload rfl rfl ?_
                      refine y_imul rfl ?_
                      refine y_bip rfl (by decide) ?_
                      refine y_idiv rfl (by decide) ?_
                      refine y_iadd rfl ?_
                      refine y_iastore rfl (ySh.t hS rfl) (ySh.n hS rfl) (Nat.le_of_ble_eq_true rfl) (by omega) (by omega) ?_
                      refine y_aload_n rfl rfl ?_
                      refine y_getR rfl (ySh.t hS rfl) (ySh.n hS rfl) rfl rfl (ySh.r hS rfl) ?_
                      refine y_aload_n rfl rfl ?_
                      refine y_getIv (v := I 48 0) rfl (ySh.t hS rfl) (ySh.n hS rfl) rfl rfl rfl ?_
                      refine y_iload rfl rfl ?_
                      refine y_iastore rfl (ySh.t hS rfl) (ySh.n hS rfl) (Nat.le_of_ble_eq_true rfl) (by omega) (by omega) ?_
                      refine y_aload_n rfl rfl ?_
                      refine y_getR rfl (ySh.t hS rfl) (ySh.n hS rfl) rfl rfl (ySh.r hS rfl) ?_
                      refine y_aload_n rfl rfl ?_
                      refine y_getIv (v := I 48 0) rfl (ySh.t hS rfl) (ySh.n hS rfl) rfl rfl rfl ?_
                      refine y_iload rfl rfl ?_
                      refine y_iastore rfl (ySh.t hS rfl) (ySh.n hS rfl) (Nat.le_of_ble_eq_true rfl) (by omega) (by omega) ?_
                      refine y_aload_n rfl rfl ?_
                      refine y_getR rfl (ySh.t hS rfl) (ySh.n hS rfl) rfl rfl (ySh.r hS rfl) ?_
                      refine y_aload_n rfl rfl ?_
                      refine y_getIv (v := I 48 0) rfl (ySh.t hS rfl) (ySh.n hS rfl) rfl rfl rfl ?_
                      refine y_iload rfl rfl ?_
                      refine y_iastore rfl (ySh.t hS rfl) (ySh.n hS rfl) (Nat.le_of_ble_eq_true rfl) (by omega) (by omega) ?_
                      refine y_aload_n rfl rfl ?_
                      refine y_dup rfl rfl ?_
                      refine y_getIv (v := I 48 0) rfl (ySh.t hS rfl) (ySh.n hS rfl) rfl rfl rfl ?_
                      refine y_dup_x1 rfl rfl rfl ?_
                      refine y_iconst rfl ?_
                      refine y_iadd rfl ?_
                      refine y_putI rfl (ySh.t hS rfl) (ySh.n hS rfl) rfl (Nat.le_of_ble_eq_true rfl) rfl rfl ?_
                      refine y_setC (yCI.inc48 hC (by show (I 48 0).toInt < 12; omega)) (fun hC => ?_)
                      refine y_ireturn rfl rfl rfl ?_
                      refine y_ret1 ?_
                      refine y_istore (ls' := [some _, some _, some _, some _, some _, some _, some _]) rfl rfl rfl ?_
                      refine y_iload rfl rfl ?_
                      refine y_if_ne rfl j_X8_sell_147 (fun h_21 => ?_) (fun h_22 => ?_)
                      · refine y_iload rfl rfl ?_
                        refine y_ireturn rfl rfl rfl ?_
                        exact hQ _ _ hC (by repeat (first | exact hF | refine yFt.upd ?_ (by decide)))
                      · refine y_aload_n rfl rfl ?_
                        refine y_getR rfl (ySh.t hS rfl) (ySh.n hS rfl) rfl rfl (ySh.r hS rfl) ?_
                        refine y_iload_n rfl rfl ?_
                        refine y_iload_n rfl rfl ?_
                        refine y_virt rfl rfl rfl rfl rfl (ySh.t hS rfl) (ySh.n hS rfl) ?_
                        refine y_in (M := xm_X6_handOver) (ls := [some _, some _, some _]) rfl rfl rfl ?_
                        refine y_aload_n rfl rfl ?_
                        refine y_getR rfl (ySh.t hS rfl) (ySh.n hS rfl) rfl rfl (ySh.r hS rfl) ?_
                        refine y_iload_n rfl rfl ?_
                        refine y_iload_n rfl rfl ?_
                        refine y_iastore rfl (ySh.t hS rfl) (ySh.n hS rfl) (Nat.le_of_ble_eq_true rfl) (by omega) (by omega) ?_
                        refine y_aload_n rfl rfl ?_
                        refine y_getR rfl (ySh.t hS rfl) (ySh.n hS rfl) rfl rfl (ySh.r hS rfl) ?_
                        refine y_iload_n rfl rfl ?_
                        refine y_iconst rfl ?_
                        refine y_zastore rfl (ySh.t hS rfl) (ySh.n hS rfl) (Nat.le_of_ble_eq_true rfl) (by omega) (by omega) rfl ?_
                        refine y_return rfl ?_
                        refine y_ret0 ?_
                        refine y_iload rfl rfl ?_
                        refine y_ireturn rfl rfl rfl ?_
                        exact hQ _ _ hC (by repeat (first | exact hF | refine yFt.upd ?_ (by decide)))
                    · rw [yz_m1] at h_20
                      refine y_iconst rfl ?_
                      refine y_goto rfl j_X6_isLeased_15 ?_
                      refine y_ireturn rfl rfl rfl ?_
                      refine y_ret1 ?_
                      refine y_if_eqF rfl (by decide) ?_
                      refine y_throw rfl rfl rfl ?_
                      exact hE2
theorem m_pay (hS : ySh n tg R) (hC : yCI I) {x1 : Int32} (hE0 : Q (.inr "java/lang/IndexOutOfBoundsException") (n, tg, I, R) (c + 1) (s + 6)) (hE2 : Q (.inr "java/lang/IllegalStateException") (n, tg, I, R) (c + 1) (s + 6)) (hQ : ∀ v I1, yCI I1 → yFt I I1 → Q (.inl (some (.int v))) (n, tg, I1, R) c s) : yC 128 [.ref 34, .int x1] (n, tg, I, R) c s Q := by
  have hF : yFt I I := yFt.rf
  refine y_in (M := xm_X8_pay) (ls := [some _, some _, _, _, _, _, _]) rfl rfl rfl ?_
  refine y_aload_n rfl rfl ?_
  refine y_getR rfl (ySh.t hS rfl) (ySh.n hS rfl) rfl rfl (ySh.r hS rfl) ?_
  refine y_iload_n rfl rfl ?_
  refine y_virt rfl rfl rfl rfl rfl (ySh.t hS rfl) (ySh.n hS rfl) ?_
  refine y_in (M := xm_X5_has) (ls := [some _, some _]) rfl rfl rfl ?_
  refine y_iload_n rfl rfl ?_
  refine y_if_lt rfl j_X5_has_16 (fun h_1 => ?_) (fun h_2 => ?_)
  · refine y_iconst rfl ?_
    refine y_ireturn rfl rfl rfl ?_
    refine y_ret1 ?_
    refine y_if_neF rfl (by decide) ?_
    refine y_throw rfl rfl rfl ?_
    exact hE0
  · refine y_iload_n rfl rfl ?_
    refine y_aload_n rfl rfl ?_
    refine y_getI rfl (ySh.t hS rfl) (ySh.n hS rfl) rfl rfl ?_
    refine y_icmp_ge rfl j_X5_has_16 (fun h_3 => ?_) (fun h_4 => ?_)
    · refine y_iconst rfl ?_
      refine y_ireturn rfl rfl rfl ?_
      refine y_ret1 ?_
      refine y_if_neF rfl (by decide) ?_
      refine y_throw rfl rfl rfl ?_
      exact hE0
    · refine y_iconst rfl ?_
      refine y_goto rfl j_X5_has_17 ?_
      refine y_ireturn rfl rfl rfl ?_
      refine y_ret1 ?_
      refine y_if_neT rfl j_X8_pay_21 (by decide) ?_
      refine y_aload_n rfl rfl ?_
      refine y_getR rfl (ySh.t hS rfl) (ySh.n hS rfl) rfl rfl (ySh.r hS rfl) ?_
      refine y_iload_n rfl rfl ?_
      refine y_virt rfl rfl rfl rfl rfl (ySh.t hS rfl) (ySh.n hS rfl) ?_
      refine sp_isOpen_X5 hS hC (by omega) (by omega) ?_ ?_
      · refine y_ret1 ?_
        refine y_if_neT rfl j_X8_pay_42 (by decide) ?_
        refine y_aload_n rfl rfl ?_
        refine y_getR rfl (ySh.t hS rfl) (ySh.n hS rfl) rfl rfl (ySh.r hS rfl) ?_
        refine y_iload_n rfl rfl ?_
        refine y_virt rfl rfl rfl rfl rfl (ySh.t hS rfl) (ySh.n hS rfl) ?_
        refine sp_nextPart_X5 hS hC (by omega) (by omega) (fun v_ => ?_)
        refine y_ret1 ?_
        refine y_istore_n (ls' := [some _, some _, some _, _, _, _, _]) rfl rfl rfl ?_
        refine y_aload_n rfl rfl ?_
        refine y_getI rfl (ySh.t hS rfl) (ySh.n hS rfl) rfl rfl ?_
        refine y_aload_n rfl rfl ?_
        refine y_getR rfl (ySh.t hS rfl) (ySh.n hS rfl) rfl rfl (ySh.r hS rfl) ?_
        refine y_iload_n rfl rfl ?_
        refine y_virt rfl rfl rfl rfl rfl (ySh.t hS rfl) (ySh.n hS rfl) ?_
        refine sp_nextDay_X5 hS hC (by omega) (by omega) (fun v_ => ?_)
        refine y_ret1 ?_
        refine y_isub rfl ?_
        refine y_istore_n (ls' := [some _, some _, some _, some _, _, _, _]) rfl rfl rfl ?_
        refine y_iload_n rfl rfl ?_
        refine y_bip rfl (by decide) ?_
        refine y_icmp_le rfl j_X8_pay_95 (fun h_5 => ?_) (fun h_6 => ?_)
        · rw [yz_10] at h_5
          refine y_iconst rfl ?_
          refine y_istore (ls' := [some _, some _, some _, some _, some _, _, _]) rfl rfl rfl ?_
          refine y_iload_n rfl rfl ?_
          refine y_bip rfl (by decide) ?_
          refine y_icmp_gt rfl j_X8_pay_127 (fun h_7 => ?_) (fun h_8 => ?_)
          · rw [yz_m10] at h_7
            refine y_iconst rfl ?_
            refine y_istore (ls' := [some _, some _, some _, some _, some _, some _, _]) rfl rfl rfl ?_
            refine y_aload_n rfl rfl ?_
            refine y_getR rfl (ySh.t hS rfl) (ySh.n hS rfl) rfl rfl (ySh.r hS rfl) ?_
            refine y_getR rfl (ySh.t hS rfl) (ySh.n hS rfl) rfl rfl (ySh.r hS rfl) ?_
            refine y_iload_n rfl rfl ?_
            refine y_iaload rfl (ySh.t hS rfl) (ySh.n hS rfl) (by omega) (by omega) ?_
            refine y_istore (ls' := [some _, some _, some _, some _, some _, some _, some _]) rfl rfl rfl ?_
            refine y_aload_n rfl rfl ?_
            refine y_getR rfl (ySh.t hS rfl) (ySh.n hS rfl) rfl rfl (ySh.r hS rfl) ?_
            refine y_iload rfl rfl ?_
            refine y_bip rfl (by decide) ?_
            refine y_iload_n rfl rfl ?_
            refine y_iload rfl rfl ?_
            refine y_isub rfl ?_
            refine y_virt rfl rfl rfl rfl rfl (ySh.t hS rfl) (ySh.n hS rfl) ?_
            refine y_in (M := xm_X4_move) (ls := [some _, some _, some _, some _]) rfl rfl rfl ?_
            refine y_aload_n rfl rfl ?_
            refine y_iload_n rfl rfl ?_
            refine y_iload_n rfl rfl ?_
            refine y_ineg rfl ?_
            refine y_virt rfl rfl rfl rfl rfl (ySh.t hS rfl) (ySh.n hS rfl) ?_
            refine sp_add_X4 hS hC (fun I19 hC hF1 => ?_)
            have hF : yFt I I19 := yFt.trans (by repeat (first | exact hF | refine yFt.upd ?_ (by decide))) hF1.t
            have hd : (I19 34 8).toInt = (I 34 8).toInt := congrArg Int32.toInt (hF1 34 8 (Or.inl (by decide)))
            refine y_ret0 ?_
            refine y_aload_n rfl rfl ?_
            refine y_iload_n rfl rfl ?_
            refine y_iload_n rfl rfl ?_
            refine y_virt rfl rfl rfl rfl rfl (ySh.t hS rfl) (ySh.n hS rfl) ?_
            refine sp_add_X4 hS hC (fun I20 hC hF1 => ?_)
            have hF : yFt I I20 := yFt.trans (by repeat (first | exact hF | refine yFt.upd ?_ (by decide))) hF1.t
            have hd : (I20 34 8).toInt = (I19 34 8).toInt := congrArg Int32.toInt (hF1 34 8 (Or.inl (by decide)))
            refine y_ret0 ?_
            refine y_return rfl ?_
            refine y_ret0 ?_
            refine y_aload_n rfl rfl ?_
            refine y_getR rfl (ySh.t hS rfl) (ySh.n hS rfl) rfl rfl (ySh.r hS rfl) ?_
            refine y_iload rfl rfl ?_
            refine y_iload rfl rfl ?_
            refine y_virt rfl rfl rfl rfl rfl (ySh.t hS rfl) (ySh.n hS rfl) ?_
            refine y_in (M := xm_X4_giveAway) (ls := [some _, some _, some _]) rfl rfl rfl ?_
            refine y_aload_n rfl rfl ?_
            refine y_iload_n rfl rfl ?_
            refine y_iload_n rfl rfl ?_
            refine y_ineg rfl ?_
            refine y_virt rfl rfl rfl rfl rfl (ySh.t hS rfl) (ySh.n hS rfl) ?_
            refine sp_add_X4 hS hC (fun I21 hC hF1 => ?_)
            have hF : yFt I I21 := yFt.trans (by repeat (first | exact hF | refine yFt.upd ?_ (by decide))) hF1.t
            have hd : (I21 34 8).toInt = (I20 34 8).toInt := congrArg Int32.toInt (hF1 34 8 (Or.inl (by decide)))
            refine y_ret0 ?_
            refine y_aload_n rfl rfl ?_
            refine y_dup rfl rfl ?_
            refine y_getI rfl (ySh.t hS rfl) (ySh.n hS rfl) rfl rfl ?_
            refine y_iload_n rfl rfl ?_
            refine y_iadd rfl ?_
            refine y_putI rfl (ySh.t hS rfl) (ySh.n hS rfl) rfl (Nat.le_of_ble_eq_true rfl) rfl rfl ?_
            refine y_return rfl ?_
            refine y_ret0 ?_
            refine y_aload_n rfl rfl ?_
            refine y_getR rfl (ySh.t hS rfl) (ySh.n hS rfl) rfl rfl (ySh.r hS rfl) ?_
            refine y_iload_n rfl rfl ?_
            refine y_iload rfl rfl ?_
            refine y_iload rfl rfl ?_
            refine y_virt rfl rfl rfl rfl rfl (ySh.t hS rfl) (ySh.n hS rfl) ?_
            refine y_in (M := xm_X5_settlePart) (ls := [some _, some _, some _, some _]) rfl rfl rfl ?_
            refine y_aload_n rfl rfl ?_
            refine y_getR rfl (ySh.t hS rfl) (ySh.n hS rfl) rfl rfl (ySh.r hS rfl) ?_
            refine y_iload_n rfl rfl ?_
            refine y_dup2 rfl rfl rfl ?_
            refine y_iaload rfl (ySh.t hS rfl) (ySh.n hS rfl) (by omega) (by omega) ?_
            refine y_iconst rfl ?_
            refine y_iadd rfl ?_
            refine y_iastore rfl (ySh.t hS rfl) (ySh.n hS rfl) (Nat.le_of_ble_eq_true rfl) (by omega) (by omega) ?_
            refine y_aload_n rfl rfl ?_
            refine y_getR rfl (ySh.t hS rfl) (ySh.n hS rfl) rfl rfl (ySh.r hS rfl) ?_
            refine y_iload_n rfl rfl ?_
            refine y_dup2 rfl rfl rfl ?_
            refine y_iaload rfl (ySh.t hS rfl) (ySh.n hS rfl) (by omega) (by omega) ?_
            refine y_iload_n rfl rfl ?_
            refine y_iadd rfl ?_
            refine y_iastore rfl (ySh.t hS rfl) (ySh.n hS rfl) (Nat.le_of_ble_eq_true rfl) (by omega) (by omega) ?_
            refine y_aload_n rfl rfl ?_
            refine y_getR rfl (ySh.t hS rfl) (ySh.n hS rfl) rfl rfl (ySh.r hS rfl) ?_
            refine y_iload_n rfl rfl ?_
            refine y_dup2 rfl rfl rfl ?_
            refine y_iaload rfl (ySh.t hS rfl) (ySh.n hS rfl) (by omega) (by omega) ?_
            refine y_iload_n rfl rfl ?_
            refine y_iadd rfl ?_
            refine y_iastore rfl (ySh.t hS rfl) (ySh.n hS rfl) (Nat.le_of_ble_eq_true rfl) (by omega) (by omega) ?_
            refine y_return rfl ?_
            refine y_ret0 ?_
            refine y_iload_n rfl rfl ?_
            refine y_iload rfl rfl ?_
            refine y_isub rfl ?_
            refine y_ireturn rfl rfl rfl ?_
            exact hQ _ _ hC (by repeat (first | exact hF | refine yFt.upd ?_ (by decide)))
          · rw [yz_m10] at h_8
            refine y_aload_n rfl rfl ?_
            refine y_getR rfl (ySh.t hS rfl) (ySh.n hS rfl) rfl rfl (ySh.r hS rfl) ?_
            refine y_iconst rfl ?_
            refine y_virt rfl rfl rfl rfl rfl (ySh.t hS rfl) (ySh.n hS rfl) ?_
            refine sp_isAllowedNow hS (by decide) (by decide) (fun h_12 => ?_) (fun h_13 => ?_)
            · refine y_ret1 ?_
              refine y_if_eqF rfl (by decide) ?_
              refine y_aload_n rfl rfl ?_
              refine y_getR rfl (ySh.t hS rfl) (ySh.n hS rfl) rfl rfl (ySh.r hS rfl) ?_
              refine y_iload_n rfl rfl ?_
              refine y_iload_n rfl rfl ?_
              refine y_virt rfl rfl rfl rfl rfl (ySh.t hS rfl) (ySh.n hS rfl) ?_
              refine sp_rebate_X5 hS hC (by omega) (by omega) (fun v_ => ?_)
              refine y_ret1 ?_
              refine y_goto rfl j_X8_pay_128 ?_
              refine y_istore (ls' := [some _, some _, some _, some _, some _, some _, _]) rfl rfl rfl ?_
              refine y_aload_n rfl rfl ?_
              refine y_getR rfl (ySh.t hS rfl) (ySh.n hS rfl) rfl rfl (ySh.r hS rfl) ?_
              refine y_getR rfl (ySh.t hS rfl) (ySh.n hS rfl) rfl rfl (ySh.r hS rfl) ?_
              refine y_iload_n rfl rfl ?_
              refine y_iaload rfl (ySh.t hS rfl) (ySh.n hS rfl) (by omega) (by omega) ?_
              refine y_istore (ls' := [some _, some _, some _, some _, some _, some _, some _]) rfl rfl rfl ?_
              refine y_aload_n rfl rfl ?_
              refine y_getR rfl (ySh.t hS rfl) (ySh.n hS rfl) rfl rfl (ySh.r hS rfl) ?_
              refine y_iload rfl rfl ?_
              refine y_bip rfl (by decide) ?_
              refine y_iload_n rfl rfl ?_
              refine y_iload rfl rfl ?_
              refine y_isub rfl ?_
              refine y_virt rfl rfl rfl rfl rfl (ySh.t hS rfl) (ySh.n hS rfl) ?_
              refine y_in (M := xm_X4_move) (ls := [some _, some _, some _, some _]) rfl rfl rfl ?_
              refine y_aload_n rfl rfl ?_
              refine y_iload_n rfl rfl ?_
              refine y_iload_n rfl rfl ?_
              refine y_ineg rfl ?_
              refine y_virt rfl rfl rfl rfl rfl (ySh.t hS rfl) (ySh.n hS rfl) ?_
              refine sp_add_X4 hS hC (fun I24 hC hF1 => ?_)
              have hF : yFt I I24 := yFt.trans (by repeat (first | exact hF | refine yFt.upd ?_ (by decide))) hF1.t
              have hd : (I24 34 8).toInt = (I 34 8).toInt := congrArg Int32.toInt (hF1 34 8 (Or.inl (by decide)))
              refine y_ret0 ?_
              refine y_aload_n rfl rfl ?_
              refine y_iload_n rfl rfl ?_
              refine y_iload_n rfl rfl ?_
              refine y_virt rfl rfl rfl rfl rfl (ySh.t hS rfl) (ySh.n hS rfl) ?_
              refine sp_add_X4 hS hC (fun I25 hC hF1 => ?_)
              have hF : yFt I I25 := yFt.trans (by repeat (first | exact hF | refine yFt.upd ?_ (by decide))) hF1.t
              have hd : (I25 34 8).toInt = (I24 34 8).toInt := congrArg Int32.toInt (hF1 34 8 (Or.inl (by decide)))
              refine y_ret0 ?_
              refine y_return rfl ?_
              refine y_ret0 ?_
              refine y_aload_n rfl rfl ?_
              refine y_getR rfl (ySh.t hS rfl) (ySh.n hS rfl) rfl rfl (ySh.r hS rfl) ?_
              refine y_iload rfl rfl ?_
              refine y_iload rfl rfl ?_
              refine y_virt rfl rfl rfl rfl rfl (ySh.t hS rfl) (ySh.n hS rfl) ?_
              refine y_in (M := xm_X4_giveAway) (ls := [some _, some _, some _]) rfl rfl rfl ?_
              refine y_aload_n rfl rfl ?_
              refine y_iload_n rfl rfl ?_
              refine y_iload_n rfl rfl ?_
              refine y_ineg rfl ?_
              refine y_virt rfl rfl rfl rfl rfl (ySh.t hS rfl) (ySh.n hS rfl) ?_
              refine sp_add_X4 hS hC (fun I26 hC hF1 => ?_)
              have hF : yFt I I26 := yFt.trans (by repeat (first | exact hF | refine yFt.upd ?_ (by decide))) hF1.t
              have hd : (I26 34 8).toInt = (I25 34 8).toInt := congrArg Int32.toInt (hF1 34 8 (Or.inl (by decide)))
              refine y_ret0 ?_
              refine y_aload_n rfl rfl ?_
              refine y_dup rfl rfl ?_
              refine y_getI rfl (ySh.t hS rfl) (ySh.n hS rfl) rfl rfl ?_
              refine y_iload_n rfl rfl ?_
              refine y_iadd rfl ?_
              refine y_putI rfl (ySh.t hS rfl) (ySh.n hS rfl) rfl (Nat.le_of_ble_eq_true rfl) rfl rfl ?_
              refine y_return rfl ?_
              refine y_ret0 ?_
              refine y_aload_n rfl rfl ?_
              refine y_getR rfl (ySh.t hS rfl) (ySh.n hS rfl) rfl rfl (ySh.r hS rfl) ?_
              refine y_iload_n rfl rfl ?_
              refine y_iload rfl rfl ?_
              refine y_iload rfl rfl ?_
              refine y_virt rfl rfl rfl rfl rfl (ySh.t hS rfl) (ySh.n hS rfl) ?_
              refine y_in (M := xm_X5_settlePart) (ls := [some _, some _, some _, some _]) rfl rfl rfl ?_
              refine y_aload_n rfl rfl ?_
              refine y_getR rfl (ySh.t hS rfl) (ySh.n hS rfl) rfl rfl (ySh.r hS rfl) ?_
              refine y_iload_n rfl rfl ?_
              refine y_dup2 rfl rfl rfl ?_
              refine y_iaload rfl (ySh.t hS rfl) (ySh.n hS rfl) (by omega) (by omega) ?_
              refine y_iconst rfl ?_
              refine y_iadd rfl ?_
              refine y_iastore rfl (ySh.t hS rfl) (ySh.n hS rfl) (Nat.le_of_ble_eq_true rfl) (by omega) (by omega) ?_
              refine y_aload_n rfl rfl ?_
              refine y_getR rfl (ySh.t hS rfl) (ySh.n hS rfl) rfl rfl (ySh.r hS rfl) ?_
              refine y_iload_n rfl rfl ?_
              refine y_dup2 rfl rfl rfl ?_
              refine y_iaload rfl (ySh.t hS rfl) (ySh.n hS rfl) (by omega) (by omega) ?_
              refine y_iload_n rfl rfl ?_
              refine y_iadd rfl ?_
              refine y_iastore rfl (ySh.t hS rfl) (ySh.n hS rfl) (Nat.le_of_ble_eq_true rfl) (by omega) (by omega) ?_
              refine y_aload_n rfl rfl ?_
              refine y_getR rfl (ySh.t hS rfl) (ySh.n hS rfl) rfl rfl (ySh.r hS rfl) ?_
              refine y_iload_n rfl rfl ?_
              refine y_dup2 rfl rfl rfl ?_
              refine y_iaload rfl (ySh.t hS rfl) (ySh.n hS rfl) (by omega) (by omega) ?_
              refine y_iload_n rfl rfl ?_
              refine y_iadd rfl ?_
              refine y_iastore rfl (ySh.t hS rfl) (ySh.n hS rfl) (Nat.le_of_ble_eq_true rfl) (by omega) (by omega) ?_
              refine y_return rfl ?_
              refine y_ret0 ?_
              refine y_iload_n rfl rfl ?_
              refine y_iload rfl rfl ?_
              refine y_isub rfl ?_
              refine y_ireturn rfl rfl rfl ?_
              exact hQ _ _ hC (by repeat (first | exact hF | refine yFt.upd ?_ (by decide)))
            · refine y_ret1 ?_
              refine y_if_eqT rfl j_X8_pay_127 (by decide) ?_
              refine y_iconst rfl ?_
              refine y_istore (ls' := [some _, some _, some _, some _, some _, some _, _]) rfl rfl rfl ?_
              refine y_aload_n rfl rfl ?_
              refine y_getR rfl (ySh.t hS rfl) (ySh.n hS rfl) rfl rfl (ySh.r hS rfl) ?_
              refine y_getR rfl (ySh.t hS rfl) (ySh.n hS rfl) rfl rfl (ySh.r hS rfl) ?_
              refine y_iload_n rfl rfl ?_
              refine y_iaload rfl (ySh.t hS rfl) (ySh.n hS rfl) (by omega) (by omega) ?_
              refine y_istore (ls' := [some _, some _, some _, some _, some _, some _, some _]) rfl rfl rfl ?_
              refine y_aload_n rfl rfl ?_
              refine y_getR rfl (ySh.t hS rfl) (ySh.n hS rfl) rfl rfl (ySh.r hS rfl) ?_
              refine y_iload rfl rfl ?_
              refine y_bip rfl (by decide) ?_
              refine y_iload_n rfl rfl ?_
              refine y_iload rfl rfl ?_
              refine y_isub rfl ?_
              refine y_virt rfl rfl rfl rfl rfl (ySh.t hS rfl) (ySh.n hS rfl) ?_
              refine y_in (M := xm_X4_move) (ls := [some _, some _, some _, some _]) rfl rfl rfl ?_
              refine y_aload_n rfl rfl ?_
              refine y_iload_n rfl rfl ?_
              refine y_iload_n rfl rfl ?_
              refine y_ineg rfl ?_
              refine y_virt rfl rfl rfl rfl rfl (ySh.t hS rfl) (ySh.n hS rfl) ?_
              refine sp_add_X4 hS hC (fun I27 hC hF1 => ?_)
              have hF : yFt I I27 := yFt.trans (by repeat (first | exact hF | refine yFt.upd ?_ (by decide))) hF1.t
              have hd : (I27 34 8).toInt = (I 34 8).toInt := congrArg Int32.toInt (hF1 34 8 (Or.inl (by decide)))
              refine y_ret0 ?_
              refine y_aload_n rfl rfl ?_
              refine y_iload_n rfl rfl ?_
              refine y_iload_n rfl rfl ?_
              refine y_virt rfl rfl rfl rfl rfl (ySh.t hS rfl) (ySh.n hS rfl) ?_
              refine sp_add_X4 hS hC (fun I28 hC hF1 => ?_)
              have hF : yFt I I28 := yFt.trans (by repeat (first | exact hF | refine yFt.upd ?_ (by decide))) hF1.t
              have hd : (I28 34 8).toInt = (I27 34 8).toInt := congrArg Int32.toInt (hF1 34 8 (Or.inl (by decide)))
              refine y_ret0 ?_
              refine y_return rfl ?_
              refine y_ret0 ?_
              refine y_aload_n rfl rfl ?_
              refine y_getR rfl (ySh.t hS rfl) (ySh.n hS rfl) rfl rfl (ySh.r hS rfl) ?_
              refine y_iload rfl rfl ?_
              refine y_iload rfl rfl ?_
              refine y_virt rfl rfl rfl rfl rfl (ySh.t hS rfl) (ySh.n hS rfl) ?_
              refine y_in (M := xm_X4_giveAway) (ls := [some _, some _, some _]) rfl rfl rfl ?_
              refine y_aload_n rfl rfl ?_
              refine y_iload_n rfl rfl ?_
              refine y_iload_n rfl rfl ?_
              refine y_ineg rfl ?_
              refine y_virt rfl rfl rfl rfl rfl (ySh.t hS rfl) (ySh.n hS rfl) ?_
              refine sp_add_X4 hS hC (fun I29 hC hF1 => ?_)
              have hF : yFt I I29 := yFt.trans (by repeat (first | exact hF | refine yFt.upd ?_ (by decide))) hF1.t
              have hd : (I29 34 8).toInt = (I28 34 8).toInt := congrArg Int32.toInt (hF1 34 8 (Or.inl (by decide)))
              refine y_ret0 ?_
              refine y_aload_n rfl rfl ?_
              refine y_dup rfl rfl ?_
              refine y_getI rfl (ySh.t hS rfl) (ySh.n hS rfl) rfl rfl ?_
              refine y_iload_n rfl rfl ?_
              refine y_iadd rfl ?_
              refine y_putI rfl (ySh.t hS rfl) (ySh.n hS rfl) rfl (Nat.le_of_ble_eq_true rfl) rfl rfl ?_
              refine y_return rfl ?_
              refine y_ret0 ?_
              refine y_aload_n rfl rfl ?_
              refine y_getR rfl (ySh.t hS rfl) (ySh.n hS rfl) rfl rfl (ySh.r hS rfl) ?_
              refine y_iload_n rfl rfl ?_
              refine y_iload rfl rfl ?_
              refine y_iload rfl rfl ?_
              refine y_virt rfl rfl rfl rfl rfl (ySh.t hS rfl) (ySh.n hS rfl) ?_
              refine y_in (M := xm_X5_settlePart) (ls := [some _, some _, some _, some _]) rfl rfl rfl ?_
              refine y_aload_n rfl rfl ?_
              refine y_getR rfl (ySh.t hS rfl) (ySh.n hS rfl) rfl rfl (ySh.r hS rfl) ?_
              refine y_iload_n rfl rfl ?_
              refine y_dup2 rfl rfl rfl ?_
              refine y_iaload rfl (ySh.t hS rfl) (ySh.n hS rfl) (by omega) (by omega) ?_
              refine y_iconst rfl ?_
              refine y_iadd rfl ?_
              refine y_iastore rfl (ySh.t hS rfl) (ySh.n hS rfl) (Nat.le_of_ble_eq_true rfl) (by omega) (by omega) ?_
              refine y_aload_n rfl rfl ?_
              refine y_getR rfl (ySh.t hS rfl) (ySh.n hS rfl) rfl rfl (ySh.r hS rfl) ?_
              refine y_iload_n rfl rfl ?_
              refine y_dup2 rfl rfl rfl ?_
              refine y_iaload rfl (ySh.t hS rfl) (ySh.n hS rfl) (by omega) (by omega) ?_
              refine y_iload_n rfl rfl ?_
              refine y_iadd rfl ?_
              refine y_iastore rfl (ySh.t hS rfl) (ySh.n hS rfl) (Nat.le_of_ble_eq_true rfl) (by omega) (by omega) ?_
              refine y_aload_n rfl rfl ?_
              refine y_getR rfl (ySh.t hS rfl) (ySh.n hS rfl) rfl rfl (ySh.r hS rfl) ?_
              refine y_iload_n rfl rfl ?_
              refine y_dup2 rfl rfl rfl ?_
              refine y_iaload rfl (ySh.t hS rfl) (ySh.n hS rfl) (by omega) (by omega) ?_
              refine y_iload_n rfl rfl ?_
              refine y_iadd rfl ?_
              refine y_iastore rfl (ySh.t hS rfl) (ySh.n hS rfl) (Nat.le_of_ble_eq_true rfl) (by omega) (by omega) ?_
              refine y_return rfl ?_
              refine y_ret0 ?_
              refine y_iload_n rfl rfl ?_
              refine y_iload rfl rfl ?_
              refine y_isub rfl ?_
              refine y_ireturn rfl rfl rfl ?_
              exact hQ _ _ hC (by repeat (first | exact hF | refine yFt.upd ?_ (by decide)))
        · rw [yz_10] at h_6
          refine y_aload_n rfl rfl ?_
          refine y_getR rfl (ySh.t hS rfl) (ySh.n hS rfl) rfl rfl (ySh.r hS rfl) ?_
          refine y_iconst rfl ?_
          refine y_virt rfl rfl rfl rfl rfl (ySh.t hS rfl) (ySh.n hS rfl) ?_
          refine sp_isAllowedNow hS (by decide) (by decide) (fun h_20 => ?_) (fun h_21 => ?_)
          · refine y_ret1 ?_
            refine y_if_eqF rfl (by decide) ?_
            refine y_iload_n rfl rfl ?_
            refine y_iconst rfl ?_
            refine y_imul rfl ?_
            refine y_bip rfl (by decide) ?_
            refine y_idiv rfl (by decide) ?_
            refine y_iconst rfl ?_
            refine y_max rfl rfl ?_
            refine y_goto rfl j_X8_pay_96 ?_
            refine y_istore (ls' := [some _, some _, some _, some _, some _, _, _]) rfl rfl rfl ?_
            refine y_iload_n rfl rfl ?_
            refine y_bip rfl (by decide) ?_
            refine y_icmp_gt rfl j_X8_pay_127 (fun h_22 => ?_) (fun h_23 => ?_)
            · rw [yz_m10] at h_22
              refine y_iconst rfl ?_
              refine y_istore (ls' := [some _, some _, some _, some _, some _, some _, _]) rfl rfl rfl ?_
              refine y_aload_n rfl rfl ?_
              refine y_getR rfl (ySh.t hS rfl) (ySh.n hS rfl) rfl rfl (ySh.r hS rfl) ?_
              refine y_getR rfl (ySh.t hS rfl) (ySh.n hS rfl) rfl rfl (ySh.r hS rfl) ?_
              refine y_iload_n rfl rfl ?_
              refine y_iaload rfl (ySh.t hS rfl) (ySh.n hS rfl) (by omega) (by omega) ?_
              refine y_istore (ls' := [some _, some _, some _, some _, some _, some _, some _]) rfl rfl rfl ?_
              refine y_aload_n rfl rfl ?_
              refine y_getR rfl (ySh.t hS rfl) (ySh.n hS rfl) rfl rfl (ySh.r hS rfl) ?_
              refine y_iload rfl rfl ?_
              refine y_bip rfl (by decide) ?_
              refine y_iload_n rfl rfl ?_
              refine y_iload rfl rfl ?_
              refine y_isub rfl ?_
              refine y_virt rfl rfl rfl rfl rfl (ySh.t hS rfl) (ySh.n hS rfl) ?_
              refine y_in (M := xm_X4_move) (ls := [some _, some _, some _, some _]) rfl rfl rfl ?_
              refine y_aload_n rfl rfl ?_
              refine y_iload_n rfl rfl ?_
              refine y_iload_n rfl rfl ?_
              refine y_ineg rfl ?_
              refine y_virt rfl rfl rfl rfl rfl (ySh.t hS rfl) (ySh.n hS rfl) ?_
              refine sp_add_X4 hS hC (fun I34 hC hF1 => ?_)
              have hF : yFt I I34 := yFt.trans (by repeat (first | exact hF | refine yFt.upd ?_ (by decide))) hF1.t
              have hd : (I34 34 8).toInt = (I 34 8).toInt := congrArg Int32.toInt (hF1 34 8 (Or.inl (by decide)))
              refine y_ret0 ?_
              refine y_aload_n rfl rfl ?_
              refine y_iload_n rfl rfl ?_
              refine y_iload_n rfl rfl ?_
              refine y_virt rfl rfl rfl rfl rfl (ySh.t hS rfl) (ySh.n hS rfl) ?_
              refine sp_add_X4 hS hC (fun I35 hC hF1 => ?_)
              have hF : yFt I I35 := yFt.trans (by repeat (first | exact hF | refine yFt.upd ?_ (by decide))) hF1.t
              have hd : (I35 34 8).toInt = (I34 34 8).toInt := congrArg Int32.toInt (hF1 34 8 (Or.inl (by decide)))
              refine y_ret0 ?_
              refine y_return rfl ?_
              refine y_ret0 ?_
              refine y_aload_n rfl rfl ?_
              refine y_getR rfl (ySh.t hS rfl) (ySh.n hS rfl) rfl rfl (ySh.r hS rfl) ?_
              refine y_iload rfl rfl ?_
              refine y_iload rfl rfl ?_
              refine y_virt rfl rfl rfl rfl rfl (ySh.t hS rfl) (ySh.n hS rfl) ?_
              refine y_in (M := xm_X4_giveAway) (ls := [some _, some _, some _]) rfl rfl rfl ?_
              refine y_aload_n rfl rfl ?_
              refine y_iload_n rfl rfl ?_
              refine y_iload_n rfl rfl ?_
              refine y_ineg rfl ?_
              refine y_virt rfl rfl rfl rfl rfl (ySh.t hS rfl) (ySh.n hS rfl) ?_
              refine sp_add_X4 hS hC (fun I36 hC hF1 => ?_)
              have hF : yFt I I36 := yFt.trans (by repeat (first | exact hF | refine yFt.upd ?_ (by decide))) hF1.t
              have hd : (I36 34 8).toInt = (I35 34 8).toInt := congrArg Int32.toInt (hF1 34 8 (Or.inl (by decide)))
              refine y_ret0 ?_
              refine y_aload_n rfl rfl ?_
              refine y_dup rfl rfl ?_
              refine y_getI rfl (ySh.t hS rfl) (ySh.n hS rfl) rfl rfl ?_
              refine y_iload_n rfl rfl ?_
              refine y_iadd rfl ?_
              refine y_putI rfl (ySh.t hS rfl) (ySh.n hS rfl) rfl (Nat.le_of_ble_eq_true rfl) rfl rfl ?_
              refine y_return rfl ?_
              refine y_ret0 ?_
              refine y_aload_n rfl rfl ?_
              refine y_getR rfl (ySh.t hS rfl) (ySh.n hS rfl) rfl rfl (ySh.r hS rfl) ?_
              refine y_iload_n rfl rfl ?_
              refine y_iload rfl rfl ?_
              refine y_iload rfl rfl ?_
              refine y_virt rfl rfl rfl rfl rfl (ySh.t hS rfl) (ySh.n hS rfl) ?_
              refine y_in (M := xm_X5_settlePart) (ls := [some _, some _, some _, some _]) rfl rfl rfl ?_
              refine y_aload_n rfl rfl ?_
              refine y_getR rfl (ySh.t hS rfl) (ySh.n hS rfl) rfl rfl (ySh.r hS rfl) ?_
              refine y_iload_n rfl rfl ?_
              refine y_dup2 rfl rfl rfl ?_
              refine y_iaload rfl (ySh.t hS rfl) (ySh.n hS rfl) (by omega) (by omega) ?_
              refine y_iconst rfl ?_
              refine y_iadd rfl ?_
              refine y_iastore rfl (ySh.t hS rfl) (ySh.n hS rfl) (Nat.le_of_ble_eq_true rfl) (by omega) (by omega) ?_
              refine y_aload_n rfl rfl ?_
              refine y_getR rfl (ySh.t hS rfl) (ySh.n hS rfl) rfl rfl (ySh.r hS rfl) ?_
              refine y_iload_n rfl rfl ?_
              refine y_dup2 rfl rfl rfl ?_
              refine y_iaload rfl (ySh.t hS rfl) (ySh.n hS rfl) (by omega) (by omega) ?_
              refine y_iload_n rfl rfl ?_
              refine y_iadd rfl ?_
              refine y_iastore rfl (ySh.t hS rfl) (ySh.n hS rfl) (Nat.le_of_ble_eq_true rfl) (by omega) (by omega) ?_
              refine y_aload_n rfl rfl ?_
              refine y_getR rfl (ySh.t hS rfl) (ySh.n hS rfl) rfl rfl (ySh.r hS rfl) ?_
              refine y_iload_n rfl rfl ?_
              refine y_dup2 rfl rfl rfl ?_
              refine y_iaload rfl (ySh.t hS rfl) (ySh.n hS rfl) (by omega) (by omega) ?_
              refine y_iload_n rfl rfl ?_
              refine y_iadd rfl ?_
              refine y_iastore rfl (ySh.t hS rfl) (ySh.n hS rfl) (Nat.le_of_ble_eq_true rfl) (by omega) (by omega) ?_
              refine y_return rfl ?_
              refine y_ret0 ?_
              refine y_iload_n rfl rfl ?_
              refine y_iload rfl rfl ?_
              refine y_isub rfl ?_
              refine y_ireturn rfl rfl rfl ?_
              exact hQ _ _ hC (by repeat (first | exact hF | refine yFt.upd ?_ (by decide)))
            · rw [yz_m10] at h_23
              refine y_aload_n rfl rfl ?_
              refine y_getR rfl (ySh.t hS rfl) (ySh.n hS rfl) rfl rfl (ySh.r hS rfl) ?_
              refine y_iconst rfl ?_
              refine y_virt rfl rfl rfl rfl rfl (ySh.t hS rfl) (ySh.n hS rfl) ?_
              refine sp_isAllowedNow hS (by decide) (by decide) (fun h_27 => ?_) (fun h_28 => ?_)
              · refine y_ret1 ?_
                refine y_if_eqF rfl (by decide) ?_
                refine y_aload_n rfl rfl ?_
                refine y_getR rfl (ySh.t hS rfl) (ySh.n hS rfl) rfl rfl (ySh.r hS rfl) ?_
                refine y_iload_n rfl rfl ?_
                refine y_iload_n rfl rfl ?_
                refine y_virt rfl rfl rfl rfl rfl (ySh.t hS rfl) (ySh.n hS rfl) ?_
                refine sp_rebate_X5 hS hC (by omega) (by omega) (fun v_ => ?_)
                refine y_ret1 ?_
                refine y_goto rfl j_X8_pay_128 ?_
                refine y_istore (ls' := [some _, some _, some _, some _, some _, some _, _]) rfl rfl rfl ?_
                refine y_aload_n rfl rfl ?_
                refine y_getR rfl (ySh.t hS rfl) (ySh.n hS rfl) rfl rfl (ySh.r hS rfl) ?_
                refine y_getR rfl (ySh.t hS rfl) (ySh.n hS rfl) rfl rfl (ySh.r hS rfl) ?_
                refine y_iload_n rfl rfl ?_
                refine y_iaload rfl (ySh.t hS rfl) (ySh.n hS rfl) (by omega) (by omega) ?_
                refine y_istore (ls' := [some _, some _, some _, some _, some _, some _, some _]) rfl rfl rfl ?_
                refine y_aload_n rfl rfl ?_
                refine y_getR rfl (ySh.t hS rfl) (ySh.n hS rfl) rfl rfl (ySh.r hS rfl) ?_
                refine y_iload rfl rfl ?_
                refine y_bip rfl (by decide) ?_
                refine y_iload_n rfl rfl ?_
                refine y_iload rfl rfl ?_
                refine y_isub rfl ?_
                refine y_virt rfl rfl rfl rfl rfl (ySh.t hS rfl) (ySh.n hS rfl) ?_
                refine y_in (M := xm_X4_move) (ls := [some _, some _, some _, some _]) rfl rfl rfl ?_
                refine y_aload_n rfl rfl ?_
                refine y_iload_n rfl rfl ?_
                refine y_iload_n rfl rfl ?_
                refine y_ineg rfl ?_
                refine y_virt rfl rfl rfl rfl rfl (ySh.t hS rfl) (ySh.n hS rfl) ?_
                refine sp_add_X4 hS hC (fun I39 hC hF1 => ?_)
                have hF : yFt I I39 := yFt.trans (by repeat (first | exact hF | refine yFt.upd ?_ (by decide))) hF1.t
                have hd : (I39 34 8).toInt = (I 34 8).toInt := congrArg Int32.toInt (hF1 34 8 (Or.inl (by decide)))
                refine y_ret0 ?_
                refine y_aload_n rfl rfl ?_
                refine y_iload_n rfl rfl ?_
                refine y_iload_n rfl rfl ?_
                refine y_virt rfl rfl rfl rfl rfl (ySh.t hS rfl) (ySh.n hS rfl) ?_
                refine sp_add_X4 hS hC (fun I40 hC hF1 => ?_)
                have hF : yFt I I40 := yFt.trans (by repeat (first | exact hF | refine yFt.upd ?_ (by decide))) hF1.t
                have hd : (I40 34 8).toInt = (I39 34 8).toInt := congrArg Int32.toInt (hF1 34 8 (Or.inl (by decide)))
                refine y_ret0 ?_
                refine y_return rfl ?_
                refine y_ret0 ?_
                refine y_aload_n rfl rfl ?_
                refine y_getR rfl (ySh.t hS rfl) (ySh.n hS rfl) rfl rfl (ySh.r hS rfl) ?_
                refine y_iload rfl rfl ?_
                refine y_iload rfl rfl ?_
                refine y_virt rfl rfl rfl rfl rfl (ySh.t hS rfl) (ySh.n hS rfl) ?_
                refine y_in (M := xm_X4_giveAway) (ls := [some _, some _, some _]) rfl rfl rfl ?_
                refine y_aload_n rfl rfl ?_
                refine y_iload_n rfl rfl ?_
                refine y_iload_n rfl rfl ?_
                refine y_ineg rfl ?_
                refine y_virt rfl rfl rfl rfl rfl (ySh.t hS rfl) (ySh.n hS rfl) ?_
                refine sp_add_X4 hS hC (fun I41 hC hF1 => ?_)
                have hF : yFt I I41 := yFt.trans (by repeat (first | exact hF | refine yFt.upd ?_ (by decide))) hF1.t
                have hd : (I41 34 8).toInt = (I40 34 8).toInt := congrArg Int32.toInt (hF1 34 8 (Or.inl (by decide)))
                refine y_ret0 ?_
                refine y_aload_n rfl rfl ?_
                refine y_dup rfl rfl ?_
                refine y_getI rfl (ySh.t hS rfl) (ySh.n hS rfl) rfl rfl ?_
                refine y_iload_n rfl rfl ?_
                refine y_iadd rfl ?_
                refine y_putI rfl (ySh.t hS rfl) (ySh.n hS rfl) rfl (Nat.le_of_ble_eq_true rfl) rfl rfl ?_
                refine y_return rfl ?_
                refine y_ret0 ?_
                refine y_aload_n rfl rfl ?_
                refine y_getR rfl (ySh.t hS rfl) (ySh.n hS rfl) rfl rfl (ySh.r hS rfl) ?_
                refine y_iload_n rfl rfl ?_
                refine y_iload rfl rfl ?_
                refine y_iload rfl rfl ?_
                refine y_virt rfl rfl rfl rfl rfl (ySh.t hS rfl) (ySh.n hS rfl) ?_
                refine y_in (M := xm_X5_settlePart) (ls := [some _, some _, some _, some _]) rfl rfl rfl ?_
                refine y_aload_n rfl rfl ?_
                refine y_getR rfl (ySh.t hS rfl) (ySh.n hS rfl) rfl rfl (ySh.r hS rfl) ?_
                refine y_iload_n rfl rfl ?_
                refine y_dup2 rfl rfl rfl ?_
                refine y_iaload rfl (ySh.t hS rfl) (ySh.n hS rfl) (by omega) (by omega) ?_
                refine y_iconst rfl ?_
                refine y_iadd rfl ?_
                refine y_iastore rfl (ySh.t hS rfl) (ySh.n hS rfl) (Nat.le_of_ble_eq_true rfl) (by omega) (by omega) ?_
                refine y_aload_n rfl rfl ?_
                refine y_getR rfl (ySh.t hS rfl) (ySh.n hS rfl) rfl rfl (ySh.r hS rfl) ?_
                refine y_iload_n rfl rfl ?_
                refine y_dup2 rfl rfl rfl ?_
                refine y_iaload rfl (ySh.t hS rfl) (ySh.n hS rfl) (by omega) (by omega) ?_
                refine y_iload_n rfl rfl ?_
                refine y_iadd rfl ?_
                refine y_iastore rfl (ySh.t hS rfl) (ySh.n hS rfl) (Nat.le_of_ble_eq_true rfl) (by omega) (by omega) ?_
                refine y_aload_n rfl rfl ?_
                refine y_getR rfl (ySh.t hS rfl) (ySh.n hS rfl) rfl rfl (ySh.r hS rfl) ?_
                refine y_iload_n rfl rfl ?_
                refine y_dup2 rfl rfl rfl ?_
                refine y_iaload rfl (ySh.t hS rfl) (ySh.n hS rfl) (by omega) (by omega) ?_
                refine y_iload_n rfl rfl ?_
                refine y_iadd rfl ?_
                refine y_iastore rfl (ySh.t hS rfl) (ySh.n hS rfl) (Nat.le_of_ble_eq_true rfl) (by omega) (by omega) ?_
                refine y_return rfl ?_
                refine y_ret0 ?_
                refine y_iload_n rfl rfl ?_
                refine y_iload rfl rfl ?_
                refine y_isub rfl ?_
                refine y_ireturn rfl rfl rfl ?_
                exact hQ _ _ hC (by repeat (first | exact hF | refine yFt.upd ?_ (by decide)))
              · refine y_ret1 ?_
                refine y_if_eqT rfl j_X8_pay_127 (by decide) ?_
                refine y_iconst rfl ?_
                refine y_istore (ls' := [some _, some _, some _, some _, some _, some _, _]) rfl rfl rfl ?_
                refine y_aload_n rfl rfl ?_
                refine y_getR rfl (ySh.t hS rfl) (ySh.n hS rfl) rfl rfl (ySh.r hS rfl) ?_
                refine y_getR rfl (ySh.t hS rfl) (ySh.n hS rfl) rfl rfl (ySh.r hS rfl) ?_
                refine y_iload_n rfl rfl ?_
                refine y_iaload rfl (ySh.t hS rfl) (ySh.n hS rfl) (by omega) (by omega) ?_
                refine y_istore (ls' := [some _, some _, some _, some _, some _, some _, some _]) rfl rfl rfl ?_
                refine y_aload_n rfl rfl ?_
                refine y_getR rfl (ySh.t hS rfl) (ySh.n hS rfl) rfl rfl (ySh.r hS rfl) ?_
                refine y_iload rfl rfl ?_
                refine y_bip rfl (by decide) ?_
                refine y_iload_n rfl rfl ?_
                refine y_iload rfl rfl ?_
                refine y_isub rfl ?_
                refine y_virt rfl rfl rfl rfl rfl (ySh.t hS rfl) (ySh.n hS rfl) ?_
                refine y_in (M := xm_X4_move) (ls := [some _, some _, some _, some _]) rfl rfl rfl ?_
                refine y_aload_n rfl rfl ?_
                refine y_iload_n rfl rfl ?_
                refine y_iload_n rfl rfl ?_
                refine y_ineg rfl ?_
                refine y_virt rfl rfl rfl rfl rfl (ySh.t hS rfl) (ySh.n hS rfl) ?_
                refine sp_add_X4 hS hC (fun I42 hC hF1 => ?_)
                have hF : yFt I I42 := yFt.trans (by repeat (first | exact hF | refine yFt.upd ?_ (by decide))) hF1.t
                have hd : (I42 34 8).toInt = (I 34 8).toInt := congrArg Int32.toInt (hF1 34 8 (Or.inl (by decide)))
                refine y_ret0 ?_
                refine y_aload_n rfl rfl ?_
                refine y_iload_n rfl rfl ?_
                refine y_iload_n rfl rfl ?_
                refine y_virt rfl rfl rfl rfl rfl (ySh.t hS rfl) (ySh.n hS rfl) ?_
                refine sp_add_X4 hS hC (fun I43 hC hF1 => ?_)
                have hF : yFt I I43 := yFt.trans (by repeat (first | exact hF | refine yFt.upd ?_ (by decide))) hF1.t
                have hd : (I43 34 8).toInt = (I42 34 8).toInt := congrArg Int32.toInt (hF1 34 8 (Or.inl (by decide)))
                refine y_ret0 ?_
                refine y_return rfl ?_
                refine y_ret0 ?_
                refine y_aload_n rfl rfl ?_
                refine y_getR rfl (ySh.t hS rfl) (ySh.n hS rfl) rfl rfl (ySh.r hS rfl) ?_
                refine y_iload rfl rfl ?_
                refine y_iload rfl rfl ?_
                refine y_virt rfl rfl rfl rfl rfl (ySh.t hS rfl) (ySh.n hS rfl) ?_
                refine y_in (M := xm_X4_giveAway) (ls := [some _, some _, some _]) rfl rfl rfl ?_
                refine y_aload_n rfl rfl ?_
                refine y_iload_n rfl rfl ?_
                refine y_iload_n rfl rfl ?_
                refine y_ineg rfl ?_
                refine y_virt rfl rfl rfl rfl rfl (ySh.t hS rfl) (ySh.n hS rfl) ?_
                refine sp_add_X4 hS hC (fun I44 hC hF1 => ?_)
                have hF : yFt I I44 := yFt.trans (by repeat (first | exact hF | refine yFt.upd ?_ (by decide))) hF1.t
                have hd : (I44 34 8).toInt = (I43 34 8).toInt := congrArg Int32.toInt (hF1 34 8 (Or.inl (by decide)))
                refine y_ret0 ?_
                refine y_aload_n rfl rfl ?_
                refine y_dup rfl rfl ?_
                refine y_getI rfl (ySh.t hS rfl) (ySh.n hS rfl) rfl rfl ?_
                refine y_iload_n rfl rfl ?_
                refine y_iadd rfl ?_
                refine y_putI rfl (ySh.t hS rfl) (ySh.n hS rfl) rfl (Nat.le_of_ble_eq_true rfl) rfl rfl ?_
                refine y_return rfl ?_
                refine y_ret0 ?_
                refine y_aload_n rfl rfl ?_
                refine y_getR rfl (ySh.t hS rfl) (ySh.n hS rfl) rfl rfl (ySh.r hS rfl) ?_
                refine y_iload_n rfl rfl ?_
                refine y_iload rfl rfl ?_
                refine y_iload rfl rfl ?_
                refine y_virt rfl rfl rfl rfl rfl (ySh.t hS rfl) (ySh.n hS rfl) ?_
                refine y_in (M := xm_X5_settlePart) (ls := [some _, some _, some _, some _]) rfl rfl rfl ?_
                refine y_aload_n rfl rfl ?_
                refine y_getR rfl (ySh.t hS rfl) (ySh.n hS rfl) rfl rfl (ySh.r hS rfl) ?_
                refine y_iload_n rfl rfl ?_
                refine y_dup2 rfl rfl rfl ?_
                refine y_iaload rfl (ySh.t hS rfl) (ySh.n hS rfl) (by omega) (by omega) ?_
                refine y_iconst rfl ?_
                refine y_iadd rfl ?_
                refine y_iastore rfl (ySh.t hS rfl) (ySh.n hS rfl) (Nat.le_of_ble_eq_true rfl) (by omega) (by omega) ?_
                refine y_aload_n rfl rfl ?_
                refine y_getR rfl (ySh.t hS rfl) (ySh.n hS rfl) rfl rfl (ySh.r hS rfl) ?_
                refine y_iload_n rfl rfl ?_
                refine y_dup2 rfl rfl rfl ?_
                refine y_iaload rfl (ySh.t hS rfl) (ySh.n hS rfl) (by omega) (by omega) ?_
                refine y_iload_n rfl rfl ?_
                refine y_iadd rfl ?_
                refine y_iastore rfl (ySh.t hS rfl) (ySh.n hS rfl) (Nat.le_of_ble_eq_true rfl) (by omega) (by omega) ?_
                refine y_aload_n rfl rfl ?_
                refine y_getR rfl (ySh.t hS rfl) (ySh.n hS rfl) rfl rfl (ySh.r hS rfl) ?_
                refine y_iload_n rfl rfl ?_
                refine y_dup2 rfl rfl rfl ?_
                refine y_iaload rfl (ySh.t hS rfl) (ySh.n hS rfl) (by omega) (by omega) ?_
                refine y_iload_n rfl rfl ?_
                refine y_iadd rfl ?_
                refine y_iastore rfl (ySh.t hS rfl) (ySh.n hS rfl) (Nat.le_of_ble_eq_true rfl) (by omega) (by omega) ?_
                refine y_return rfl ?_
                refine y_ret0 ?_
                refine y_iload_n rfl rfl ?_
                refine y_iload rfl rfl ?_
                refine y_isub rfl ?_
                refine y_ireturn rfl rfl rfl ?_
                exact hQ _ _ hC (by repeat (first | exact hF | refine yFt.upd ?_ (by decide)))
          · refine y_ret1 ?_
            refine y_if_eqT rfl j_X8_pay_95 (by decide) ?_
            refine y_iconst rfl ?_
            refine y_istore (ls' := [some _, some _, some _, some _, some _, _, _]) rfl rfl rfl ?_
            refine y_iload_n rfl rfl ?_
            refine y_bip rfl (by decide) ?_
            refine y_icmp_gt rfl j_X8_pay_127 (fun h_35 => ?_) (fun h_36 => ?_)
            · rw [yz_m10] at h_35
              refine y_iconst rfl ?_
              refine y_istore (ls' := [some _, some _, some _, some _, some _, some _, _]) rfl rfl rfl ?_
              refine y_aload_n rfl rfl ?_
              refine y_getR rfl (ySh.t hS rfl) (ySh.n hS rfl) rfl rfl (ySh.r hS rfl) ?_
              refine y_getR rfl (ySh.t hS rfl) (ySh.n hS rfl) rfl rfl (ySh.r hS rfl) ?_
              refine y_iload_n rfl rfl ?_
              refine y_iaload rfl (ySh.t hS rfl) (ySh.n hS rfl) (by omega) (by omega) ?_
              refine y_istore (ls' := [some _, some _, some _, some _, some _, some _, some _]) rfl rfl rfl ?_
              refine y_aload_n rfl rfl ?_
              refine y_getR rfl (ySh.t hS rfl) (ySh.n hS rfl) rfl rfl (ySh.r hS rfl) ?_
              refine y_iload rfl rfl ?_
              refine y_bip rfl (by decide) ?_
              refine y_iload_n rfl rfl ?_
              refine y_iload rfl rfl ?_
              refine y_isub rfl ?_
              refine y_virt rfl rfl rfl rfl rfl (ySh.t hS rfl) (ySh.n hS rfl) ?_
              refine y_in (M := xm_X4_move) (ls := [some _, some _, some _, some _]) rfl rfl rfl ?_
              refine y_aload_n rfl rfl ?_
              refine y_iload_n rfl rfl ?_
              refine y_iload_n rfl rfl ?_
              refine y_ineg rfl ?_
              refine y_virt rfl rfl rfl rfl rfl (ySh.t hS rfl) (ySh.n hS rfl) ?_
              refine sp_add_X4 hS hC (fun I47 hC hF1 => ?_)
              have hF : yFt I I47 := yFt.trans (by repeat (first | exact hF | refine yFt.upd ?_ (by decide))) hF1.t
              have hd : (I47 34 8).toInt = (I 34 8).toInt := congrArg Int32.toInt (hF1 34 8 (Or.inl (by decide)))
              refine y_ret0 ?_
              refine y_aload_n rfl rfl ?_
              refine y_iload_n rfl rfl ?_
              refine y_iload_n rfl rfl ?_
              refine y_virt rfl rfl rfl rfl rfl (ySh.t hS rfl) (ySh.n hS rfl) ?_
              refine sp_add_X4 hS hC (fun I48 hC hF1 => ?_)
              have hF : yFt I I48 := yFt.trans (by repeat (first | exact hF | refine yFt.upd ?_ (by decide))) hF1.t
              have hd : (I48 34 8).toInt = (I47 34 8).toInt := congrArg Int32.toInt (hF1 34 8 (Or.inl (by decide)))
              refine y_ret0 ?_
              refine y_return rfl ?_
              refine y_ret0 ?_
              refine y_aload_n rfl rfl ?_
              refine y_getR rfl (ySh.t hS rfl) (ySh.n hS rfl) rfl rfl (ySh.r hS rfl) ?_
              refine y_iload rfl rfl ?_
              refine y_iload rfl rfl ?_
              refine y_virt rfl rfl rfl rfl rfl (ySh.t hS rfl) (ySh.n hS rfl) ?_
              refine y_in (M := xm_X4_giveAway) (ls := [some _, some _, some _]) rfl rfl rfl ?_
              refine y_aload_n rfl rfl ?_
              refine y_iload_n rfl rfl ?_
              refine y_iload_n rfl rfl ?_
              refine y_ineg rfl ?_
              refine y_virt rfl rfl rfl rfl rfl (ySh.t hS rfl) (ySh.n hS rfl) ?_
              refine sp_add_X4 hS hC (fun I49 hC hF1 => ?_)
              have hF : yFt I I49 := yFt.trans (by repeat (first | exact hF | refine yFt.upd ?_ (by decide))) hF1.t
              have hd : (I49 34 8).toInt = (I48 34 8).toInt := congrArg Int32.toInt (hF1 34 8 (Or.inl (by decide)))
              refine y_ret0 ?_
              refine y_aload_n rfl rfl ?_
              refine y_dup rfl rfl ?_
              refine y_getI rfl (ySh.t hS rfl) (ySh.n hS rfl) rfl rfl ?_
              refine y_iload_n rfl rfl ?_
              refine y_iadd rfl ?_
              refine y_putI rfl (ySh.t hS rfl) (ySh.n hS rfl) rfl (Nat.le_of_ble_eq_true rfl) rfl rfl ?_
              refine y_return rfl ?_
              refine y_ret0 ?_
              refine y_aload_n rfl rfl ?_
              refine y_getR rfl (ySh.t hS rfl) (ySh.n hS rfl) rfl rfl (ySh.r hS rfl) ?_
              refine y_iload_n rfl rfl ?_
              refine y_iload rfl rfl ?_
              refine y_iload rfl rfl ?_
              refine y_virt rfl rfl rfl rfl rfl (ySh.t hS rfl) (ySh.n hS rfl) ?_
              refine y_in (M := xm_X5_settlePart) (ls := [some _, some _, some _, some _]) rfl rfl rfl ?_
              refine y_aload_n rfl rfl ?_
              refine y_getR rfl (ySh.t hS rfl) (ySh.n hS rfl) rfl rfl (ySh.r hS rfl) ?_
              refine y_iload_n rfl rfl ?_
              refine y_dup2 rfl rfl rfl ?_
              refine y_iaload rfl (ySh.t hS rfl) (ySh.n hS rfl) (by omega) (by omega) ?_
              refine y_iconst rfl ?_
              refine y_iadd rfl ?_
              refine y_iastore rfl (ySh.t hS rfl) (ySh.n hS rfl) (Nat.le_of_ble_eq_true rfl) (by omega) (by omega) ?_
              refine y_aload_n rfl rfl ?_
              refine y_getR rfl (ySh.t hS rfl) (ySh.n hS rfl) rfl rfl (ySh.r hS rfl) ?_
              refine y_iload_n rfl rfl ?_
              refine y_dup2 rfl rfl rfl ?_
              refine y_iaload rfl (ySh.t hS rfl) (ySh.n hS rfl) (by omega) (by omega) ?_
              refine y_iload_n rfl rfl ?_
              refine y_iadd rfl ?_
              refine y_iastore rfl (ySh.t hS rfl) (ySh.n hS rfl) (Nat.le_of_ble_eq_true rfl) (by omega) (by omega) ?_
              refine y_aload_n rfl rfl ?_
              refine y_getR rfl (ySh.t hS rfl) (ySh.n hS rfl) rfl rfl (ySh.r hS rfl) ?_
              refine y_iload_n rfl rfl ?_
              refine y_dup2 rfl rfl rfl ?_
              refine y_iaload rfl (ySh.t hS rfl) (ySh.n hS rfl) (by omega) (by omega) ?_
              refine y_iload_n rfl rfl ?_
              refine y_iadd rfl ?_
              refine y_iastore rfl (ySh.t hS rfl) (ySh.n hS rfl) (Nat.le_of_ble_eq_true rfl) (by omega) (by omega) ?_
              refine y_return rfl ?_
              refine y_ret0 ?_
              refine y_iload_n rfl rfl ?_
              refine y_iload rfl rfl ?_
              refine y_isub rfl ?_
              refine y_ireturn rfl rfl rfl ?_
              exact hQ _ _ hC (by repeat (first | exact hF | refine yFt.upd ?_ (by decide)))
            · rw [yz_m10] at h_36
              refine y_aload_n rfl rfl ?_
              refine y_getR rfl (ySh.t hS rfl) (ySh.n hS rfl) rfl rfl (ySh.r hS rfl) ?_
              refine y_iconst rfl ?_
              refine y_virt rfl rfl rfl rfl rfl (ySh.t hS rfl) (ySh.n hS rfl) ?_
              refine sp_isAllowedNow hS (by decide) (by decide) (fun h_40 => ?_) (fun h_41 => ?_)
              · refine y_ret1 ?_
                refine y_if_eqF rfl (by decide) ?_
                refine y_aload_n rfl rfl ?_
                refine y_getR rfl (ySh.t hS rfl) (ySh.n hS rfl) rfl rfl (ySh.r hS rfl) ?_
                refine y_iload_n rfl rfl ?_
                refine y_iload_n rfl rfl ?_
                refine y_virt rfl rfl rfl rfl rfl (ySh.t hS rfl) (ySh.n hS rfl) ?_
                refine sp_rebate_X5 hS hC (by omega) (by omega) (fun v_ => ?_)
                refine y_ret1 ?_
                refine y_goto rfl j_X8_pay_128 ?_
                refine y_istore (ls' := [some _, some _, some _, some _, some _, some _, _]) rfl rfl rfl ?_
                refine y_aload_n rfl rfl ?_
                refine y_getR rfl (ySh.t hS rfl) (ySh.n hS rfl) rfl rfl (ySh.r hS rfl) ?_
                refine y_getR rfl (ySh.t hS rfl) (ySh.n hS rfl) rfl rfl (ySh.r hS rfl) ?_
                refine y_iload_n rfl rfl ?_
                refine y_iaload rfl (ySh.t hS rfl) (ySh.n hS rfl) (by omega) (by omega) ?_
                refine y_istore (ls' := [some _, some _, some _, some _, some _, some _, some _]) rfl rfl rfl ?_
                refine y_aload_n rfl rfl ?_
                refine y_getR rfl (ySh.t hS rfl) (ySh.n hS rfl) rfl rfl (ySh.r hS rfl) ?_
                refine y_iload rfl rfl ?_
                refine y_bip rfl (by decide) ?_
                refine y_iload_n rfl rfl ?_
                refine y_iload rfl rfl ?_
                refine y_isub rfl ?_
                refine y_virt rfl rfl rfl rfl rfl (ySh.t hS rfl) (ySh.n hS rfl) ?_
                refine y_in (M := xm_X4_move) (ls := [some _, some _, some _, some _]) rfl rfl rfl ?_
                refine y_aload_n rfl rfl ?_
                refine y_iload_n rfl rfl ?_
                refine y_iload_n rfl rfl ?_
                refine y_ineg rfl ?_
                refine y_virt rfl rfl rfl rfl rfl (ySh.t hS rfl) (ySh.n hS rfl) ?_
                refine sp_add_X4 hS hC (fun I52 hC hF1 => ?_)
                have hF : yFt I I52 := yFt.trans (by repeat (first | exact hF | refine yFt.upd ?_ (by decide))) hF1.t
                have hd : (I52 34 8).toInt = (I 34 8).toInt := congrArg Int32.toInt (hF1 34 8 (Or.inl (by decide)))
                refine y_ret0 ?_
                refine y_aload_n rfl rfl ?_
                refine y_iload_n rfl rfl ?_
                refine y_iload_n rfl rfl ?_
                refine y_virt rfl rfl rfl rfl rfl (ySh.t hS rfl) (ySh.n hS rfl) ?_
                refine sp_add_X4 hS hC (fun I53 hC hF1 => ?_)
                have hF : yFt I I53 := yFt.trans (by repeat (first | exact hF | refine yFt.upd ?_ (by decide))) hF1.t
                have hd : (I53 34 8).toInt = (I52 34 8).toInt := congrArg Int32.toInt (hF1 34 8 (Or.inl (by decide)))
                refine y_ret0 ?_
                refine y_return rfl ?_
                refine y_ret0 ?_
                refine y_aload_n rfl rfl ?_
                refine y_getR rfl (ySh.t hS rfl) (ySh.n hS rfl) rfl rfl (ySh.r hS rfl) ?_
                refine y_iload rfl rfl ?_
                refine y_iload rfl rfl ?_
                refine y_virt rfl rfl rfl rfl rfl (ySh.t hS rfl) (ySh.n hS rfl) ?_
                refine y_in (M := xm_X4_giveAway) (ls := [some _, some _, some _]) rfl rfl rfl ?_
                refine y_aload_n rfl rfl ?_
                refine y_iload_n rfl rfl ?_
                refine y_iload_n rfl rfl ?_
                refine y_ineg rfl ?_
                refine y_virt rfl rfl rfl rfl rfl (ySh.t hS rfl) (ySh.n hS rfl) ?_
                refine sp_add_X4 hS hC (fun I54 hC hF1 => ?_)
                have hF : yFt I I54 := yFt.trans (by repeat (first | exact hF | refine yFt.upd ?_ (by decide))) hF1.t
                have hd : (I54 34 8).toInt = (I53 34 8).toInt := congrArg Int32.toInt (hF1 34 8 (Or.inl (by decide)))
                refine y_ret0 ?_
                refine y_aload_n rfl rfl ?_
                refine y_dup rfl rfl ?_
                refine y_getI rfl (ySh.t hS rfl) (ySh.n hS rfl) rfl rfl ?_
                refine y_iload_n rfl rfl ?_
                refine y_iadd rfl ?_
                refine y_putI rfl (ySh.t hS rfl) (ySh.n hS rfl) rfl (Nat.le_of_ble_eq_true rfl) rfl rfl ?_
                refine y_return rfl ?_
                refine y_ret0 ?_
                refine y_aload_n rfl rfl ?_
                refine y_getR rfl (ySh.t hS rfl) (ySh.n hS rfl) rfl rfl (ySh.r hS rfl) ?_
                refine y_iload_n rfl rfl ?_
                refine y_iload rfl rfl ?_
                refine y_iload rfl rfl ?_
                refine y_virt rfl rfl rfl rfl rfl (ySh.t hS rfl) (ySh.n hS rfl) ?_
                refine y_in (M := xm_X5_settlePart) (ls := [some _, some _, some _, some _]) rfl rfl rfl ?_
                refine y_aload_n rfl rfl ?_
                refine y_getR rfl (ySh.t hS rfl) (ySh.n hS rfl) rfl rfl (ySh.r hS rfl) ?_
                refine y_iload_n rfl rfl ?_
                refine y_dup2 rfl rfl rfl ?_
                refine y_iaload rfl (ySh.t hS rfl) (ySh.n hS rfl) (by omega) (by omega) ?_
                refine y_iconst rfl ?_
                refine y_iadd rfl ?_
                refine y_iastore rfl (ySh.t hS rfl) (ySh.n hS rfl) (Nat.le_of_ble_eq_true rfl) (by omega) (by omega) ?_
                refine y_aload_n rfl rfl ?_
                refine y_getR rfl (ySh.t hS rfl) (ySh.n hS rfl) rfl rfl (ySh.r hS rfl) ?_
                refine y_iload_n rfl rfl ?_
                refine y_dup2 rfl rfl rfl ?_
                refine y_iaload rfl (ySh.t hS rfl) (ySh.n hS rfl) (by omega) (by omega) ?_
                refine y_iload_n rfl rfl ?_
                refine y_iadd rfl ?_
                refine y_iastore rfl (ySh.t hS rfl) (ySh.n hS rfl) (Nat.le_of_ble_eq_true rfl) (by omega) (by omega) ?_
                refine y_aload_n rfl rfl ?_
                refine y_getR rfl (ySh.t hS rfl) (ySh.n hS rfl) rfl rfl (ySh.r hS rfl) ?_
                refine y_iload_n rfl rfl ?_
                refine y_dup2 rfl rfl rfl ?_
                refine y_iaload rfl (ySh.t hS rfl) (ySh.n hS rfl) (by omega) (by omega) ?_
                refine y_iload_n rfl rfl ?_
                refine y_iadd rfl ?_
                refine y_iastore rfl (ySh.t hS rfl) (ySh.n hS rfl) (Nat.le_of_ble_eq_true rfl) (by omega) (by omega) ?_
                refine y_return rfl ?_
                refine y_ret0 ?_
                refine y_iload_n rfl rfl ?_
                refine y_iload rfl rfl ?_
                refine y_isub rfl ?_
                refine y_ireturn rfl rfl rfl ?_
                exact hQ _ _ hC (by repeat (first | exact hF | refine yFt.upd ?_ (by decide)))
              · refine y_ret1 ?_
                refine y_if_eqT rfl j_X8_pay_127 (by decide) ?_
                refine y_iconst rfl ?_
                refine y_istore (ls' := [some _, some _, some _, some _, some _, some _, _]) rfl rfl rfl ?_
                refine y_aload_n rfl rfl ?_
                refine y_getR rfl (ySh.t hS rfl) (ySh.n hS rfl) rfl rfl (ySh.r hS rfl) ?_
                refine y_getR rfl (ySh.t hS rfl) (ySh.n hS rfl) rfl rfl (ySh.r hS rfl) ?_
                refine y_iload_n rfl rfl ?_
                refine y_iaload rfl (ySh.t hS rfl) (ySh.n hS rfl) (by omega) (by omega) ?_
                refine y_istore (ls' := [some _, some _, some _, some _, some _, some _, some _]) rfl rfl rfl ?_
                refine y_aload_n rfl rfl ?_
                refine y_getR rfl (ySh.t hS rfl) (ySh.n hS rfl) rfl rfl (ySh.r hS rfl) ?_
                refine y_iload rfl rfl ?_
                refine y_bip rfl (by decide) ?_
                refine y_iload_n rfl rfl ?_
                refine y_iload rfl rfl ?_
                refine y_isub rfl ?_
                refine y_virt rfl rfl rfl rfl rfl (ySh.t hS rfl) (ySh.n hS rfl) ?_
                refine y_in (M := xm_X4_move) (ls := [some _, some _, some _, some _]) rfl rfl rfl ?_
                refine y_aload_n rfl rfl ?_
                refine y_iload_n rfl rfl ?_
                refine y_iload_n rfl rfl ?_
                refine y_ineg rfl ?_
                refine y_virt rfl rfl rfl rfl rfl (ySh.t hS rfl) (ySh.n hS rfl) ?_
                refine sp_add_X4 hS hC (fun I55 hC hF1 => ?_)
                have hF : yFt I I55 := yFt.trans (by repeat (first | exact hF | refine yFt.upd ?_ (by decide))) hF1.t
                have hd : (I55 34 8).toInt = (I 34 8).toInt := congrArg Int32.toInt (hF1 34 8 (Or.inl (by decide)))
                refine y_ret0 ?_
                refine y_aload_n rfl rfl ?_
                refine y_iload_n rfl rfl ?_
                refine y_iload_n rfl rfl ?_
                refine y_virt rfl rfl rfl rfl rfl (ySh.t hS rfl) (ySh.n hS rfl) ?_
                refine sp_add_X4 hS hC (fun I56 hC hF1 => ?_)
                have hF : yFt I I56 := yFt.trans (by repeat (first | exact hF | refine yFt.upd ?_ (by decide))) hF1.t
                have hd : (I56 34 8).toInt = (I55 34 8).toInt := congrArg Int32.toInt (hF1 34 8 (Or.inl (by decide)))
                refine y_ret0 ?_
                refine y_return rfl ?_
                refine y_ret0 ?_
                refine y_aload_n rfl rfl ?_
                refine y_getR rfl (ySh.t hS rfl) (ySh.n hS rfl) rfl rfl (ySh.r hS rfl) ?_
                refine y_iload rfl rfl ?_
                refine y_iload rfl rfl ?_
                refine y_virt rfl rfl rfl rfl rfl (ySh.t hS rfl) (ySh.n hS rfl) ?_
                refine y_in (M := xm_X4_giveAway) (ls := [some _, some _, some _]) rfl rfl rfl ?_
                refine y_aload_n rfl rfl ?_
                refine y_iload_n rfl rfl ?_
                refine y_iload_n rfl rfl ?_
                refine y_ineg rfl ?_
                refine y_virt rfl rfl rfl rfl rfl (ySh.t hS rfl) (ySh.n hS rfl) ?_
                refine sp_add_X4 hS hC (fun I57 hC hF1 => ?_)
                have hF : yFt I I57 := yFt.trans (by repeat (first | exact hF | refine yFt.upd ?_ (by decide))) hF1.t
                have hd : (I57 34 8).toInt = (I56 34 8).toInt := congrArg Int32.toInt (hF1 34 8 (Or.inl (by decide)))
                refine y_ret0 ?_
                refine y_aload_n rfl rfl ?_
                refine y_dup rfl rfl ?_
                refine y_getI rfl (ySh.t hS rfl) (ySh.n hS rfl) rfl rfl ?_
                refine y_iload_n rfl rfl ?_
                refine y_iadd rfl ?_
                refine y_putI rfl (ySh.t hS rfl) (ySh.n hS rfl) rfl (Nat.le_of_ble_eq_true rfl) rfl rfl ?_
                refine y_return rfl ?_
                refine y_ret0 ?_
                refine y_aload_n rfl rfl ?_
                refine y_getR rfl (ySh.t hS rfl) (ySh.n hS rfl) rfl rfl (ySh.r hS rfl) ?_
                refine y_iload_n rfl rfl ?_
                refine y_iload rfl rfl ?_
                refine y_iload rfl rfl ?_
                refine y_virt rfl rfl rfl rfl rfl (ySh.t hS rfl) (ySh.n hS rfl) ?_
                refine y_in (M := xm_X5_settlePart) (ls := [some _, some _, some _, some _]) rfl rfl rfl ?_
                refine y_aload_n rfl rfl ?_
                refine y_getR rfl (ySh.t hS rfl) (ySh.n hS rfl) rfl rfl (ySh.r hS rfl) ?_
                refine y_iload_n rfl rfl ?_
                refine y_dup2 rfl rfl rfl ?_
                refine y_iaload rfl (ySh.t hS rfl) (ySh.n hS rfl) (by omega) (by omega) ?_
                refine y_iconst rfl ?_
                refine y_iadd rfl ?_
                refine y_iastore rfl (ySh.t hS rfl) (ySh.n hS rfl) (Nat.le_of_ble_eq_true rfl) (by omega) (by omega) ?_
                refine y_aload_n rfl rfl ?_
                refine y_getR rfl (ySh.t hS rfl) (ySh.n hS rfl) rfl rfl (ySh.r hS rfl) ?_
                refine y_iload_n rfl rfl ?_
                refine y_dup2 rfl rfl rfl ?_
                refine y_iaload rfl (ySh.t hS rfl) (ySh.n hS rfl) (by omega) (by omega) ?_
                refine y_iload_n rfl rfl ?_
                refine y_iadd rfl ?_
                refine y_iastore rfl (ySh.t hS rfl) (ySh.n hS rfl) (Nat.le_of_ble_eq_true rfl) (by omega) (by omega) ?_
                refine y_aload_n rfl rfl ?_
                refine y_getR rfl (ySh.t hS rfl) (ySh.n hS rfl) rfl rfl (ySh.r hS rfl) ?_
                refine y_iload_n rfl rfl ?_
                refine y_dup2 rfl rfl rfl ?_
                refine y_iaload rfl (ySh.t hS rfl) (ySh.n hS rfl) (by omega) (by omega) ?_
                refine y_iload_n rfl rfl ?_
                refine y_iadd rfl ?_
                refine y_iastore rfl (ySh.t hS rfl) (ySh.n hS rfl) (Nat.le_of_ble_eq_true rfl) (by omega) (by omega) ?_
                refine y_return rfl ?_
                refine y_ret0 ?_
                refine y_iload_n rfl rfl ?_
                refine y_iload rfl rfl ?_
                refine y_isub rfl ?_
                refine y_ireturn rfl rfl rfl ?_
                exact hQ _ _ hC (by repeat (first | exact hF | refine yFt.upd ?_ (by decide)))
      · refine y_ret1 ?_
        refine y_if_neF rfl (by decide) ?_
        refine y_throw rfl rfl rfl ?_
        exact hE2
theorem m_lease (hS : ySh n tg R) (hC : yCI I) {x1 x2 x3 x4 : Int32} (hE0 : Q (.inr "java/lang/IndexOutOfBoundsException") (n, tg, I, R) (c + 1) (s + 6)) (hE1 : Q (.inr "java/lang/IllegalArgumentException") (n, tg, I, R) (c + 1) (s + 6)) (hE2 : Q (.inr "java/lang/IllegalStateException") (n, tg, I, R) (c + 1) (s + 6)) (hQ : ∀ v I1, yCI I1 → yFt I I1 → Q (.inl (some (.int v))) (n, tg, I1, R) c s) : yC 130 [.ref 34, .int x1, .int x2, .int x3, .int x4] (n, tg, I, R) c s Q := by
  have hF : yFt I I := yFt.rf
  refine y_in (M := xm_X8_lease) (ls := [some _, some _, some _, some _, some _, _]) rfl rfl rfl ?_
  refine y_aload_n rfl rfl ?_
  refine y_getR rfl (ySh.t hS rfl) (ySh.n hS rfl) rfl rfl (ySh.r hS rfl) ?_
  refine y_iload_n rfl rfl ?_
  refine y_virt rfl rfl rfl rfl rfl (ySh.t hS rfl) (ySh.n hS rfl) ?_
  refine y_in (M := xm_X6_has) (ls := [some _, some _]) rfl rfl rfl ?_
  refine y_iload_n rfl rfl ?_
  refine y_if_lt rfl j_X6_has_16 (fun h_1 => ?_) (fun h_2 => ?_)
  · refine y_iconst rfl ?_
    refine y_ireturn rfl rfl rfl ?_
    refine y_ret1 ?_
    refine y_if_eqT rfl j_X8_lease_22 (by decide) ?_
    refine y_throw rfl rfl rfl ?_
    exact hE0
  · refine y_iload_n rfl rfl ?_
    refine y_aload_n rfl rfl ?_
    refine y_getI rfl (ySh.t hS rfl) (ySh.n hS rfl) rfl rfl ?_
    refine y_icmp_ge rfl j_X6_has_16 (fun h_3 => ?_) (fun h_4 => ?_)
    · refine y_iconst rfl ?_
      refine y_ireturn rfl rfl rfl ?_
      refine y_ret1 ?_
      refine y_if_eqT rfl j_X8_lease_22 (by decide) ?_
      refine y_throw rfl rfl rfl ?_
      exact hE0
    · refine y_iconst rfl ?_
      refine y_goto rfl j_X6_has_17 ?_
      refine y_ireturn rfl rfl rfl ?_
      refine y_ret1 ?_
      refine y_if_eqF rfl (by decide) ?_
      refine y_aload_n rfl rfl ?_
      refine y_getR rfl (ySh.t hS rfl) (ySh.n hS rfl) rfl rfl (ySh.r hS rfl) ?_
      refine y_iload_n rfl rfl ?_
      refine y_virt rfl rfl rfl rfl rfl (ySh.t hS rfl) (ySh.n hS rfl) ?_
      refine y_in (M := xm_X4_has) (ls := [some _, some _]) rfl rfl rfl ?_
      refine y_iload_n rfl rfl ?_
      refine y_if_lt rfl j_X4_has_16 (fun h_5 => ?_) (fun h_6 => ?_)
      · refine y_iconst rfl ?_
        refine y_ireturn rfl rfl rfl ?_
        refine y_ret1 ?_
        refine y_if_neF rfl (by decide) ?_
        refine y_throw rfl rfl rfl ?_
        exact hE0
      · refine y_iload_n rfl rfl ?_
        refine y_aload_n rfl rfl ?_
        refine y_getI rfl (ySh.t hS rfl) (ySh.n hS rfl) rfl rfl ?_
        refine y_icmp_ge rfl j_X4_has_16 (fun h_7 => ?_) (fun h_8 => ?_)
        · refine y_iconst rfl ?_
          refine y_ireturn rfl rfl rfl ?_
          refine y_ret1 ?_
          refine y_if_neF rfl (by decide) ?_
          refine y_throw rfl rfl rfl ?_
          exact hE0
        · refine y_iconst rfl ?_
          refine y_goto rfl j_X4_has_17 ?_
          refine y_ireturn rfl rfl rfl ?_
          refine y_ret1 ?_
          refine y_if_neT rfl j_X8_lease_32 (by decide) ?_
          refine y_iload_n rfl rfl ?_
          refine y_iconst rfl ?_
          refine y_bip rfl (by decide) ?_
          refine y_static rfl rfl rfl rfl rfl ?_
          refine y_in (M := xm_X8_isIn) (ls := [some _, some _, some _]) rfl rfl rfl ?_
          refine y_iload_n rfl rfl ?_
          refine y_iload_n rfl rfl ?_
          refine y_icmp_lt rfl j_X8_isIn_14 (fun h_9 => ?_) (fun h_10 => ?_)
          · rw [yz_0] at h_9
            refine y_iconst rfl ?_
            refine y_ireturn rfl rfl rfl ?_
            refine y_ret1 ?_
            refine y_if_eqT rfl j_X8_lease_59 (by decide) ?_
            refine y_throw rfl rfl rfl ?_
            exact hE1
          · rw [yz_0] at h_10
            refine y_iload_n rfl rfl ?_
            refine y_iload_n rfl rfl ?_
            refine y_icmp_gt rfl j_X8_isIn_14 (fun h_11 => ?_) (fun h_12 => ?_)
            · rw [yz_99] at h_11
              refine y_iconst rfl ?_
              refine y_ireturn rfl rfl rfl ?_
              refine y_ret1 ?_
              refine y_if_eqT rfl j_X8_lease_59 (by decide) ?_
              refine y_throw rfl rfl rfl ?_
              exact hE1
            · rw [yz_99] at h_12
              refine y_iconst rfl ?_
              refine y_goto rfl j_X8_isIn_15 ?_
              refine y_ireturn rfl rfl rfl ?_
              refine y_ret1 ?_
              refine y_if_eqF rfl (by decide) ?_
              refine y_iload rfl rfl ?_
              refine y_iconst rfl ?_
              refine y_bip rfl (by decide) ?_
              refine y_static rfl rfl rfl rfl rfl ?_
              refine y_in (M := xm_X8_isIn) (ls := [some _, some _, some _]) rfl rfl rfl ?_
              refine y_iload_n rfl rfl ?_
              refine y_iload_n rfl rfl ?_
              refine y_icmp_lt rfl j_X8_isIn_14 (fun h_13 => ?_) (fun h_14 => ?_)
              · rw [yz_0] at h_13
                refine y_iconst rfl ?_
                refine y_ireturn rfl rfl rfl ?_
                refine y_ret1 ?_
                refine y_if_eqT rfl j_X8_lease_59 (by decide) ?_
                refine y_throw rfl rfl rfl ?_
                exact hE1
              · rw [yz_0] at h_14
                refine y_iload_n rfl rfl ?_
                refine y_iload_n rfl rfl ?_
                refine y_icmp_gt rfl j_X8_isIn_14 (fun h_15 => ?_) (fun h_16 => ?_)
                · rw [yz_99] at h_15
                  refine y_iconst rfl ?_
                  refine y_ireturn rfl rfl rfl ?_
                  refine y_ret1 ?_
                  refine y_if_eqT rfl j_X8_lease_59 (by decide) ?_
                  refine y_throw rfl rfl rfl ?_
                  exact hE1
                · rw [yz_99] at h_16
                  refine y_iconst rfl ?_
                  refine y_goto rfl j_X8_isIn_15 ?_
                  refine y_ireturn rfl rfl rfl ?_
                  refine y_ret1 ?_
                  refine y_if_eqF rfl (by decide) ?_
                  refine y_iload rfl rfl ?_
                  refine y_iload_n rfl rfl ?_
                  refine y_icmp_ge rfl j_X8_lease_69 (fun h_17 => ?_) (fun h_18 => ?_)
                  · refine y_aload_n rfl rfl ?_
                    refine y_getR rfl (ySh.t hS rfl) (ySh.n hS rfl) rfl rfl (ySh.r hS rfl) ?_
                    refine y_getI rfl (ySh.t hS rfl) (ySh.n hS rfl) rfl rfl ?_
                    refine y_bip rfl (by decide) ?_
                    refine y_icmp_ge rfl j_X8_lease_90 (fun h_19 => ?_) (fun h_20 => ?_)
                    · rw [yz_8] at h_19
                      refine y_throw rfl rfl rfl ?_
                      exact hE2
                    · rw [yz_8] at h_20
                      refine y_aload_n rfl rfl ?_
                      refine y_iload_n rfl rfl ?_
                      refine y_iload_n rfl rfl ?_
                      refine y_virt rfl rfl rfl rfl rfl (ySh.t hS rfl) (ySh.n hS rfl) ?_
                      refine sp_canLease_X8 hS hC (by omega) (by omega) ?_ ?_
                      · refine y_ret1 ?_
                        refine y_if_neT rfl j_X8_lease_100 (by decide) ?_
                        refine y_aload_n rfl rfl ?_
                        refine y_getR rfl (ySh.t hS rfl) (ySh.n hS rfl) rfl rfl (ySh.r hS rfl) ?_
                        refine y_iload_n rfl rfl ?_
                        refine y_aload_n rfl rfl ?_
                        refine y_getR rfl (ySh.t hS rfl) (ySh.n hS rfl) rfl rfl (ySh.r hS rfl) ?_
                        refine y_getR rfl (ySh.t hS rfl) (ySh.n hS rfl) rfl rfl (ySh.r hS rfl) ?_
                        refine y_iload_n rfl rfl ?_
                        refine y_iaload rfl (ySh.t hS rfl) (ySh.n hS rfl) (by omega) (by omega) ?_
                        refine y_iload_n rfl rfl ?_
                        refine y_iload_n rfl rfl ?_
                        refine y_iload rfl rfl ?_
                        refine y_aload_n rfl rfl ?_
                        refine y_getI rfl (ySh.t hS rfl) (ySh.n hS rfl) rfl rfl ?_
                        refine y_virt rfl rfl rfl rfl rfl (ySh.t hS rfl) (ySh.n hS rfl) ?_
                        refine y_in (M := xm_X2_add) (ls := [some _, some _, some _, some _, some _, some _, some _]) rfl rfl rfl ?_
                        refine y_aload_n rfl rfl ?_
                        refine y_getR rfl (ySh.t hS rfl) (ySh.n hS rfl) rfl rfl (ySh.r hS rfl) ?_
                        refine y_aload_n rfl rfl ?_
                        refine y_getI rfl (ySh.t hS rfl) (ySh.n hS rfl) rfl rfl ?_
                        refine y_iload_n rfl rfl ?_
                        refine y_iastore rfl (ySh.t hS rfl) (ySh.n hS rfl) (Nat.le_of_ble_eq_true rfl) (by omega) (by omega) ?_
                        refine y_aload_n rfl rfl ?_
                        refine y_getR rfl (ySh.t hS rfl) (ySh.n hS rfl) rfl rfl (ySh.r hS rfl) ?_
                        refine y_aload_n rfl rfl ?_
                        refine y_getIv (v := I 59 0) rfl (ySh.t hS rfl) (ySh.n hS rfl) rfl rfl rfl ?_
                        refine y_iload_n rfl rfl ?_
                        refine y_iastore rfl (ySh.t hS rfl) (ySh.n hS rfl) (Nat.le_of_ble_eq_true rfl) (by omega) (by omega) ?_
                        refine y_aload_n rfl rfl ?_
                        refine y_getR rfl (ySh.t hS rfl) (ySh.n hS rfl) rfl rfl (ySh.r hS rfl) ?_
                        refine y_aload_n rfl rfl ?_
                        refine y_getIv (v := I 59 0) rfl (ySh.t hS rfl) (ySh.n hS rfl) rfl rfl rfl ?_
                        refine y_iload_n rfl rfl ?_
                        refine y_iastore rfl (ySh.t hS rfl) (ySh.n hS rfl) (Nat.le_of_ble_eq_true rfl) (by omega) (by omega) ?_
                        refine y_aload_n rfl rfl ?_
                        refine y_getR rfl (ySh.t hS rfl) (ySh.n hS rfl) rfl rfl (ySh.r hS rfl) ?_
                        refine y_aload_n rfl rfl ?_
                        refine y_getIv (v := I 59 0) rfl (ySh.t hS rfl) (ySh.n hS rfl) rfl rfl rfl ?_
                        refine y_iload rfl rfl ?_
                        refine y_iastore rfl (ySh.t hS rfl) (ySh.n hS rfl) (Nat.le_of_ble_eq_true rfl) (by omega) (by omega) ?_
                        refine y_aload_n rfl rfl ?_
                        refine y_getR rfl (ySh.t hS rfl) (ySh.n hS rfl) rfl rfl (ySh.r hS rfl) ?_
                        refine y_aload_n rfl rfl ?_
                        refine y_getIv (v := I 59 0) rfl (ySh.t hS rfl) (ySh.n hS rfl) rfl rfl rfl ?_
                        refine y_iload rfl rfl ?_
                        refine y_iastore rfl (ySh.t hS rfl) (ySh.n hS rfl) (Nat.le_of_ble_eq_true rfl) (by omega) (by omega) ?_
                        refine y_aload_n rfl rfl ?_
                        refine y_getR rfl (ySh.t hS rfl) (ySh.n hS rfl) rfl rfl (ySh.r hS rfl) ?_
                        refine y_aload_n rfl rfl ?_
                        refine y_getIv (v := I 59 0) rfl (ySh.t hS rfl) (ySh.n hS rfl) rfl rfl rfl ?_
                        refine y_iload rfl rfl ?_
                        refine y_bip rfl (by decide) ?_
                        refine y_iadd rfl ?_
                        refine y_iastore rfl (ySh.t hS rfl) (ySh.n hS rfl) (Nat.le_of_ble_eq_true rfl) (by omega) (by omega) ?_
                        refine y_aload_n rfl rfl ?_
                        refine y_dup rfl rfl ?_
                        refine y_getIv (v := I 59 0) rfl (ySh.t hS rfl) (ySh.n hS rfl) rfl rfl rfl ?_
                        refine y_dup_x1 rfl rfl rfl ?_
                        refine y_iconst rfl ?_
                        refine y_iadd rfl ?_
                        refine y_putI rfl (ySh.t hS rfl) (ySh.n hS rfl) rfl (Nat.le_of_ble_eq_true rfl) rfl rfl ?_
                        refine y_setC (yCI.inc59 hC (by show (I 59 0).toInt < 8; omega)) (fun hC => ?_)
                        refine y_ireturn rfl rfl rfl ?_
                        refine y_ret1 ?_
                        refine y_istore (ls' := [some _, some _, some _, some _, some _, some _]) rfl rfl rfl ?_
                        refine y_aload_n rfl rfl ?_
                        refine y_getR rfl (ySh.t hS rfl) (ySh.n hS rfl) rfl rfl (ySh.r hS rfl) ?_
                        refine y_getR rfl (ySh.t hS rfl) (ySh.n hS rfl) rfl rfl (ySh.r hS rfl) ?_
                        refine y_iload_n rfl rfl ?_
                        refine y_iload rfl rfl ?_
                        refine y_iastore rfl (ySh.t hS rfl) (ySh.n hS rfl) (Nat.le_of_ble_eq_true rfl) (by omega) (by omega) ?_
                        refine y_iload rfl rfl ?_
                        refine y_ireturn rfl rfl rfl ?_
                        exact hQ _ _ hC (by repeat (first | exact hF | refine yFt.upd ?_ (by decide)))
                      · refine y_ret1 ?_
                        refine y_if_neF rfl (by decide) ?_
                        refine y_throw rfl rfl rfl ?_
                        exact hE2
                  · refine y_throw rfl rfl rfl ?_
                    exact hE1
theorem m_end (hS : ySh n tg R) (hC : yCI I) {x1 x2 : Int32} (hE0 : Q (.inr "java/lang/IndexOutOfBoundsException") (n, tg, I, R) (c + 1) (s + 6)) (hE2 : Q (.inr "java/lang/IllegalStateException") (n, tg, I, R) (c + 1) (s + 6)) (hQ : ∀ v I1, yCI I1 → yFt I I1 → Q (.inl (some (.int v))) (n, tg, I1, R) c s) : yC 131 [.ref 34, .int x1, .int x2] (n, tg, I, R) c s Q := by
  have hF : yFt I I := yFt.rf
  refine y_in (M := xm_X8_end) (ls := [some _, some _, some _, _]) rfl rfl rfl ?_
  refine y_aload_n rfl rfl ?_
  refine y_getR rfl (ySh.t hS rfl) (ySh.n hS rfl) rfl rfl (ySh.r hS rfl) ?_
  refine y_iload_n rfl rfl ?_
  refine y_virt rfl rfl rfl rfl rfl (ySh.t hS rfl) (ySh.n hS rfl) ?_
  refine y_in (M := xm_X2_has) (ls := [some _, some _]) rfl rfl rfl ?_
  refine y_iload_n rfl rfl ?_
  refine y_if_lt rfl j_X2_has_16 (fun h_1 => ?_) (fun h_2 => ?_)
  · refine y_iconst rfl ?_
    refine y_ireturn rfl rfl rfl ?_
    refine y_ret1 ?_
    refine y_if_neF rfl (by decide) ?_
    refine y_throw rfl rfl rfl ?_
    exact hE0
  · refine y_iload_n rfl rfl ?_
    refine y_aload_n rfl rfl ?_
    refine y_getI rfl (ySh.t hS rfl) (ySh.n hS rfl) rfl rfl ?_
    refine y_icmp_ge rfl j_X2_has_16 (fun h_3 => ?_) (fun h_4 => ?_)
    · refine y_iconst rfl ?_
      refine y_ireturn rfl rfl rfl ?_
      refine y_ret1 ?_
      refine y_if_neF rfl (by decide) ?_
      refine y_throw rfl rfl rfl ?_
      exact hE0
    · refine y_iconst rfl ?_
      refine y_goto rfl j_X2_has_17 ?_
      refine y_ireturn rfl rfl rfl ?_
      refine y_ret1 ?_
      refine y_if_neT rfl j_X8_end_21 (by decide) ?_
      refine y_aload_n rfl rfl ?_
      refine y_getR rfl (ySh.t hS rfl) (ySh.n hS rfl) rfl rfl (ySh.r hS rfl) ?_
      refine y_getR rfl (ySh.t hS rfl) (ySh.n hS rfl) rfl rfl (ySh.r hS rfl) ?_
      refine y_iload_n rfl rfl ?_
      refine y_baload rfl (ySh.t hS rfl) rfl (ySh.n hS rfl) (by omega) (by omega) ?_
      refine y_if_eq rfl j_X8_end_43 (fun h_5 => ?_) (fun h_6 => ?_)
      · refine y_aload_n rfl rfl ?_
        refine y_getR rfl (ySh.t hS rfl) (ySh.n hS rfl) rfl rfl (ySh.r hS rfl) ?_
        refine y_iload_n rfl rfl ?_
        refine y_virt rfl rfl rfl rfl rfl (ySh.t hS rfl) (ySh.n hS rfl) ?_
        refine y_in (M := xm_X2_close) (ls := [some _, some _]) rfl rfl rfl ?_
        refine y_aload_n rfl rfl ?_
        refine y_iload_n rfl rfl ?_
        refine y_virt rfl rfl rfl rfl rfl (ySh.t hS rfl) (ySh.n hS rfl) ?_
        refine y_in (M := xm_X2_has) (ls := [some _, some _]) rfl rfl rfl ?_
        refine y_iload_n rfl rfl ?_
        refine y_if_lt rfl j_X2_has_16 (fun h_7 => ?_) (fun h_8 => ?_)
        · refine y_iconst rfl ?_
          refine y_ireturn rfl rfl rfl ?_
          refine y_ret1 ?_
          refine y_if_eqT rfl j_X2_close_15 (by decide) ?_
          refine y_return rfl ?_
          refine y_ret0 ?_
          refine y_aload_n rfl rfl ?_
          refine y_getR rfl (ySh.t hS rfl) (ySh.n hS rfl) rfl rfl (ySh.r hS rfl) ?_
          refine y_getR rfl (ySh.t hS rfl) (ySh.n hS rfl) rfl rfl (ySh.r hS rfl) ?_
          refine y_iload_n rfl rfl ?_
          refine y_iaload rfl (ySh.t hS rfl) (ySh.n hS rfl) (by omega) (by omega) ?_
          refine y_istore_n (ls' := [some _, some _, some _, some _]) rfl rfl rfl ?_
          refine y_aload_n rfl rfl ?_
          refine y_getR rfl (ySh.t hS rfl) (ySh.n hS rfl) rfl rfl (ySh.r hS rfl) ?_
          refine y_iload_n rfl rfl ?_
          refine y_virt rfl rfl rfl rfl rfl (ySh.t hS rfl) (ySh.n hS rfl) ?_
          refine y_in (M := xm_X6_has) (ls := [some _, some _]) rfl rfl rfl ?_
          refine y_iload_n rfl rfl ?_
          refine y_if_lt rfl j_X6_has_16 (fun h_9 => ?_) (fun h_10 => ?_)
          · refine y_iconst rfl ?_
            refine y_ireturn rfl rfl rfl ?_
            refine y_ret1 ?_
            refine y_if_eqT rfl j_X8_end_103 (by decide) ?_
            refine y_aload_n rfl rfl ?_
            refine y_getR rfl (ySh.t hS rfl) (ySh.n hS rfl) rfl rfl (ySh.r hS rfl) ?_
            refine y_getR rfl (ySh.t hS rfl) (ySh.n hS rfl) rfl rfl (ySh.r hS rfl) ?_
            refine y_iload_n rfl rfl ?_
            refine y_iaload rfl (ySh.t hS rfl) (ySh.n hS rfl) (by omega) (by omega) ?_
            refine y_ireturn rfl rfl rfl ?_
            exact hQ _ _ hC (by repeat (first | exact hF | refine yFt.upd ?_ (by decide)))
          · refine y_iload_n rfl rfl ?_
            refine y_aload_n rfl rfl ?_
            refine y_getI rfl (ySh.t hS rfl) (ySh.n hS rfl) rfl rfl ?_
            refine y_icmp_ge rfl j_X6_has_16 (fun h_11 => ?_) (fun h_12 => ?_)
            · refine y_iconst rfl ?_
              refine y_ireturn rfl rfl rfl ?_
              refine y_ret1 ?_
              refine y_if_eqT rfl j_X8_end_103 (by decide) ?_
              refine y_aload_n rfl rfl ?_
              refine y_getR rfl (ySh.t hS rfl) (ySh.n hS rfl) rfl rfl (ySh.r hS rfl) ?_
              refine y_getR rfl (ySh.t hS rfl) (ySh.n hS rfl) rfl rfl (ySh.r hS rfl) ?_
              refine y_iload_n rfl rfl ?_
              refine y_iaload rfl (ySh.t hS rfl) (ySh.n hS rfl) (by omega) (by omega) ?_
              refine y_ireturn rfl rfl rfl ?_
              exact hQ _ _ hC (by repeat (first | exact hF | refine yFt.upd ?_ (by decide)))
            · refine y_iconst rfl ?_
              refine y_goto rfl j_X6_has_17 ?_
              refine y_ireturn rfl rfl rfl ?_
              refine y_ret1 ?_
              refine y_if_eqF rfl (by decide) ?_
              refine y_aload_n rfl rfl ?_
              refine y_getR rfl (ySh.t hS rfl) (ySh.n hS rfl) rfl rfl (ySh.r hS rfl) ?_
              refine y_getR rfl (ySh.t hS rfl) (ySh.n hS rfl) rfl rfl (ySh.r hS rfl) ?_
              refine y_iload_n rfl rfl ?_
              refine y_iconst rfl ?_
              refine y_iastore rfl (ySh.t hS rfl) (ySh.n hS rfl) (Nat.le_of_ble_eq_true rfl) (by omega) (by omega) ?_
              refine y_iload_n rfl rfl ?_
              refine y_if_eq rfl j_X8_end_103 (fun h_13 => ?_) (fun h_14 => ?_)
              · refine y_aload_n rfl rfl ?_
                refine y_getR rfl (ySh.t hS rfl) (ySh.n hS rfl) rfl rfl (ySh.r hS rfl) ?_
                refine y_getR rfl (ySh.t hS rfl) (ySh.n hS rfl) rfl rfl (ySh.r hS rfl) ?_
                refine y_iload_n rfl rfl ?_
                refine y_iaload rfl (ySh.t hS rfl) (ySh.n hS rfl) (by omega) (by omega) ?_
                refine y_ireturn rfl rfl rfl ?_
                exact hQ _ _ hC (by repeat (first | exact hF | refine yFt.upd ?_ (by decide)))
              · refine y_aload_n rfl rfl ?_
                refine y_getR rfl (ySh.t hS rfl) (ySh.n hS rfl) rfl rfl (ySh.r hS rfl) ?_
                refine y_iload_n rfl rfl ?_
                refine y_aload_n rfl rfl ?_
                refine y_getR rfl (ySh.t hS rfl) (ySh.n hS rfl) rfl rfl (ySh.r hS rfl) ?_
                refine y_getR rfl (ySh.t hS rfl) (ySh.n hS rfl) rfl rfl (ySh.r hS rfl) ?_
                refine y_iload_n rfl rfl ?_
                refine y_iaload rfl (ySh.t hS rfl) (ySh.n hS rfl) (by omega) (by omega) ?_
                refine y_virt rfl rfl rfl rfl rfl (ySh.t hS rfl) (ySh.n hS rfl) ?_
                refine y_in (M := xm_X6_handOver) (ls := [some _, some _, some _]) rfl rfl rfl ?_
                refine y_aload_n rfl rfl ?_
                refine y_getR rfl (ySh.t hS rfl) (ySh.n hS rfl) rfl rfl (ySh.r hS rfl) ?_
                refine y_iload_n rfl rfl ?_
                refine y_iload_n rfl rfl ?_
                refine y_iastore rfl (ySh.t hS rfl) (ySh.n hS rfl) (Nat.le_of_ble_eq_true rfl) (by omega) (by omega) ?_
                refine y_aload_n rfl rfl ?_
                refine y_getR rfl (ySh.t hS rfl) (ySh.n hS rfl) rfl rfl (ySh.r hS rfl) ?_
                refine y_iload_n rfl rfl ?_
                refine y_iconst rfl ?_
                refine y_zastore rfl (ySh.t hS rfl) (ySh.n hS rfl) (Nat.le_of_ble_eq_true rfl) (by omega) (by omega) rfl ?_
                refine y_return rfl ?_
                refine y_ret0 ?_
                refine y_aload_n rfl rfl ?_
                refine y_getR rfl (ySh.t hS rfl) (ySh.n hS rfl) rfl rfl (ySh.r hS rfl) ?_
                refine y_getR rfl (ySh.t hS rfl) (ySh.n hS rfl) rfl rfl (ySh.r hS rfl) ?_
                refine y_iload_n rfl rfl ?_
                refine y_iaload rfl (ySh.t hS rfl) (ySh.n hS rfl) (by omega) (by omega) ?_
                refine y_ireturn rfl rfl rfl ?_
                exact hQ _ _ hC (by repeat (first | exact hF | refine yFt.upd ?_ (by decide)))
        · refine y_iload_n rfl rfl ?_
          refine y_aload_n rfl rfl ?_
          refine y_getI rfl (ySh.t hS rfl) (ySh.n hS rfl) rfl rfl ?_
          refine y_icmp_ge rfl j_X2_has_16 (fun h_15 => ?_) (fun h_16 => ?_)
          · refine y_iconst rfl ?_
            refine y_ireturn rfl rfl rfl ?_
            refine y_ret1 ?_
            refine y_if_eqT rfl j_X2_close_15 (by decide) ?_
            refine y_return rfl ?_
            refine y_ret0 ?_
            refine y_aload_n rfl rfl ?_
            refine y_getR rfl (ySh.t hS rfl) (ySh.n hS rfl) rfl rfl (ySh.r hS rfl) ?_
            refine y_getR rfl (ySh.t hS rfl) (ySh.n hS rfl) rfl rfl (ySh.r hS rfl) ?_
            refine y_iload_n rfl rfl ?_
            refine y_iaload rfl (ySh.t hS rfl) (ySh.n hS rfl) (by omega) (by omega) ?_
            refine y_istore_n (ls' := [some _, some _, some _, some _]) rfl rfl rfl ?_
            refine y_aload_n rfl rfl ?_
            refine y_getR rfl (ySh.t hS rfl) (ySh.n hS rfl) rfl rfl (ySh.r hS rfl) ?_
            refine y_iload_n rfl rfl ?_
            refine y_virt rfl rfl rfl rfl rfl (ySh.t hS rfl) (ySh.n hS rfl) ?_
            refine y_in (M := xm_X6_has) (ls := [some _, some _]) rfl rfl rfl ?_
            refine y_iload_n rfl rfl ?_
            refine y_if_lt rfl j_X6_has_16 (fun h_17 => ?_) (fun h_18 => ?_)
            · refine y_iconst rfl ?_
              refine y_ireturn rfl rfl rfl ?_
              refine y_ret1 ?_
              refine y_if_eqT rfl j_X8_end_103 (by decide) ?_
              refine y_aload_n rfl rfl ?_
              refine y_getR rfl (ySh.t hS rfl) (ySh.n hS rfl) rfl rfl (ySh.r hS rfl) ?_
              refine y_getR rfl (ySh.t hS rfl) (ySh.n hS rfl) rfl rfl (ySh.r hS rfl) ?_
              refine y_iload_n rfl rfl ?_
              refine y_iaload rfl (ySh.t hS rfl) (ySh.n hS rfl) (by omega) (by omega) ?_
              refine y_ireturn rfl rfl rfl ?_
              exact hQ _ _ hC (by repeat (first | exact hF | refine yFt.upd ?_ (by decide)))
            · refine y_iload_n rfl rfl ?_
              refine y_aload_n rfl rfl ?_
              refine y_getI rfl (ySh.t hS rfl) (ySh.n hS rfl) rfl rfl ?_
              refine y_icmp_ge rfl j_X6_has_16 (fun h_19 => ?_) (fun h_20 => ?_)
              · refine y_iconst rfl ?_
                refine y_ireturn rfl rfl rfl ?_
                refine y_ret1 ?_
                refine y_if_eqT rfl j_X8_end_103 (by decide) ?_
                refine y_aload_n rfl rfl ?_
                refine y_getR rfl (ySh.t hS rfl) (ySh.n hS rfl) rfl rfl (ySh.r hS rfl) ?_
                refine y_getR rfl (ySh.t hS rfl) (ySh.n hS rfl) rfl rfl (ySh.r hS rfl) ?_
                refine y_iload_n rfl rfl ?_
                refine y_iaload rfl (ySh.t hS rfl) (ySh.n hS rfl) (by omega) (by omega) ?_
                refine y_ireturn rfl rfl rfl ?_
                exact hQ _ _ hC (by repeat (first | exact hF | refine yFt.upd ?_ (by decide)))
              · refine y_iconst rfl ?_
                refine y_goto rfl j_X6_has_17 ?_
                refine y_ireturn rfl rfl rfl ?_
                refine y_ret1 ?_
                refine y_if_eqF rfl (by decide) ?_
                refine y_aload_n rfl rfl ?_
                refine y_getR rfl (ySh.t hS rfl) (ySh.n hS rfl) rfl rfl (ySh.r hS rfl) ?_
                refine y_getR rfl (ySh.t hS rfl) (ySh.n hS rfl) rfl rfl (ySh.r hS rfl) ?_
                refine y_iload_n rfl rfl ?_
                refine y_iconst rfl ?_
                refine y_iastore rfl (ySh.t hS rfl) (ySh.n hS rfl) (Nat.le_of_ble_eq_true rfl) (by omega) (by omega) ?_
                refine y_iload_n rfl rfl ?_
                refine y_if_eq rfl j_X8_end_103 (fun h_21 => ?_) (fun h_22 => ?_)
                · refine y_aload_n rfl rfl ?_
                  refine y_getR rfl (ySh.t hS rfl) (ySh.n hS rfl) rfl rfl (ySh.r hS rfl) ?_
                  refine y_getR rfl (ySh.t hS rfl) (ySh.n hS rfl) rfl rfl (ySh.r hS rfl) ?_
                  refine y_iload_n rfl rfl ?_
                  refine y_iaload rfl (ySh.t hS rfl) (ySh.n hS rfl) (by omega) (by omega) ?_
                  refine y_ireturn rfl rfl rfl ?_
                  exact hQ _ _ hC (by repeat (first | exact hF | refine yFt.upd ?_ (by decide)))
                · refine y_aload_n rfl rfl ?_
                  refine y_getR rfl (ySh.t hS rfl) (ySh.n hS rfl) rfl rfl (ySh.r hS rfl) ?_
                  refine y_iload_n rfl rfl ?_
                  refine y_aload_n rfl rfl ?_
                  refine y_getR rfl (ySh.t hS rfl) (ySh.n hS rfl) rfl rfl (ySh.r hS rfl) ?_
                  refine y_getR rfl (ySh.t hS rfl) (ySh.n hS rfl) rfl rfl (ySh.r hS rfl) ?_
                  refine y_iload_n rfl rfl ?_
                  refine y_iaload rfl (ySh.t hS rfl) (ySh.n hS rfl) (by omega) (by omega) ?_
                  refine y_virt rfl rfl rfl rfl rfl (ySh.t hS rfl) (ySh.n hS rfl) ?_
                  refine y_in (M := xm_X6_handOver) (ls := [some _, some _, some _]) rfl rfl rfl ?_
                  refine y_aload_n rfl rfl ?_
                  refine y_getR rfl (ySh.t hS rfl) (ySh.n hS rfl) rfl rfl (ySh.r hS rfl) ?_
                  refine y_iload_n rfl rfl ?_
                  refine y_iload_n rfl rfl ?_
                  refine y_iastore rfl (ySh.t hS rfl) (ySh.n hS rfl) (Nat.le_of_ble_eq_true rfl) (by omega) (by omega) ?_
                  refine y_aload_n rfl rfl ?_
                  refine y_getR rfl (ySh.t hS rfl) (ySh.n hS rfl) rfl rfl (ySh.r hS rfl) ?_
                  refine y_iload_n rfl rfl ?_
                  refine y_iconst rfl ?_
                  refine y_zastore rfl (ySh.t hS rfl) (ySh.n hS rfl) (Nat.le_of_ble_eq_true rfl) (by omega) (by omega) rfl ?_
                  refine y_return rfl ?_
                  refine y_ret0 ?_
                  refine y_aload_n rfl rfl ?_
                  refine y_getR rfl (ySh.t hS rfl) (ySh.n hS rfl) rfl rfl (ySh.r hS rfl) ?_
                  refine y_getR rfl (ySh.t hS rfl) (ySh.n hS rfl) rfl rfl (ySh.r hS rfl) ?_
                  refine y_iload_n rfl rfl ?_
                  refine y_iaload rfl (ySh.t hS rfl) (ySh.n hS rfl) (by omega) (by omega) ?_
                  refine y_ireturn rfl rfl rfl ?_
                  exact hQ _ _ hC (by repeat (first | exact hF | refine yFt.upd ?_ (by decide)))
          · refine y_iconst rfl ?_
            refine y_goto rfl j_X2_has_17 ?_
            refine y_ireturn rfl rfl rfl ?_
            refine y_ret1 ?_
            refine y_if_eqF rfl (by decide) ?_
            refine y_aload_n rfl rfl ?_
            refine y_getR rfl (ySh.t hS rfl) (ySh.n hS rfl) rfl rfl (ySh.r hS rfl) ?_
            refine y_iload_n rfl rfl ?_
            refine y_iconst rfl ?_
            refine y_zastore rfl (ySh.t hS rfl) (ySh.n hS rfl) (Nat.le_of_ble_eq_true rfl) (by omega) (by omega) rfl ?_
            refine y_return rfl ?_
            refine y_ret0 ?_
            refine y_aload_n rfl rfl ?_
            refine y_getR rfl (ySh.t hS rfl) (ySh.n hS rfl) rfl rfl (ySh.r hS rfl) ?_
            refine y_getR rfl (ySh.t hS rfl) (ySh.n hS rfl) rfl rfl (ySh.r hS rfl) ?_
            refine y_iload_n rfl rfl ?_
            refine y_iaload rfl (ySh.t hS rfl) (ySh.n hS rfl) (by omega) (by omega) ?_
            refine y_istore_n (ls' := [some _, some _, some _, some _]) rfl rfl rfl ?_
            refine y_aload_n rfl rfl ?_
            refine y_getR rfl (ySh.t hS rfl) (ySh.n hS rfl) rfl rfl (ySh.r hS rfl) ?_
            refine y_iload_n rfl rfl ?_
            refine y_virt rfl rfl rfl rfl rfl (ySh.t hS rfl) (ySh.n hS rfl) ?_
            refine y_in (M := xm_X6_has) (ls := [some _, some _]) rfl rfl rfl ?_
            refine y_iload_n rfl rfl ?_
            refine y_if_lt rfl j_X6_has_16 (fun h_23 => ?_) (fun h_24 => ?_)
            · refine y_iconst rfl ?_
              refine y_ireturn rfl rfl rfl ?_
              refine y_ret1 ?_
              refine y_if_eqT rfl j_X8_end_103 (by decide) ?_
              refine y_aload_n rfl rfl ?_
              refine y_getR rfl (ySh.t hS rfl) (ySh.n hS rfl) rfl rfl (ySh.r hS rfl) ?_
              refine y_getR rfl (ySh.t hS rfl) (ySh.n hS rfl) rfl rfl (ySh.r hS rfl) ?_
              refine y_iload_n rfl rfl ?_
              refine y_iaload rfl (ySh.t hS rfl) (ySh.n hS rfl) (by omega) (by omega) ?_
              refine y_ireturn rfl rfl rfl ?_
              exact hQ _ _ hC (by repeat (first | exact hF | refine yFt.upd ?_ (by decide)))
            · refine y_iload_n rfl rfl ?_
              refine y_aload_n rfl rfl ?_
              refine y_getIv (v := I 40 0) rfl (ySh.t hS rfl) (ySh.n hS rfl) rfl rfl rfl ?_
              refine y_icmp_ge rfl j_X6_has_16 (fun h_25 => ?_) (fun h_26 => ?_)
              · refine y_iconst rfl ?_
                refine y_ireturn rfl rfl rfl ?_
                refine y_ret1 ?_
                refine y_if_eqT rfl j_X8_end_103 (by decide) ?_
                refine y_aload_n rfl rfl ?_
                refine y_getR rfl (ySh.t hS rfl) (ySh.n hS rfl) rfl rfl (ySh.r hS rfl) ?_
                refine y_getR rfl (ySh.t hS rfl) (ySh.n hS rfl) rfl rfl (ySh.r hS rfl) ?_
                refine y_iload_n rfl rfl ?_
                refine y_iaload rfl (ySh.t hS rfl) (ySh.n hS rfl) (by omega) (by omega) ?_
                refine y_ireturn rfl rfl rfl ?_
                exact hQ _ _ hC (by repeat (first | exact hF | refine yFt.upd ?_ (by decide)))
              · refine y_iconst rfl ?_
                refine y_goto rfl j_X6_has_17 ?_
                refine y_ireturn rfl rfl rfl ?_
                refine y_ret1 ?_
                refine y_if_eqF rfl (by decide) ?_
                refine y_aload_n rfl rfl ?_
                refine y_getR rfl (ySh.t hS rfl) (ySh.n hS rfl) rfl rfl (ySh.r hS rfl) ?_
                refine y_getR rfl (ySh.t hS rfl) (ySh.n hS rfl) rfl rfl (ySh.r hS rfl) ?_
                refine y_iload_n rfl rfl ?_
                refine y_iconst rfl ?_
                refine y_iastore rfl (ySh.t hS rfl) (ySh.n hS rfl) (Nat.le_of_ble_eq_true rfl) (by omega) (by omega) ?_
                refine y_iload_n rfl rfl ?_
                refine y_if_eq rfl j_X8_end_103 (fun h_27 => ?_) (fun h_28 => ?_)
                · refine y_aload_n rfl rfl ?_
                  refine y_getR rfl (ySh.t hS rfl) (ySh.n hS rfl) rfl rfl (ySh.r hS rfl) ?_
                  refine y_getR rfl (ySh.t hS rfl) (ySh.n hS rfl) rfl rfl (ySh.r hS rfl) ?_
                  refine y_iload_n rfl rfl ?_
                  refine y_iaload rfl (ySh.t hS rfl) (ySh.n hS rfl) (by omega) (by omega) ?_
                  refine y_ireturn rfl rfl rfl ?_
                  exact hQ _ _ hC (by repeat (first | exact hF | refine yFt.upd ?_ (by decide)))
                · refine y_aload_n rfl rfl ?_
                  refine y_getR rfl (ySh.t hS rfl) (ySh.n hS rfl) rfl rfl (ySh.r hS rfl) ?_
                  refine y_iload_n rfl rfl ?_
                  refine y_aload_n rfl rfl ?_
                  refine y_getR rfl (ySh.t hS rfl) (ySh.n hS rfl) rfl rfl (ySh.r hS rfl) ?_
                  refine y_getR rfl (ySh.t hS rfl) (ySh.n hS rfl) rfl rfl (ySh.r hS rfl) ?_
                  refine y_iload_n rfl rfl ?_
                  refine y_iaload rfl (ySh.t hS rfl) (ySh.n hS rfl) (by omega) (by omega) ?_
                  refine y_virt rfl rfl rfl rfl rfl (ySh.t hS rfl) (ySh.n hS rfl) ?_
                  refine y_in (M := xm_X6_handOver) (ls := [some _, some _, some _]) rfl rfl rfl ?_
                  refine y_aload_n rfl rfl ?_
                  refine y_getR rfl (ySh.t hS rfl) (ySh.n hS rfl) rfl rfl (ySh.r hS rfl) ?_
                  refine y_iload_n rfl rfl ?_
                  refine y_iload_n rfl rfl ?_
                  refine y_iastore rfl (ySh.t hS rfl) (ySh.n hS rfl) (Nat.le_of_ble_eq_true rfl) (by omega) (by omega) ?_
                  refine y_aload_n rfl rfl ?_
                  refine y_getR rfl (ySh.t hS rfl) (ySh.n hS rfl) rfl rfl (ySh.r hS rfl) ?_
                  refine y_iload_n rfl rfl ?_
                  refine y_iconst rfl ?_
                  refine y_zastore rfl (ySh.t hS rfl) (ySh.n hS rfl) (Nat.le_of_ble_eq_true rfl) (by omega) (by omega) rfl ?_
                  refine y_return rfl ?_
                  refine y_ret0 ?_
                  refine y_aload_n rfl rfl ?_
                  refine y_getR rfl (ySh.t hS rfl) (ySh.n hS rfl) rfl rfl (ySh.r hS rfl) ?_
                  refine y_getR rfl (ySh.t hS rfl) (ySh.n hS rfl) rfl rfl (ySh.r hS rfl) ?_
                  refine y_iload_n rfl rfl ?_
                  refine y_iaload rfl (ySh.t hS rfl) (ySh.n hS rfl) (by omega) (by omega) ?_
                  refine y_ireturn rfl rfl rfl ?_
                  exact hQ _ _ hC (by repeat (first | exact hF | refine yFt.upd ?_ (by decide)))
      · refine y_throw rfl rfl rfl ?_
        exact hE2
theorem m_join (hS : ySh n tg R) (hC : yCI I) {x1 x2 x3 x4 : Int32} (hE0 : Q (.inr "java/lang/IndexOutOfBoundsException") (n, tg, I, R) (c + 1) (s + 6)) (hE1 : Q (.inr "java/lang/IllegalArgumentException") (n, tg, I, R) (c + 1) (s + 6)) (hE2 : Q (.inr "java/lang/IllegalStateException") (n, tg, I, R) (c + 1) (s + 6)) (hQ : ∀ v I1, yCI I1 → yFt I I1 → Q (.inl (some (.int v))) (n, tg, I1, R) c s) : yC 133 [.ref 34, .int x1, .int x2, .int x3, .int x4] (n, tg, I, R) c s Q := by
  have hF : yFt I I := yFt.rf
  refine y_in (M := xm_X8_join) (ls := [some _, some _, some _, some _, some _, _]) rfl rfl rfl ?_
  refine y_aload_n rfl rfl ?_
  refine y_getR rfl (ySh.t hS rfl) (ySh.n hS rfl) rfl rfl (ySh.r hS rfl) ?_
  refine y_iload_n rfl rfl ?_
  refine y_virt rfl rfl rfl rfl rfl (ySh.t hS rfl) (ySh.n hS rfl) ?_
  refine y_in (M := xm_X7_has) (ls := [some _, some _]) rfl rfl rfl ?_
  refine y_iload_n rfl rfl ?_
  refine y_if_lt rfl j_X7_has_16 (fun h_1 => ?_) (fun h_2 => ?_)
  · refine y_iconst rfl ?_
    refine y_ireturn rfl rfl rfl ?_
    refine y_ret1 ?_
    refine y_if_eqT rfl j_X8_join_19 (by decide) ?_
    refine y_throw rfl rfl rfl ?_
    exact hE0
  · refine y_iload_n rfl rfl ?_
    refine y_aload_n rfl rfl ?_
    refine y_getI rfl (ySh.t hS rfl) (ySh.n hS rfl) rfl rfl ?_
    refine y_icmp_ge rfl j_X7_has_16 (fun h_3 => ?_) (fun h_4 => ?_)
    · refine y_iconst rfl ?_
      refine y_ireturn rfl rfl rfl ?_
      refine y_ret1 ?_
      refine y_if_eqT rfl j_X8_join_19 (by decide) ?_
      refine y_throw rfl rfl rfl ?_
      exact hE0
    · refine y_iconst rfl ?_
      refine y_goto rfl j_X7_has_17 ?_
      refine y_ireturn rfl rfl rfl ?_
      refine y_ret1 ?_
      refine y_if_eqF rfl (by decide) ?_
      refine y_aload_n rfl rfl ?_
      refine y_iload_n rfl rfl ?_
      refine y_virt rfl rfl rfl rfl rfl (ySh.t hS rfl) (ySh.n hS rfl) ?_
      refine y_in (M := xm_X8_isParty) (ls := [some _, some _]) rfl rfl rfl ?_
      refine y_iload_n rfl rfl ?_
      refine y_iconst rfl ?_
      refine y_icmp_eq rfl j_X8_isParty_16 (fun h_5 => ?_) (fun h_6 => ?_)
      · rw [yz_m1] at h_5
        refine y_iconst rfl ?_
        refine y_goto rfl j_X8_isParty_21 ?_
        refine y_ireturn rfl rfl rfl ?_
        refine y_ret1 ?_
        refine y_if_neT rfl j_X8_join_30 (by decide) ?_
        refine y_iload_n rfl rfl ?_
        refine y_iconst rfl ?_
        refine y_sip rfl (by decide) ?_
        refine y_static rfl rfl rfl rfl rfl ?_
        refine y_in (M := xm_X8_isIn) (ls := [some _, some _, some _]) rfl rfl rfl ?_
        refine y_iload_n rfl rfl ?_
        refine y_iload_n rfl rfl ?_
        refine y_icmp_lt rfl j_X8_isIn_14 (fun h_7 => ?_) (fun h_8 => ?_)
        · rw [yz_1] at h_7
          refine y_iconst rfl ?_
          refine y_ireturn rfl rfl rfl ?_
          refine y_ret1 ?_
          refine y_if_eqT rfl j_X8_join_52 (by decide) ?_
          refine y_throw rfl rfl rfl ?_
          exact hE1
        · rw [yz_1] at h_8
          refine y_iload_n rfl rfl ?_
          refine y_iload_n rfl rfl ?_
          refine y_icmp_gt rfl j_X8_isIn_14 (fun h_9 => ?_) (fun h_10 => ?_)
          · rw [yz_999] at h_9
            refine y_iconst rfl ?_
            refine y_ireturn rfl rfl rfl ?_
            refine y_ret1 ?_
            refine y_if_eqT rfl j_X8_join_52 (by decide) ?_
            refine y_throw rfl rfl rfl ?_
            exact hE1
          · rw [yz_999] at h_10
            refine y_iconst rfl ?_
            refine y_goto rfl j_X8_isIn_15 ?_
            refine y_ireturn rfl rfl rfl ?_
            refine y_ret1 ?_
            refine y_if_eqF rfl (by decide) ?_
            refine y_iload rfl rfl ?_
            refine y_iconst rfl ?_
            refine y_bip rfl (by decide) ?_
            refine y_static rfl rfl rfl rfl rfl ?_
            refine y_in (M := xm_X8_isIn) (ls := [some _, some _, some _]) rfl rfl rfl ?_
            refine y_iload_n rfl rfl ?_
            refine y_iload_n rfl rfl ?_
            refine y_icmp_lt rfl j_X8_isIn_14 (fun h_11 => ?_) (fun h_12 => ?_)
            · rw [yz_0] at h_11
              refine y_iconst rfl ?_
              refine y_ireturn rfl rfl rfl ?_
              refine y_ret1 ?_
              refine y_if_neF rfl (by decide) ?_
              refine y_throw rfl rfl rfl ?_
              exact hE1
            · rw [yz_0] at h_12
              refine y_iload_n rfl rfl ?_
              refine y_iload_n rfl rfl ?_
              refine y_icmp_gt rfl j_X8_isIn_14 (fun h_13 => ?_) (fun h_14 => ?_)
              · rw [yz_100] at h_13
                refine y_iconst rfl ?_
                refine y_ireturn rfl rfl rfl ?_
                refine y_ret1 ?_
                refine y_if_neF rfl (by decide) ?_
                refine y_throw rfl rfl rfl ?_
                exact hE1
              · rw [yz_100] at h_14
                refine y_iconst rfl ?_
                refine y_goto rfl j_X8_isIn_15 ?_
                refine y_ireturn rfl rfl rfl ?_
                refine y_ret1 ?_
                refine y_if_neT rfl j_X8_join_63 (by decide) ?_
                refine y_iload_n rfl rfl ?_
                refine y_static rfl rfl rfl rfl rfl ?_
                refine y_in (M := xm_X8_placeOf) (ls := [some _]) rfl rfl rfl ?_
                refine y_iload_n rfl rfl ?_
                refine y_iconst rfl ?_
                refine y_icmp_ne rfl j_X8_placeOf_10 (fun h_15 => ?_) (fun h_16 => ?_)
                · rw [yz_m1] at h_15
                  refine y_iload_n rfl rfl ?_
                  refine y_ireturn rfl rfl rfl ?_
                  refine y_ret1 ?_
                  refine y_istore (ls' := [some _, some _, some _, some _, some _, some _]) rfl rfl rfl ?_
                  refine y_aload_n rfl rfl ?_
                  refine y_getR rfl (ySh.t hS rfl) (ySh.n hS rfl) rfl rfl (ySh.r hS rfl) ?_
                  refine y_iload_n rfl rfl ?_
                  refine y_iload rfl rfl ?_
                  refine y_virt rfl rfl rfl rfl rfl (ySh.t hS rfl) (ySh.n hS rfl) ?_
                  refine y_in (M := xm_X7_isPartner) (ls := [some _, some _, some _]) rfl rfl rfl ?_
                  refine y_aload_n rfl rfl ?_
                  refine y_getR rfl (ySh.t hS rfl) (ySh.n hS rfl) rfl rfl (ySh.r hS rfl) ?_
                  refine y_aload_n rfl rfl ?_
                  refine y_iload_n rfl rfl ?_
                  refine y_iload_n rfl rfl ?_
                  refine y_virt rfl rfl rfl rfl rfl (ySh.t hS rfl) (ySh.n hS rfl) ?_
                  refine sp_at (by omega) (by omega) (by omega) (by omega) (fun z_ hz17 => ?_)
                  refine y_ret1 ?_
                  refine y_baload rfl (ySh.t hS rfl) rfl (ySh.n hS rfl) (by omega) (by omega) ?_
                  refine y_ireturn rfl rfl (xfit_z (hC.p _)) ?_
                  refine y_ret1 ?_
                  refine y_if_ne rfl j_X8_join_112 (fun h_18 => ?_) (fun h_19 => ?_)
                  · refine y_throw rfl rfl rfl ?_
                    exact hE2
                  · refine y_aload_n rfl rfl ?_
                    refine y_getR rfl (ySh.t hS rfl) (ySh.n hS rfl) rfl rfl (ySh.r hS rfl) ?_
                    refine y_getR rfl (ySh.t hS rfl) (ySh.n hS rfl) rfl rfl (ySh.r hS rfl) ?_
                    refine y_iload rfl rfl ?_
                    refine y_iaload rfl (ySh.t hS rfl) (ySh.n hS rfl) (by omega) (by omega) ?_
                    refine y_iload_n rfl rfl ?_
                    refine y_icmp_lt rfl j_X8_join_112 (fun h_20 => ?_) (fun h_21 => ?_)
                    · refine y_throw rfl rfl rfl ?_
                      exact hE2
                    · refine y_aload_n rfl rfl ?_
                      refine y_getR rfl (ySh.t hS rfl) (ySh.n hS rfl) rfl rfl (ySh.r hS rfl) ?_
                      refine y_iload_n rfl rfl ?_
                      refine y_virt rfl rfl rfl rfl rfl (ySh.t hS rfl) (ySh.n hS rfl) ?_
                      refine sp_shares_X7 hS hC (by omega) (by omega) (fun v_ => ?_)
                      refine y_ret1 ?_
                      refine y_iload rfl rfl ?_
                      refine y_iadd rfl ?_
                      refine y_bip rfl (by decide) ?_
                      refine y_icmp_le rfl j_X8_join_123 (fun h_22 => ?_) (fun h_23 => ?_)
                      · rw [yz_100] at h_22
                        refine y_aload_n rfl rfl ?_
                        refine y_getR rfl (ySh.t hS rfl) (ySh.n hS rfl) rfl rfl (ySh.r hS rfl) ?_
                        refine y_iload rfl rfl ?_
                        refine y_iload_n rfl rfl ?_
                        refine y_ineg rfl ?_
                        refine y_virt rfl rfl rfl rfl rfl (ySh.t hS rfl) (ySh.n hS rfl) ?_
                        refine sp_add_X4 hS hC (fun I34 hC hF1 => ?_)
                        have hF : yFt I I34 := yFt.trans (by repeat (first | exact hF | refine yFt.upd ?_ (by decide))) hF1.t
                        have hd : (I34 34 8).toInt = (I 34 8).toInt := congrArg Int32.toInt (hF1 34 8 (Or.inl (by decide)))
                        refine y_ret0 ?_
                        refine y_aload_n rfl rfl ?_
                        refine y_getR rfl (ySh.t hS rfl) (ySh.n hS rfl) rfl rfl (ySh.r hS rfl) ?_
                        refine y_iload_n rfl rfl ?_
                        refine y_iload rfl rfl ?_
                        refine y_iload_n rfl rfl ?_
                        refine y_iload rfl rfl ?_
                        refine y_virt rfl rfl rfl rfl rfl (ySh.t hS rfl) (ySh.n hS rfl) ?_
                        refine y_in (M := xm_X7_admit) (ls := [some _, some _, some _, some _, some _, _]) rfl rfl rfl ?_
                        refine y_aload_n rfl rfl ?_
                        refine y_iload_n rfl rfl ?_
                        refine y_iload_n rfl rfl ?_
                        refine y_virt rfl rfl rfl rfl rfl (ySh.t hS rfl) (ySh.n hS rfl) ?_
                        refine sp_at (by omega) (by omega) (by omega) (by omega) (fun z_ hz25 => ?_)
                        refine y_ret1 ?_
                        refine y_istore (ls' := [some _, some _, some _, some _, some _, some _]) rfl rfl rfl ?_
                        refine y_aload_n rfl rfl ?_
                        refine y_getR rfl (ySh.t hS rfl) (ySh.n hS rfl) rfl rfl (ySh.r hS rfl) ?_
                        refine y_iload rfl rfl ?_
                        refine y_iconst rfl ?_
                        refine y_zastore rfl (ySh.t hS rfl) (ySh.n hS rfl) (Nat.le_of_ble_eq_true rfl) (by omega) (by omega) rfl ?_
                        refine y_setC (yCI.par hC (.inr (by decide))) (fun hC => ?_)
                        refine y_aload_n rfl rfl ?_
                        refine y_getR rfl (ySh.t hS rfl) (ySh.n hS rfl) rfl rfl (ySh.r hS rfl) ?_
                        refine y_iload rfl rfl ?_
                        refine y_iload_n rfl rfl ?_
                        refine y_iastore rfl (ySh.t hS rfl) (ySh.n hS rfl) (Nat.le_of_ble_eq_true rfl) (by omega) (by omega) ?_
                        refine y_aload_n rfl rfl ?_
                        refine y_getR rfl (ySh.t hS rfl) (ySh.n hS rfl) rfl rfl (ySh.r hS rfl) ?_
                        refine y_iload rfl rfl ?_
                        refine y_iload rfl rfl ?_
                        refine y_iastore rfl (ySh.t hS rfl) (ySh.n hS rfl) (Nat.le_of_ble_eq_true rfl) (by omega) (by omega) ?_
                        refine y_return rfl ?_
                        refine y_ret0 ?_
                        refine y_aload_n rfl rfl ?_
                        refine y_getR rfl (ySh.t hS rfl) (ySh.n hS rfl) rfl rfl (ySh.r hS rfl) ?_
                        refine y_iload_n rfl rfl ?_
                        refine y_virt rfl rfl rfl rfl rfl (ySh.t hS rfl) (ySh.n hS rfl) ?_
                        refine y_setCC (by exact hC) (fun hC => ?_)
                        refine sp_shares_X7 hS hC (by omega) (by omega) (fun v_ => ?_)
                        refine y_ret1 ?_
                        refine y_ireturn rfl rfl rfl ?_
                        exact hQ _ _ hC (by repeat (first | exact hF | refine yFt.upd ?_ (by decide)))
                      · rw [yz_100] at h_23
                        refine y_throw rfl rfl rfl ?_
                        exact hE2
                · rw [yz_m1] at h_16
                  refine y_bip rfl (by decide) ?_
                  refine y_goto rfl j_X8_placeOf_11 ?_
                  refine y_ireturn rfl rfl rfl ?_
                  refine y_ret1 ?_
                  refine y_istore (ls' := [some _, some _, some _, some _, some _, some _]) rfl rfl rfl ?_
                  refine y_aload_n rfl rfl ?_
                  refine y_getR rfl (ySh.t hS rfl) (ySh.n hS rfl) rfl rfl (ySh.r hS rfl) ?_
                  refine y_iload_n rfl rfl ?_
                  refine y_iload rfl rfl ?_
                  refine y_virt rfl rfl rfl rfl rfl (ySh.t hS rfl) (ySh.n hS rfl) ?_
                  refine y_in (M := xm_X7_isPartner) (ls := [some _, some _, some _]) rfl rfl rfl ?_
                  refine y_aload_n rfl rfl ?_
                  refine y_getR rfl (ySh.t hS rfl) (ySh.n hS rfl) rfl rfl (ySh.r hS rfl) ?_
                  refine y_aload_n rfl rfl ?_
                  refine y_iload_n rfl rfl ?_
                  refine y_iload_n rfl rfl ?_
                  refine y_virt rfl rfl rfl rfl rfl (ySh.t hS rfl) (ySh.n hS rfl) ?_
                  refine sp_at (by omega) (by omega) (by decide) (by decide) (fun z_ hz26 => ?_)
                  rw [yz_8] at hz26
                  refine y_ret1 ?_
                  refine y_baload rfl (ySh.t hS rfl) rfl (ySh.n hS rfl) (by omega) (by omega) ?_
                  refine y_ireturn rfl rfl (xfit_z (hC.p _)) ?_
                  refine y_ret1 ?_
                  refine y_if_ne rfl j_X8_join_112 (fun h_27 => ?_) (fun h_28 => ?_)
                  · refine y_throw rfl rfl rfl ?_
                    exact hE2
                  · refine y_aload_n rfl rfl ?_
                    refine y_getR rfl (ySh.t hS rfl) (ySh.n hS rfl) rfl rfl (ySh.r hS rfl) ?_
                    refine y_getR rfl (ySh.t hS rfl) (ySh.n hS rfl) rfl rfl (ySh.r hS rfl) ?_
                    refine y_iload rfl rfl ?_
                    refine y_iaload rfl (ySh.t hS rfl) (ySh.n hS rfl) (by decide) (by decide) ?_
                    refine y_iload_n rfl rfl ?_
                    refine y_icmp_lt rfl j_X8_join_112 (fun h_29 => ?_) (fun h_30 => ?_)
                    · refine y_throw rfl rfl rfl ?_
                      exact hE2
                    · refine y_aload_n rfl rfl ?_
                      refine y_getR rfl (ySh.t hS rfl) (ySh.n hS rfl) rfl rfl (ySh.r hS rfl) ?_
                      refine y_iload_n rfl rfl ?_
                      refine y_virt rfl rfl rfl rfl rfl (ySh.t hS rfl) (ySh.n hS rfl) ?_
                      refine sp_shares_X7 hS hC (by omega) (by omega) (fun v_ => ?_)
                      refine y_ret1 ?_
                      refine y_iload rfl rfl ?_
                      refine y_iadd rfl ?_
                      refine y_bip rfl (by decide) ?_
                      refine y_icmp_le rfl j_X8_join_123 (fun h_31 => ?_) (fun h_32 => ?_)
                      · rw [yz_100] at h_31
                        refine y_aload_n rfl rfl ?_
                        refine y_getR rfl (ySh.t hS rfl) (ySh.n hS rfl) rfl rfl (ySh.r hS rfl) ?_
                        refine y_iload rfl rfl ?_
                        refine y_iload_n rfl rfl ?_
                        refine y_ineg rfl ?_
                        refine y_virt rfl rfl rfl rfl rfl (ySh.t hS rfl) (ySh.n hS rfl) ?_
                        refine sp_add_X4 hS hC (fun I43 hC hF1 => ?_)
                        have hF : yFt I I43 := yFt.trans (by repeat (first | exact hF | refine yFt.upd ?_ (by decide))) hF1.t
                        have hd : (I43 34 8).toInt = (I 34 8).toInt := congrArg Int32.toInt (hF1 34 8 (Or.inl (by decide)))
                        refine y_ret0 ?_
                        refine y_aload_n rfl rfl ?_
                        refine y_getR rfl (ySh.t hS rfl) (ySh.n hS rfl) rfl rfl (ySh.r hS rfl) ?_
                        refine y_iload_n rfl rfl ?_
                        refine y_iload rfl rfl ?_
                        refine y_iload_n rfl rfl ?_
                        refine y_iload rfl rfl ?_
                        refine y_virt rfl rfl rfl rfl rfl (ySh.t hS rfl) (ySh.n hS rfl) ?_
                        refine y_in (M := xm_X7_admit) (ls := [some _, some _, some _, some _, some _, _]) rfl rfl rfl ?_
                        refine y_aload_n rfl rfl ?_
                        refine y_iload_n rfl rfl ?_
                        refine y_iload_n rfl rfl ?_
                        refine y_virt rfl rfl rfl rfl rfl (ySh.t hS rfl) (ySh.n hS rfl) ?_
                        refine sp_at (by omega) (by omega) (by decide) (by decide) (fun z_ hz34 => ?_)
                        rw [yz_8] at hz34
                        refine y_ret1 ?_
                        refine y_istore (ls' := [some _, some _, some _, some _, some _, some _]) rfl rfl rfl ?_
                        refine y_aload_n rfl rfl ?_
                        refine y_getR rfl (ySh.t hS rfl) (ySh.n hS rfl) rfl rfl (ySh.r hS rfl) ?_
                        refine y_iload rfl rfl ?_
                        refine y_iconst rfl ?_
                        refine y_zastore rfl (ySh.t hS rfl) (ySh.n hS rfl) (Nat.le_of_ble_eq_true rfl) (by omega) (by omega) rfl ?_
                        refine y_setC (yCI.par hC (.inr (by decide))) (fun hC => ?_)
                        refine y_aload_n rfl rfl ?_
                        refine y_getR rfl (ySh.t hS rfl) (ySh.n hS rfl) rfl rfl (ySh.r hS rfl) ?_
                        refine y_iload rfl rfl ?_
                        refine y_iload_n rfl rfl ?_
                        refine y_iastore rfl (ySh.t hS rfl) (ySh.n hS rfl) (Nat.le_of_ble_eq_true rfl) (by omega) (by omega) ?_
                        refine y_aload_n rfl rfl ?_
                        refine y_getR rfl (ySh.t hS rfl) (ySh.n hS rfl) rfl rfl (ySh.r hS rfl) ?_
                        refine y_iload rfl rfl ?_
                        refine y_iload rfl rfl ?_
                        refine y_iastore rfl (ySh.t hS rfl) (ySh.n hS rfl) (Nat.le_of_ble_eq_true rfl) (by omega) (by omega) ?_
                        refine y_return rfl ?_
                        refine y_ret0 ?_
                        refine y_aload_n rfl rfl ?_
                        refine y_getR rfl (ySh.t hS rfl) (ySh.n hS rfl) rfl rfl (ySh.r hS rfl) ?_
                        refine y_iload_n rfl rfl ?_
                        refine y_virt rfl rfl rfl rfl rfl (ySh.t hS rfl) (ySh.n hS rfl) ?_
                        refine y_setCC (by exact hC) (fun hC => ?_)
                        refine sp_shares_X7 hS hC (by omega) (by omega) (fun v_ => ?_)
                        refine y_ret1 ?_
                        refine y_ireturn rfl rfl rfl ?_
                        exact hQ _ _ hC (by repeat (first | exact hF | refine yFt.upd ?_ (by decide)))
                      · rw [yz_100] at h_32
                        refine y_throw rfl rfl rfl ?_
                        exact hE2
      · rw [yz_m1] at h_6
        refine y_aload_n rfl rfl ?_
        refine y_getR rfl (ySh.t hS rfl) (ySh.n hS rfl) rfl rfl (ySh.r hS rfl) ?_
        refine y_iload_n rfl rfl ?_
        refine y_virt rfl rfl rfl rfl rfl (ySh.t hS rfl) (ySh.n hS rfl) ?_
        refine y_in (M := xm_X4_has) (ls := [some _, some _]) rfl rfl rfl ?_
        refine y_iload_n rfl rfl ?_
        refine y_if_lt rfl j_X4_has_16 (fun h_35 => ?_) (fun h_36 => ?_)
        · refine y_iconst rfl ?_
          refine y_ireturn rfl rfl rfl ?_
          refine y_ret1 ?_
          refine y_if_eqT rfl j_X8_isParty_20 (by decide) ?_
          refine y_iconst rfl ?_
          refine y_ireturn rfl rfl rfl ?_
          refine y_ret1 ?_
          refine y_if_neF rfl (by decide) ?_
          refine y_throw rfl rfl rfl ?_
          exact hE0
        · refine y_iload_n rfl rfl ?_
          refine y_aload_n rfl rfl ?_
          refine y_getI rfl (ySh.t hS rfl) (ySh.n hS rfl) rfl rfl ?_
          refine y_icmp_ge rfl j_X4_has_16 (fun h_37 => ?_) (fun h_38 => ?_)
          · refine y_iconst rfl ?_
            refine y_ireturn rfl rfl rfl ?_
            refine y_ret1 ?_
            refine y_if_eqT rfl j_X8_isParty_20 (by decide) ?_
            refine y_iconst rfl ?_
            refine y_ireturn rfl rfl rfl ?_
            refine y_ret1 ?_
            refine y_if_neF rfl (by decide) ?_
            refine y_throw rfl rfl rfl ?_
            exact hE0
          · refine y_iconst rfl ?_
            refine y_goto rfl j_X4_has_17 ?_
            refine y_ireturn rfl rfl rfl ?_
            refine y_ret1 ?_
            refine y_if_eqF rfl (by decide) ?_
            refine y_iconst rfl ?_
            refine y_goto rfl j_X8_isParty_21 ?_
            refine y_ireturn rfl rfl rfl ?_
            refine y_ret1 ?_
            refine y_if_neT rfl j_X8_join_30 (by decide) ?_
            refine y_iload_n rfl rfl ?_
            refine y_iconst rfl ?_
            refine y_sip rfl (by decide) ?_
            refine y_static rfl rfl rfl rfl rfl ?_
            refine y_in (M := xm_X8_isIn) (ls := [some _, some _, some _]) rfl rfl rfl ?_
            refine y_iload_n rfl rfl ?_
            refine y_iload_n rfl rfl ?_
            refine y_icmp_lt rfl j_X8_isIn_14 (fun h_39 => ?_) (fun h_40 => ?_)
            · rw [yz_1] at h_39
              refine y_iconst rfl ?_
              refine y_ireturn rfl rfl rfl ?_
              refine y_ret1 ?_
              refine y_if_eqT rfl j_X8_join_52 (by decide) ?_
              refine y_throw rfl rfl rfl ?_
              exact hE1
            · rw [yz_1] at h_40
              refine y_iload_n rfl rfl ?_
              refine y_iload_n rfl rfl ?_
              refine y_icmp_gt rfl j_X8_isIn_14 (fun h_41 => ?_) (fun h_42 => ?_)
              · rw [yz_999] at h_41
                refine y_iconst rfl ?_
                refine y_ireturn rfl rfl rfl ?_
                refine y_ret1 ?_
                refine y_if_eqT rfl j_X8_join_52 (by decide) ?_
                refine y_throw rfl rfl rfl ?_
                exact hE1
              · rw [yz_999] at h_42
                refine y_iconst rfl ?_
                refine y_goto rfl j_X8_isIn_15 ?_
                refine y_ireturn rfl rfl rfl ?_
                refine y_ret1 ?_
                refine y_if_eqF rfl (by decide) ?_
                refine y_iload rfl rfl ?_
                refine y_iconst rfl ?_
                refine y_bip rfl (by decide) ?_
                refine y_static rfl rfl rfl rfl rfl ?_
                refine y_in (M := xm_X8_isIn) (ls := [some _, some _, some _]) rfl rfl rfl ?_
                refine y_iload_n rfl rfl ?_
                refine y_iload_n rfl rfl ?_
                refine y_icmp_lt rfl j_X8_isIn_14 (fun h_43 => ?_) (fun h_44 => ?_)
                · rw [yz_0] at h_43
                  refine y_iconst rfl ?_
                  refine y_ireturn rfl rfl rfl ?_
                  refine y_ret1 ?_
                  refine y_if_neF rfl (by decide) ?_
                  refine y_throw rfl rfl rfl ?_
                  exact hE1
                · rw [yz_0] at h_44
                  refine y_iload_n rfl rfl ?_
                  refine y_iload_n rfl rfl ?_
                  refine y_icmp_gt rfl j_X8_isIn_14 (fun h_45 => ?_) (fun h_46 => ?_)
                  · rw [yz_100] at h_45
                    refine y_iconst rfl ?_
                    refine y_ireturn rfl rfl rfl ?_
                    refine y_ret1 ?_
                    refine y_if_neF rfl (by decide) ?_
                    refine y_throw rfl rfl rfl ?_
                    exact hE1
                  · rw [yz_100] at h_46
                    refine y_iconst rfl ?_
                    refine y_goto rfl j_X8_isIn_15 ?_
                    refine y_ireturn rfl rfl rfl ?_
                    refine y_ret1 ?_
                    refine y_if_neT rfl j_X8_join_63 (by decide) ?_
                    refine y_iload_n rfl rfl ?_
                    refine y_static rfl rfl rfl rfl rfl ?_
                    refine y_in (M := xm_X8_placeOf) (ls := [some _]) rfl rfl rfl ?_
                    refine y_iload_n rfl rfl ?_
                    refine y_iconst rfl ?_
                    refine y_icmp_ne rfl j_X8_placeOf_10 (fun h_47 => ?_) (fun h_48 => ?_)
                    · rw [yz_m1] at h_47
                      refine y_iload_n rfl rfl ?_
                      refine y_ireturn rfl rfl rfl ?_
                      refine y_ret1 ?_
                      refine y_istore (ls' := [some _, some _, some _, some _, some _, some _]) rfl rfl rfl ?_
                      refine y_aload_n rfl rfl ?_
                      refine y_getR rfl (ySh.t hS rfl) (ySh.n hS rfl) rfl rfl (ySh.r hS rfl) ?_
                      refine y_iload_n rfl rfl ?_
                      refine y_iload rfl rfl ?_
                      refine y_virt rfl rfl rfl rfl rfl (ySh.t hS rfl) (ySh.n hS rfl) ?_
                      refine y_in (M := xm_X7_isPartner) (ls := [some _, some _, some _]) rfl rfl rfl ?_
                      refine y_aload_n rfl rfl ?_
                      refine y_getR rfl (ySh.t hS rfl) (ySh.n hS rfl) rfl rfl (ySh.r hS rfl) ?_
                      refine y_aload_n rfl rfl ?_
                      refine y_iload_n rfl rfl ?_
                      refine y_iload_n rfl rfl ?_
                      refine y_virt rfl rfl rfl rfl rfl (ySh.t hS rfl) (ySh.n hS rfl) ?_
                      refine sp_at (by omega) (by omega) (by omega) (by omega) (fun z_ hz49 => ?_)
                      refine y_ret1 ?_
                      refine y_baload rfl (ySh.t hS rfl) rfl (ySh.n hS rfl) (by omega) (by omega) ?_
                      refine y_ireturn rfl rfl (xfit_z (hC.p _)) ?_
                      refine y_ret1 ?_
                      refine y_if_ne rfl j_X8_join_112 (fun h_50 => ?_) (fun h_51 => ?_)
                      · refine y_throw rfl rfl rfl ?_
                        exact hE2
                      · refine y_aload_n rfl rfl ?_
                        refine y_getR rfl (ySh.t hS rfl) (ySh.n hS rfl) rfl rfl (ySh.r hS rfl) ?_
                        refine y_getR rfl (ySh.t hS rfl) (ySh.n hS rfl) rfl rfl (ySh.r hS rfl) ?_
                        refine y_iload rfl rfl ?_
                        refine y_iaload rfl (ySh.t hS rfl) (ySh.n hS rfl) (by omega) (by omega) ?_
                        refine y_iload_n rfl rfl ?_
                        refine y_icmp_lt rfl j_X8_join_112 (fun h_52 => ?_) (fun h_53 => ?_)
                        · refine y_throw rfl rfl rfl ?_
                          exact hE2
                        · refine y_aload_n rfl rfl ?_
                          refine y_getR rfl (ySh.t hS rfl) (ySh.n hS rfl) rfl rfl (ySh.r hS rfl) ?_
                          refine y_iload_n rfl rfl ?_
                          refine y_virt rfl rfl rfl rfl rfl (ySh.t hS rfl) (ySh.n hS rfl) ?_
                          refine sp_shares_X7 hS hC (by omega) (by omega) (fun v_ => ?_)
                          refine y_ret1 ?_
                          refine y_iload rfl rfl ?_
                          refine y_iadd rfl ?_
                          refine y_bip rfl (by decide) ?_
                          refine y_icmp_le rfl j_X8_join_123 (fun h_54 => ?_) (fun h_55 => ?_)
                          · rw [yz_100] at h_54
                            refine y_aload_n rfl rfl ?_
                            refine y_getR rfl (ySh.t hS rfl) (ySh.n hS rfl) rfl rfl (ySh.r hS rfl) ?_
                            refine y_iload rfl rfl ?_
                            refine y_iload_n rfl rfl ?_
                            refine y_ineg rfl ?_
                            refine y_virt rfl rfl rfl rfl rfl (ySh.t hS rfl) (ySh.n hS rfl) ?_
                            refine sp_add_X4 hS hC (fun I66 hC hF1 => ?_)
                            have hF : yFt I I66 := yFt.trans (by repeat (first | exact hF | refine yFt.upd ?_ (by decide))) hF1.t
                            have hd : (I66 34 8).toInt = (I 34 8).toInt := congrArg Int32.toInt (hF1 34 8 (Or.inl (by decide)))
                            refine y_ret0 ?_
                            refine y_aload_n rfl rfl ?_
                            refine y_getR rfl (ySh.t hS rfl) (ySh.n hS rfl) rfl rfl (ySh.r hS rfl) ?_
                            refine y_iload_n rfl rfl ?_
                            refine y_iload rfl rfl ?_
                            refine y_iload_n rfl rfl ?_
                            refine y_iload rfl rfl ?_
                            refine y_virt rfl rfl rfl rfl rfl (ySh.t hS rfl) (ySh.n hS rfl) ?_
                            refine y_in (M := xm_X7_admit) (ls := [some _, some _, some _, some _, some _, _]) rfl rfl rfl ?_
                            refine y_aload_n rfl rfl ?_
                            refine y_iload_n rfl rfl ?_
                            refine y_iload_n rfl rfl ?_
                            refine y_virt rfl rfl rfl rfl rfl (ySh.t hS rfl) (ySh.n hS rfl) ?_
                            refine sp_at (by omega) (by omega) (by omega) (by omega) (fun z_ hz57 => ?_)
                            refine y_ret1 ?_
                            refine y_istore (ls' := [some _, some _, some _, some _, some _, some _]) rfl rfl rfl ?_
                            refine y_aload_n rfl rfl ?_
                            refine y_getR rfl (ySh.t hS rfl) (ySh.n hS rfl) rfl rfl (ySh.r hS rfl) ?_
                            refine y_iload rfl rfl ?_
                            refine y_iconst rfl ?_
                            refine y_zastore rfl (ySh.t hS rfl) (ySh.n hS rfl) (Nat.le_of_ble_eq_true rfl) (by omega) (by omega) rfl ?_
                            refine y_setC (yCI.par hC (.inr (by decide))) (fun hC => ?_)
                            refine y_aload_n rfl rfl ?_
                            refine y_getR rfl (ySh.t hS rfl) (ySh.n hS rfl) rfl rfl (ySh.r hS rfl) ?_
                            refine y_iload rfl rfl ?_
                            refine y_iload_n rfl rfl ?_
                            refine y_iastore rfl (ySh.t hS rfl) (ySh.n hS rfl) (Nat.le_of_ble_eq_true rfl) (by omega) (by omega) ?_
                            refine y_aload_n rfl rfl ?_
                            refine y_getR rfl (ySh.t hS rfl) (ySh.n hS rfl) rfl rfl (ySh.r hS rfl) ?_
                            refine y_iload rfl rfl ?_
                            refine y_iload rfl rfl ?_
                            refine y_iastore rfl (ySh.t hS rfl) (ySh.n hS rfl) (Nat.le_of_ble_eq_true rfl) (by omega) (by omega) ?_
                            refine y_return rfl ?_
                            refine y_ret0 ?_
                            refine y_aload_n rfl rfl ?_
                            refine y_getR rfl (ySh.t hS rfl) (ySh.n hS rfl) rfl rfl (ySh.r hS rfl) ?_
                            refine y_iload_n rfl rfl ?_
                            refine y_virt rfl rfl rfl rfl rfl (ySh.t hS rfl) (ySh.n hS rfl) ?_
                            refine y_setCC (by exact hC) (fun hC => ?_)
                            refine sp_shares_X7 hS hC (by omega) (by omega) (fun v_ => ?_)
                            refine y_ret1 ?_
                            refine y_ireturn rfl rfl rfl ?_
                            exact hQ _ _ hC (by repeat (first | exact hF | refine yFt.upd ?_ (by decide)))
                          · rw [yz_100] at h_55
                            refine y_throw rfl rfl rfl ?_
                            exact hE2
                    · rw [yz_m1] at h_48
                      refine y_bip rfl (by decide) ?_
                      refine y_goto rfl j_X8_placeOf_11 ?_
                      refine y_ireturn rfl rfl rfl ?_
                      refine y_ret1 ?_
                      refine y_istore (ls' := [some _, some _, some _, some _, some _, some _]) rfl rfl rfl ?_
                      refine y_aload_n rfl rfl ?_
                      refine y_getR rfl (ySh.t hS rfl) (ySh.n hS rfl) rfl rfl (ySh.r hS rfl) ?_
                      refine y_iload_n rfl rfl ?_
                      refine y_iload rfl rfl ?_
                      refine y_virt rfl rfl rfl rfl rfl (ySh.t hS rfl) (ySh.n hS rfl) ?_
                      refine y_in (M := xm_X7_isPartner) (ls := [some _, some _, some _]) rfl rfl rfl ?_
                      refine y_aload_n rfl rfl ?_
                      refine y_getR rfl (ySh.t hS rfl) (ySh.n hS rfl) rfl rfl (ySh.r hS rfl) ?_
                      refine y_aload_n rfl rfl ?_
                      refine y_iload_n rfl rfl ?_
                      refine y_iload_n rfl rfl ?_
                      refine y_virt rfl rfl rfl rfl rfl (ySh.t hS rfl) (ySh.n hS rfl) ?_
                      refine sp_at (by omega) (by omega) (by decide) (by decide) (fun z_ hz58 => ?_)
                      rw [yz_8] at hz58
                      refine y_ret1 ?_
                      refine y_baload rfl (ySh.t hS rfl) rfl (ySh.n hS rfl) (by omega) (by omega) ?_
                      refine y_ireturn rfl rfl (xfit_z (hC.p _)) ?_
                      refine y_ret1 ?_
                      refine y_if_ne rfl j_X8_join_112 (fun h_59 => ?_) (fun h_60 => ?_)
                      · refine y_throw rfl rfl rfl ?_
                        exact hE2
                      · refine y_aload_n rfl rfl ?_
                        refine y_getR rfl (ySh.t hS rfl) (ySh.n hS rfl) rfl rfl (ySh.r hS rfl) ?_
                        refine y_getR rfl (ySh.t hS rfl) (ySh.n hS rfl) rfl rfl (ySh.r hS rfl) ?_
                        refine y_iload rfl rfl ?_
                        refine y_iaload rfl (ySh.t hS rfl) (ySh.n hS rfl) (by decide) (by decide) ?_
                        refine y_iload_n rfl rfl ?_
                        refine y_icmp_lt rfl j_X8_join_112 (fun h_61 => ?_) (fun h_62 => ?_)
                        · refine y_throw rfl rfl rfl ?_
                          exact hE2
                        · refine y_aload_n rfl rfl ?_
                          refine y_getR rfl (ySh.t hS rfl) (ySh.n hS rfl) rfl rfl (ySh.r hS rfl) ?_
                          refine y_iload_n rfl rfl ?_
                          refine y_virt rfl rfl rfl rfl rfl (ySh.t hS rfl) (ySh.n hS rfl) ?_
                          refine sp_shares_X7 hS hC (by omega) (by omega) (fun v_ => ?_)
                          refine y_ret1 ?_
                          refine y_iload rfl rfl ?_
                          refine y_iadd rfl ?_
                          refine y_bip rfl (by decide) ?_
                          refine y_icmp_le rfl j_X8_join_123 (fun h_63 => ?_) (fun h_64 => ?_)
                          · rw [yz_100] at h_63
                            refine y_aload_n rfl rfl ?_
                            refine y_getR rfl (ySh.t hS rfl) (ySh.n hS rfl) rfl rfl (ySh.r hS rfl) ?_
                            refine y_iload rfl rfl ?_
                            refine y_iload_n rfl rfl ?_
                            refine y_ineg rfl ?_
                            refine y_virt rfl rfl rfl rfl rfl (ySh.t hS rfl) (ySh.n hS rfl) ?_
                            refine sp_add_X4 hS hC (fun I75 hC hF1 => ?_)
                            have hF : yFt I I75 := yFt.trans (by repeat (first | exact hF | refine yFt.upd ?_ (by decide))) hF1.t
                            have hd : (I75 34 8).toInt = (I 34 8).toInt := congrArg Int32.toInt (hF1 34 8 (Or.inl (by decide)))
                            refine y_ret0 ?_
                            refine y_aload_n rfl rfl ?_
                            refine y_getR rfl (ySh.t hS rfl) (ySh.n hS rfl) rfl rfl (ySh.r hS rfl) ?_
                            refine y_iload_n rfl rfl ?_
                            refine y_iload rfl rfl ?_
                            refine y_iload_n rfl rfl ?_
                            refine y_iload rfl rfl ?_
                            refine y_virt rfl rfl rfl rfl rfl (ySh.t hS rfl) (ySh.n hS rfl) ?_
                            refine y_in (M := xm_X7_admit) (ls := [some _, some _, some _, some _, some _, _]) rfl rfl rfl ?_
                            refine y_aload_n rfl rfl ?_
                            refine y_iload_n rfl rfl ?_
                            refine y_iload_n rfl rfl ?_
                            refine y_virt rfl rfl rfl rfl rfl (ySh.t hS rfl) (ySh.n hS rfl) ?_
                            refine sp_at (by omega) (by omega) (by decide) (by decide) (fun z_ hz66 => ?_)
                            rw [yz_8] at hz66
                            refine y_ret1 ?_
                            refine y_istore (ls' := [some _, some _, some _, some _, some _, some _]) rfl rfl rfl ?_
                            refine y_aload_n rfl rfl ?_
                            refine y_getR rfl (ySh.t hS rfl) (ySh.n hS rfl) rfl rfl (ySh.r hS rfl) ?_
                            refine y_iload rfl rfl ?_
                            refine y_iconst rfl ?_
                            refine y_zastore rfl (ySh.t hS rfl) (ySh.n hS rfl) (Nat.le_of_ble_eq_true rfl) (by omega) (by omega) rfl ?_
                            refine y_setC (yCI.par hC (.inr (by decide))) (fun hC => ?_)
                            refine y_aload_n rfl rfl ?_
                            refine y_getR rfl (ySh.t hS rfl) (ySh.n hS rfl) rfl rfl (ySh.r hS rfl) ?_
                            refine y_iload rfl rfl ?_
                            refine y_iload_n rfl rfl ?_
                            refine y_iastore rfl (ySh.t hS rfl) (ySh.n hS rfl) (Nat.le_of_ble_eq_true rfl) (by omega) (by omega) ?_
                            refine y_aload_n rfl rfl ?_
                            refine y_getR rfl (ySh.t hS rfl) (ySh.n hS rfl) rfl rfl (ySh.r hS rfl) ?_
                            refine y_iload rfl rfl ?_
                            refine y_iload rfl rfl ?_
                            refine y_iastore rfl (ySh.t hS rfl) (ySh.n hS rfl) (Nat.le_of_ble_eq_true rfl) (by omega) (by omega) ?_
                            refine y_return rfl ?_
                            refine y_ret0 ?_
                            refine y_aload_n rfl rfl ?_
                            refine y_getR rfl (ySh.t hS rfl) (ySh.n hS rfl) rfl rfl (ySh.r hS rfl) ?_
                            refine y_iload_n rfl rfl ?_
                            refine y_virt rfl rfl rfl rfl rfl (ySh.t hS rfl) (ySh.n hS rfl) ?_
                            refine y_setCC (by exact hC) (fun hC => ?_)
                            refine sp_shares_X7 hS hC (by omega) (by omega) (fun v_ => ?_)
                            refine y_ret1 ?_
                            refine y_ireturn rfl rfl rfl ?_
                            exact hQ _ _ hC (by repeat (first | exact hF | refine yFt.upd ?_ (by decide)))
                          · rw [yz_100] at h_64
                            refine y_throw rfl rfl rfl ?_
                            exact hE2
theorem m_result (hS : ySh n tg R) (hC : yCI I) {x1 x2 x3 : Int32} (hE0 : Q (.inr "java/lang/IndexOutOfBoundsException") (n, tg, I, R) (c + 1) (s + 6)) (hE1 : Q (.inr "java/lang/IllegalArgumentException") (n, tg, I, R) (c + 1) (s + 6)) (hE2 : Q (.inr "java/lang/IllegalStateException") (n, tg, I, R) (c + 1) (s + 6)) (hQ : ∀ v I1, yCI I1 → yFt I I1 → Q (.inl (some (.int v))) (n, tg, I1, R) c s) : yC 134 [.ref 34, .int x1, .int x2, .int x3] (n, tg, I, R) c s Q := by
  have hF : yFt I I := yFt.rf
  refine y_in (M := xm_X8_result) (ls := [some _, some _, some _, some _]) rfl rfl rfl ?_
  refine y_aload_n rfl rfl ?_
  refine y_getR rfl (ySh.t hS rfl) (ySh.n hS rfl) rfl rfl (ySh.r hS rfl) ?_
  refine y_iload_n rfl rfl ?_
  refine y_virt rfl rfl rfl rfl rfl (ySh.t hS rfl) (ySh.n hS rfl) ?_
  refine y_in (M := xm_X7_has) (ls := [some _, some _]) rfl rfl rfl ?_
  refine y_iload_n rfl rfl ?_
  refine y_if_lt rfl j_X7_has_16 (fun h_1 => ?_) (fun h_2 => ?_)
  · refine y_iconst rfl ?_
    refine y_ireturn rfl rfl rfl ?_
    refine y_ret1 ?_
    refine y_if_eqT rfl j_X8_result_25 (by decide) ?_
    refine y_throw rfl rfl rfl ?_
    exact hE0
  · refine y_iload_n rfl rfl ?_
    refine y_aload_n rfl rfl ?_
    refine y_getI rfl (ySh.t hS rfl) (ySh.n hS rfl) rfl rfl ?_
    refine y_icmp_ge rfl j_X7_has_16 (fun h_3 => ?_) (fun h_4 => ?_)
    · refine y_iconst rfl ?_
      refine y_ireturn rfl rfl rfl ?_
      refine y_ret1 ?_
      refine y_if_eqT rfl j_X8_result_25 (by decide) ?_
      refine y_throw rfl rfl rfl ?_
      exact hE0
    · refine y_iconst rfl ?_
      refine y_goto rfl j_X7_has_17 ?_
      refine y_ireturn rfl rfl rfl ?_
      refine y_ret1 ?_
      refine y_if_eqF rfl (by decide) ?_
      refine y_iload_n rfl rfl ?_
      refine y_bip rfl (by decide) ?_
      refine y_icmp_eq rfl j_X8_result_36 (fun h_5 => ?_) (fun h_6 => ?_)
      · rw [yz_m2] at h_5
        refine y_iload_n rfl rfl ?_
        refine y_sip rfl (by decide) ?_
        refine y_sip rfl (by decide) ?_
        refine y_static rfl rfl rfl rfl rfl ?_
        refine y_in (M := xm_X8_isIn) (ls := [some _, some _, some _]) rfl rfl rfl ?_
        refine y_iload_n rfl rfl ?_
        refine y_iload_n rfl rfl ?_
        refine y_icmp_lt rfl j_X8_isIn_14 (fun h_7 => ?_) (fun h_8 => ?_)
        · rw [yz_m999] at h_7
          refine y_iconst rfl ?_
          refine y_ireturn rfl rfl rfl ?_
          refine y_ret1 ?_
          refine y_if_neF rfl (by decide) ?_
          refine y_throw rfl rfl rfl ?_
          exact hE1
        · rw [yz_m999] at h_8
          refine y_iload_n rfl rfl ?_
          refine y_iload_n rfl rfl ?_
          refine y_icmp_gt rfl j_X8_isIn_14 (fun h_9 => ?_) (fun h_10 => ?_)
          · rw [yz_999] at h_9
            refine y_iconst rfl ?_
            refine y_ireturn rfl rfl rfl ?_
            refine y_ret1 ?_
            refine y_if_neF rfl (by decide) ?_
            refine y_throw rfl rfl rfl ?_
            exact hE1
          · rw [yz_999] at h_10
            refine y_iconst rfl ?_
            refine y_goto rfl j_X8_isIn_15 ?_
            refine y_ireturn rfl rfl rfl ?_
            refine y_ret1 ?_
            refine y_if_neT rfl j_X8_result_60 (by decide) ?_
            refine y_iload_n rfl rfl ?_
            refine y_bip rfl (by decide) ?_
            refine y_icmp_eq rfl j_X8_result_92 (fun h_11 => ?_) (fun h_12 => ?_)
            · rw [yz_m2] at h_11
              refine y_iload_n rfl rfl ?_
              refine y_if_lt rfl j_X8_result_105 (fun h_13 => ?_) (fun h_14 => ?_)
              · refine y_iload_n rfl rfl ?_
                refine y_bip rfl (by decide) ?_
                refine y_icmp_ne rfl j_X8_result_124 (fun h_15 => ?_) (fun h_16 => ?_)
                · rw [yz_m2] at h_15
                  refine y_aload_n rfl rfl ?_
                  refine y_getR rfl (ySh.t hS rfl) (ySh.n hS rfl) rfl rfl (ySh.r hS rfl) ?_
                  refine y_iload_n rfl rfl ?_
                  refine y_static rfl rfl rfl rfl rfl ?_
                  refine y_in (M := xm_X8_placeOf) (ls := [some _]) rfl rfl rfl ?_
                  refine y_iload_n rfl rfl ?_
                  refine y_iconst rfl ?_
                  refine y_icmp_ne rfl j_X8_placeOf_10 (fun h_17 => ?_) (fun h_18 => ?_)
                  · rw [yz_m1] at h_17
                    refine y_iload_n rfl rfl ?_
                    refine y_ireturn rfl rfl rfl ?_
                    refine y_ret1 ?_
                    refine y_iload_n rfl rfl ?_
                    refine y_virt rfl rfl rfl rfl rfl (ySh.t hS rfl) (ySh.n hS rfl) ?_
                    refine sp_add_X4 hS hC (fun I29 hC hF1 => ?_)
                    have hF : yFt I I29 := yFt.trans (by repeat (first | exact hF | refine yFt.upd ?_ (by decide))) hF1.t
                    have hd : (I29 34 8).toInt = (I 34 8).toInt := congrArg Int32.toInt (hF1 34 8 (Or.inl (by decide)))
                    refine y_ret0 ?_
                    refine y_aload_n rfl rfl ?_
                    refine y_getR rfl (ySh.t hS rfl) (ySh.n hS rfl) rfl rfl (ySh.r hS rfl) ?_
                    refine y_iload_n rfl rfl ?_
                    refine y_virt rfl rfl rfl rfl rfl (ySh.t hS rfl) (ySh.n hS rfl) ?_
                    refine sp_capitals_X7 hS hC (by omega) (by omega) (fun v_ => ?_)
                    refine y_ret1 ?_
                    refine y_ireturn rfl rfl rfl ?_
                    exact hQ _ _ hC (by repeat (first | exact hF | refine yFt.upd ?_ (by decide)))
                  · rw [yz_m1] at h_18
                    refine y_bip rfl (by decide) ?_
                    refine y_goto rfl j_X8_placeOf_11 ?_
                    refine y_ireturn rfl rfl rfl ?_
                    refine y_ret1 ?_
                    refine y_iload_n rfl rfl ?_
                    refine y_virt rfl rfl rfl rfl rfl (ySh.t hS rfl) (ySh.n hS rfl) ?_
                    refine sp_add_X4 hS hC (fun I30 hC hF1 => ?_)
                    have hF : yFt I I30 := yFt.trans (by repeat (first | exact hF | refine yFt.upd ?_ (by decide))) hF1.t
                    have hd : (I30 34 8).toInt = (I 34 8).toInt := congrArg Int32.toInt (hF1 34 8 (Or.inl (by decide)))
                    refine y_ret0 ?_
                    refine y_aload_n rfl rfl ?_
                    refine y_getR rfl (ySh.t hS rfl) (ySh.n hS rfl) rfl rfl (ySh.r hS rfl) ?_
                    refine y_iload_n rfl rfl ?_
                    refine y_virt rfl rfl rfl rfl rfl (ySh.t hS rfl) (ySh.n hS rfl) ?_
                    refine sp_capitals_X7 hS hC (by omega) (by omega) (fun v_ => ?_)
                    refine y_ret1 ?_
                    refine y_ireturn rfl rfl rfl ?_
                    exact hQ _ _ hC (by repeat (first | exact hF | refine yFt.upd ?_ (by decide)))
                · rw [yz_m2] at h_16
                  refine y_aload_n rfl rfl ?_
                  refine y_getR rfl (ySh.t hS rfl) (ySh.n hS rfl) rfl rfl (ySh.r hS rfl) ?_
                  refine y_iload_n rfl rfl ?_
                  refine y_iload_n rfl rfl ?_
                  refine y_ineg rfl ?_
                  refine y_virt rfl rfl rfl rfl rfl (ySh.t hS rfl) (ySh.n hS rfl) ?_
                  refine sp_bearLoss hS hC (by omega) (by omega) (fun I31 hC hF1 => ?_)
                  have hF : yFt I I31 := yFt.trans (by repeat (first | exact hF | refine yFt.upd ?_ (by decide))) hF1.t
                  have hd : (I31 34 8).toInt = (I 34 8).toInt := congrArg Int32.toInt (hF1 34 8 (Or.inl (by decide)))
                  refine y_ret0 ?_
                  refine y_goto rfl j_X8_result_136 ?_
                  refine y_aload_n rfl rfl ?_
                  refine y_getR rfl (ySh.t hS rfl) (ySh.n hS rfl) rfl rfl (ySh.r hS rfl) ?_
                  refine y_iload_n rfl rfl ?_
                  refine y_virt rfl rfl rfl rfl rfl (ySh.t hS rfl) (ySh.n hS rfl) ?_
                  refine sp_capitals_X7 hS hC (by omega) (by omega) (fun v_ => ?_)
                  refine y_ret1 ?_
                  refine y_ireturn rfl rfl rfl ?_
                  exact hQ _ _ hC (by repeat (first | exact hF | refine yFt.upd ?_ (by decide)))
              · refine y_aload_n rfl rfl ?_
                refine y_iload_n rfl rfl ?_
                refine y_iload_n rfl rfl ?_
                refine y_virt rfl rfl rfl rfl rfl (ySh.t hS rfl) (ySh.n hS rfl) ?_
                refine sp_shareProfit_X8 hS hC (by omega) (by omega) (fun I32 hC hF1 => ?_)
                have hF : yFt I I32 := yFt.trans (by repeat (first | exact hF | refine yFt.upd ?_ (by decide))) hF1.t
                have hd : (I32 34 8).toInt = (I 34 8).toInt := congrArg Int32.toInt (hF1 34 8 (Or.inl (by decide)))
                refine y_ret0 ?_
                refine y_goto rfl j_X8_result_136 ?_
                refine y_aload_n rfl rfl ?_
                refine y_getR rfl (ySh.t hS rfl) (ySh.n hS rfl) rfl rfl (ySh.r hS rfl) ?_
                refine y_iload_n rfl rfl ?_
                refine y_virt rfl rfl rfl rfl rfl (ySh.t hS rfl) (ySh.n hS rfl) ?_
                refine sp_capitals_X7 hS hC (by omega) (by omega) (fun v_ => ?_)
                refine y_ret1 ?_
                refine y_ireturn rfl rfl rfl ?_
                exact hQ _ _ hC (by repeat (first | exact hF | refine yFt.upd ?_ (by decide)))
            · rw [yz_m2] at h_12
              refine y_aload_n rfl rfl ?_
              refine y_getR rfl (ySh.t hS rfl) (ySh.n hS rfl) rfl rfl (ySh.r hS rfl) ?_
              refine y_iload_n rfl rfl ?_
              refine y_iload_n rfl rfl ?_
              refine y_static rfl rfl rfl rfl rfl ?_
              refine y_in (M := xm_X8_placeOf) (ls := [some _]) rfl rfl rfl ?_
              refine y_iload_n rfl rfl ?_
              refine y_iconst rfl ?_
              refine y_icmp_ne rfl j_X8_placeOf_10 (fun h_23 => ?_) (fun h_24 => ?_)
              · rw [yz_m1] at h_23
                refine y_iload_n rfl rfl ?_
                refine y_ireturn rfl rfl rfl ?_
                refine y_ret1 ?_
                refine y_virt rfl rfl rfl rfl rfl (ySh.t hS rfl) (ySh.n hS rfl) ?_
                refine y_in (M := xm_X7_isPartner) (ls := [some _, some _, some _]) rfl rfl rfl ?_
                refine y_aload_n rfl rfl ?_
                refine y_getR rfl (ySh.t hS rfl) (ySh.n hS rfl) rfl rfl (ySh.r hS rfl) ?_
                refine y_aload_n rfl rfl ?_
                refine y_iload_n rfl rfl ?_
                refine y_iload_n rfl rfl ?_
                refine y_virt rfl rfl rfl rfl rfl (ySh.t hS rfl) (ySh.n hS rfl) ?_
                refine sp_at (by omega) (by omega) (by omega) (by omega) (fun z_ hz25 => ?_)
                refine y_ret1 ?_
                refine y_baload rfl (ySh.t hS rfl) rfl (ySh.n hS rfl) (by omega) (by omega) ?_
                refine y_ireturn rfl rfl (xfit_z (hC.p _)) ?_
                refine y_ret1 ?_
                refine y_if_ne rfl j_X8_result_92 (fun h_26 => ?_) (fun h_27 => ?_)
                · refine y_iload_n rfl rfl ?_
                  refine y_if_lt rfl j_X8_result_105 (fun h_28 => ?_) (fun h_29 => ?_)
                  · refine y_iload_n rfl rfl ?_
                    refine y_bip rfl (by decide) ?_
                    refine y_icmp_ne rfl j_X8_result_124 (fun h_30 => ?_) (fun h_31 => ?_)
                    · rw [yz_m2] at h_30
                      refine y_aload_n rfl rfl ?_
                      refine y_getR rfl (ySh.t hS rfl) (ySh.n hS rfl) rfl rfl (ySh.r hS rfl) ?_
                      refine y_iload_n rfl rfl ?_
                      refine y_static rfl rfl rfl rfl rfl ?_
                      refine y_in (M := xm_X8_placeOf) (ls := [some _]) rfl rfl rfl ?_
                      refine y_iload_n rfl rfl ?_
                      refine y_iconst rfl ?_
                      refine y_icmp_ne rfl j_X8_placeOf_10 (fun h_32 => ?_) (fun h_33 => ?_)
                      · rw [yz_m1] at h_32
                        refine y_iload_n rfl rfl ?_
                        refine y_ireturn rfl rfl rfl ?_
                        refine y_ret1 ?_
                        refine y_iload_n rfl rfl ?_
                        refine y_virt rfl rfl rfl rfl rfl (ySh.t hS rfl) (ySh.n hS rfl) ?_
                        refine sp_add_X4 hS hC (fun I44 hC hF1 => ?_)
                        have hF : yFt I I44 := yFt.trans (by repeat (first | exact hF | refine yFt.upd ?_ (by decide))) hF1.t
                        have hd : (I44 34 8).toInt = (I 34 8).toInt := congrArg Int32.toInt (hF1 34 8 (Or.inl (by decide)))
                        refine y_ret0 ?_
                        refine y_aload_n rfl rfl ?_
                        refine y_getR rfl (ySh.t hS rfl) (ySh.n hS rfl) rfl rfl (ySh.r hS rfl) ?_
                        refine y_iload_n rfl rfl ?_
                        refine y_virt rfl rfl rfl rfl rfl (ySh.t hS rfl) (ySh.n hS rfl) ?_
                        refine sp_capitals_X7 hS hC (by omega) (by omega) (fun v_ => ?_)
                        refine y_ret1 ?_
                        refine y_ireturn rfl rfl rfl ?_
                        exact hQ _ _ hC (by repeat (first | exact hF | refine yFt.upd ?_ (by decide)))
                      · rw [yz_m1] at h_33
                        refine y_bip rfl (by decide) ?_
                        refine y_goto rfl j_X8_placeOf_11 ?_
                        refine y_ireturn rfl rfl rfl ?_
                        refine y_ret1 ?_
                        refine y_iload_n rfl rfl ?_
                        refine y_virt rfl rfl rfl rfl rfl (ySh.t hS rfl) (ySh.n hS rfl) ?_
                        refine sp_add_X4 hS hC (fun I45 hC hF1 => ?_)
                        have hF : yFt I I45 := yFt.trans (by repeat (first | exact hF | refine yFt.upd ?_ (by decide))) hF1.t
                        have hd : (I45 34 8).toInt = (I 34 8).toInt := congrArg Int32.toInt (hF1 34 8 (Or.inl (by decide)))
                        refine y_ret0 ?_
                        refine y_aload_n rfl rfl ?_
                        refine y_getR rfl (ySh.t hS rfl) (ySh.n hS rfl) rfl rfl (ySh.r hS rfl) ?_
                        refine y_iload_n rfl rfl ?_
                        refine y_virt rfl rfl rfl rfl rfl (ySh.t hS rfl) (ySh.n hS rfl) ?_
                        refine sp_capitals_X7 hS hC (by omega) (by omega) (fun v_ => ?_)
                        refine y_ret1 ?_
                        refine y_ireturn rfl rfl rfl ?_
                        exact hQ _ _ hC (by repeat (first | exact hF | refine yFt.upd ?_ (by decide)))
                    · rw [yz_m2] at h_31
                      refine y_aload_n rfl rfl ?_
                      refine y_getR rfl (ySh.t hS rfl) (ySh.n hS rfl) rfl rfl (ySh.r hS rfl) ?_
                      refine y_iload_n rfl rfl ?_
                      refine y_iload_n rfl rfl ?_
                      refine y_ineg rfl ?_
                      refine y_virt rfl rfl rfl rfl rfl (ySh.t hS rfl) (ySh.n hS rfl) ?_
                      refine sp_bearLoss hS hC (by omega) (by omega) (fun I46 hC hF1 => ?_)
                      have hF : yFt I I46 := yFt.trans (by repeat (first | exact hF | refine yFt.upd ?_ (by decide))) hF1.t
                      have hd : (I46 34 8).toInt = (I 34 8).toInt := congrArg Int32.toInt (hF1 34 8 (Or.inl (by decide)))
                      refine y_ret0 ?_
                      refine y_goto rfl j_X8_result_136 ?_
                      refine y_aload_n rfl rfl ?_
                      refine y_getR rfl (ySh.t hS rfl) (ySh.n hS rfl) rfl rfl (ySh.r hS rfl) ?_
                      refine y_iload_n rfl rfl ?_
                      refine y_virt rfl rfl rfl rfl rfl (ySh.t hS rfl) (ySh.n hS rfl) ?_
                      refine sp_capitals_X7 hS hC (by omega) (by omega) (fun v_ => ?_)
                      refine y_ret1 ?_
                      refine y_ireturn rfl rfl rfl ?_
                      exact hQ _ _ hC (by repeat (first | exact hF | refine yFt.upd ?_ (by decide)))
                  · refine y_aload_n rfl rfl ?_
                    refine y_iload_n rfl rfl ?_
                    refine y_iload_n rfl rfl ?_
                    refine y_virt rfl rfl rfl rfl rfl (ySh.t hS rfl) (ySh.n hS rfl) ?_
                    refine sp_shareProfit_X8 hS hC (by omega) (by omega) (fun I47 hC hF1 => ?_)
                    have hF : yFt I I47 := yFt.trans (by repeat (first | exact hF | refine yFt.upd ?_ (by decide))) hF1.t
                    have hd : (I47 34 8).toInt = (I 34 8).toInt := congrArg Int32.toInt (hF1 34 8 (Or.inl (by decide)))
                    refine y_ret0 ?_
                    refine y_goto rfl j_X8_result_136 ?_
                    refine y_aload_n rfl rfl ?_
                    refine y_getR rfl (ySh.t hS rfl) (ySh.n hS rfl) rfl rfl (ySh.r hS rfl) ?_
                    refine y_iload_n rfl rfl ?_
                    refine y_virt rfl rfl rfl rfl rfl (ySh.t hS rfl) (ySh.n hS rfl) ?_
                    refine sp_capitals_X7 hS hC (by omega) (by omega) (fun v_ => ?_)
                    refine y_ret1 ?_
                    refine y_ireturn rfl rfl rfl ?_
                    exact hQ _ _ hC (by repeat (first | exact hF | refine yFt.upd ?_ (by decide)))
                · refine y_throw rfl rfl rfl ?_
                  exact hE2
              · rw [yz_m1] at h_24
                refine y_bip rfl (by decide) ?_
                refine y_goto rfl j_X8_placeOf_11 ?_
                refine y_ireturn rfl rfl rfl ?_
                refine y_ret1 ?_
                refine y_virt rfl rfl rfl rfl rfl (ySh.t hS rfl) (ySh.n hS rfl) ?_
                refine y_in (M := xm_X7_isPartner) (ls := [some _, some _, some _]) rfl rfl rfl ?_
                refine y_aload_n rfl rfl ?_
                refine y_getR rfl (ySh.t hS rfl) (ySh.n hS rfl) rfl rfl (ySh.r hS rfl) ?_
                refine y_aload_n rfl rfl ?_
                refine y_iload_n rfl rfl ?_
                refine y_iload_n rfl rfl ?_
                refine y_virt rfl rfl rfl rfl rfl (ySh.t hS rfl) (ySh.n hS rfl) ?_
                refine sp_at (by omega) (by omega) (by decide) (by decide) (fun z_ hz38 => ?_)
                rw [yz_8] at hz38
                refine y_ret1 ?_
                refine y_baload rfl (ySh.t hS rfl) rfl (ySh.n hS rfl) (by omega) (by omega) ?_
                refine y_ireturn rfl rfl (xfit_z (hC.p _)) ?_
                refine y_ret1 ?_
                refine y_if_ne rfl j_X8_result_92 (fun h_39 => ?_) (fun h_40 => ?_)
                · refine y_iload_n rfl rfl ?_
                  refine y_if_lt rfl j_X8_result_105 (fun h_41 => ?_) (fun h_42 => ?_)
                  · refine y_iload_n rfl rfl ?_
                    refine y_bip rfl (by decide) ?_
                    refine y_icmp_ne rfl j_X8_result_124 (fun h_43 => ?_) (fun h_44 => ?_)
                    · rw [yz_m2] at h_43
                      refine y_aload_n rfl rfl ?_
                      refine y_getR rfl (ySh.t hS rfl) (ySh.n hS rfl) rfl rfl (ySh.r hS rfl) ?_
                      refine y_iload_n rfl rfl ?_
                      refine y_static rfl rfl rfl rfl rfl ?_
                      refine y_in (M := xm_X8_placeOf) (ls := [some _]) rfl rfl rfl ?_
                      refine y_iload_n rfl rfl ?_
                      refine y_iconst rfl ?_
                      refine y_icmp_ne rfl j_X8_placeOf_10 (fun h_45 => ?_) (fun h_46 => ?_)
                      · rw [yz_m1] at h_45
                        refine y_iload_n rfl rfl ?_
                        refine y_ireturn rfl rfl rfl ?_
                        refine y_ret1 ?_
                        refine y_iload_n rfl rfl ?_
                        refine y_virt rfl rfl rfl rfl rfl (ySh.t hS rfl) (ySh.n hS rfl) ?_
                        refine sp_add_X4 hS hC (fun I57 hC hF1 => ?_)
                        have hF : yFt I I57 := yFt.trans (by repeat (first | exact hF | refine yFt.upd ?_ (by decide))) hF1.t
                        have hd : (I57 34 8).toInt = (I 34 8).toInt := congrArg Int32.toInt (hF1 34 8 (Or.inl (by decide)))
                        refine y_ret0 ?_
                        refine y_aload_n rfl rfl ?_
                        refine y_getR rfl (ySh.t hS rfl) (ySh.n hS rfl) rfl rfl (ySh.r hS rfl) ?_
                        refine y_iload_n rfl rfl ?_
                        refine y_virt rfl rfl rfl rfl rfl (ySh.t hS rfl) (ySh.n hS rfl) ?_
                        refine sp_capitals_X7 hS hC (by omega) (by omega) (fun v_ => ?_)
                        refine y_ret1 ?_
                        refine y_ireturn rfl rfl rfl ?_
                        exact hQ _ _ hC (by repeat (first | exact hF | refine yFt.upd ?_ (by decide)))
                      · rw [yz_m1] at h_46
                        refine y_bip rfl (by decide) ?_
                        refine y_goto rfl j_X8_placeOf_11 ?_
                        refine y_ireturn rfl rfl rfl ?_
                        refine y_ret1 ?_
                        refine y_iload_n rfl rfl ?_
                        refine y_virt rfl rfl rfl rfl rfl (ySh.t hS rfl) (ySh.n hS rfl) ?_
                        refine sp_add_X4 hS hC (fun I58 hC hF1 => ?_)
                        have hF : yFt I I58 := yFt.trans (by repeat (first | exact hF | refine yFt.upd ?_ (by decide))) hF1.t
                        have hd : (I58 34 8).toInt = (I 34 8).toInt := congrArg Int32.toInt (hF1 34 8 (Or.inl (by decide)))
                        refine y_ret0 ?_
                        refine y_aload_n rfl rfl ?_
                        refine y_getR rfl (ySh.t hS rfl) (ySh.n hS rfl) rfl rfl (ySh.r hS rfl) ?_
                        refine y_iload_n rfl rfl ?_
                        refine y_virt rfl rfl rfl rfl rfl (ySh.t hS rfl) (ySh.n hS rfl) ?_
                        refine sp_capitals_X7 hS hC (by omega) (by omega) (fun v_ => ?_)
                        refine y_ret1 ?_
                        refine y_ireturn rfl rfl rfl ?_
                        exact hQ _ _ hC (by repeat (first | exact hF | refine yFt.upd ?_ (by decide)))
                    · rw [yz_m2] at h_44
                      refine y_aload_n rfl rfl ?_
                      refine y_getR rfl (ySh.t hS rfl) (ySh.n hS rfl) rfl rfl (ySh.r hS rfl) ?_
                      refine y_iload_n rfl rfl ?_
                      refine y_iload_n rfl rfl ?_
                      refine y_ineg rfl ?_
                      refine y_virt rfl rfl rfl rfl rfl (ySh.t hS rfl) (ySh.n hS rfl) ?_
                      refine sp_bearLoss hS hC (by omega) (by omega) (fun I59 hC hF1 => ?_)
                      have hF : yFt I I59 := yFt.trans (by repeat (first | exact hF | refine yFt.upd ?_ (by decide))) hF1.t
                      have hd : (I59 34 8).toInt = (I 34 8).toInt := congrArg Int32.toInt (hF1 34 8 (Or.inl (by decide)))
                      refine y_ret0 ?_
                      refine y_goto rfl j_X8_result_136 ?_
                      refine y_aload_n rfl rfl ?_
                      refine y_getR rfl (ySh.t hS rfl) (ySh.n hS rfl) rfl rfl (ySh.r hS rfl) ?_
                      refine y_iload_n rfl rfl ?_
                      refine y_virt rfl rfl rfl rfl rfl (ySh.t hS rfl) (ySh.n hS rfl) ?_
                      refine sp_capitals_X7 hS hC (by omega) (by omega) (fun v_ => ?_)
                      refine y_ret1 ?_
                      refine y_ireturn rfl rfl rfl ?_
                      exact hQ _ _ hC (by repeat (first | exact hF | refine yFt.upd ?_ (by decide)))
                  · refine y_aload_n rfl rfl ?_
                    refine y_iload_n rfl rfl ?_
                    refine y_iload_n rfl rfl ?_
                    refine y_virt rfl rfl rfl rfl rfl (ySh.t hS rfl) (ySh.n hS rfl) ?_
                    refine sp_shareProfit_X8 hS hC (by omega) (by omega) (fun I60 hC hF1 => ?_)
                    have hF : yFt I I60 := yFt.trans (by repeat (first | exact hF | refine yFt.upd ?_ (by decide))) hF1.t
                    have hd : (I60 34 8).toInt = (I 34 8).toInt := congrArg Int32.toInt (hF1 34 8 (Or.inl (by decide)))
                    refine y_ret0 ?_
                    refine y_goto rfl j_X8_result_136 ?_
                    refine y_aload_n rfl rfl ?_
                    refine y_getR rfl (ySh.t hS rfl) (ySh.n hS rfl) rfl rfl (ySh.r hS rfl) ?_
                    refine y_iload_n rfl rfl ?_
                    refine y_virt rfl rfl rfl rfl rfl (ySh.t hS rfl) (ySh.n hS rfl) ?_
                    refine sp_capitals_X7 hS hC (by omega) (by omega) (fun v_ => ?_)
                    refine y_ret1 ?_
                    refine y_ireturn rfl rfl rfl ?_
                    exact hQ _ _ hC (by repeat (first | exact hF | refine yFt.upd ?_ (by decide)))
                · refine y_throw rfl rfl rfl ?_
                  exact hE2
      · rw [yz_m2] at h_6
        refine y_aload_n rfl rfl ?_
        refine y_iload_n rfl rfl ?_
        refine y_virt rfl rfl rfl rfl rfl (ySh.t hS rfl) (ySh.n hS rfl) ?_
        refine y_in (M := xm_X8_isParty) (ls := [some _, some _]) rfl rfl rfl ?_
        refine y_iload_n rfl rfl ?_
        refine y_iconst rfl ?_
        refine y_icmp_eq rfl j_X8_isParty_16 (fun h_51 => ?_) (fun h_52 => ?_)
        · rw [yz_m1] at h_51
          refine y_iconst rfl ?_
          refine y_goto rfl j_X8_isParty_21 ?_
          refine y_ireturn rfl rfl rfl ?_
          refine y_ret1 ?_
          refine y_if_neT rfl j_X8_result_36 (by decide) ?_
          refine y_iload_n rfl rfl ?_
          refine y_sip rfl (by decide) ?_
          refine y_sip rfl (by decide) ?_
          refine y_static rfl rfl rfl rfl rfl ?_
          refine y_in (M := xm_X8_isIn) (ls := [some _, some _, some _]) rfl rfl rfl ?_
          refine y_iload_n rfl rfl ?_
          refine y_iload_n rfl rfl ?_
          refine y_icmp_lt rfl j_X8_isIn_14 (fun h_53 => ?_) (fun h_54 => ?_)
          · rw [yz_m999] at h_53
            refine y_iconst rfl ?_
            refine y_ireturn rfl rfl rfl ?_
            refine y_ret1 ?_
            refine y_if_neF rfl (by decide) ?_
            refine y_throw rfl rfl rfl ?_
            exact hE1
          · rw [yz_m999] at h_54
            refine y_iload_n rfl rfl ?_
            refine y_iload_n rfl rfl ?_
            refine y_icmp_gt rfl j_X8_isIn_14 (fun h_55 => ?_) (fun h_56 => ?_)
            · rw [yz_999] at h_55
              refine y_iconst rfl ?_
              refine y_ireturn rfl rfl rfl ?_
              refine y_ret1 ?_
              refine y_if_neF rfl (by decide) ?_
              refine y_throw rfl rfl rfl ?_
              exact hE1
            · rw [yz_999] at h_56
              refine y_iconst rfl ?_
              refine y_goto rfl j_X8_isIn_15 ?_
              refine y_ireturn rfl rfl rfl ?_
              refine y_ret1 ?_
              refine y_if_neT rfl j_X8_result_60 (by decide) ?_
              refine y_iload_n rfl rfl ?_
              refine y_bip rfl (by decide) ?_
              refine y_icmp_eq rfl j_X8_result_92 (fun h_57 => ?_) (fun h_58 => ?_)
              · rw [yz_m2] at h_57
                refine y_iload_n rfl rfl ?_
                refine y_if_lt rfl j_X8_result_105 (fun h_59 => ?_) (fun h_60 => ?_)
                · refine y_iload_n rfl rfl ?_
                  refine y_bip rfl (by decide) ?_
                  refine y_icmp_ne rfl j_X8_result_124 (fun h_61 => ?_) (fun h_62 => ?_)
                  · rw [yz_m2] at h_61
                    refine y_aload_n rfl rfl ?_
                    refine y_getR rfl (ySh.t hS rfl) (ySh.n hS rfl) rfl rfl (ySh.r hS rfl) ?_
                    refine y_iload_n rfl rfl ?_
                    refine y_static rfl rfl rfl rfl rfl ?_
                    refine y_in (M := xm_X8_placeOf) (ls := [some _]) rfl rfl rfl ?_
                    refine y_iload_n rfl rfl ?_
                    refine y_iconst rfl ?_
                    refine y_icmp_ne rfl j_X8_placeOf_10 (fun h_63 => ?_) (fun h_64 => ?_)
                    · rw [yz_m1] at h_63
                      refine y_iload_n rfl rfl ?_
                      refine y_ireturn rfl rfl rfl ?_
                      refine y_ret1 ?_
                      refine y_iload_n rfl rfl ?_
                      refine y_virt rfl rfl rfl rfl rfl (ySh.t hS rfl) (ySh.n hS rfl) ?_
                      refine sp_add_X4 hS hC (fun I75 hC hF1 => ?_)
                      have hF : yFt I I75 := yFt.trans (by repeat (first | exact hF | refine yFt.upd ?_ (by decide))) hF1.t
                      have hd : (I75 34 8).toInt = (I 34 8).toInt := congrArg Int32.toInt (hF1 34 8 (Or.inl (by decide)))
                      refine y_ret0 ?_
                      refine y_aload_n rfl rfl ?_
                      refine y_getR rfl (ySh.t hS rfl) (ySh.n hS rfl) rfl rfl (ySh.r hS rfl) ?_
                      refine y_iload_n rfl rfl ?_
                      refine y_virt rfl rfl rfl rfl rfl (ySh.t hS rfl) (ySh.n hS rfl) ?_
                      refine sp_capitals_X7 hS hC (by omega) (by omega) (fun v_ => ?_)
                      refine y_ret1 ?_
                      refine y_ireturn rfl rfl rfl ?_
                      exact hQ _ _ hC (by repeat (first | exact hF | refine yFt.upd ?_ (by decide)))
                    · rw [yz_m1] at h_64
                      refine y_bip rfl (by decide) ?_
                      refine y_goto rfl j_X8_placeOf_11 ?_
                      refine y_ireturn rfl rfl rfl ?_
                      refine y_ret1 ?_
                      refine y_iload_n rfl rfl ?_
                      refine y_virt rfl rfl rfl rfl rfl (ySh.t hS rfl) (ySh.n hS rfl) ?_
                      refine sp_add_X4 hS hC (fun I76 hC hF1 => ?_)
                      have hF : yFt I I76 := yFt.trans (by repeat (first | exact hF | refine yFt.upd ?_ (by decide))) hF1.t
                      have hd : (I76 34 8).toInt = (I 34 8).toInt := congrArg Int32.toInt (hF1 34 8 (Or.inl (by decide)))
                      refine y_ret0 ?_
                      refine y_aload_n rfl rfl ?_
                      refine y_getR rfl (ySh.t hS rfl) (ySh.n hS rfl) rfl rfl (ySh.r hS rfl) ?_
                      refine y_iload_n rfl rfl ?_
                      refine y_virt rfl rfl rfl rfl rfl (ySh.t hS rfl) (ySh.n hS rfl) ?_
                      refine sp_capitals_X7 hS hC (by omega) (by omega) (fun v_ => ?_)
                      refine y_ret1 ?_
                      refine y_ireturn rfl rfl rfl ?_
                      exact hQ _ _ hC (by repeat (first | exact hF | refine yFt.upd ?_ (by decide)))
                  · rw [yz_m2] at h_62
                    refine y_aload_n rfl rfl ?_
                    refine y_getR rfl (ySh.t hS rfl) (ySh.n hS rfl) rfl rfl (ySh.r hS rfl) ?_
                    refine y_iload_n rfl rfl ?_
                    refine y_iload_n rfl rfl ?_
                    refine y_ineg rfl ?_
                    refine y_virt rfl rfl rfl rfl rfl (ySh.t hS rfl) (ySh.n hS rfl) ?_
                    refine sp_bearLoss hS hC (by omega) (by omega) (fun I77 hC hF1 => ?_)
                    have hF : yFt I I77 := yFt.trans (by repeat (first | exact hF | refine yFt.upd ?_ (by decide))) hF1.t
                    have hd : (I77 34 8).toInt = (I 34 8).toInt := congrArg Int32.toInt (hF1 34 8 (Or.inl (by decide)))
                    refine y_ret0 ?_
                    refine y_goto rfl j_X8_result_136 ?_
                    refine y_aload_n rfl rfl ?_
                    refine y_getR rfl (ySh.t hS rfl) (ySh.n hS rfl) rfl rfl (ySh.r hS rfl) ?_
                    refine y_iload_n rfl rfl ?_
                    refine y_virt rfl rfl rfl rfl rfl (ySh.t hS rfl) (ySh.n hS rfl) ?_
                    refine sp_capitals_X7 hS hC (by omega) (by omega) (fun v_ => ?_)
                    refine y_ret1 ?_
                    refine y_ireturn rfl rfl rfl ?_
                    exact hQ _ _ hC (by repeat (first | exact hF | refine yFt.upd ?_ (by decide)))
                · refine y_aload_n rfl rfl ?_
                  refine y_iload_n rfl rfl ?_
                  refine y_iload_n rfl rfl ?_
                  refine y_virt rfl rfl rfl rfl rfl (ySh.t hS rfl) (ySh.n hS rfl) ?_
                  refine sp_shareProfit_X8 hS hC (by omega) (by omega) (fun I78 hC hF1 => ?_)
                  have hF : yFt I I78 := yFt.trans (by repeat (first | exact hF | refine yFt.upd ?_ (by decide))) hF1.t
                  have hd : (I78 34 8).toInt = (I 34 8).toInt := congrArg Int32.toInt (hF1 34 8 (Or.inl (by decide)))
                  refine y_ret0 ?_
                  refine y_goto rfl j_X8_result_136 ?_
                  refine y_aload_n rfl rfl ?_
                  refine y_getR rfl (ySh.t hS rfl) (ySh.n hS rfl) rfl rfl (ySh.r hS rfl) ?_
                  refine y_iload_n rfl rfl ?_
                  refine y_virt rfl rfl rfl rfl rfl (ySh.t hS rfl) (ySh.n hS rfl) ?_
                  refine sp_capitals_X7 hS hC (by omega) (by omega) (fun v_ => ?_)
                  refine y_ret1 ?_
                  refine y_ireturn rfl rfl rfl ?_
                  exact hQ _ _ hC (by repeat (first | exact hF | refine yFt.upd ?_ (by decide)))
              · rw [yz_m2] at h_58
                refine y_aload_n rfl rfl ?_
                refine y_getR rfl (ySh.t hS rfl) (ySh.n hS rfl) rfl rfl (ySh.r hS rfl) ?_
                refine y_iload_n rfl rfl ?_
                refine y_iload_n rfl rfl ?_
                refine y_static rfl rfl rfl rfl rfl ?_
                refine y_in (M := xm_X8_placeOf) (ls := [some _]) rfl rfl rfl ?_
                refine y_iload_n rfl rfl ?_
                refine y_iconst rfl ?_
                refine y_icmp_ne rfl j_X8_placeOf_10 (fun h_69 => ?_) (fun h_70 => ?_)
                · rw [yz_m1] at h_69
                  refine y_iload_n rfl rfl ?_
                  refine y_ireturn rfl rfl rfl ?_
                  refine y_ret1 ?_
                  refine y_virt rfl rfl rfl rfl rfl (ySh.t hS rfl) (ySh.n hS rfl) ?_
                  refine y_in (M := xm_X7_isPartner) (ls := [some _, some _, some _]) rfl rfl rfl ?_
                  refine y_aload_n rfl rfl ?_
                  refine y_getR rfl (ySh.t hS rfl) (ySh.n hS rfl) rfl rfl (ySh.r hS rfl) ?_
                  refine y_aload_n rfl rfl ?_
                  refine y_iload_n rfl rfl ?_
                  refine y_iload_n rfl rfl ?_
                  refine y_virt rfl rfl rfl rfl rfl (ySh.t hS rfl) (ySh.n hS rfl) ?_
                  refine sp_at (by omega) (by omega) (by omega) (by omega) (fun z_ hz71 => ?_)
                  refine y_ret1 ?_
                  refine y_baload rfl (ySh.t hS rfl) rfl (ySh.n hS rfl) (by omega) (by omega) ?_
                  refine y_ireturn rfl rfl (xfit_z (hC.p _)) ?_
                  refine y_ret1 ?_
                  refine y_if_ne rfl j_X8_result_92 (fun h_72 => ?_) (fun h_73 => ?_)
                  · refine y_iload_n rfl rfl ?_
                    refine y_if_lt rfl j_X8_result_105 (fun h_74 => ?_) (fun h_75 => ?_)
                    · refine y_iload_n rfl rfl ?_
                      refine y_bip rfl (by decide) ?_
                      refine y_icmp_ne rfl j_X8_result_124 (fun h_76 => ?_) (fun h_77 => ?_)
                      · rw [yz_m2] at h_76
                        refine y_aload_n rfl rfl ?_
                        refine y_getR rfl (ySh.t hS rfl) (ySh.n hS rfl) rfl rfl (ySh.r hS rfl) ?_
                        refine y_iload_n rfl rfl ?_
                        refine y_static rfl rfl rfl rfl rfl ?_
                        refine y_in (M := xm_X8_placeOf) (ls := [some _]) rfl rfl rfl ?_
                        refine y_iload_n rfl rfl ?_
                        refine y_iconst rfl ?_
                        refine y_icmp_ne rfl j_X8_placeOf_10 (fun h_78 => ?_) (fun h_79 => ?_)
                        · rw [yz_m1] at h_78
                          refine y_iload_n rfl rfl ?_
                          refine y_ireturn rfl rfl rfl ?_
                          refine y_ret1 ?_
                          refine y_iload_n rfl rfl ?_
                          refine y_virt rfl rfl rfl rfl rfl (ySh.t hS rfl) (ySh.n hS rfl) ?_
                          refine sp_add_X4 hS hC (fun I90 hC hF1 => ?_)
                          have hF : yFt I I90 := yFt.trans (by repeat (first | exact hF | refine yFt.upd ?_ (by decide))) hF1.t
                          have hd : (I90 34 8).toInt = (I 34 8).toInt := congrArg Int32.toInt (hF1 34 8 (Or.inl (by decide)))
                          refine y_ret0 ?_
                          refine y_aload_n rfl rfl ?_
                          refine y_getR rfl (ySh.t hS rfl) (ySh.n hS rfl) rfl rfl (ySh.r hS rfl) ?_
                          refine y_iload_n rfl rfl ?_
                          refine y_virt rfl rfl rfl rfl rfl (ySh.t hS rfl) (ySh.n hS rfl) ?_
                          refine sp_capitals_X7 hS hC (by omega) (by omega) (fun v_ => ?_)
                          refine y_ret1 ?_
                          refine y_ireturn rfl rfl rfl ?_
                          exact hQ _ _ hC (by repeat (first | exact hF | refine yFt.upd ?_ (by decide)))
                        · rw [yz_m1] at h_79
                          refine y_bip rfl (by decide) ?_
                          refine y_goto rfl j_X8_placeOf_11 ?_
                          refine y_ireturn rfl rfl rfl ?_
                          refine y_ret1 ?_
                          refine y_iload_n rfl rfl ?_
                          refine y_virt rfl rfl rfl rfl rfl (ySh.t hS rfl) (ySh.n hS rfl) ?_
                          refine sp_add_X4 hS hC (fun I91 hC hF1 => ?_)
                          have hF : yFt I I91 := yFt.trans (by repeat (first | exact hF | refine yFt.upd ?_ (by decide))) hF1.t
                          have hd : (I91 34 8).toInt = (I 34 8).toInt := congrArg Int32.toInt (hF1 34 8 (Or.inl (by decide)))
                          refine y_ret0 ?_
                          refine y_aload_n rfl rfl ?_
                          refine y_getR rfl (ySh.t hS rfl) (ySh.n hS rfl) rfl rfl (ySh.r hS rfl) ?_
                          refine y_iload_n rfl rfl ?_
                          refine y_virt rfl rfl rfl rfl rfl (ySh.t hS rfl) (ySh.n hS rfl) ?_
                          refine sp_capitals_X7 hS hC (by omega) (by omega) (fun v_ => ?_)
                          refine y_ret1 ?_
                          refine y_ireturn rfl rfl rfl ?_
                          exact hQ _ _ hC (by repeat (first | exact hF | refine yFt.upd ?_ (by decide)))
                      · rw [yz_m2] at h_77
                        refine y_aload_n rfl rfl ?_
                        refine y_getR rfl (ySh.t hS rfl) (ySh.n hS rfl) rfl rfl (ySh.r hS rfl) ?_
                        refine y_iload_n rfl rfl ?_
                        refine y_iload_n rfl rfl ?_
                        refine y_ineg rfl ?_
                        refine y_virt rfl rfl rfl rfl rfl (ySh.t hS rfl) (ySh.n hS rfl) ?_
                        refine sp_bearLoss hS hC (by omega) (by omega) (fun I92 hC hF1 => ?_)
                        have hF : yFt I I92 := yFt.trans (by repeat (first | exact hF | refine yFt.upd ?_ (by decide))) hF1.t
                        have hd : (I92 34 8).toInt = (I 34 8).toInt := congrArg Int32.toInt (hF1 34 8 (Or.inl (by decide)))
                        refine y_ret0 ?_
                        refine y_goto rfl j_X8_result_136 ?_
                        refine y_aload_n rfl rfl ?_
                        refine y_getR rfl (ySh.t hS rfl) (ySh.n hS rfl) rfl rfl (ySh.r hS rfl) ?_
                        refine y_iload_n rfl rfl ?_
                        refine y_virt rfl rfl rfl rfl rfl (ySh.t hS rfl) (ySh.n hS rfl) ?_
                        refine sp_capitals_X7 hS hC (by omega) (by omega) (fun v_ => ?_)
                        refine y_ret1 ?_
                        refine y_ireturn rfl rfl rfl ?_
                        exact hQ _ _ hC (by repeat (first | exact hF | refine yFt.upd ?_ (by decide)))
                    · refine y_aload_n rfl rfl ?_
                      refine y_iload_n rfl rfl ?_
                      refine y_iload_n rfl rfl ?_
                      refine y_virt rfl rfl rfl rfl rfl (ySh.t hS rfl) (ySh.n hS rfl) ?_
                      refine sp_shareProfit_X8 hS hC (by omega) (by omega) (fun I93 hC hF1 => ?_)
                      have hF : yFt I I93 := yFt.trans (by repeat (first | exact hF | refine yFt.upd ?_ (by decide))) hF1.t
                      have hd : (I93 34 8).toInt = (I 34 8).toInt := congrArg Int32.toInt (hF1 34 8 (Or.inl (by decide)))
                      refine y_ret0 ?_
                      refine y_goto rfl j_X8_result_136 ?_
                      refine y_aload_n rfl rfl ?_
                      refine y_getR rfl (ySh.t hS rfl) (ySh.n hS rfl) rfl rfl (ySh.r hS rfl) ?_
                      refine y_iload_n rfl rfl ?_
                      refine y_virt rfl rfl rfl rfl rfl (ySh.t hS rfl) (ySh.n hS rfl) ?_
                      refine sp_capitals_X7 hS hC (by omega) (by omega) (fun v_ => ?_)
                      refine y_ret1 ?_
                      refine y_ireturn rfl rfl rfl ?_
                      exact hQ _ _ hC (by repeat (first | exact hF | refine yFt.upd ?_ (by decide)))
                  · refine y_throw rfl rfl rfl ?_
                    exact hE2
                · rw [yz_m1] at h_70
                  refine y_bip rfl (by decide) ?_
                  refine y_goto rfl j_X8_placeOf_11 ?_
                  refine y_ireturn rfl rfl rfl ?_
                  refine y_ret1 ?_
                  refine y_virt rfl rfl rfl rfl rfl (ySh.t hS rfl) (ySh.n hS rfl) ?_
                  refine y_in (M := xm_X7_isPartner) (ls := [some _, some _, some _]) rfl rfl rfl ?_
                  refine y_aload_n rfl rfl ?_
                  refine y_getR rfl (ySh.t hS rfl) (ySh.n hS rfl) rfl rfl (ySh.r hS rfl) ?_
                  refine y_aload_n rfl rfl ?_
                  refine y_iload_n rfl rfl ?_
                  refine y_iload_n rfl rfl ?_
                  refine y_virt rfl rfl rfl rfl rfl (ySh.t hS rfl) (ySh.n hS rfl) ?_
                  refine sp_at (by omega) (by omega) (by decide) (by decide) (fun z_ hz84 => ?_)
                  rw [yz_8] at hz84
                  refine y_ret1 ?_
                  refine y_baload rfl (ySh.t hS rfl) rfl (ySh.n hS rfl) (by omega) (by omega) ?_
                  refine y_ireturn rfl rfl (xfit_z (hC.p _)) ?_
                  refine y_ret1 ?_
                  refine y_if_ne rfl j_X8_result_92 (fun h_85 => ?_) (fun h_86 => ?_)
                  · refine y_iload_n rfl rfl ?_
                    refine y_if_lt rfl j_X8_result_105 (fun h_87 => ?_) (fun h_88 => ?_)
                    · refine y_iload_n rfl rfl ?_
                      refine y_bip rfl (by decide) ?_
                      refine y_icmp_ne rfl j_X8_result_124 (fun h_89 => ?_) (fun h_90 => ?_)
                      · rw [yz_m2] at h_89
                        refine y_aload_n rfl rfl ?_
                        refine y_getR rfl (ySh.t hS rfl) (ySh.n hS rfl) rfl rfl (ySh.r hS rfl) ?_
                        refine y_iload_n rfl rfl ?_
                        refine y_static rfl rfl rfl rfl rfl ?_
                        refine y_in (M := xm_X8_placeOf) (ls := [some _]) rfl rfl rfl ?_
                        refine y_iload_n rfl rfl ?_
                        refine y_iconst rfl ?_
                        refine y_icmp_ne rfl j_X8_placeOf_10 (fun h_91 => ?_) (fun h_92 => ?_)
                        · rw [yz_m1] at h_91
                          refine y_iload_n rfl rfl ?_
                          refine y_ireturn rfl rfl rfl ?_
                          refine y_ret1 ?_
                          refine y_iload_n rfl rfl ?_
                          refine y_virt rfl rfl rfl rfl rfl (ySh.t hS rfl) (ySh.n hS rfl) ?_
                          refine sp_add_X4 hS hC (fun I103 hC hF1 => ?_)
                          have hF : yFt I I103 := yFt.trans (by repeat (first | exact hF | refine yFt.upd ?_ (by decide))) hF1.t
                          have hd : (I103 34 8).toInt = (I 34 8).toInt := congrArg Int32.toInt (hF1 34 8 (Or.inl (by decide)))
                          refine y_ret0 ?_
                          refine y_aload_n rfl rfl ?_
                          refine y_getR rfl (ySh.t hS rfl) (ySh.n hS rfl) rfl rfl (ySh.r hS rfl) ?_
                          refine y_iload_n rfl rfl ?_
                          refine y_virt rfl rfl rfl rfl rfl (ySh.t hS rfl) (ySh.n hS rfl) ?_
                          refine sp_capitals_X7 hS hC (by omega) (by omega) (fun v_ => ?_)
                          refine y_ret1 ?_
                          refine y_ireturn rfl rfl rfl ?_
                          exact hQ _ _ hC (by repeat (first | exact hF | refine yFt.upd ?_ (by decide)))
                        · rw [yz_m1] at h_92
                          refine y_bip rfl (by decide) ?_
                          refine y_goto rfl j_X8_placeOf_11 ?_
                          refine y_ireturn rfl rfl rfl ?_
                          refine y_ret1 ?_
                          refine y_iload_n rfl rfl ?_
                          refine y_virt rfl rfl rfl rfl rfl (ySh.t hS rfl) (ySh.n hS rfl) ?_
                          refine sp_add_X4 hS hC (fun I104 hC hF1 => ?_)
                          have hF : yFt I I104 := yFt.trans (by repeat (first | exact hF | refine yFt.upd ?_ (by decide))) hF1.t
                          have hd : (I104 34 8).toInt = (I 34 8).toInt := congrArg Int32.toInt (hF1 34 8 (Or.inl (by decide)))
                          refine y_ret0 ?_
                          refine y_aload_n rfl rfl ?_
                          refine y_getR rfl (ySh.t hS rfl) (ySh.n hS rfl) rfl rfl (ySh.r hS rfl) ?_
                          refine y_iload_n rfl rfl ?_
                          refine y_virt rfl rfl rfl rfl rfl (ySh.t hS rfl) (ySh.n hS rfl) ?_
                          refine sp_capitals_X7 hS hC (by omega) (by omega) (fun v_ => ?_)
                          refine y_ret1 ?_
                          refine y_ireturn rfl rfl rfl ?_
                          exact hQ _ _ hC (by repeat (first | exact hF | refine yFt.upd ?_ (by decide)))
                      · rw [yz_m2] at h_90
                        refine y_aload_n rfl rfl ?_
                        refine y_getR rfl (ySh.t hS rfl) (ySh.n hS rfl) rfl rfl (ySh.r hS rfl) ?_
                        refine y_iload_n rfl rfl ?_
                        refine y_iload_n rfl rfl ?_
                        refine y_ineg rfl ?_
                        refine y_virt rfl rfl rfl rfl rfl (ySh.t hS rfl) (ySh.n hS rfl) ?_
                        refine sp_bearLoss hS hC (by omega) (by omega) (fun I105 hC hF1 => ?_)
                        have hF : yFt I I105 := yFt.trans (by repeat (first | exact hF | refine yFt.upd ?_ (by decide))) hF1.t
                        have hd : (I105 34 8).toInt = (I 34 8).toInt := congrArg Int32.toInt (hF1 34 8 (Or.inl (by decide)))
                        refine y_ret0 ?_
                        refine y_goto rfl j_X8_result_136 ?_
                        refine y_aload_n rfl rfl ?_
                        refine y_getR rfl (ySh.t hS rfl) (ySh.n hS rfl) rfl rfl (ySh.r hS rfl) ?_
                        refine y_iload_n rfl rfl ?_
                        refine y_virt rfl rfl rfl rfl rfl (ySh.t hS rfl) (ySh.n hS rfl) ?_
                        refine sp_capitals_X7 hS hC (by omega) (by omega) (fun v_ => ?_)
                        refine y_ret1 ?_
                        refine y_ireturn rfl rfl rfl ?_
                        exact hQ _ _ hC (by repeat (first | exact hF | refine yFt.upd ?_ (by decide)))
                    · refine y_aload_n rfl rfl ?_
                      refine y_iload_n rfl rfl ?_
                      refine y_iload_n rfl rfl ?_
                      refine y_virt rfl rfl rfl rfl rfl (ySh.t hS rfl) (ySh.n hS rfl) ?_
                      refine sp_shareProfit_X8 hS hC (by omega) (by omega) (fun I106 hC hF1 => ?_)
                      have hF : yFt I I106 := yFt.trans (by repeat (first | exact hF | refine yFt.upd ?_ (by decide))) hF1.t
                      have hd : (I106 34 8).toInt = (I 34 8).toInt := congrArg Int32.toInt (hF1 34 8 (Or.inl (by decide)))
                      refine y_ret0 ?_
                      refine y_goto rfl j_X8_result_136 ?_
                      refine y_aload_n rfl rfl ?_
                      refine y_getR rfl (ySh.t hS rfl) (ySh.n hS rfl) rfl rfl (ySh.r hS rfl) ?_
                      refine y_iload_n rfl rfl ?_
                      refine y_virt rfl rfl rfl rfl rfl (ySh.t hS rfl) (ySh.n hS rfl) ?_
                      refine sp_capitals_X7 hS hC (by omega) (by omega) (fun v_ => ?_)
                      refine y_ret1 ?_
                      refine y_ireturn rfl rfl rfl ?_
                      exact hQ _ _ hC (by repeat (first | exact hF | refine yFt.upd ?_ (by decide)))
                  · refine y_throw rfl rfl rfl ?_
                    exact hE2
        · rw [yz_m1] at h_52
          refine y_aload_n rfl rfl ?_
          refine y_getR rfl (ySh.t hS rfl) (ySh.n hS rfl) rfl rfl (ySh.r hS rfl) ?_
          refine y_iload_n rfl rfl ?_
          refine y_virt rfl rfl rfl rfl rfl (ySh.t hS rfl) (ySh.n hS rfl) ?_
          refine y_in (M := xm_X4_has) (ls := [some _, some _]) rfl rfl rfl ?_
          refine y_iload_n rfl rfl ?_
          refine y_if_lt rfl j_X4_has_16 (fun h_97 => ?_) (fun h_98 => ?_)
          · refine y_iconst rfl ?_
            refine y_ireturn rfl rfl rfl ?_
            refine y_ret1 ?_
            refine y_if_eqT rfl j_X8_isParty_20 (by decide) ?_
            refine y_iconst rfl ?_
            refine y_ireturn rfl rfl rfl ?_
            refine y_ret1 ?_
            refine y_if_neF rfl (by decide) ?_
            refine y_throw rfl rfl rfl ?_
            exact hE0
          · refine y_iload_n rfl rfl ?_
            refine y_aload_n rfl rfl ?_
            refine y_getI rfl (ySh.t hS rfl) (ySh.n hS rfl) rfl rfl ?_
            refine y_icmp_ge rfl j_X4_has_16 (fun h_99 => ?_) (fun h_100 => ?_)
            · refine y_iconst rfl ?_
              refine y_ireturn rfl rfl rfl ?_
              refine y_ret1 ?_
              refine y_if_eqT rfl j_X8_isParty_20 (by decide) ?_
              refine y_iconst rfl ?_
              refine y_ireturn rfl rfl rfl ?_
              refine y_ret1 ?_
              refine y_if_neF rfl (by decide) ?_
              refine y_throw rfl rfl rfl ?_
              exact hE0
            · refine y_iconst rfl ?_
              refine y_goto rfl j_X4_has_17 ?_
              refine y_ireturn rfl rfl rfl ?_
              refine y_ret1 ?_
              refine y_if_eqF rfl (by decide) ?_
              refine y_iconst rfl ?_
              refine y_goto rfl j_X8_isParty_21 ?_
              refine y_ireturn rfl rfl rfl ?_
              refine y_ret1 ?_
              refine y_if_neT rfl j_X8_result_36 (by decide) ?_
              refine y_iload_n rfl rfl ?_
              refine y_sip rfl (by decide) ?_
              refine y_sip rfl (by decide) ?_
              refine y_static rfl rfl rfl rfl rfl ?_
              refine y_in (M := xm_X8_isIn) (ls := [some _, some _, some _]) rfl rfl rfl ?_
              refine y_iload_n rfl rfl ?_
              refine y_iload_n rfl rfl ?_
              refine y_icmp_lt rfl j_X8_isIn_14 (fun h_101 => ?_) (fun h_102 => ?_)
              · rw [yz_m999] at h_101
                refine y_iconst rfl ?_
                refine y_ireturn rfl rfl rfl ?_
                refine y_ret1 ?_
                refine y_if_neF rfl (by decide) ?_
                refine y_throw rfl rfl rfl ?_
                exact hE1
              · rw [yz_m999] at h_102
                refine y_iload_n rfl rfl ?_
                refine y_iload_n rfl rfl ?_
                refine y_icmp_gt rfl j_X8_isIn_14 (fun h_103 => ?_) (fun h_104 => ?_)
                · rw [yz_999] at h_103
                  refine y_iconst rfl ?_
                  refine y_ireturn rfl rfl rfl ?_
                  refine y_ret1 ?_
                  refine y_if_neF rfl (by decide) ?_
                  refine y_throw rfl rfl rfl ?_
                  exact hE1
                · rw [yz_999] at h_104
                  refine y_iconst rfl ?_
                  refine y_goto rfl j_X8_isIn_15 ?_
                  refine y_ireturn rfl rfl rfl ?_
                  refine y_ret1 ?_
                  refine y_if_neT rfl j_X8_result_60 (by decide) ?_
                  refine y_iload_n rfl rfl ?_
                  refine y_bip rfl (by decide) ?_
                  refine y_icmp_eq rfl j_X8_result_92 (fun h_105 => ?_) (fun h_106 => ?_)
                  · rw [yz_m2] at h_105
                    refine y_iload_n rfl rfl ?_
                    refine y_if_lt rfl j_X8_result_105 (fun h_107 => ?_) (fun h_108 => ?_)
                    · refine y_iload_n rfl rfl ?_
                      refine y_bip rfl (by decide) ?_
                      refine y_icmp_ne rfl j_X8_result_124 (fun h_109 => ?_) (fun h_110 => ?_)
                      · rw [yz_m2] at h_109
                        refine y_aload_n rfl rfl ?_
                        refine y_getR rfl (ySh.t hS rfl) (ySh.n hS rfl) rfl rfl (ySh.r hS rfl) ?_
                        refine y_iload_n rfl rfl ?_
                        refine y_static rfl rfl rfl rfl rfl ?_
                        refine y_in (M := xm_X8_placeOf) (ls := [some _]) rfl rfl rfl ?_
                        refine y_iload_n rfl rfl ?_
                        refine y_iconst rfl ?_
                        refine y_icmp_ne rfl j_X8_placeOf_10 (fun h_111 => ?_) (fun h_112 => ?_)
                        · rw [yz_m1] at h_111
                          refine y_iload_n rfl rfl ?_
                          refine y_ireturn rfl rfl rfl ?_
                          refine y_ret1 ?_
                          refine y_iload_n rfl rfl ?_
                          refine y_virt rfl rfl rfl rfl rfl (ySh.t hS rfl) (ySh.n hS rfl) ?_
                          refine sp_add_X4 hS hC (fun I123 hC hF1 => ?_)
                          have hF : yFt I I123 := yFt.trans (by repeat (first | exact hF | refine yFt.upd ?_ (by decide))) hF1.t
                          have hd : (I123 34 8).toInt = (I 34 8).toInt := congrArg Int32.toInt (hF1 34 8 (Or.inl (by decide)))
                          refine y_ret0 ?_
                          refine y_aload_n rfl rfl ?_
                          refine y_getR rfl (ySh.t hS rfl) (ySh.n hS rfl) rfl rfl (ySh.r hS rfl) ?_
                          refine y_iload_n rfl rfl ?_
                          refine y_virt rfl rfl rfl rfl rfl (ySh.t hS rfl) (ySh.n hS rfl) ?_
                          refine sp_capitals_X7 hS hC (by omega) (by omega) (fun v_ => ?_)
                          refine y_ret1 ?_
                          refine y_ireturn rfl rfl rfl ?_
                          exact hQ _ _ hC (by repeat (first | exact hF | refine yFt.upd ?_ (by decide)))
                        · rw [yz_m1] at h_112
                          refine y_bip rfl (by decide) ?_
                          refine y_goto rfl j_X8_placeOf_11 ?_
                          refine y_ireturn rfl rfl rfl ?_
                          refine y_ret1 ?_
                          refine y_iload_n rfl rfl ?_
                          refine y_virt rfl rfl rfl rfl rfl (ySh.t hS rfl) (ySh.n hS rfl) ?_
                          refine sp_add_X4 hS hC (fun I124 hC hF1 => ?_)
                          have hF : yFt I I124 := yFt.trans (by repeat (first | exact hF | refine yFt.upd ?_ (by decide))) hF1.t
                          have hd : (I124 34 8).toInt = (I 34 8).toInt := congrArg Int32.toInt (hF1 34 8 (Or.inl (by decide)))
                          refine y_ret0 ?_
                          refine y_aload_n rfl rfl ?_
                          refine y_getR rfl (ySh.t hS rfl) (ySh.n hS rfl) rfl rfl (ySh.r hS rfl) ?_
                          refine y_iload_n rfl rfl ?_
                          refine y_virt rfl rfl rfl rfl rfl (ySh.t hS rfl) (ySh.n hS rfl) ?_
                          refine sp_capitals_X7 hS hC (by omega) (by omega) (fun v_ => ?_)
                          refine y_ret1 ?_
                          refine y_ireturn rfl rfl rfl ?_
                          exact hQ _ _ hC (by repeat (first | exact hF | refine yFt.upd ?_ (by decide)))
                      · rw [yz_m2] at h_110
                        refine y_aload_n rfl rfl ?_
                        refine y_getR rfl (ySh.t hS rfl) (ySh.n hS rfl) rfl rfl (ySh.r hS rfl) ?_
                        refine y_iload_n rfl rfl ?_
                        refine y_iload_n rfl rfl ?_
                        refine y_ineg rfl ?_
                        refine y_virt rfl rfl rfl rfl rfl (ySh.t hS rfl) (ySh.n hS rfl) ?_
                        refine sp_bearLoss hS hC (by omega) (by omega) (fun I125 hC hF1 => ?_)
                        have hF : yFt I I125 := yFt.trans (by repeat (first | exact hF | refine yFt.upd ?_ (by decide))) hF1.t
                        have hd : (I125 34 8).toInt = (I 34 8).toInt := congrArg Int32.toInt (hF1 34 8 (Or.inl (by decide)))
                        refine y_ret0 ?_
                        refine y_goto rfl j_X8_result_136 ?_
                        refine y_aload_n rfl rfl ?_
                        refine y_getR rfl (ySh.t hS rfl) (ySh.n hS rfl) rfl rfl (ySh.r hS rfl) ?_
                        refine y_iload_n rfl rfl ?_
                        refine y_virt rfl rfl rfl rfl rfl (ySh.t hS rfl) (ySh.n hS rfl) ?_
                        refine sp_capitals_X7 hS hC (by omega) (by omega) (fun v_ => ?_)
                        refine y_ret1 ?_
                        refine y_ireturn rfl rfl rfl ?_
                        exact hQ _ _ hC (by repeat (first | exact hF | refine yFt.upd ?_ (by decide)))
                    · refine y_aload_n rfl rfl ?_
                      refine y_iload_n rfl rfl ?_
                      refine y_iload_n rfl rfl ?_
                      refine y_virt rfl rfl rfl rfl rfl (ySh.t hS rfl) (ySh.n hS rfl) ?_
                      refine sp_shareProfit_X8 hS hC (by omega) (by omega) (fun I126 hC hF1 => ?_)
                      have hF : yFt I I126 := yFt.trans (by repeat (first | exact hF | refine yFt.upd ?_ (by decide))) hF1.t
                      have hd : (I126 34 8).toInt = (I 34 8).toInt := congrArg Int32.toInt (hF1 34 8 (Or.inl (by decide)))
                      refine y_ret0 ?_
                      refine y_goto rfl j_X8_result_136 ?_
                      refine y_aload_n rfl rfl ?_
                      refine y_getR rfl (ySh.t hS rfl) (ySh.n hS rfl) rfl rfl (ySh.r hS rfl) ?_
                      refine y_iload_n rfl rfl ?_
                      refine y_virt rfl rfl rfl rfl rfl (ySh.t hS rfl) (ySh.n hS rfl) ?_
                      refine sp_capitals_X7 hS hC (by omega) (by omega) (fun v_ => ?_)
                      refine y_ret1 ?_
                      refine y_ireturn rfl rfl rfl ?_
                      exact hQ _ _ hC (by repeat (first | exact hF | refine yFt.upd ?_ (by decide)))
                  · rw [yz_m2] at h_106
                    refine y_aload_n rfl rfl ?_
                    refine y_getR rfl (ySh.t hS rfl) (ySh.n hS rfl) rfl rfl (ySh.r hS rfl) ?_
                    refine y_iload_n rfl rfl ?_
                    refine y_iload_n rfl rfl ?_
                    refine y_static rfl rfl rfl rfl rfl ?_
                    refine y_in (M := xm_X8_placeOf) (ls := [some _]) rfl rfl rfl ?_
                    refine y_iload_n rfl rfl ?_
                    refine y_iconst rfl ?_
                    refine y_icmp_ne rfl j_X8_placeOf_10 (fun h_117 => ?_) (fun h_118 => ?_)
                    · rw [yz_m1] at h_117
                      refine y_iload_n rfl rfl ?_
                      refine y_ireturn rfl rfl rfl ?_
                      refine y_ret1 ?_
                      refine y_virt rfl rfl rfl rfl rfl (ySh.t hS rfl) (ySh.n hS rfl) ?_
                      refine y_in (M := xm_X7_isPartner) (ls := [some _, some _, some _]) rfl rfl rfl ?_
                      refine y_aload_n rfl rfl ?_
                      refine y_getR rfl (ySh.t hS rfl) (ySh.n hS rfl) rfl rfl (ySh.r hS rfl) ?_
                      refine y_aload_n rfl rfl ?_
                      refine y_iload_n rfl rfl ?_
                      refine y_iload_n rfl rfl ?_
                      refine y_virt rfl rfl rfl rfl rfl (ySh.t hS rfl) (ySh.n hS rfl) ?_
                      refine sp_at (by omega) (by omega) (by omega) (by omega) (fun z_ hz119 => ?_)
                      refine y_ret1 ?_
                      refine y_baload rfl (ySh.t hS rfl) rfl (ySh.n hS rfl) (by omega) (by omega) ?_
                      refine y_ireturn rfl rfl (xfit_z (hC.p _)) ?_
                      refine y_ret1 ?_
                      refine y_if_ne rfl j_X8_result_92 (fun h_120 => ?_) (fun h_121 => ?_)
                      · refine y_iload_n rfl rfl ?_
                        refine y_if_lt rfl j_X8_result_105 (fun h_122 => ?_) (fun h_123 => ?_)
                        · refine y_iload_n rfl rfl ?_
                          refine y_bip rfl (by decide) ?_
                          refine y_icmp_ne rfl j_X8_result_124 (fun h_124 => ?_) (fun h_125 => ?_)
                          · rw [yz_m2] at h_124
                            refine y_aload_n rfl rfl ?_
                            refine y_getR rfl (ySh.t hS rfl) (ySh.n hS rfl) rfl rfl (ySh.r hS rfl) ?_
                            refine y_iload_n rfl rfl ?_
                            refine y_static rfl rfl rfl rfl rfl ?_
                            refine y_in (M := xm_X8_placeOf) (ls := [some _]) rfl rfl rfl ?_
                            refine y_iload_n rfl rfl ?_
                            refine y_iconst rfl ?_
                            refine y_icmp_ne rfl j_X8_placeOf_10 (fun h_126 => ?_) (fun h_127 => ?_)
                            · rw [yz_m1] at h_126
                              refine y_iload_n rfl rfl ?_
                              refine y_ireturn rfl rfl rfl ?_
                              refine y_ret1 ?_
                              refine y_iload_n rfl rfl ?_
                              refine y_virt rfl rfl rfl rfl rfl (ySh.t hS rfl) (ySh.n hS rfl) ?_
                              refine sp_add_X4 hS hC (fun I138 hC hF1 => ?_)
                              have hF : yFt I I138 := yFt.trans (by repeat (first | exact hF | refine yFt.upd ?_ (by decide))) hF1.t
                              have hd : (I138 34 8).toInt = (I 34 8).toInt := congrArg Int32.toInt (hF1 34 8 (Or.inl (by decide)))
                              refine y_ret0 ?_
                              refine y_aload_n rfl rfl ?_
                              refine y_getR rfl (ySh.t hS rfl) (ySh.n hS rfl) rfl rfl (ySh.r hS rfl) ?_
                              refine y_iload_n rfl rfl ?_
                              refine y_virt rfl rfl rfl rfl rfl (ySh.t hS rfl) (ySh.n hS rfl) ?_
                              refine sp_capitals_X7 hS hC (by omega) (by omega) (fun v_ => ?_)
                              refine y_ret1 ?_
                              refine y_ireturn rfl rfl rfl ?_
                              exact hQ _ _ hC (by repeat (first | exact hF | refine yFt.upd ?_ (by decide)))
                            · rw [yz_m1] at h_127
                              refine y_bip rfl (by decide) ?_
                              refine y_goto rfl j_X8_placeOf_11 ?_
                              refine y_ireturn rfl rfl rfl ?_
                              refine y_ret1 ?_
                              refine y_iload_n rfl rfl ?_
                              refine y_virt rfl rfl rfl rfl rfl (ySh.t hS rfl) (ySh.n hS rfl) ?_
                              refine sp_add_X4 hS hC (fun I139 hC hF1 => ?_)
                              have hF : yFt I I139 := yFt.trans (by repeat (first | exact hF | refine yFt.upd ?_ (by decide))) hF1.t
                              have hd : (I139 34 8).toInt = (I 34 8).toInt := congrArg Int32.toInt (hF1 34 8 (Or.inl (by decide)))
                              refine y_ret0 ?_
                              refine y_aload_n rfl rfl ?_
                              refine y_getR rfl (ySh.t hS rfl) (ySh.n hS rfl) rfl rfl (ySh.r hS rfl) ?_
                              refine y_iload_n rfl rfl ?_
                              refine y_virt rfl rfl rfl rfl rfl (ySh.t hS rfl) (ySh.n hS rfl) ?_
                              refine sp_capitals_X7 hS hC (by omega) (by omega) (fun v_ => ?_)
                              refine y_ret1 ?_
                              refine y_ireturn rfl rfl rfl ?_
                              exact hQ _ _ hC (by repeat (first | exact hF | refine yFt.upd ?_ (by decide)))
                          · rw [yz_m2] at h_125
                            refine y_aload_n rfl rfl ?_
                            refine y_getR rfl (ySh.t hS rfl) (ySh.n hS rfl) rfl rfl (ySh.r hS rfl) ?_
                            refine y_iload_n rfl rfl ?_
                            refine y_iload_n rfl rfl ?_
                            refine y_ineg rfl ?_
                            refine y_virt rfl rfl rfl rfl rfl (ySh.t hS rfl) (ySh.n hS rfl) ?_
                            refine sp_bearLoss hS hC (by omega) (by omega) (fun I140 hC hF1 => ?_)
                            have hF : yFt I I140 := yFt.trans (by repeat (first | exact hF | refine yFt.upd ?_ (by decide))) hF1.t
                            have hd : (I140 34 8).toInt = (I 34 8).toInt := congrArg Int32.toInt (hF1 34 8 (Or.inl (by decide)))
                            refine y_ret0 ?_
                            refine y_goto rfl j_X8_result_136 ?_
                            refine y_aload_n rfl rfl ?_
                            refine y_getR rfl (ySh.t hS rfl) (ySh.n hS rfl) rfl rfl (ySh.r hS rfl) ?_
                            refine y_iload_n rfl rfl ?_
                            refine y_virt rfl rfl rfl rfl rfl (ySh.t hS rfl) (ySh.n hS rfl) ?_
                            refine sp_capitals_X7 hS hC (by omega) (by omega) (fun v_ => ?_)
                            refine y_ret1 ?_
                            refine y_ireturn rfl rfl rfl ?_
                            exact hQ _ _ hC (by repeat (first | exact hF | refine yFt.upd ?_ (by decide)))
                        · refine y_aload_n rfl rfl ?_
                          refine y_iload_n rfl rfl ?_
                          refine y_iload_n rfl rfl ?_
                          refine y_virt rfl rfl rfl rfl rfl (ySh.t hS rfl) (ySh.n hS rfl) ?_
                          refine sp_shareProfit_X8 hS hC (by omega) (by omega) (fun I141 hC hF1 => ?_)
                          have hF : yFt I I141 := yFt.trans (by repeat (first | exact hF | refine yFt.upd ?_ (by decide))) hF1.t
                          have hd : (I141 34 8).toInt = (I 34 8).toInt := congrArg Int32.toInt (hF1 34 8 (Or.inl (by decide)))
                          refine y_ret0 ?_
                          refine y_goto rfl j_X8_result_136 ?_
                          refine y_aload_n rfl rfl ?_
                          refine y_getR rfl (ySh.t hS rfl) (ySh.n hS rfl) rfl rfl (ySh.r hS rfl) ?_
                          refine y_iload_n rfl rfl ?_
                          refine y_virt rfl rfl rfl rfl rfl (ySh.t hS rfl) (ySh.n hS rfl) ?_
                          refine sp_capitals_X7 hS hC (by omega) (by omega) (fun v_ => ?_)
                          refine y_ret1 ?_
                          refine y_ireturn rfl rfl rfl ?_
                          exact hQ _ _ hC (by repeat (first | exact hF | refine yFt.upd ?_ (by decide)))
                      · refine y_throw rfl rfl rfl ?_
                        exact hE2
                    · rw [yz_m1] at h_118
                      refine y_bip rfl (by decide) ?_
                      refine y_goto rfl j_X8_placeOf_11 ?_
                      refine y_ireturn rfl rfl rfl ?_
                      refine y_ret1 ?_
                      refine y_virt rfl rfl rfl rfl rfl (ySh.t hS rfl) (ySh.n hS rfl) ?_
                      refine y_in (M := xm_X7_isPartner) (ls := [some _, some _, some _]) rfl rfl rfl ?_
                      refine y_aload_n rfl rfl ?_
                      refine y_getR rfl (ySh.t hS rfl) (ySh.n hS rfl) rfl rfl (ySh.r hS rfl) ?_
                      refine y_aload_n rfl rfl ?_
                      refine y_iload_n rfl rfl ?_
                      refine y_iload_n rfl rfl ?_
                      refine y_virt rfl rfl rfl rfl rfl (ySh.t hS rfl) (ySh.n hS rfl) ?_
                      refine sp_at (by omega) (by omega) (by decide) (by decide) (fun z_ hz132 => ?_)
                      rw [yz_8] at hz132
                      refine y_ret1 ?_
                      refine y_baload rfl (ySh.t hS rfl) rfl (ySh.n hS rfl) (by omega) (by omega) ?_
                      refine y_ireturn rfl rfl (xfit_z (hC.p _)) ?_
                      refine y_ret1 ?_
                      refine y_if_ne rfl j_X8_result_92 (fun h_133 => ?_) (fun h_134 => ?_)
                      · refine y_iload_n rfl rfl ?_
                        refine y_if_lt rfl j_X8_result_105 (fun h_135 => ?_) (fun h_136 => ?_)
                        · refine y_iload_n rfl rfl ?_
                          refine y_bip rfl (by decide) ?_
                          refine y_icmp_ne rfl j_X8_result_124 (fun h_137 => ?_) (fun h_138 => ?_)
                          · rw [yz_m2] at h_137
                            refine y_aload_n rfl rfl ?_
                            refine y_getR rfl (ySh.t hS rfl) (ySh.n hS rfl) rfl rfl (ySh.r hS rfl) ?_
                            refine y_iload_n rfl rfl ?_
                            refine y_static rfl rfl rfl rfl rfl ?_
                            refine y_in (M := xm_X8_placeOf) (ls := [some _]) rfl rfl rfl ?_
                            refine y_iload_n rfl rfl ?_
                            refine y_iconst rfl ?_
                            refine y_icmp_ne rfl j_X8_placeOf_10 (fun h_139 => ?_) (fun h_140 => ?_)
                            · rw [yz_m1] at h_139
                              refine y_iload_n rfl rfl ?_
                              refine y_ireturn rfl rfl rfl ?_
                              refine y_ret1 ?_
                              refine y_iload_n rfl rfl ?_
                              refine y_virt rfl rfl rfl rfl rfl (ySh.t hS rfl) (ySh.n hS rfl) ?_
                              refine sp_add_X4 hS hC (fun I151 hC hF1 => ?_)
                              have hF : yFt I I151 := yFt.trans (by repeat (first | exact hF | refine yFt.upd ?_ (by decide))) hF1.t
                              have hd : (I151 34 8).toInt = (I 34 8).toInt := congrArg Int32.toInt (hF1 34 8 (Or.inl (by decide)))
                              refine y_ret0 ?_
                              refine y_aload_n rfl rfl ?_
                              refine y_getR rfl (ySh.t hS rfl) (ySh.n hS rfl) rfl rfl (ySh.r hS rfl) ?_
                              refine y_iload_n rfl rfl ?_
                              refine y_virt rfl rfl rfl rfl rfl (ySh.t hS rfl) (ySh.n hS rfl) ?_
                              refine sp_capitals_X7 hS hC (by omega) (by omega) (fun v_ => ?_)
                              refine y_ret1 ?_
                              refine y_ireturn rfl rfl rfl ?_
                              exact hQ _ _ hC (by repeat (first | exact hF | refine yFt.upd ?_ (by decide)))
                            · rw [yz_m1] at h_140
                              refine y_bip rfl (by decide) ?_
                              refine y_goto rfl j_X8_placeOf_11 ?_
                              refine y_ireturn rfl rfl rfl ?_
                              refine y_ret1 ?_
                              refine y_iload_n rfl rfl ?_
                              refine y_virt rfl rfl rfl rfl rfl (ySh.t hS rfl) (ySh.n hS rfl) ?_
                              refine sp_add_X4 hS hC (fun I152 hC hF1 => ?_)
                              have hF : yFt I I152 := yFt.trans (by repeat (first | exact hF | refine yFt.upd ?_ (by decide))) hF1.t
                              have hd : (I152 34 8).toInt = (I 34 8).toInt := congrArg Int32.toInt (hF1 34 8 (Or.inl (by decide)))
                              refine y_ret0 ?_
                              refine y_aload_n rfl rfl ?_
                              refine y_getR rfl (ySh.t hS rfl) (ySh.n hS rfl) rfl rfl (ySh.r hS rfl) ?_
                              refine y_iload_n rfl rfl ?_
                              refine y_virt rfl rfl rfl rfl rfl (ySh.t hS rfl) (ySh.n hS rfl) ?_
                              refine sp_capitals_X7 hS hC (by omega) (by omega) (fun v_ => ?_)
                              refine y_ret1 ?_
                              refine y_ireturn rfl rfl rfl ?_
                              exact hQ _ _ hC (by repeat (first | exact hF | refine yFt.upd ?_ (by decide)))
                          · rw [yz_m2] at h_138
                            refine y_aload_n rfl rfl ?_
                            refine y_getR rfl (ySh.t hS rfl) (ySh.n hS rfl) rfl rfl (ySh.r hS rfl) ?_
                            refine y_iload_n rfl rfl ?_
                            refine y_iload_n rfl rfl ?_
                            refine y_ineg rfl ?_
                            refine y_virt rfl rfl rfl rfl rfl (ySh.t hS rfl) (ySh.n hS rfl) ?_
                            refine sp_bearLoss hS hC (by omega) (by omega) (fun I153 hC hF1 => ?_)
                            have hF : yFt I I153 := yFt.trans (by repeat (first | exact hF | refine yFt.upd ?_ (by decide))) hF1.t
                            have hd : (I153 34 8).toInt = (I 34 8).toInt := congrArg Int32.toInt (hF1 34 8 (Or.inl (by decide)))
                            refine y_ret0 ?_
                            refine y_goto rfl j_X8_result_136 ?_
                            refine y_aload_n rfl rfl ?_
                            refine y_getR rfl (ySh.t hS rfl) (ySh.n hS rfl) rfl rfl (ySh.r hS rfl) ?_
                            refine y_iload_n rfl rfl ?_
                            refine y_virt rfl rfl rfl rfl rfl (ySh.t hS rfl) (ySh.n hS rfl) ?_
                            refine sp_capitals_X7 hS hC (by omega) (by omega) (fun v_ => ?_)
                            refine y_ret1 ?_
                            refine y_ireturn rfl rfl rfl ?_
                            exact hQ _ _ hC (by repeat (first | exact hF | refine yFt.upd ?_ (by decide)))
                        · refine y_aload_n rfl rfl ?_
                          refine y_iload_n rfl rfl ?_
                          refine y_iload_n rfl rfl ?_
                          refine y_virt rfl rfl rfl rfl rfl (ySh.t hS rfl) (ySh.n hS rfl) ?_
                          refine sp_shareProfit_X8 hS hC (by omega) (by omega) (fun I154 hC hF1 => ?_)
                          have hF : yFt I I154 := yFt.trans (by repeat (first | exact hF | refine yFt.upd ?_ (by decide))) hF1.t
                          have hd : (I154 34 8).toInt = (I 34 8).toInt := congrArg Int32.toInt (hF1 34 8 (Or.inl (by decide)))
                          refine y_ret0 ?_
                          refine y_goto rfl j_X8_result_136 ?_
                          refine y_aload_n rfl rfl ?_
                          refine y_getR rfl (ySh.t hS rfl) (ySh.n hS rfl) rfl rfl (ySh.r hS rfl) ?_
                          refine y_iload_n rfl rfl ?_
                          refine y_virt rfl rfl rfl rfl rfl (ySh.t hS rfl) (ySh.n hS rfl) ?_
                          refine sp_capitals_X7 hS hC (by omega) (by omega) (fun v_ => ?_)
                          refine y_ret1 ?_
                          refine y_ireturn rfl rfl rfl ?_
                          exact hQ _ _ hC (by repeat (first | exact hF | refine yFt.upd ?_ (by decide)))
                      · refine y_throw rfl rfl rfl ?_
                        exact hE2
theorem m_buyOut (hS : ySh n tg R) (hC : yCI I) {x1 x2 x3 x4 : Int32} (hE0 : Q (.inr "java/lang/IndexOutOfBoundsException") (n, tg, I, R) (c + 1) (s + 6)) (hE1 : Q (.inr "java/lang/IllegalArgumentException") (n, tg, I, R) (c + 1) (s + 6)) (hE2 : Q (.inr "java/lang/IllegalStateException") (n, tg, I, R) (c + 1) (s + 6)) (hQ : ∀ v I1, yCI I1 → yFt I I1 → Q (.inl (some (.int v))) (n, tg, I1, R) c s) : yC 135 [.ref 34, .int x1, .int x2, .int x3, .int x4] (n, tg, I, R) c s Q := by
  have hF : yFt I I := yFt.rf
  refine y_in (M := xm_X8_buyOut) (ls := [some _, some _, some _, some _, some _, _, _]) rfl rfl rfl ?_
  refine y_aload_n rfl rfl ?_
  refine y_getR rfl (ySh.t hS rfl) (ySh.n hS rfl) rfl rfl (ySh.r hS rfl) ?_
  refine y_iload_n rfl rfl ?_
  refine y_virt rfl rfl rfl rfl rfl (ySh.t hS rfl) (ySh.n hS rfl) ?_
  refine y_in (M := xm_X7_has) (ls := [some _, some _]) rfl rfl rfl ?_
  refine y_iload_n rfl rfl ?_
  refine y_if_lt rfl j_X7_has_16 (fun h_1 => ?_) (fun h_2 => ?_)
  · refine y_iconst rfl ?_
    refine y_ireturn rfl rfl rfl ?_
    refine y_ret1 ?_
    refine y_if_eqT rfl j_X8_buyOut_27 (by decide) ?_
    refine y_throw rfl rfl rfl ?_
    exact hE0
  · refine y_iload_n rfl rfl ?_
    refine y_aload_n rfl rfl ?_
    refine y_getI rfl (ySh.t hS rfl) (ySh.n hS rfl) rfl rfl ?_
    refine y_icmp_ge rfl j_X7_has_16 (fun h_3 => ?_) (fun h_4 => ?_)
    · refine y_iconst rfl ?_
      refine y_ireturn rfl rfl rfl ?_
      refine y_ret1 ?_
      refine y_if_eqT rfl j_X8_buyOut_27 (by decide) ?_
      refine y_throw rfl rfl rfl ?_
      exact hE0
    · refine y_iconst rfl ?_
      refine y_goto rfl j_X7_has_17 ?_
      refine y_ireturn rfl rfl rfl ?_
      refine y_ret1 ?_
      refine y_if_eqF rfl (by decide) ?_
      refine y_aload_n rfl rfl ?_
      refine y_iload_n rfl rfl ?_
      refine y_virt rfl rfl rfl rfl rfl (ySh.t hS rfl) (ySh.n hS rfl) ?_
      refine y_in (M := xm_X8_isParty) (ls := [some _, some _]) rfl rfl rfl ?_
      refine y_iload_n rfl rfl ?_
      refine y_iconst rfl ?_
      refine y_icmp_eq rfl j_X8_isParty_16 (fun h_5 => ?_) (fun h_6 => ?_)
      · rw [yz_m1] at h_5
        refine y_iconst rfl ?_
        refine y_goto rfl j_X8_isParty_21 ?_
        refine y_ireturn rfl rfl rfl ?_
        refine y_ret1 ?_
        refine y_if_eqF rfl (by decide) ?_
        refine y_aload_n rfl rfl ?_
        refine y_iload_n rfl rfl ?_
        refine y_virt rfl rfl rfl rfl rfl (ySh.t hS rfl) (ySh.n hS rfl) ?_
        refine y_in (M := xm_X8_isParty) (ls := [some _, some _]) rfl rfl rfl ?_
        refine y_iload_n rfl rfl ?_
        refine y_iconst rfl ?_
        refine y_icmp_eq rfl j_X8_isParty_16 (fun h_7 => ?_) (fun h_8 => ?_)
        · rw [yz_m1] at h_7
          refine y_iconst rfl ?_
          refine y_goto rfl j_X8_isParty_21 ?_
          refine y_ireturn rfl rfl rfl ?_
          refine y_ret1 ?_
          refine y_if_neT rfl j_X8_buyOut_38 (by decide) ?_
          refine y_iload_n rfl rfl ?_
          refine y_iload_n rfl rfl ?_
          refine y_icmp_eq rfl j_X8_buyOut_55 (fun h_9 => ?_) (fun h_10 => ?_)
          · refine y_throw rfl rfl rfl ?_
            exact hE1
          · refine y_iload rfl rfl ?_
            refine y_iconst rfl ?_
            refine y_sip rfl (by decide) ?_
            refine y_static rfl rfl rfl rfl rfl ?_
            refine y_in (M := xm_X8_isIn) (ls := [some _, some _, some _]) rfl rfl rfl ?_
            refine y_iload_n rfl rfl ?_
            refine y_iload_n rfl rfl ?_
            refine y_icmp_lt rfl j_X8_isIn_14 (fun h_11 => ?_) (fun h_12 => ?_)
            · rw [yz_1] at h_11
              refine y_iconst rfl ?_
              refine y_ireturn rfl rfl rfl ?_
              refine y_ret1 ?_
              refine y_if_neF rfl (by decide) ?_
              refine y_throw rfl rfl rfl ?_
              exact hE1
            · rw [yz_1] at h_12
              refine y_iload_n rfl rfl ?_
              refine y_iload_n rfl rfl ?_
              refine y_icmp_gt rfl j_X8_isIn_14 (fun h_13 => ?_) (fun h_14 => ?_)
              · rw [yz_999] at h_13
                refine y_iconst rfl ?_
                refine y_ireturn rfl rfl rfl ?_
                refine y_ret1 ?_
                refine y_if_neF rfl (by decide) ?_
                refine y_throw rfl rfl rfl ?_
                exact hE1
              · rw [yz_999] at h_14
                refine y_iconst rfl ?_
                refine y_goto rfl j_X8_isIn_15 ?_
                refine y_ireturn rfl rfl rfl ?_
                refine y_ret1 ?_
                refine y_if_neT rfl j_X8_buyOut_66 (by decide) ?_
                refine y_iload_n rfl rfl ?_
                refine y_static rfl rfl rfl rfl rfl ?_
                refine y_in (M := xm_X8_placeOf) (ls := [some _]) rfl rfl rfl ?_
                refine y_iload_n rfl rfl ?_
                refine y_iconst rfl ?_
                refine y_icmp_ne rfl j_X8_placeOf_10 (fun h_15 => ?_) (fun h_16 => ?_)
                · rw [yz_m1] at h_15
                  refine y_iload_n rfl rfl ?_
                  refine y_ireturn rfl rfl rfl ?_
                  refine y_ret1 ?_
                  refine y_istore (ls' := [some _, some _, some _, some _, some _, some _, _]) rfl rfl rfl ?_
                  refine y_iload_n rfl rfl ?_
                  refine y_static rfl rfl rfl rfl rfl ?_
                  refine y_in (M := xm_X8_placeOf) (ls := [some _]) rfl rfl rfl ?_
                  refine y_iload_n rfl rfl ?_
                  refine y_iconst rfl ?_
                  refine y_icmp_ne rfl j_X8_placeOf_10 (fun h_17 => ?_) (fun h_18 => ?_)
                  · rw [yz_m1] at h_17
                    refine y_iload_n rfl rfl ?_
                    refine y_ireturn rfl rfl rfl ?_
                    refine y_ret1 ?_
                    refine y_istore (ls' := [some _, some _, some _, some _, some _, some _, some _]) rfl rfl rfl ?_
                    refine y_aload_n rfl rfl ?_
                    refine y_getR rfl (ySh.t hS rfl) (ySh.n hS rfl) rfl rfl (ySh.r hS rfl) ?_
                    refine y_iload_n rfl rfl ?_
                    refine y_iload rfl rfl ?_
                    refine y_virt rfl rfl rfl rfl rfl (ySh.t hS rfl) (ySh.n hS rfl) ?_
                    refine y_in (M := xm_X7_isPartner) (ls := [some _, some _, some _]) rfl rfl rfl ?_
                    refine y_aload_n rfl rfl ?_
                    refine y_getR rfl (ySh.t hS rfl) (ySh.n hS rfl) rfl rfl (ySh.r hS rfl) ?_
                    refine y_aload_n rfl rfl ?_
                    refine y_iload_n rfl rfl ?_
                    refine y_iload_n rfl rfl ?_
                    refine y_virt rfl rfl rfl rfl rfl (ySh.t hS rfl) (ySh.n hS rfl) ?_
                    refine sp_at (by omega) (by omega) (by omega) (by omega) (fun z_ hz19 => ?_)
                    refine y_ret1 ?_
                    refine y_baload rfl (ySh.t hS rfl) rfl (ySh.n hS rfl) (by omega) (by omega) ?_
                    refine y_ireturn rfl rfl (xfit_z (hC.p _)) ?_
                    refine y_ret1 ?_
                    refine y_if_eq rfl j_X8_buyOut_134 (fun h_20 => ?_) (fun h_21 => ?_)
                    · refine y_throw rfl rfl rfl ?_
                      exact hE2
                    · refine y_aload_n rfl rfl ?_
                      refine y_getR rfl (ySh.t hS rfl) (ySh.n hS rfl) rfl rfl (ySh.r hS rfl) ?_
                      refine y_iload_n rfl rfl ?_
                      refine y_iload rfl rfl ?_
                      refine y_virt rfl rfl rfl rfl rfl (ySh.t hS rfl) (ySh.n hS rfl) ?_
                      refine y_in (M := xm_X7_isPartner) (ls := [some _, some _, some _]) rfl rfl rfl ?_
                      refine y_aload_n rfl rfl ?_
                      refine y_getR rfl (ySh.t hS rfl) (ySh.n hS rfl) rfl rfl (ySh.r hS rfl) ?_
                      refine y_aload_n rfl rfl ?_
                      refine y_iload_n rfl rfl ?_
                      refine y_iload_n rfl rfl ?_
                      refine y_virt rfl rfl rfl rfl rfl (ySh.t hS rfl) (ySh.n hS rfl) ?_
                      refine sp_at (by omega) (by omega) (by omega) (by omega) (fun z_ hz22 => ?_)
                      refine y_ret1 ?_
                      refine y_baload rfl (ySh.t hS rfl) rfl (ySh.n hS rfl) (by omega) (by omega) ?_
                      refine y_ireturn rfl rfl (xfit_z (hC.p _)) ?_
                      refine y_ret1 ?_
                      refine y_if_eq rfl j_X8_buyOut_134 (fun h_23 => ?_) (fun h_24 => ?_)
                      · refine y_throw rfl rfl rfl ?_
                        exact hE2
                      · refine y_aload_n rfl rfl ?_
                        refine y_getR rfl (ySh.t hS rfl) (ySh.n hS rfl) rfl rfl (ySh.r hS rfl) ?_
                        refine y_iload_n rfl rfl ?_
                        refine y_iload rfl rfl ?_
                        refine y_virt rfl rfl rfl rfl rfl (ySh.t hS rfl) (ySh.n hS rfl) ?_
                        refine y_in (M := xm_X7_capitalOf) (ls := [some _, some _, some _]) rfl rfl rfl ?_
                        refine y_aload_n rfl rfl ?_
                        refine y_getR rfl (ySh.t hS rfl) (ySh.n hS rfl) rfl rfl (ySh.r hS rfl) ?_
                        refine y_aload_n rfl rfl ?_
                        refine y_iload_n rfl rfl ?_
                        refine y_iload_n rfl rfl ?_
                        refine y_virt rfl rfl rfl rfl rfl (ySh.t hS rfl) (ySh.n hS rfl) ?_
                        refine sp_at (by omega) (by omega) (by omega) (by omega) (fun z_ hz25 => ?_)
                        refine y_ret1 ?_
                        refine y_iaload rfl (ySh.t hS rfl) (ySh.n hS rfl) (by omega) (by omega) ?_
                        refine y_ireturn rfl rfl rfl ?_
                        refine y_ret1 ?_
                        refine y_iload rfl rfl ?_
                        refine y_icmp_lt rfl j_X8_buyOut_134 (fun h_26 => ?_) (fun h_27 => ?_)
                        · refine y_throw rfl rfl rfl ?_
                          exact hE2
                        · refine y_aload_n rfl rfl ?_
                          refine y_getR rfl (ySh.t hS rfl) (ySh.n hS rfl) rfl rfl (ySh.r hS rfl) ?_
                          refine y_getR rfl (ySh.t hS rfl) (ySh.n hS rfl) rfl rfl (ySh.r hS rfl) ?_
                          refine y_iload rfl rfl ?_
                          refine y_iaload rfl (ySh.t hS rfl) (ySh.n hS rfl) (by omega) (by omega) ?_
                          refine y_iload rfl rfl ?_
                          refine y_icmp_ge rfl j_X8_buyOut_145 (fun h_28 => ?_) (fun h_29 => ?_)
                          · refine y_aload_n rfl rfl ?_
                            refine y_getR rfl (ySh.t hS rfl) (ySh.n hS rfl) rfl rfl (ySh.r hS rfl) ?_
                            refine y_iload rfl rfl ?_
                            refine y_iload rfl rfl ?_
                            refine y_iload rfl rfl ?_
                            refine y_virt rfl rfl rfl rfl rfl (ySh.t hS rfl) (ySh.n hS rfl) ?_
                            refine y_in (M := xm_X4_move) (ls := [some _, some _, some _, some _]) rfl rfl rfl ?_
                            refine y_aload_n rfl rfl ?_
                            refine y_iload_n rfl rfl ?_
                            refine y_iload_n rfl rfl ?_
                            refine y_ineg rfl ?_
                            refine y_virt rfl rfl rfl rfl rfl (ySh.t hS rfl) (ySh.n hS rfl) ?_
                            refine sp_add_X4 hS hC (fun I40 hC hF1 => ?_)
                            have hF : yFt I I40 := yFt.trans (by repeat (first | exact hF | refine yFt.upd ?_ (by decide))) hF1.t
                            have hd : (I40 34 8).toInt = (I 34 8).toInt := congrArg Int32.toInt (hF1 34 8 (Or.inl (by decide)))
                            refine y_ret0 ?_
                            refine y_aload_n rfl rfl ?_
                            refine y_iload_n rfl rfl ?_
                            refine y_iload_n rfl rfl ?_
                            refine y_virt rfl rfl rfl rfl rfl (ySh.t hS rfl) (ySh.n hS rfl) ?_
                            refine sp_add_X4 hS hC (fun I41 hC hF1 => ?_)
                            have hF : yFt I I41 := yFt.trans (by repeat (first | exact hF | refine yFt.upd ?_ (by decide))) hF1.t
                            have hd : (I41 34 8).toInt = (I40 34 8).toInt := congrArg Int32.toInt (hF1 34 8 (Or.inl (by decide)))
                            refine y_ret0 ?_
                            refine y_return rfl ?_
                            refine y_ret0 ?_
                            refine y_aload_n rfl rfl ?_
                            refine y_getR rfl (ySh.t hS rfl) (ySh.n hS rfl) rfl rfl (ySh.r hS rfl) ?_
                            refine y_iload_n rfl rfl ?_
                            refine y_iload rfl rfl ?_
                            refine y_iload rfl rfl ?_
                            refine y_iload rfl rfl ?_
                            refine y_virt rfl rfl rfl rfl rfl (ySh.t hS rfl) (ySh.n hS rfl) ?_
                            refine y_in (M := xm_X7_moveCapital) (ls := [some _, some _, some _, some _, some _]) rfl rfl rfl ?_
                            refine y_aload_n rfl rfl ?_
                            refine y_getR rfl (ySh.t hS rfl) (ySh.n hS rfl) rfl rfl (ySh.r hS rfl) ?_
                            refine y_aload_n rfl rfl ?_
                            refine y_iload_n rfl rfl ?_
                            refine y_iload_n rfl rfl ?_
                            refine y_virt rfl rfl rfl rfl rfl (ySh.t hS rfl) (ySh.n hS rfl) ?_
                            refine sp_at (by omega) (by omega) (by omega) (by omega) (fun z_ hz32 => ?_)
                            refine y_ret1 ?_
                            refine y_dup2 rfl rfl rfl ?_
                            refine y_iaload rfl (ySh.t hS rfl) (ySh.n hS rfl) (by omega) (by omega) ?_
                            refine y_iload rfl rfl ?_
                            refine y_isub rfl ?_
                            refine y_iastore rfl (ySh.t hS rfl) (ySh.n hS rfl) (Nat.le_of_ble_eq_true rfl) (by omega) (by omega) ?_
                            refine y_aload_n rfl rfl ?_
                            refine y_getR rfl (ySh.t hS rfl) (ySh.n hS rfl) rfl rfl (ySh.r hS rfl) ?_
                            refine y_aload_n rfl rfl ?_
                            refine y_iload_n rfl rfl ?_
                            refine y_iload_n rfl rfl ?_
                            refine y_virt rfl rfl rfl rfl rfl (ySh.t hS rfl) (ySh.n hS rfl) ?_
                            refine sp_at (by omega) (by omega) (by omega) (by omega) (fun z_ hz33 => ?_)
                            refine y_ret1 ?_
                            refine y_dup2 rfl rfl rfl ?_
                            refine y_iaload rfl (ySh.t hS rfl) (ySh.n hS rfl) (by omega) (by omega) ?_
                            refine y_iload rfl rfl ?_
                            refine y_iadd rfl ?_
                            refine y_iastore rfl (ySh.t hS rfl) (ySh.n hS rfl) (Nat.le_of_ble_eq_true rfl) (by omega) (by omega) ?_
                            refine y_return rfl ?_
                            refine y_ret0 ?_
                            refine y_aload_n rfl rfl ?_
                            refine y_getR rfl (ySh.t hS rfl) (ySh.n hS rfl) rfl rfl (ySh.r hS rfl) ?_
                            refine y_iload_n rfl rfl ?_
                            refine y_iload rfl rfl ?_
                            refine y_virt rfl rfl rfl rfl rfl (ySh.t hS rfl) (ySh.n hS rfl) ?_
                            refine y_in (M := xm_X7_capitalOf) (ls := [some _, some _, some _]) rfl rfl rfl ?_
                            refine y_aload_n rfl rfl ?_
                            refine y_getR rfl (ySh.t hS rfl) (ySh.n hS rfl) rfl rfl (ySh.r hS rfl) ?_
                            refine y_aload_n rfl rfl ?_
                            refine y_iload_n rfl rfl ?_
                            refine y_iload_n rfl rfl ?_
                            refine y_virt rfl rfl rfl rfl rfl (ySh.t hS rfl) (ySh.n hS rfl) ?_
                            refine sp_at (by omega) (by omega) (by omega) (by omega) (fun z_ hz34 => ?_)
                            refine y_ret1 ?_
                            refine y_iaload rfl (ySh.t hS rfl) (ySh.n hS rfl) (by omega) (by omega) ?_
                            refine y_ireturn rfl rfl rfl ?_
                            refine y_ret1 ?_
                            refine y_ireturn rfl rfl rfl ?_
                            exact hQ _ _ hC (by repeat (first | exact hF | refine yFt.upd ?_ (by decide)))
                          · refine y_throw rfl rfl rfl ?_
                            exact hE2
                  · rw [yz_m1] at h_18
                    refine y_bip rfl (by decide) ?_
                    refine y_goto rfl j_X8_placeOf_11 ?_
                    refine y_ireturn rfl rfl rfl ?_
                    refine y_ret1 ?_
                    refine y_istore (ls' := [some _, some _, some _, some _, some _, some _, some _]) rfl rfl rfl ?_
                    refine y_aload_n rfl rfl ?_
                    refine y_getR rfl (ySh.t hS rfl) (ySh.n hS rfl) rfl rfl (ySh.r hS rfl) ?_
                    refine y_iload_n rfl rfl ?_
                    refine y_iload rfl rfl ?_
                    refine y_virt rfl rfl rfl rfl rfl (ySh.t hS rfl) (ySh.n hS rfl) ?_
                    refine y_in (M := xm_X7_isPartner) (ls := [some _, some _, some _]) rfl rfl rfl ?_
                    refine y_aload_n rfl rfl ?_
                    refine y_getR rfl (ySh.t hS rfl) (ySh.n hS rfl) rfl rfl (ySh.r hS rfl) ?_
                    refine y_aload_n rfl rfl ?_
                    refine y_iload_n rfl rfl ?_
                    refine y_iload_n rfl rfl ?_
                    refine y_virt rfl rfl rfl rfl rfl (ySh.t hS rfl) (ySh.n hS rfl) ?_
                    refine sp_at (by omega) (by omega) (by omega) (by omega) (fun z_ hz35 => ?_)
                    refine y_ret1 ?_
                    refine y_baload rfl (ySh.t hS rfl) rfl (ySh.n hS rfl) (by omega) (by omega) ?_
                    refine y_ireturn rfl rfl (xfit_z (hC.p _)) ?_
                    refine y_ret1 ?_
                    refine y_if_eq rfl j_X8_buyOut_134 (fun h_36 => ?_) (fun h_37 => ?_)
                    · refine y_throw rfl rfl rfl ?_
                      exact hE2
                    · refine y_aload_n rfl rfl ?_
                      refine y_getR rfl (ySh.t hS rfl) (ySh.n hS rfl) rfl rfl (ySh.r hS rfl) ?_
                      refine y_iload_n rfl rfl ?_
                      refine y_iload rfl rfl ?_
                      refine y_virt rfl rfl rfl rfl rfl (ySh.t hS rfl) (ySh.n hS rfl) ?_
                      refine y_in (M := xm_X7_isPartner) (ls := [some _, some _, some _]) rfl rfl rfl ?_
                      refine y_aload_n rfl rfl ?_
                      refine y_getR rfl (ySh.t hS rfl) (ySh.n hS rfl) rfl rfl (ySh.r hS rfl) ?_
                      refine y_aload_n rfl rfl ?_
                      refine y_iload_n rfl rfl ?_
                      refine y_iload_n rfl rfl ?_
                      refine y_virt rfl rfl rfl rfl rfl (ySh.t hS rfl) (ySh.n hS rfl) ?_
                      refine sp_at (by omega) (by omega) (by decide) (by decide) (fun z_ hz38 => ?_)
                      rw [yz_8] at hz38
                      refine y_ret1 ?_
                      refine y_baload rfl (ySh.t hS rfl) rfl (ySh.n hS rfl) (by omega) (by omega) ?_
                      refine y_ireturn rfl rfl (xfit_z (hC.p _)) ?_
                      refine y_ret1 ?_
                      refine y_if_eq rfl j_X8_buyOut_134 (fun h_39 => ?_) (fun h_40 => ?_)
                      · refine y_throw rfl rfl rfl ?_
                        exact hE2
                      · refine y_aload_n rfl rfl ?_
                        refine y_getR rfl (ySh.t hS rfl) (ySh.n hS rfl) rfl rfl (ySh.r hS rfl) ?_
                        refine y_iload_n rfl rfl ?_
                        refine y_iload rfl rfl ?_
                        refine y_virt rfl rfl rfl rfl rfl (ySh.t hS rfl) (ySh.n hS rfl) ?_
                        refine y_in (M := xm_X7_capitalOf) (ls := [some _, some _, some _]) rfl rfl rfl ?_
                        refine y_aload_n rfl rfl ?_
                        refine y_getR rfl (ySh.t hS rfl) (ySh.n hS rfl) rfl rfl (ySh.r hS rfl) ?_
                        refine y_aload_n rfl rfl ?_
                        refine y_iload_n rfl rfl ?_
                        refine y_iload_n rfl rfl ?_
                        refine y_virt rfl rfl rfl rfl rfl (ySh.t hS rfl) (ySh.n hS rfl) ?_
                        refine sp_at (by omega) (by omega) (by omega) (by omega) (fun z_ hz41 => ?_)
                        refine y_ret1 ?_
                        refine y_iaload rfl (ySh.t hS rfl) (ySh.n hS rfl) (by omega) (by omega) ?_
                        refine y_ireturn rfl rfl rfl ?_
                        refine y_ret1 ?_
                        refine y_iload rfl rfl ?_
                        refine y_icmp_lt rfl j_X8_buyOut_134 (fun h_42 => ?_) (fun h_43 => ?_)
                        · refine y_throw rfl rfl rfl ?_
                          exact hE2
                        · refine y_aload_n rfl rfl ?_
                          refine y_getR rfl (ySh.t hS rfl) (ySh.n hS rfl) rfl rfl (ySh.r hS rfl) ?_
                          refine y_getR rfl (ySh.t hS rfl) (ySh.n hS rfl) rfl rfl (ySh.r hS rfl) ?_
                          refine y_iload rfl rfl ?_
                          refine y_iaload rfl (ySh.t hS rfl) (ySh.n hS rfl) (by decide) (by decide) ?_
                          refine y_iload rfl rfl ?_
                          refine y_icmp_ge rfl j_X8_buyOut_145 (fun h_44 => ?_) (fun h_45 => ?_)
                          · refine y_aload_n rfl rfl ?_
                            refine y_getR rfl (ySh.t hS rfl) (ySh.n hS rfl) rfl rfl (ySh.r hS rfl) ?_
                            refine y_iload rfl rfl ?_
                            refine y_iload rfl rfl ?_
                            refine y_iload rfl rfl ?_
                            refine y_virt rfl rfl rfl rfl rfl (ySh.t hS rfl) (ySh.n hS rfl) ?_
                            refine y_in (M := xm_X4_move) (ls := [some _, some _, some _, some _]) rfl rfl rfl ?_
                            refine y_aload_n rfl rfl ?_
                            refine y_iload_n rfl rfl ?_
                            refine y_iload_n rfl rfl ?_
                            refine y_ineg rfl ?_
                            refine y_virt rfl rfl rfl rfl rfl (ySh.t hS rfl) (ySh.n hS rfl) ?_
                            refine sp_add_X4 hS hC (fun I56 hC hF1 => ?_)
                            have hF : yFt I I56 := yFt.trans (by repeat (first | exact hF | refine yFt.upd ?_ (by decide))) hF1.t
                            have hd : (I56 34 8).toInt = (I 34 8).toInt := congrArg Int32.toInt (hF1 34 8 (Or.inl (by decide)))
                            refine y_ret0 ?_
                            refine y_aload_n rfl rfl ?_
                            refine y_iload_n rfl rfl ?_
                            refine y_iload_n rfl rfl ?_
                            refine y_virt rfl rfl rfl rfl rfl (ySh.t hS rfl) (ySh.n hS rfl) ?_
                            refine sp_add_X4 hS hC (fun I57 hC hF1 => ?_)
                            have hF : yFt I I57 := yFt.trans (by repeat (first | exact hF | refine yFt.upd ?_ (by decide))) hF1.t
                            have hd : (I57 34 8).toInt = (I56 34 8).toInt := congrArg Int32.toInt (hF1 34 8 (Or.inl (by decide)))
                            refine y_ret0 ?_
                            refine y_return rfl ?_
                            refine y_ret0 ?_
                            refine y_aload_n rfl rfl ?_
                            refine y_getR rfl (ySh.t hS rfl) (ySh.n hS rfl) rfl rfl (ySh.r hS rfl) ?_
                            refine y_iload_n rfl rfl ?_
                            refine y_iload rfl rfl ?_
                            refine y_iload rfl rfl ?_
                            refine y_iload rfl rfl ?_
                            refine y_virt rfl rfl rfl rfl rfl (ySh.t hS rfl) (ySh.n hS rfl) ?_
                            refine y_in (M := xm_X7_moveCapital) (ls := [some _, some _, some _, some _, some _]) rfl rfl rfl ?_
                            refine y_aload_n rfl rfl ?_
                            refine y_getR rfl (ySh.t hS rfl) (ySh.n hS rfl) rfl rfl (ySh.r hS rfl) ?_
                            refine y_aload_n rfl rfl ?_
                            refine y_iload_n rfl rfl ?_
                            refine y_iload_n rfl rfl ?_
                            refine y_virt rfl rfl rfl rfl rfl (ySh.t hS rfl) (ySh.n hS rfl) ?_
                            refine sp_at (by omega) (by omega) (by omega) (by omega) (fun z_ hz48 => ?_)
                            refine y_ret1 ?_
                            refine y_dup2 rfl rfl rfl ?_
                            refine y_iaload rfl (ySh.t hS rfl) (ySh.n hS rfl) (by omega) (by omega) ?_
                            refine y_iload rfl rfl ?_
                            refine y_isub rfl ?_
                            refine y_iastore rfl (ySh.t hS rfl) (ySh.n hS rfl) (Nat.le_of_ble_eq_true rfl) (by omega) (by omega) ?_
                            refine y_aload_n rfl rfl ?_
                            refine y_getR rfl (ySh.t hS rfl) (ySh.n hS rfl) rfl rfl (ySh.r hS rfl) ?_
                            refine y_aload_n rfl rfl ?_
                            refine y_iload_n rfl rfl ?_
                            refine y_iload_n rfl rfl ?_
                            refine y_virt rfl rfl rfl rfl rfl (ySh.t hS rfl) (ySh.n hS rfl) ?_
                            refine sp_at (by omega) (by omega) (by decide) (by decide) (fun z_ hz49 => ?_)
                            rw [yz_8] at hz49
                            refine y_ret1 ?_
                            refine y_dup2 rfl rfl rfl ?_
                            refine y_iaload rfl (ySh.t hS rfl) (ySh.n hS rfl) (by omega) (by omega) ?_
                            refine y_iload rfl rfl ?_
                            refine y_iadd rfl ?_
                            refine y_iastore rfl (ySh.t hS rfl) (ySh.n hS rfl) (Nat.le_of_ble_eq_true rfl) (by omega) (by omega) ?_
                            refine y_return rfl ?_
                            refine y_ret0 ?_
                            refine y_aload_n rfl rfl ?_
                            refine y_getR rfl (ySh.t hS rfl) (ySh.n hS rfl) rfl rfl (ySh.r hS rfl) ?_
                            refine y_iload_n rfl rfl ?_
                            refine y_iload rfl rfl ?_
                            refine y_virt rfl rfl rfl rfl rfl (ySh.t hS rfl) (ySh.n hS rfl) ?_
                            refine y_in (M := xm_X7_capitalOf) (ls := [some _, some _, some _]) rfl rfl rfl ?_
                            refine y_aload_n rfl rfl ?_
                            refine y_getR rfl (ySh.t hS rfl) (ySh.n hS rfl) rfl rfl (ySh.r hS rfl) ?_
                            refine y_aload_n rfl rfl ?_
                            refine y_iload_n rfl rfl ?_
                            refine y_iload_n rfl rfl ?_
                            refine y_virt rfl rfl rfl rfl rfl (ySh.t hS rfl) (ySh.n hS rfl) ?_
                            refine sp_at (by omega) (by omega) (by omega) (by omega) (fun z_ hz50 => ?_)
                            refine y_ret1 ?_
                            refine y_iaload rfl (ySh.t hS rfl) (ySh.n hS rfl) (by omega) (by omega) ?_
                            refine y_ireturn rfl rfl rfl ?_
                            refine y_ret1 ?_
                            refine y_ireturn rfl rfl rfl ?_
                            exact hQ _ _ hC (by repeat (first | exact hF | refine yFt.upd ?_ (by decide)))
                          · refine y_throw rfl rfl rfl ?_
                            exact hE2
                · rw [yz_m1] at h_16
                  refine y_bip rfl (by decide) ?_
                  refine y_goto rfl j_X8_placeOf_11 ?_
                  refine y_ireturn rfl rfl rfl ?_
                  refine y_ret1 ?_
                  refine y_istore (ls' := [some _, some _, some _, some _, some _, some _, _]) rfl rfl rfl ?_
                  refine y_iload_n rfl rfl ?_
                  refine y_static rfl rfl rfl rfl rfl ?_
                  refine y_in (M := xm_X8_placeOf) (ls := [some _]) rfl rfl rfl ?_
                  refine y_iload_n rfl rfl ?_
                  refine y_iconst rfl ?_
                  refine y_icmp_ne rfl j_X8_placeOf_10 (fun h_51 => ?_) (fun h_52 => ?_)
                  · rw [yz_m1] at h_51
                    refine y_iload_n rfl rfl ?_
                    refine y_ireturn rfl rfl rfl ?_
                    refine y_ret1 ?_
                    refine y_istore (ls' := [some _, some _, some _, some _, some _, some _, some _]) rfl rfl rfl ?_
                    refine y_aload_n rfl rfl ?_
                    refine y_getR rfl (ySh.t hS rfl) (ySh.n hS rfl) rfl rfl (ySh.r hS rfl) ?_
                    refine y_iload_n rfl rfl ?_
                    refine y_iload rfl rfl ?_
                    refine y_virt rfl rfl rfl rfl rfl (ySh.t hS rfl) (ySh.n hS rfl) ?_
                    refine y_in (M := xm_X7_isPartner) (ls := [some _, some _, some _]) rfl rfl rfl ?_
                    refine y_aload_n rfl rfl ?_
                    refine y_getR rfl (ySh.t hS rfl) (ySh.n hS rfl) rfl rfl (ySh.r hS rfl) ?_
                    refine y_aload_n rfl rfl ?_
                    refine y_iload_n rfl rfl ?_
                    refine y_iload_n rfl rfl ?_
                    refine y_virt rfl rfl rfl rfl rfl (ySh.t hS rfl) (ySh.n hS rfl) ?_
                    refine sp_at (by omega) (by omega) (by decide) (by decide) (fun z_ hz53 => ?_)
                    rw [yz_8] at hz53
                    refine y_ret1 ?_
                    refine y_baload rfl (ySh.t hS rfl) rfl (ySh.n hS rfl) (by omega) (by omega) ?_
                    refine y_ireturn rfl rfl (xfit_z (hC.p _)) ?_
                    refine y_ret1 ?_
                    refine y_if_eq rfl j_X8_buyOut_134 (fun h_54 => ?_) (fun h_55 => ?_)
                    · refine y_throw rfl rfl rfl ?_
                      exact hE2
                    · refine y_aload_n rfl rfl ?_
                      refine y_getR rfl (ySh.t hS rfl) (ySh.n hS rfl) rfl rfl (ySh.r hS rfl) ?_
                      refine y_iload_n rfl rfl ?_
                      refine y_iload rfl rfl ?_
                      refine y_virt rfl rfl rfl rfl rfl (ySh.t hS rfl) (ySh.n hS rfl) ?_
                      refine y_in (M := xm_X7_isPartner) (ls := [some _, some _, some _]) rfl rfl rfl ?_
                      refine y_aload_n rfl rfl ?_
                      refine y_getR rfl (ySh.t hS rfl) (ySh.n hS rfl) rfl rfl (ySh.r hS rfl) ?_
                      refine y_aload_n rfl rfl ?_
                      refine y_iload_n rfl rfl ?_
                      refine y_iload_n rfl rfl ?_
                      refine y_virt rfl rfl rfl rfl rfl (ySh.t hS rfl) (ySh.n hS rfl) ?_
                      refine sp_at (by omega) (by omega) (by omega) (by omega) (fun z_ hz56 => ?_)
                      refine y_ret1 ?_
                      refine y_baload rfl (ySh.t hS rfl) rfl (ySh.n hS rfl) (by omega) (by omega) ?_
                      refine y_ireturn rfl rfl (xfit_z (hC.p _)) ?_
                      refine y_ret1 ?_
                      refine y_if_eq rfl j_X8_buyOut_134 (fun h_57 => ?_) (fun h_58 => ?_)
                      · refine y_throw rfl rfl rfl ?_
                        exact hE2
                      · refine y_aload_n rfl rfl ?_
                        refine y_getR rfl (ySh.t hS rfl) (ySh.n hS rfl) rfl rfl (ySh.r hS rfl) ?_
                        refine y_iload_n rfl rfl ?_
                        refine y_iload rfl rfl ?_
                        refine y_virt rfl rfl rfl rfl rfl (ySh.t hS rfl) (ySh.n hS rfl) ?_
                        refine y_in (M := xm_X7_capitalOf) (ls := [some _, some _, some _]) rfl rfl rfl ?_
                        refine y_aload_n rfl rfl ?_
                        refine y_getR rfl (ySh.t hS rfl) (ySh.n hS rfl) rfl rfl (ySh.r hS rfl) ?_
                        refine y_aload_n rfl rfl ?_
                        refine y_iload_n rfl rfl ?_
                        refine y_iload_n rfl rfl ?_
                        refine y_virt rfl rfl rfl rfl rfl (ySh.t hS rfl) (ySh.n hS rfl) ?_
                        refine sp_at (by omega) (by omega) (by decide) (by decide) (fun z_ hz59 => ?_)
                        rw [yz_8] at hz59
                        refine y_ret1 ?_
                        refine y_iaload rfl (ySh.t hS rfl) (ySh.n hS rfl) (by omega) (by omega) ?_
                        refine y_ireturn rfl rfl rfl ?_
                        refine y_ret1 ?_
                        refine y_iload rfl rfl ?_
                        refine y_icmp_lt rfl j_X8_buyOut_134 (fun h_60 => ?_) (fun h_61 => ?_)
                        · refine y_throw rfl rfl rfl ?_
                          exact hE2
                        · refine y_aload_n rfl rfl ?_
                          refine y_getR rfl (ySh.t hS rfl) (ySh.n hS rfl) rfl rfl (ySh.r hS rfl) ?_
                          refine y_getR rfl (ySh.t hS rfl) (ySh.n hS rfl) rfl rfl (ySh.r hS rfl) ?_
                          refine y_iload rfl rfl ?_
                          refine y_iaload rfl (ySh.t hS rfl) (ySh.n hS rfl) (by omega) (by omega) ?_
                          refine y_iload rfl rfl ?_
                          refine y_icmp_ge rfl j_X8_buyOut_145 (fun h_62 => ?_) (fun h_63 => ?_)
                          · refine y_aload_n rfl rfl ?_
                            refine y_getR rfl (ySh.t hS rfl) (ySh.n hS rfl) rfl rfl (ySh.r hS rfl) ?_
                            refine y_iload rfl rfl ?_
                            refine y_iload rfl rfl ?_
                            refine y_iload rfl rfl ?_
                            refine y_virt rfl rfl rfl rfl rfl (ySh.t hS rfl) (ySh.n hS rfl) ?_
                            refine y_in (M := xm_X4_move) (ls := [some _, some _, some _, some _]) rfl rfl rfl ?_
                            refine y_aload_n rfl rfl ?_
                            refine y_iload_n rfl rfl ?_
                            refine y_iload_n rfl rfl ?_
                            refine y_ineg rfl ?_
                            refine y_virt rfl rfl rfl rfl rfl (ySh.t hS rfl) (ySh.n hS rfl) ?_
                            refine sp_add_X4 hS hC (fun I74 hC hF1 => ?_)
                            have hF : yFt I I74 := yFt.trans (by repeat (first | exact hF | refine yFt.upd ?_ (by decide))) hF1.t
                            have hd : (I74 34 8).toInt = (I 34 8).toInt := congrArg Int32.toInt (hF1 34 8 (Or.inl (by decide)))
                            refine y_ret0 ?_
                            refine y_aload_n rfl rfl ?_
                            refine y_iload_n rfl rfl ?_
                            refine y_iload_n rfl rfl ?_
                            refine y_virt rfl rfl rfl rfl rfl (ySh.t hS rfl) (ySh.n hS rfl) ?_
                            refine sp_add_X4 hS hC (fun I75 hC hF1 => ?_)
                            have hF : yFt I I75 := yFt.trans (by repeat (first | exact hF | refine yFt.upd ?_ (by decide))) hF1.t
                            have hd : (I75 34 8).toInt = (I74 34 8).toInt := congrArg Int32.toInt (hF1 34 8 (Or.inl (by decide)))
                            refine y_ret0 ?_
                            refine y_return rfl ?_
                            refine y_ret0 ?_
                            refine y_aload_n rfl rfl ?_
                            refine y_getR rfl (ySh.t hS rfl) (ySh.n hS rfl) rfl rfl (ySh.r hS rfl) ?_
                            refine y_iload_n rfl rfl ?_
                            refine y_iload rfl rfl ?_
                            refine y_iload rfl rfl ?_
                            refine y_iload rfl rfl ?_
                            refine y_virt rfl rfl rfl rfl rfl (ySh.t hS rfl) (ySh.n hS rfl) ?_
                            refine y_in (M := xm_X7_moveCapital) (ls := [some _, some _, some _, some _, some _]) rfl rfl rfl ?_
                            refine y_aload_n rfl rfl ?_
                            refine y_getR rfl (ySh.t hS rfl) (ySh.n hS rfl) rfl rfl (ySh.r hS rfl) ?_
                            refine y_aload_n rfl rfl ?_
                            refine y_iload_n rfl rfl ?_
                            refine y_iload_n rfl rfl ?_
                            refine y_virt rfl rfl rfl rfl rfl (ySh.t hS rfl) (ySh.n hS rfl) ?_
                            refine sp_at (by omega) (by omega) (by decide) (by decide) (fun z_ hz66 => ?_)
                            rw [yz_8] at hz66
                            refine y_ret1 ?_
                            refine y_dup2 rfl rfl rfl ?_
                            refine y_iaload rfl (ySh.t hS rfl) (ySh.n hS rfl) (by omega) (by omega) ?_
                            refine y_iload rfl rfl ?_
                            refine y_isub rfl ?_
                            refine y_iastore rfl (ySh.t hS rfl) (ySh.n hS rfl) (Nat.le_of_ble_eq_true rfl) (by omega) (by omega) ?_
                            refine y_aload_n rfl rfl ?_
                            refine y_getR rfl (ySh.t hS rfl) (ySh.n hS rfl) rfl rfl (ySh.r hS rfl) ?_
                            refine y_aload_n rfl rfl ?_
                            refine y_iload_n rfl rfl ?_
                            refine y_iload_n rfl rfl ?_
                            refine y_virt rfl rfl rfl rfl rfl (ySh.t hS rfl) (ySh.n hS rfl) ?_
                            refine sp_at (by omega) (by omega) (by omega) (by omega) (fun z_ hz67 => ?_)
                            refine y_ret1 ?_
                            refine y_dup2 rfl rfl rfl ?_
                            refine y_iaload rfl (ySh.t hS rfl) (ySh.n hS rfl) (by omega) (by omega) ?_
                            refine y_iload rfl rfl ?_
                            refine y_iadd rfl ?_
                            refine y_iastore rfl (ySh.t hS rfl) (ySh.n hS rfl) (Nat.le_of_ble_eq_true rfl) (by omega) (by omega) ?_
                            refine y_return rfl ?_
                            refine y_ret0 ?_
                            refine y_aload_n rfl rfl ?_
                            refine y_getR rfl (ySh.t hS rfl) (ySh.n hS rfl) rfl rfl (ySh.r hS rfl) ?_
                            refine y_iload_n rfl rfl ?_
                            refine y_iload rfl rfl ?_
                            refine y_virt rfl rfl rfl rfl rfl (ySh.t hS rfl) (ySh.n hS rfl) ?_
                            refine y_in (M := xm_X7_capitalOf) (ls := [some _, some _, some _]) rfl rfl rfl ?_
                            refine y_aload_n rfl rfl ?_
                            refine y_getR rfl (ySh.t hS rfl) (ySh.n hS rfl) rfl rfl (ySh.r hS rfl) ?_
                            refine y_aload_n rfl rfl ?_
                            refine y_iload_n rfl rfl ?_
                            refine y_iload_n rfl rfl ?_
                            refine y_virt rfl rfl rfl rfl rfl (ySh.t hS rfl) (ySh.n hS rfl) ?_
                            refine sp_at (by omega) (by omega) (by decide) (by decide) (fun z_ hz68 => ?_)
                            rw [yz_8] at hz68
                            refine y_ret1 ?_
                            refine y_iaload rfl (ySh.t hS rfl) (ySh.n hS rfl) (by omega) (by omega) ?_
                            refine y_ireturn rfl rfl rfl ?_
                            refine y_ret1 ?_
                            refine y_ireturn rfl rfl rfl ?_
                            exact hQ _ _ hC (by repeat (first | exact hF | refine yFt.upd ?_ (by decide)))
                          · refine y_throw rfl rfl rfl ?_
                            exact hE2
                  · rw [yz_m1] at h_52
                    refine y_bip rfl (by decide) ?_
                    refine y_goto rfl j_X8_placeOf_11 ?_
                    refine y_ireturn rfl rfl rfl ?_
                    refine y_ret1 ?_
                    refine y_istore (ls' := [some _, some _, some _, some _, some _, some _, some _]) rfl rfl rfl ?_
                    refine y_aload_n rfl rfl ?_
                    refine y_getR rfl (ySh.t hS rfl) (ySh.n hS rfl) rfl rfl (ySh.r hS rfl) ?_
                    refine y_iload_n rfl rfl ?_
                    refine y_iload rfl rfl ?_
                    refine y_virt rfl rfl rfl rfl rfl (ySh.t hS rfl) (ySh.n hS rfl) ?_
                    refine y_in (M := xm_X7_isPartner) (ls := [some _, some _, some _]) rfl rfl rfl ?_
                    refine y_aload_n rfl rfl ?_
                    refine y_getR rfl (ySh.t hS rfl) (ySh.n hS rfl) rfl rfl (ySh.r hS rfl) ?_
                    refine y_aload_n rfl rfl ?_
                    refine y_iload_n rfl rfl ?_
                    refine y_iload_n rfl rfl ?_
                    refine y_virt rfl rfl rfl rfl rfl (ySh.t hS rfl) (ySh.n hS rfl) ?_
                    refine sp_at (by omega) (by omega) (by decide) (by decide) (fun z_ hz69 => ?_)
                    rw [yz_8] at hz69
                    refine y_ret1 ?_
                    refine y_baload rfl (ySh.t hS rfl) rfl (ySh.n hS rfl) (by omega) (by omega) ?_
                    refine y_ireturn rfl rfl (xfit_z (hC.p _)) ?_
                    refine y_ret1 ?_
                    refine y_if_eq rfl j_X8_buyOut_134 (fun h_70 => ?_) (fun h_71 => ?_)
                    · refine y_throw rfl rfl rfl ?_
                      exact hE2
                    · refine y_aload_n rfl rfl ?_
                      refine y_getR rfl (ySh.t hS rfl) (ySh.n hS rfl) rfl rfl (ySh.r hS rfl) ?_
                      refine y_iload_n rfl rfl ?_
                      refine y_iload rfl rfl ?_
                      refine y_virt rfl rfl rfl rfl rfl (ySh.t hS rfl) (ySh.n hS rfl) ?_
                      refine y_in (M := xm_X7_isPartner) (ls := [some _, some _, some _]) rfl rfl rfl ?_
                      refine y_aload_n rfl rfl ?_
                      refine y_getR rfl (ySh.t hS rfl) (ySh.n hS rfl) rfl rfl (ySh.r hS rfl) ?_
                      refine y_aload_n rfl rfl ?_
                      refine y_iload_n rfl rfl ?_
                      refine y_iload_n rfl rfl ?_
                      refine y_virt rfl rfl rfl rfl rfl (ySh.t hS rfl) (ySh.n hS rfl) ?_
                      refine sp_at (by omega) (by omega) (by decide) (by decide) (fun z_ hz72 => ?_)
                      rw [yz_8] at hz72
                      refine y_ret1 ?_
                      refine y_baload rfl (ySh.t hS rfl) rfl (ySh.n hS rfl) (by omega) (by omega) ?_
                      refine y_ireturn rfl rfl (xfit_z (hC.p _)) ?_
                      refine y_ret1 ?_
                      refine y_if_eq rfl j_X8_buyOut_134 (fun h_73 => ?_) (fun h_74 => ?_)
                      · refine y_throw rfl rfl rfl ?_
                        exact hE2
                      · refine y_aload_n rfl rfl ?_
                        refine y_getR rfl (ySh.t hS rfl) (ySh.n hS rfl) rfl rfl (ySh.r hS rfl) ?_
                        refine y_iload_n rfl rfl ?_
                        refine y_iload rfl rfl ?_
                        refine y_virt rfl rfl rfl rfl rfl (ySh.t hS rfl) (ySh.n hS rfl) ?_
                        refine y_in (M := xm_X7_capitalOf) (ls := [some _, some _, some _]) rfl rfl rfl ?_
                        refine y_aload_n rfl rfl ?_
                        refine y_getR rfl (ySh.t hS rfl) (ySh.n hS rfl) rfl rfl (ySh.r hS rfl) ?_
                        refine y_aload_n rfl rfl ?_
                        refine y_iload_n rfl rfl ?_
                        refine y_iload_n rfl rfl ?_
                        refine y_virt rfl rfl rfl rfl rfl (ySh.t hS rfl) (ySh.n hS rfl) ?_
                        refine sp_at (by omega) (by omega) (by decide) (by decide) (fun z_ hz75 => ?_)
                        rw [yz_8] at hz75
                        refine y_ret1 ?_
                        refine y_iaload rfl (ySh.t hS rfl) (ySh.n hS rfl) (by omega) (by omega) ?_
                        refine y_ireturn rfl rfl rfl ?_
                        refine y_ret1 ?_
                        refine y_iload rfl rfl ?_
                        refine y_icmp_lt rfl j_X8_buyOut_134 (fun h_76 => ?_) (fun h_77 => ?_)
                        · refine y_throw rfl rfl rfl ?_
                          exact hE2
                        · refine y_aload_n rfl rfl ?_
                          refine y_getR rfl (ySh.t hS rfl) (ySh.n hS rfl) rfl rfl (ySh.r hS rfl) ?_
                          refine y_getR rfl (ySh.t hS rfl) (ySh.n hS rfl) rfl rfl (ySh.r hS rfl) ?_
                          refine y_iload rfl rfl ?_
                          refine y_iaload rfl (ySh.t hS rfl) (ySh.n hS rfl) (by decide) (by decide) ?_
                          refine y_iload rfl rfl ?_
                          refine y_icmp_ge rfl j_X8_buyOut_145 (fun h_78 => ?_) (fun h_79 => ?_)
                          · refine y_aload_n rfl rfl ?_
                            refine y_getR rfl (ySh.t hS rfl) (ySh.n hS rfl) rfl rfl (ySh.r hS rfl) ?_
                            refine y_iload rfl rfl ?_
                            refine y_iload rfl rfl ?_
                            refine y_iload rfl rfl ?_
                            refine y_virt rfl rfl rfl rfl rfl (ySh.t hS rfl) (ySh.n hS rfl) ?_
                            refine y_in (M := xm_X4_move) (ls := [some _, some _, some _, some _]) rfl rfl rfl ?_
                            refine y_aload_n rfl rfl ?_
                            refine y_iload_n rfl rfl ?_
                            refine y_iload_n rfl rfl ?_
                            refine y_ineg rfl ?_
                            refine y_virt rfl rfl rfl rfl rfl (ySh.t hS rfl) (ySh.n hS rfl) ?_
                            refine sp_add_X4 hS hC (fun I90 hC hF1 => ?_)
                            have hF : yFt I I90 := yFt.trans (by repeat (first | exact hF | refine yFt.upd ?_ (by decide))) hF1.t
                            have hd : (I90 34 8).toInt = (I 34 8).toInt := congrArg Int32.toInt (hF1 34 8 (Or.inl (by decide)))
                            refine y_ret0 ?_
                            refine y_aload_n rfl rfl ?_
                            refine y_iload_n rfl rfl ?_
                            refine y_iload_n rfl rfl ?_
                            refine y_virt rfl rfl rfl rfl rfl (ySh.t hS rfl) (ySh.n hS rfl) ?_
                            refine sp_add_X4 hS hC (fun I91 hC hF1 => ?_)
                            have hF : yFt I I91 := yFt.trans (by repeat (first | exact hF | refine yFt.upd ?_ (by decide))) hF1.t
                            have hd : (I91 34 8).toInt = (I90 34 8).toInt := congrArg Int32.toInt (hF1 34 8 (Or.inl (by decide)))
                            refine y_ret0 ?_
                            refine y_return rfl ?_
                            refine y_ret0 ?_
                            refine y_aload_n rfl rfl ?_
                            refine y_getR rfl (ySh.t hS rfl) (ySh.n hS rfl) rfl rfl (ySh.r hS rfl) ?_
                            refine y_iload_n rfl rfl ?_
                            refine y_iload rfl rfl ?_
                            refine y_iload rfl rfl ?_
                            refine y_iload rfl rfl ?_
                            refine y_virt rfl rfl rfl rfl rfl (ySh.t hS rfl) (ySh.n hS rfl) ?_
                            refine y_in (M := xm_X7_moveCapital) (ls := [some _, some _, some _, some _, some _]) rfl rfl rfl ?_
                            refine y_aload_n rfl rfl ?_
                            refine y_getR rfl (ySh.t hS rfl) (ySh.n hS rfl) rfl rfl (ySh.r hS rfl) ?_
                            refine y_aload_n rfl rfl ?_
                            refine y_iload_n rfl rfl ?_
                            refine y_iload_n rfl rfl ?_
                            refine y_virt rfl rfl rfl rfl rfl (ySh.t hS rfl) (ySh.n hS rfl) ?_
                            refine sp_at (by omega) (by omega) (by decide) (by decide) (fun z_ hz82 => ?_)
                            rw [yz_8] at hz82
                            refine y_ret1 ?_
                            refine y_dup2 rfl rfl rfl ?_
                            refine y_iaload rfl (ySh.t hS rfl) (ySh.n hS rfl) (by omega) (by omega) ?_
                            refine y_iload rfl rfl ?_
                            refine y_isub rfl ?_
                            refine y_iastore rfl (ySh.t hS rfl) (ySh.n hS rfl) (Nat.le_of_ble_eq_true rfl) (by omega) (by omega) ?_
                            refine y_aload_n rfl rfl ?_
                            refine y_getR rfl (ySh.t hS rfl) (ySh.n hS rfl) rfl rfl (ySh.r hS rfl) ?_
                            refine y_aload_n rfl rfl ?_
                            refine y_iload_n rfl rfl ?_
                            refine y_iload_n rfl rfl ?_
                            refine y_virt rfl rfl rfl rfl rfl (ySh.t hS rfl) (ySh.n hS rfl) ?_
                            refine sp_at (by omega) (by omega) (by decide) (by decide) (fun z_ hz83 => ?_)
                            rw [yz_8] at hz83
                            refine y_ret1 ?_
                            refine y_dup2 rfl rfl rfl ?_
                            refine y_iaload rfl (ySh.t hS rfl) (ySh.n hS rfl) (by omega) (by omega) ?_
                            refine y_iload rfl rfl ?_
                            refine y_iadd rfl ?_
                            refine y_iastore rfl (ySh.t hS rfl) (ySh.n hS rfl) (Nat.le_of_ble_eq_true rfl) (by omega) (by omega) ?_
                            refine y_return rfl ?_
                            refine y_ret0 ?_
                            refine y_aload_n rfl rfl ?_
                            refine y_getR rfl (ySh.t hS rfl) (ySh.n hS rfl) rfl rfl (ySh.r hS rfl) ?_
                            refine y_iload_n rfl rfl ?_
                            refine y_iload rfl rfl ?_
                            refine y_virt rfl rfl rfl rfl rfl (ySh.t hS rfl) (ySh.n hS rfl) ?_
                            refine y_in (M := xm_X7_capitalOf) (ls := [some _, some _, some _]) rfl rfl rfl ?_
                            refine y_aload_n rfl rfl ?_
                            refine y_getR rfl (ySh.t hS rfl) (ySh.n hS rfl) rfl rfl (ySh.r hS rfl) ?_
                            refine y_aload_n rfl rfl ?_
                            refine y_iload_n rfl rfl ?_
                            refine y_iload_n rfl rfl ?_
                            refine y_virt rfl rfl rfl rfl rfl (ySh.t hS rfl) (ySh.n hS rfl) ?_
                            refine sp_at (by omega) (by omega) (by decide) (by decide) (fun z_ hz84 => ?_)
                            rw [yz_8] at hz84
                            refine y_ret1 ?_
                            refine y_iaload rfl (ySh.t hS rfl) (ySh.n hS rfl) (by omega) (by omega) ?_
                            refine y_ireturn rfl rfl rfl ?_
                            refine y_ret1 ?_
                            refine y_ireturn rfl rfl rfl ?_
                            exact hQ _ _ hC (by repeat (first | exact hF | refine yFt.upd ?_ (by decide)))
                          · refine y_throw rfl rfl rfl ?_
                            exact hE2
        · rw [yz_m1] at h_8
          refine y_aload_n rfl rfl ?_
          refine y_getR rfl (ySh.t hS rfl) (ySh.n hS rfl) rfl rfl (ySh.r hS rfl) ?_
          refine y_iload_n rfl rfl ?_
          refine y_virt rfl rfl rfl rfl rfl (ySh.t hS rfl) (ySh.n hS rfl) ?_
          refine y_in (M := xm_X4_has) (ls := [some _, some _]) rfl rfl rfl ?_
          refine y_iload_n rfl rfl ?_
          refine y_if_lt rfl j_X4_has_16 (fun h_85 => ?_) (fun h_86 => ?_)
          · refine y_iconst rfl ?_
            refine y_ireturn rfl rfl rfl ?_
            refine y_ret1 ?_
            refine y_if_eqT rfl j_X8_isParty_20 (by decide) ?_
            refine y_iconst rfl ?_
            refine y_ireturn rfl rfl rfl ?_
            refine y_ret1 ?_
            refine y_if_neF rfl (by decide) ?_
            refine y_throw rfl rfl rfl ?_
            exact hE0
          · refine y_iload_n rfl rfl ?_
            refine y_aload_n rfl rfl ?_
            refine y_getI rfl (ySh.t hS rfl) (ySh.n hS rfl) rfl rfl ?_
            refine y_icmp_ge rfl j_X4_has_16 (fun h_87 => ?_) (fun h_88 => ?_)
            · refine y_iconst rfl ?_
              refine y_ireturn rfl rfl rfl ?_
              refine y_ret1 ?_
              refine y_if_eqT rfl j_X8_isParty_20 (by decide) ?_
              refine y_iconst rfl ?_
              refine y_ireturn rfl rfl rfl ?_
              refine y_ret1 ?_
              refine y_if_neF rfl (by decide) ?_
              refine y_throw rfl rfl rfl ?_
              exact hE0
            · refine y_iconst rfl ?_
              refine y_goto rfl j_X4_has_17 ?_
              refine y_ireturn rfl rfl rfl ?_
              refine y_ret1 ?_
              refine y_if_eqF rfl (by decide) ?_
              refine y_iconst rfl ?_
              refine y_goto rfl j_X8_isParty_21 ?_
              refine y_ireturn rfl rfl rfl ?_
              refine y_ret1 ?_
              refine y_if_neT rfl j_X8_buyOut_38 (by decide) ?_
              refine y_iload_n rfl rfl ?_
              refine y_iload_n rfl rfl ?_
              refine y_icmp_eq rfl j_X8_buyOut_55 (fun h_89 => ?_) (fun h_90 => ?_)
              · refine y_throw rfl rfl rfl ?_
                exact hE1
              · refine y_iload rfl rfl ?_
                refine y_iconst rfl ?_
                refine y_sip rfl (by decide) ?_
                refine y_static rfl rfl rfl rfl rfl ?_
                refine y_in (M := xm_X8_isIn) (ls := [some _, some _, some _]) rfl rfl rfl ?_
                refine y_iload_n rfl rfl ?_
                refine y_iload_n rfl rfl ?_
                refine y_icmp_lt rfl j_X8_isIn_14 (fun h_91 => ?_) (fun h_92 => ?_)
                · rw [yz_1] at h_91
                  refine y_iconst rfl ?_
                  refine y_ireturn rfl rfl rfl ?_
                  refine y_ret1 ?_
                  refine y_if_neF rfl (by decide) ?_
                  refine y_throw rfl rfl rfl ?_
                  exact hE1
                · rw [yz_1] at h_92
                  refine y_iload_n rfl rfl ?_
                  refine y_iload_n rfl rfl ?_
                  refine y_icmp_gt rfl j_X8_isIn_14 (fun h_93 => ?_) (fun h_94 => ?_)
                  · rw [yz_999] at h_93
                    refine y_iconst rfl ?_
                    refine y_ireturn rfl rfl rfl ?_
                    refine y_ret1 ?_
                    refine y_if_neF rfl (by decide) ?_
                    refine y_throw rfl rfl rfl ?_
                    exact hE1
                  · rw [yz_999] at h_94
                    refine y_iconst rfl ?_
                    refine y_goto rfl j_X8_isIn_15 ?_
                    refine y_ireturn rfl rfl rfl ?_
                    refine y_ret1 ?_
                    refine y_if_neT rfl j_X8_buyOut_66 (by decide) ?_
                    refine y_iload_n rfl rfl ?_
                    refine y_static rfl rfl rfl rfl rfl ?_
                    refine y_in (M := xm_X8_placeOf) (ls := [some _]) rfl rfl rfl ?_
                    refine y_iload_n rfl rfl ?_
                    refine y_iconst rfl ?_
                    refine y_icmp_ne rfl j_X8_placeOf_10 (fun h_95 => ?_) (fun h_96 => ?_)
                    · rw [yz_m1] at h_95
                      refine y_iload_n rfl rfl ?_
                      refine y_ireturn rfl rfl rfl ?_
                      refine y_ret1 ?_
                      refine y_istore (ls' := [some _, some _, some _, some _, some _, some _, _]) rfl rfl rfl ?_
                      refine y_iload_n rfl rfl ?_
                      refine y_static rfl rfl rfl rfl rfl ?_
                      refine y_in (M := xm_X8_placeOf) (ls := [some _]) rfl rfl rfl ?_
                      refine y_iload_n rfl rfl ?_
                      refine y_iconst rfl ?_
                      refine y_icmp_ne rfl j_X8_placeOf_10 (fun h_97 => ?_) (fun h_98 => ?_)
                      · rw [yz_m1] at h_97
                        refine y_iload_n rfl rfl ?_
                        refine y_ireturn rfl rfl rfl ?_
                        refine y_ret1 ?_
                        refine y_istore (ls' := [some _, some _, some _, some _, some _, some _, some _]) rfl rfl rfl ?_
                        refine y_aload_n rfl rfl ?_
                        refine y_getR rfl (ySh.t hS rfl) (ySh.n hS rfl) rfl rfl (ySh.r hS rfl) ?_
                        refine y_iload_n rfl rfl ?_
                        refine y_iload rfl rfl ?_
                        refine y_virt rfl rfl rfl rfl rfl (ySh.t hS rfl) (ySh.n hS rfl) ?_
                        refine y_in (M := xm_X7_isPartner) (ls := [some _, some _, some _]) rfl rfl rfl ?_
                        refine y_aload_n rfl rfl ?_
                        refine y_getR rfl (ySh.t hS rfl) (ySh.n hS rfl) rfl rfl (ySh.r hS rfl) ?_
                        refine y_aload_n rfl rfl ?_
                        refine y_iload_n rfl rfl ?_
                        refine y_iload_n rfl rfl ?_
                        refine y_virt rfl rfl rfl rfl rfl (ySh.t hS rfl) (ySh.n hS rfl) ?_
                        refine sp_at (by omega) (by omega) (by omega) (by omega) (fun z_ hz99 => ?_)
                        refine y_ret1 ?_
                        refine y_baload rfl (ySh.t hS rfl) rfl (ySh.n hS rfl) (by omega) (by omega) ?_
                        refine y_ireturn rfl rfl (xfit_z (hC.p _)) ?_
                        refine y_ret1 ?_
                        refine y_if_eq rfl j_X8_buyOut_134 (fun h_100 => ?_) (fun h_101 => ?_)
                        · refine y_throw rfl rfl rfl ?_
                          exact hE2
                        · refine y_aload_n rfl rfl ?_
                          refine y_getR rfl (ySh.t hS rfl) (ySh.n hS rfl) rfl rfl (ySh.r hS rfl) ?_
                          refine y_iload_n rfl rfl ?_
                          refine y_iload rfl rfl ?_
                          refine y_virt rfl rfl rfl rfl rfl (ySh.t hS rfl) (ySh.n hS rfl) ?_
                          refine y_in (M := xm_X7_isPartner) (ls := [some _, some _, some _]) rfl rfl rfl ?_
                          refine y_aload_n rfl rfl ?_
                          refine y_getR rfl (ySh.t hS rfl) (ySh.n hS rfl) rfl rfl (ySh.r hS rfl) ?_
                          refine y_aload_n rfl rfl ?_
                          refine y_iload_n rfl rfl ?_
                          refine y_iload_n rfl rfl ?_
                          refine y_virt rfl rfl rfl rfl rfl (ySh.t hS rfl) (ySh.n hS rfl) ?_
                          refine sp_at (by omega) (by omega) (by omega) (by omega) (fun z_ hz102 => ?_)
                          refine y_ret1 ?_
                          refine y_baload rfl (ySh.t hS rfl) rfl (ySh.n hS rfl) (by omega) (by omega) ?_
                          refine y_ireturn rfl rfl (xfit_z (hC.p _)) ?_
                          refine y_ret1 ?_
                          refine y_if_eq rfl j_X8_buyOut_134 (fun h_103 => ?_) (fun h_104 => ?_)
                          · refine y_throw rfl rfl rfl ?_
                            exact hE2
                          · refine y_aload_n rfl rfl ?_
                            refine y_getR rfl (ySh.t hS rfl) (ySh.n hS rfl) rfl rfl (ySh.r hS rfl) ?_
                            refine y_iload_n rfl rfl ?_
                            refine y_iload rfl rfl ?_
                            refine y_virt rfl rfl rfl rfl rfl (ySh.t hS rfl) (ySh.n hS rfl) ?_
                            refine y_in (M := xm_X7_capitalOf) (ls := [some _, some _, some _]) rfl rfl rfl ?_
                            refine y_aload_n rfl rfl ?_
                            refine y_getR rfl (ySh.t hS rfl) (ySh.n hS rfl) rfl rfl (ySh.r hS rfl) ?_
                            refine y_aload_n rfl rfl ?_
                            refine y_iload_n rfl rfl ?_
                            refine y_iload_n rfl rfl ?_
                            refine y_virt rfl rfl rfl rfl rfl (ySh.t hS rfl) (ySh.n hS rfl) ?_
                            refine sp_at (by omega) (by omega) (by omega) (by omega) (fun z_ hz105 => ?_)
                            refine y_ret1 ?_
                            refine y_iaload rfl (ySh.t hS rfl) (ySh.n hS rfl) (by omega) (by omega) ?_
                            refine y_ireturn rfl rfl rfl ?_
                            refine y_ret1 ?_
                            refine y_iload rfl rfl ?_
                            refine y_icmp_lt rfl j_X8_buyOut_134 (fun h_106 => ?_) (fun h_107 => ?_)
                            · refine y_throw rfl rfl rfl ?_
                              exact hE2
                            · refine y_aload_n rfl rfl ?_
                              refine y_getR rfl (ySh.t hS rfl) (ySh.n hS rfl) rfl rfl (ySh.r hS rfl) ?_
                              refine y_getR rfl (ySh.t hS rfl) (ySh.n hS rfl) rfl rfl (ySh.r hS rfl) ?_
                              refine y_iload rfl rfl ?_
                              refine y_iaload rfl (ySh.t hS rfl) (ySh.n hS rfl) (by omega) (by omega) ?_
                              refine y_iload rfl rfl ?_
                              refine y_icmp_ge rfl j_X8_buyOut_145 (fun h_108 => ?_) (fun h_109 => ?_)
                              · refine y_aload_n rfl rfl ?_
                                refine y_getR rfl (ySh.t hS rfl) (ySh.n hS rfl) rfl rfl (ySh.r hS rfl) ?_
                                refine y_iload rfl rfl ?_
                                refine y_iload rfl rfl ?_
                                refine y_iload rfl rfl ?_
                                refine y_virt rfl rfl rfl rfl rfl (ySh.t hS rfl) (ySh.n hS rfl) ?_
                                refine y_in (M := xm_X4_move) (ls := [some _, some _, some _, some _]) rfl rfl rfl ?_
                                refine y_aload_n rfl rfl ?_
                                refine y_iload_n rfl rfl ?_
                                refine y_iload_n rfl rfl ?_
                                refine y_ineg rfl ?_
                                refine y_virt rfl rfl rfl rfl rfl (ySh.t hS rfl) (ySh.n hS rfl) ?_
                                refine sp_add_X4 hS hC (fun I120 hC hF1 => ?_)
                                have hF : yFt I I120 := yFt.trans (by repeat (first | exact hF | refine yFt.upd ?_ (by decide))) hF1.t
                                have hd : (I120 34 8).toInt = (I 34 8).toInt := congrArg Int32.toInt (hF1 34 8 (Or.inl (by decide)))
                                refine y_ret0 ?_
                                refine y_aload_n rfl rfl ?_
                                refine y_iload_n rfl rfl ?_
                                refine y_iload_n rfl rfl ?_
                                refine y_virt rfl rfl rfl rfl rfl (ySh.t hS rfl) (ySh.n hS rfl) ?_
                                refine sp_add_X4 hS hC (fun I121 hC hF1 => ?_)
                                have hF : yFt I I121 := yFt.trans (by repeat (first | exact hF | refine yFt.upd ?_ (by decide))) hF1.t
                                have hd : (I121 34 8).toInt = (I120 34 8).toInt := congrArg Int32.toInt (hF1 34 8 (Or.inl (by decide)))
                                refine y_ret0 ?_
                                refine y_return rfl ?_
                                refine y_ret0 ?_
                                refine y_aload_n rfl rfl ?_
                                refine y_getR rfl (ySh.t hS rfl) (ySh.n hS rfl) rfl rfl (ySh.r hS rfl) ?_
                                refine y_iload_n rfl rfl ?_
                                refine y_iload rfl rfl ?_
                                refine y_iload rfl rfl ?_
                                refine y_iload rfl rfl ?_
                                refine y_virt rfl rfl rfl rfl rfl (ySh.t hS rfl) (ySh.n hS rfl) ?_
                                refine y_in (M := xm_X7_moveCapital) (ls := [some _, some _, some _, some _, some _]) rfl rfl rfl ?_
                                refine y_aload_n rfl rfl ?_
                                refine y_getR rfl (ySh.t hS rfl) (ySh.n hS rfl) rfl rfl (ySh.r hS rfl) ?_
                                refine y_aload_n rfl rfl ?_
                                refine y_iload_n rfl rfl ?_
                                refine y_iload_n rfl rfl ?_
                                refine y_virt rfl rfl rfl rfl rfl (ySh.t hS rfl) (ySh.n hS rfl) ?_
                                refine sp_at (by omega) (by omega) (by omega) (by omega) (fun z_ hz112 => ?_)
                                refine y_ret1 ?_
                                refine y_dup2 rfl rfl rfl ?_
                                refine y_iaload rfl (ySh.t hS rfl) (ySh.n hS rfl) (by omega) (by omega) ?_
                                refine y_iload rfl rfl ?_
                                refine y_isub rfl ?_
                                refine y_iastore rfl (ySh.t hS rfl) (ySh.n hS rfl) (Nat.le_of_ble_eq_true rfl) (by omega) (by omega) ?_
                                refine y_aload_n rfl rfl ?_
                                refine y_getR rfl (ySh.t hS rfl) (ySh.n hS rfl) rfl rfl (ySh.r hS rfl) ?_
                                refine y_aload_n rfl rfl ?_
                                refine y_iload_n rfl rfl ?_
                                refine y_iload_n rfl rfl ?_
                                refine y_virt rfl rfl rfl rfl rfl (ySh.t hS rfl) (ySh.n hS rfl) ?_
                                refine sp_at (by omega) (by omega) (by omega) (by omega) (fun z_ hz113 => ?_)
                                refine y_ret1 ?_
                                refine y_dup2 rfl rfl rfl ?_
                                refine y_iaload rfl (ySh.t hS rfl) (ySh.n hS rfl) (by omega) (by omega) ?_
                                refine y_iload rfl rfl ?_
                                refine y_iadd rfl ?_
                                refine y_iastore rfl (ySh.t hS rfl) (ySh.n hS rfl) (Nat.le_of_ble_eq_true rfl) (by omega) (by omega) ?_
                                refine y_return rfl ?_
                                refine y_ret0 ?_
                                refine y_aload_n rfl rfl ?_
                                refine y_getR rfl (ySh.t hS rfl) (ySh.n hS rfl) rfl rfl (ySh.r hS rfl) ?_
                                refine y_iload_n rfl rfl ?_
                                refine y_iload rfl rfl ?_
                                refine y_virt rfl rfl rfl rfl rfl (ySh.t hS rfl) (ySh.n hS rfl) ?_
                                refine y_in (M := xm_X7_capitalOf) (ls := [some _, some _, some _]) rfl rfl rfl ?_
                                refine y_aload_n rfl rfl ?_
                                refine y_getR rfl (ySh.t hS rfl) (ySh.n hS rfl) rfl rfl (ySh.r hS rfl) ?_
                                refine y_aload_n rfl rfl ?_
                                refine y_iload_n rfl rfl ?_
                                refine y_iload_n rfl rfl ?_
                                refine y_virt rfl rfl rfl rfl rfl (ySh.t hS rfl) (ySh.n hS rfl) ?_
                                refine sp_at (by omega) (by omega) (by omega) (by omega) (fun z_ hz114 => ?_)
                                refine y_ret1 ?_
                                refine y_iaload rfl (ySh.t hS rfl) (ySh.n hS rfl) (by omega) (by omega) ?_
                                refine y_ireturn rfl rfl rfl ?_
                                refine y_ret1 ?_
                                refine y_ireturn rfl rfl rfl ?_
                                exact hQ _ _ hC (by repeat (first | exact hF | refine yFt.upd ?_ (by decide)))
                              · refine y_throw rfl rfl rfl ?_
                                exact hE2
                      · rw [yz_m1] at h_98
                        refine y_bip rfl (by decide) ?_
                        refine y_goto rfl j_X8_placeOf_11 ?_
                        refine y_ireturn rfl rfl rfl ?_
                        refine y_ret1 ?_
                        refine y_istore (ls' := [some _, some _, some _, some _, some _, some _, some _]) rfl rfl rfl ?_
                        refine y_aload_n rfl rfl ?_
                        refine y_getR rfl (ySh.t hS rfl) (ySh.n hS rfl) rfl rfl (ySh.r hS rfl) ?_
                        refine y_iload_n rfl rfl ?_
                        refine y_iload rfl rfl ?_
                        refine y_virt rfl rfl rfl rfl rfl (ySh.t hS rfl) (ySh.n hS rfl) ?_
                        refine y_in (M := xm_X7_isPartner) (ls := [some _, some _, some _]) rfl rfl rfl ?_
                        refine y_aload_n rfl rfl ?_
                        refine y_getR rfl (ySh.t hS rfl) (ySh.n hS rfl) rfl rfl (ySh.r hS rfl) ?_
                        refine y_aload_n rfl rfl ?_
                        refine y_iload_n rfl rfl ?_
                        refine y_iload_n rfl rfl ?_
                        refine y_virt rfl rfl rfl rfl rfl (ySh.t hS rfl) (ySh.n hS rfl) ?_
                        refine sp_at (by omega) (by omega) (by omega) (by omega) (fun z_ hz115 => ?_)
                        refine y_ret1 ?_
                        refine y_baload rfl (ySh.t hS rfl) rfl (ySh.n hS rfl) (by omega) (by omega) ?_
                        refine y_ireturn rfl rfl (xfit_z (hC.p _)) ?_
                        refine y_ret1 ?_
                        refine y_if_eq rfl j_X8_buyOut_134 (fun h_116 => ?_) (fun h_117 => ?_)
                        · refine y_throw rfl rfl rfl ?_
                          exact hE2
                        · refine y_aload_n rfl rfl ?_
                          refine y_getR rfl (ySh.t hS rfl) (ySh.n hS rfl) rfl rfl (ySh.r hS rfl) ?_
                          refine y_iload_n rfl rfl ?_
                          refine y_iload rfl rfl ?_
                          refine y_virt rfl rfl rfl rfl rfl (ySh.t hS rfl) (ySh.n hS rfl) ?_
                          refine y_in (M := xm_X7_isPartner) (ls := [some _, some _, some _]) rfl rfl rfl ?_
                          refine y_aload_n rfl rfl ?_
                          refine y_getR rfl (ySh.t hS rfl) (ySh.n hS rfl) rfl rfl (ySh.r hS rfl) ?_
                          refine y_aload_n rfl rfl ?_
                          refine y_iload_n rfl rfl ?_
                          refine y_iload_n rfl rfl ?_
                          refine y_virt rfl rfl rfl rfl rfl (ySh.t hS rfl) (ySh.n hS rfl) ?_
                          refine sp_at (by omega) (by omega) (by decide) (by decide) (fun z_ hz118 => ?_)
                          rw [yz_8] at hz118
                          refine y_ret1 ?_
                          refine y_baload rfl (ySh.t hS rfl) rfl (ySh.n hS rfl) (by omega) (by omega) ?_
                          refine y_ireturn rfl rfl (xfit_z (hC.p _)) ?_
                          refine y_ret1 ?_
                          refine y_if_eq rfl j_X8_buyOut_134 (fun h_119 => ?_) (fun h_120 => ?_)
                          · refine y_throw rfl rfl rfl ?_
                            exact hE2
                          · refine y_aload_n rfl rfl ?_
                            refine y_getR rfl (ySh.t hS rfl) (ySh.n hS rfl) rfl rfl (ySh.r hS rfl) ?_
                            refine y_iload_n rfl rfl ?_
                            refine y_iload rfl rfl ?_
                            refine y_virt rfl rfl rfl rfl rfl (ySh.t hS rfl) (ySh.n hS rfl) ?_
                            refine y_in (M := xm_X7_capitalOf) (ls := [some _, some _, some _]) rfl rfl rfl ?_
                            refine y_aload_n rfl rfl ?_
                            refine y_getR rfl (ySh.t hS rfl) (ySh.n hS rfl) rfl rfl (ySh.r hS rfl) ?_
                            refine y_aload_n rfl rfl ?_
                            refine y_iload_n rfl rfl ?_
                            refine y_iload_n rfl rfl ?_
                            refine y_virt rfl rfl rfl rfl rfl (ySh.t hS rfl) (ySh.n hS rfl) ?_
                            refine sp_at (by omega) (by omega) (by omega) (by omega) (fun z_ hz121 => ?_)
                            refine y_ret1 ?_
                            refine y_iaload rfl (ySh.t hS rfl) (ySh.n hS rfl) (by omega) (by omega) ?_
                            refine y_ireturn rfl rfl rfl ?_
                            refine y_ret1 ?_
                            refine y_iload rfl rfl ?_
                            refine y_icmp_lt rfl j_X8_buyOut_134 (fun h_122 => ?_) (fun h_123 => ?_)
                            · refine y_throw rfl rfl rfl ?_
                              exact hE2
                            · refine y_aload_n rfl rfl ?_
                              refine y_getR rfl (ySh.t hS rfl) (ySh.n hS rfl) rfl rfl (ySh.r hS rfl) ?_
                              refine y_getR rfl (ySh.t hS rfl) (ySh.n hS rfl) rfl rfl (ySh.r hS rfl) ?_
                              refine y_iload rfl rfl ?_
                              refine y_iaload rfl (ySh.t hS rfl) (ySh.n hS rfl) (by decide) (by decide) ?_
                              refine y_iload rfl rfl ?_
                              refine y_icmp_ge rfl j_X8_buyOut_145 (fun h_124 => ?_) (fun h_125 => ?_)
                              · refine y_aload_n rfl rfl ?_
                                refine y_getR rfl (ySh.t hS rfl) (ySh.n hS rfl) rfl rfl (ySh.r hS rfl) ?_
                                refine y_iload rfl rfl ?_
                                refine y_iload rfl rfl ?_
                                refine y_iload rfl rfl ?_
                                refine y_virt rfl rfl rfl rfl rfl (ySh.t hS rfl) (ySh.n hS rfl) ?_
                                refine y_in (M := xm_X4_move) (ls := [some _, some _, some _, some _]) rfl rfl rfl ?_
                                refine y_aload_n rfl rfl ?_
                                refine y_iload_n rfl rfl ?_
                                refine y_iload_n rfl rfl ?_
                                refine y_ineg rfl ?_
                                refine y_virt rfl rfl rfl rfl rfl (ySh.t hS rfl) (ySh.n hS rfl) ?_
                                refine sp_add_X4 hS hC (fun I136 hC hF1 => ?_)
                                have hF : yFt I I136 := yFt.trans (by repeat (first | exact hF | refine yFt.upd ?_ (by decide))) hF1.t
                                have hd : (I136 34 8).toInt = (I 34 8).toInt := congrArg Int32.toInt (hF1 34 8 (Or.inl (by decide)))
                                refine y_ret0 ?_
                                refine y_aload_n rfl rfl ?_
                                refine y_iload_n rfl rfl ?_
                                refine y_iload_n rfl rfl ?_
                                refine y_virt rfl rfl rfl rfl rfl (ySh.t hS rfl) (ySh.n hS rfl) ?_
                                refine sp_add_X4 hS hC (fun I137 hC hF1 => ?_)
                                have hF : yFt I I137 := yFt.trans (by repeat (first | exact hF | refine yFt.upd ?_ (by decide))) hF1.t
                                have hd : (I137 34 8).toInt = (I136 34 8).toInt := congrArg Int32.toInt (hF1 34 8 (Or.inl (by decide)))
                                refine y_ret0 ?_
                                refine y_return rfl ?_
                                refine y_ret0 ?_
                                refine y_aload_n rfl rfl ?_
                                refine y_getR rfl (ySh.t hS rfl) (ySh.n hS rfl) rfl rfl (ySh.r hS rfl) ?_
                                refine y_iload_n rfl rfl ?_
                                refine y_iload rfl rfl ?_
                                refine y_iload rfl rfl ?_
                                refine y_iload rfl rfl ?_
                                refine y_virt rfl rfl rfl rfl rfl (ySh.t hS rfl) (ySh.n hS rfl) ?_
                                refine y_in (M := xm_X7_moveCapital) (ls := [some _, some _, some _, some _, some _]) rfl rfl rfl ?_
                                refine y_aload_n rfl rfl ?_
                                refine y_getR rfl (ySh.t hS rfl) (ySh.n hS rfl) rfl rfl (ySh.r hS rfl) ?_
                                refine y_aload_n rfl rfl ?_
                                refine y_iload_n rfl rfl ?_
                                refine y_iload_n rfl rfl ?_
                                refine y_virt rfl rfl rfl rfl rfl (ySh.t hS rfl) (ySh.n hS rfl) ?_
                                refine sp_at (by omega) (by omega) (by omega) (by omega) (fun z_ hz128 => ?_)
                                refine y_ret1 ?_
                                refine y_dup2 rfl rfl rfl ?_
                                refine y_iaload rfl (ySh.t hS rfl) (ySh.n hS rfl) (by omega) (by omega) ?_
                                refine y_iload rfl rfl ?_
                                refine y_isub rfl ?_
                                refine y_iastore rfl (ySh.t hS rfl) (ySh.n hS rfl) (Nat.le_of_ble_eq_true rfl) (by omega) (by omega) ?_
                                refine y_aload_n rfl rfl ?_
                                refine y_getR rfl (ySh.t hS rfl) (ySh.n hS rfl) rfl rfl (ySh.r hS rfl) ?_
                                refine y_aload_n rfl rfl ?_
                                refine y_iload_n rfl rfl ?_
                                refine y_iload_n rfl rfl ?_
                                refine y_virt rfl rfl rfl rfl rfl (ySh.t hS rfl) (ySh.n hS rfl) ?_
                                refine sp_at (by omega) (by omega) (by decide) (by decide) (fun z_ hz129 => ?_)
                                rw [yz_8] at hz129
                                refine y_ret1 ?_
                                refine y_dup2 rfl rfl rfl ?_
                                refine y_iaload rfl (ySh.t hS rfl) (ySh.n hS rfl) (by omega) (by omega) ?_
                                refine y_iload rfl rfl ?_
                                refine y_iadd rfl ?_
                                refine y_iastore rfl (ySh.t hS rfl) (ySh.n hS rfl) (Nat.le_of_ble_eq_true rfl) (by omega) (by omega) ?_
                                refine y_return rfl ?_
                                refine y_ret0 ?_
                                refine y_aload_n rfl rfl ?_
                                refine y_getR rfl (ySh.t hS rfl) (ySh.n hS rfl) rfl rfl (ySh.r hS rfl) ?_
                                refine y_iload_n rfl rfl ?_
                                refine y_iload rfl rfl ?_
                                refine y_virt rfl rfl rfl rfl rfl (ySh.t hS rfl) (ySh.n hS rfl) ?_
                                refine y_in (M := xm_X7_capitalOf) (ls := [some _, some _, some _]) rfl rfl rfl ?_
                                refine y_aload_n rfl rfl ?_
                                refine y_getR rfl (ySh.t hS rfl) (ySh.n hS rfl) rfl rfl (ySh.r hS rfl) ?_
                                refine y_aload_n rfl rfl ?_
                                refine y_iload_n rfl rfl ?_
                                refine y_iload_n rfl rfl ?_
                                refine y_virt rfl rfl rfl rfl rfl (ySh.t hS rfl) (ySh.n hS rfl) ?_
                                refine sp_at (by omega) (by omega) (by omega) (by omega) (fun z_ hz130 => ?_)
                                refine y_ret1 ?_
                                refine y_iaload rfl (ySh.t hS rfl) (ySh.n hS rfl) (by omega) (by omega) ?_
                                refine y_ireturn rfl rfl rfl ?_
                                refine y_ret1 ?_
                                refine y_ireturn rfl rfl rfl ?_
                                exact hQ _ _ hC (by repeat (first | exact hF | refine yFt.upd ?_ (by decide)))
                              · refine y_throw rfl rfl rfl ?_
                                exact hE2
                    · rw [yz_m1] at h_96
                      refine y_bip rfl (by decide) ?_
                      refine y_goto rfl j_X8_placeOf_11 ?_
                      refine y_ireturn rfl rfl rfl ?_
                      refine y_ret1 ?_
                      refine y_istore (ls' := [some _, some _, some _, some _, some _, some _, _]) rfl rfl rfl ?_
                      refine y_iload_n rfl rfl ?_
                      refine y_static rfl rfl rfl rfl rfl ?_
                      refine y_in (M := xm_X8_placeOf) (ls := [some _]) rfl rfl rfl ?_
                      refine y_iload_n rfl rfl ?_
                      refine y_iconst rfl ?_
                      refine y_icmp_ne rfl j_X8_placeOf_10 (fun h_131 => ?_) (fun h_132 => ?_)
                      · rw [yz_m1] at h_131
                        refine y_iload_n rfl rfl ?_
                        refine y_ireturn rfl rfl rfl ?_
                        refine y_ret1 ?_
                        refine y_istore (ls' := [some _, some _, some _, some _, some _, some _, some _]) rfl rfl rfl ?_
                        refine y_aload_n rfl rfl ?_
                        refine y_getR rfl (ySh.t hS rfl) (ySh.n hS rfl) rfl rfl (ySh.r hS rfl) ?_
                        refine y_iload_n rfl rfl ?_
                        refine y_iload rfl rfl ?_
                        refine y_virt rfl rfl rfl rfl rfl (ySh.t hS rfl) (ySh.n hS rfl) ?_
                        refine y_in (M := xm_X7_isPartner) (ls := [some _, some _, some _]) rfl rfl rfl ?_
                        refine y_aload_n rfl rfl ?_
                        refine y_getR rfl (ySh.t hS rfl) (ySh.n hS rfl) rfl rfl (ySh.r hS rfl) ?_
                        refine y_aload_n rfl rfl ?_
                        refine y_iload_n rfl rfl ?_
                        refine y_iload_n rfl rfl ?_
                        refine y_virt rfl rfl rfl rfl rfl (ySh.t hS rfl) (ySh.n hS rfl) ?_
                        refine sp_at (by omega) (by omega) (by decide) (by decide) (fun z_ hz133 => ?_)
                        rw [yz_8] at hz133
                        refine y_ret1 ?_
                        refine y_baload rfl (ySh.t hS rfl) rfl (ySh.n hS rfl) (by omega) (by omega) ?_
                        refine y_ireturn rfl rfl (xfit_z (hC.p _)) ?_
                        refine y_ret1 ?_
                        refine y_if_eq rfl j_X8_buyOut_134 (fun h_134 => ?_) (fun h_135 => ?_)
                        · refine y_throw rfl rfl rfl ?_
                          exact hE2
                        · refine y_aload_n rfl rfl ?_
                          refine y_getR rfl (ySh.t hS rfl) (ySh.n hS rfl) rfl rfl (ySh.r hS rfl) ?_
                          refine y_iload_n rfl rfl ?_
                          refine y_iload rfl rfl ?_
                          refine y_virt rfl rfl rfl rfl rfl (ySh.t hS rfl) (ySh.n hS rfl) ?_
                          refine y_in (M := xm_X7_isPartner) (ls := [some _, some _, some _]) rfl rfl rfl ?_
                          refine y_aload_n rfl rfl ?_
                          refine y_getR rfl (ySh.t hS rfl) (ySh.n hS rfl) rfl rfl (ySh.r hS rfl) ?_
                          refine y_aload_n rfl rfl ?_
                          refine y_iload_n rfl rfl ?_
                          refine y_iload_n rfl rfl ?_
                          refine y_virt rfl rfl rfl rfl rfl (ySh.t hS rfl) (ySh.n hS rfl) ?_
                          refine sp_at (by omega) (by omega) (by omega) (by omega) (fun z_ hz136 => ?_)
                          refine y_ret1 ?_
                          refine y_baload rfl (ySh.t hS rfl) rfl (ySh.n hS rfl) (by omega) (by omega) ?_
                          refine y_ireturn rfl rfl (xfit_z (hC.p _)) ?_
                          refine y_ret1 ?_
                          refine y_if_eq rfl j_X8_buyOut_134 (fun h_137 => ?_) (fun h_138 => ?_)
                          · refine y_throw rfl rfl rfl ?_
                            exact hE2
                          · refine y_aload_n rfl rfl ?_
                            refine y_getR rfl (ySh.t hS rfl) (ySh.n hS rfl) rfl rfl (ySh.r hS rfl) ?_
                            refine y_iload_n rfl rfl ?_
                            refine y_iload rfl rfl ?_
                            refine y_virt rfl rfl rfl rfl rfl (ySh.t hS rfl) (ySh.n hS rfl) ?_
                            refine y_in (M := xm_X7_capitalOf) (ls := [some _, some _, some _]) rfl rfl rfl ?_
                            refine y_aload_n rfl rfl ?_
                            refine y_getR rfl (ySh.t hS rfl) (ySh.n hS rfl) rfl rfl (ySh.r hS rfl) ?_
                            refine y_aload_n rfl rfl ?_
                            refine y_iload_n rfl rfl ?_
                            refine y_iload_n rfl rfl ?_
                            refine y_virt rfl rfl rfl rfl rfl (ySh.t hS rfl) (ySh.n hS rfl) ?_
                            refine sp_at (by omega) (by omega) (by decide) (by decide) (fun z_ hz139 => ?_)
                            rw [yz_8] at hz139
                            refine y_ret1 ?_
                            refine y_iaload rfl (ySh.t hS rfl) (ySh.n hS rfl) (by omega) (by omega) ?_
                            refine y_ireturn rfl rfl rfl ?_
                            refine y_ret1 ?_
                            refine y_iload rfl rfl ?_
                            refine y_icmp_lt rfl j_X8_buyOut_134 (fun h_140 => ?_) (fun h_141 => ?_)
                            · refine y_throw rfl rfl rfl ?_
                              exact hE2
                            · refine y_aload_n rfl rfl ?_
                              refine y_getR rfl (ySh.t hS rfl) (ySh.n hS rfl) rfl rfl (ySh.r hS rfl) ?_
                              refine y_getR rfl (ySh.t hS rfl) (ySh.n hS rfl) rfl rfl (ySh.r hS rfl) ?_
                              refine y_iload rfl rfl ?_
                              refine y_iaload rfl (ySh.t hS rfl) (ySh.n hS rfl) (by omega) (by omega) ?_
                              refine y_iload rfl rfl ?_
                              refine y_icmp_ge rfl j_X8_buyOut_145 (fun h_142 => ?_) (fun h_143 => ?_)
                              · refine y_aload_n rfl rfl ?_
                                refine y_getR rfl (ySh.t hS rfl) (ySh.n hS rfl) rfl rfl (ySh.r hS rfl) ?_
                                refine y_iload rfl rfl ?_
                                refine y_iload rfl rfl ?_
                                refine y_iload rfl rfl ?_
                                refine y_virt rfl rfl rfl rfl rfl (ySh.t hS rfl) (ySh.n hS rfl) ?_
                                refine y_in (M := xm_X4_move) (ls := [some _, some _, some _, some _]) rfl rfl rfl ?_
                                refine y_aload_n rfl rfl ?_
                                refine y_iload_n rfl rfl ?_
                                refine y_iload_n rfl rfl ?_
                                refine y_ineg rfl ?_
                                refine y_virt rfl rfl rfl rfl rfl (ySh.t hS rfl) (ySh.n hS rfl) ?_
                                refine sp_add_X4 hS hC (fun I154 hC hF1 => ?_)
                                have hF : yFt I I154 := yFt.trans (by repeat (first | exact hF | refine yFt.upd ?_ (by decide))) hF1.t
                                have hd : (I154 34 8).toInt = (I 34 8).toInt := congrArg Int32.toInt (hF1 34 8 (Or.inl (by decide)))
                                refine y_ret0 ?_
                                refine y_aload_n rfl rfl ?_
                                refine y_iload_n rfl rfl ?_
                                refine y_iload_n rfl rfl ?_
                                refine y_virt rfl rfl rfl rfl rfl (ySh.t hS rfl) (ySh.n hS rfl) ?_
                                refine sp_add_X4 hS hC (fun I155 hC hF1 => ?_)
                                have hF : yFt I I155 := yFt.trans (by repeat (first | exact hF | refine yFt.upd ?_ (by decide))) hF1.t
                                have hd : (I155 34 8).toInt = (I154 34 8).toInt := congrArg Int32.toInt (hF1 34 8 (Or.inl (by decide)))
                                refine y_ret0 ?_
                                refine y_return rfl ?_
                                refine y_ret0 ?_
                                refine y_aload_n rfl rfl ?_
                                refine y_getR rfl (ySh.t hS rfl) (ySh.n hS rfl) rfl rfl (ySh.r hS rfl) ?_
                                refine y_iload_n rfl rfl ?_
                                refine y_iload rfl rfl ?_
                                refine y_iload rfl rfl ?_
                                refine y_iload rfl rfl ?_
                                refine y_virt rfl rfl rfl rfl rfl (ySh.t hS rfl) (ySh.n hS rfl) ?_
                                refine y_in (M := xm_X7_moveCapital) (ls := [some _, some _, some _, some _, some _]) rfl rfl rfl ?_
                                refine y_aload_n rfl rfl ?_
                                refine y_getR rfl (ySh.t hS rfl) (ySh.n hS rfl) rfl rfl (ySh.r hS rfl) ?_
                                refine y_aload_n rfl rfl ?_
                                refine y_iload_n rfl rfl ?_
                                refine y_iload_n rfl rfl ?_
                                refine y_virt rfl rfl rfl rfl rfl (ySh.t hS rfl) (ySh.n hS rfl) ?_
                                refine sp_at (by omega) (by omega) (by decide) (by decide) (fun z_ hz146 => ?_)
                                rw [yz_8] at hz146
                                refine y_ret1 ?_
                                refine y_dup2 rfl rfl rfl ?_
                                refine y_iaload rfl (ySh.t hS rfl) (ySh.n hS rfl) (by omega) (by omega) ?_
                                refine y_iload rfl rfl ?_
                                refine y_isub rfl ?_
                                refine y_iastore rfl (ySh.t hS rfl) (ySh.n hS rfl) (Nat.le_of_ble_eq_true rfl) (by omega) (by omega) ?_
                                refine y_aload_n rfl rfl ?_
                                refine y_getR rfl (ySh.t hS rfl) (ySh.n hS rfl) rfl rfl (ySh.r hS rfl) ?_
                                refine y_aload_n rfl rfl ?_
                                refine y_iload_n rfl rfl ?_
                                refine y_iload_n rfl rfl ?_
                                refine y_virt rfl rfl rfl rfl rfl (ySh.t hS rfl) (ySh.n hS rfl) ?_
                                refine sp_at (by omega) (by omega) (by omega) (by omega) (fun z_ hz147 => ?_)
                                refine y_ret1 ?_
                                refine y_dup2 rfl rfl rfl ?_
                                refine y_iaload rfl (ySh.t hS rfl) (ySh.n hS rfl) (by omega) (by omega) ?_
                                refine y_iload rfl rfl ?_
                                refine y_iadd rfl ?_
                                refine y_iastore rfl (ySh.t hS rfl) (ySh.n hS rfl) (Nat.le_of_ble_eq_true rfl) (by omega) (by omega) ?_
                                refine y_return rfl ?_
                                refine y_ret0 ?_
                                refine y_aload_n rfl rfl ?_
                                refine y_getR rfl (ySh.t hS rfl) (ySh.n hS rfl) rfl rfl (ySh.r hS rfl) ?_
                                refine y_iload_n rfl rfl ?_
                                refine y_iload rfl rfl ?_
                                refine y_virt rfl rfl rfl rfl rfl (ySh.t hS rfl) (ySh.n hS rfl) ?_
                                refine y_in (M := xm_X7_capitalOf) (ls := [some _, some _, some _]) rfl rfl rfl ?_
                                refine y_aload_n rfl rfl ?_
                                refine y_getR rfl (ySh.t hS rfl) (ySh.n hS rfl) rfl rfl (ySh.r hS rfl) ?_
                                refine y_aload_n rfl rfl ?_
                                refine y_iload_n rfl rfl ?_
                                refine y_iload_n rfl rfl ?_
                                refine y_virt rfl rfl rfl rfl rfl (ySh.t hS rfl) (ySh.n hS rfl) ?_
                                refine sp_at (by omega) (by omega) (by decide) (by decide) (fun z_ hz148 => ?_)
                                rw [yz_8] at hz148
                                refine y_ret1 ?_
                                refine y_iaload rfl (ySh.t hS rfl) (ySh.n hS rfl) (by omega) (by omega) ?_
                                refine y_ireturn rfl rfl rfl ?_
                                refine y_ret1 ?_
                                refine y_ireturn rfl rfl rfl ?_
                                exact hQ _ _ hC (by repeat (first | exact hF | refine yFt.upd ?_ (by decide)))
                              · refine y_throw rfl rfl rfl ?_
                                exact hE2
                      · rw [yz_m1] at h_132
                        refine y_bip rfl (by decide) ?_
                        refine y_goto rfl j_X8_placeOf_11 ?_
                        refine y_ireturn rfl rfl rfl ?_
                        refine y_ret1 ?_
                        refine y_istore (ls' := [some _, some _, some _, some _, some _, some _, some _]) rfl rfl rfl ?_
                        refine y_aload_n rfl rfl ?_
                        refine y_getR rfl (ySh.t hS rfl) (ySh.n hS rfl) rfl rfl (ySh.r hS rfl) ?_
                        refine y_iload_n rfl rfl ?_
                        refine y_iload rfl rfl ?_
                        refine y_virt rfl rfl rfl rfl rfl (ySh.t hS rfl) (ySh.n hS rfl) ?_
                        refine y_in (M := xm_X7_isPartner) (ls := [some _, some _, some _]) rfl rfl rfl ?_
                        refine y_aload_n rfl rfl ?_
                        refine y_getR rfl (ySh.t hS rfl) (ySh.n hS rfl) rfl rfl (ySh.r hS rfl) ?_
                        refine y_aload_n rfl rfl ?_
                        refine y_iload_n rfl rfl ?_
                        refine y_iload_n rfl rfl ?_
                        refine y_virt rfl rfl rfl rfl rfl (ySh.t hS rfl) (ySh.n hS rfl) ?_
                        refine sp_at (by omega) (by omega) (by decide) (by decide) (fun z_ hz149 => ?_)
                        rw [yz_8] at hz149
                        refine y_ret1 ?_
                        refine y_baload rfl (ySh.t hS rfl) rfl (ySh.n hS rfl) (by omega) (by omega) ?_
                        refine y_ireturn rfl rfl (xfit_z (hC.p _)) ?_
                        refine y_ret1 ?_
                        refine y_if_eq rfl j_X8_buyOut_134 (fun h_150 => ?_) (fun h_151 => ?_)
                        · refine y_throw rfl rfl rfl ?_
                          exact hE2
                        · refine y_aload_n rfl rfl ?_
                          refine y_getR rfl (ySh.t hS rfl) (ySh.n hS rfl) rfl rfl (ySh.r hS rfl) ?_
                          refine y_iload_n rfl rfl ?_
                          refine y_iload rfl rfl ?_
                          refine y_virt rfl rfl rfl rfl rfl (ySh.t hS rfl) (ySh.n hS rfl) ?_
                          refine y_in (M := xm_X7_isPartner) (ls := [some _, some _, some _]) rfl rfl rfl ?_
                          refine y_aload_n rfl rfl ?_
                          refine y_getR rfl (ySh.t hS rfl) (ySh.n hS rfl) rfl rfl (ySh.r hS rfl) ?_
                          refine y_aload_n rfl rfl ?_
                          refine y_iload_n rfl rfl ?_
                          refine y_iload_n rfl rfl ?_
                          refine y_virt rfl rfl rfl rfl rfl (ySh.t hS rfl) (ySh.n hS rfl) ?_
                          refine sp_at (by omega) (by omega) (by decide) (by decide) (fun z_ hz152 => ?_)
                          rw [yz_8] at hz152
                          refine y_ret1 ?_
                          refine y_baload rfl (ySh.t hS rfl) rfl (ySh.n hS rfl) (by omega) (by omega) ?_
                          refine y_ireturn rfl rfl (xfit_z (hC.p _)) ?_
                          refine y_ret1 ?_
                          refine y_if_eq rfl j_X8_buyOut_134 (fun h_153 => ?_) (fun h_154 => ?_)
                          · refine y_throw rfl rfl rfl ?_
                            exact hE2
                          · refine y_aload_n rfl rfl ?_
                            refine y_getR rfl (ySh.t hS rfl) (ySh.n hS rfl) rfl rfl (ySh.r hS rfl) ?_
                            refine y_iload_n rfl rfl ?_
                            refine y_iload rfl rfl ?_
                            refine y_virt rfl rfl rfl rfl rfl (ySh.t hS rfl) (ySh.n hS rfl) ?_
                            refine y_in (M := xm_X7_capitalOf) (ls := [some _, some _, some _]) rfl rfl rfl ?_
                            refine y_aload_n rfl rfl ?_
                            refine y_getR rfl (ySh.t hS rfl) (ySh.n hS rfl) rfl rfl (ySh.r hS rfl) ?_
                            refine y_aload_n rfl rfl ?_
                            refine y_iload_n rfl rfl ?_
                            refine y_iload_n rfl rfl ?_
                            refine y_virt rfl rfl rfl rfl rfl (ySh.t hS rfl) (ySh.n hS rfl) ?_
                            refine sp_at (by omega) (by omega) (by decide) (by decide) (fun z_ hz155 => ?_)
                            rw [yz_8] at hz155
                            refine y_ret1 ?_
                            refine y_iaload rfl (ySh.t hS rfl) (ySh.n hS rfl) (by omega) (by omega) ?_
                            refine y_ireturn rfl rfl rfl ?_
                            refine y_ret1 ?_
                            refine y_iload rfl rfl ?_
                            refine y_icmp_lt rfl j_X8_buyOut_134 (fun h_156 => ?_) (fun h_157 => ?_)
                            · refine y_throw rfl rfl rfl ?_
                              exact hE2
                            · refine y_aload_n rfl rfl ?_
                              refine y_getR rfl (ySh.t hS rfl) (ySh.n hS rfl) rfl rfl (ySh.r hS rfl) ?_
                              refine y_getR rfl (ySh.t hS rfl) (ySh.n hS rfl) rfl rfl (ySh.r hS rfl) ?_
                              refine y_iload rfl rfl ?_
                              refine y_iaload rfl (ySh.t hS rfl) (ySh.n hS rfl) (by decide) (by decide) ?_
                              refine y_iload rfl rfl ?_
                              refine y_icmp_ge rfl j_X8_buyOut_145 (fun h_158 => ?_) (fun h_159 => ?_)
                              · refine y_aload_n rfl rfl ?_
                                refine y_getR rfl (ySh.t hS rfl) (ySh.n hS rfl) rfl rfl (ySh.r hS rfl) ?_
                                refine y_iload rfl rfl ?_
                                refine y_iload rfl rfl ?_
                                refine y_iload rfl rfl ?_
                                refine y_virt rfl rfl rfl rfl rfl (ySh.t hS rfl) (ySh.n hS rfl) ?_
                                refine y_in (M := xm_X4_move) (ls := [some _, some _, some _, some _]) rfl rfl rfl ?_
                                refine y_aload_n rfl rfl ?_
                                refine y_iload_n rfl rfl ?_
                                refine y_iload_n rfl rfl ?_
                                refine y_ineg rfl ?_
                                refine y_virt rfl rfl rfl rfl rfl (ySh.t hS rfl) (ySh.n hS rfl) ?_
                                refine sp_add_X4 hS hC (fun I170 hC hF1 => ?_)
                                have hF : yFt I I170 := yFt.trans (by repeat (first | exact hF | refine yFt.upd ?_ (by decide))) hF1.t
                                have hd : (I170 34 8).toInt = (I 34 8).toInt := congrArg Int32.toInt (hF1 34 8 (Or.inl (by decide)))
                                refine y_ret0 ?_
                                refine y_aload_n rfl rfl ?_
                                refine y_iload_n rfl rfl ?_
                                refine y_iload_n rfl rfl ?_
                                refine y_virt rfl rfl rfl rfl rfl (ySh.t hS rfl) (ySh.n hS rfl) ?_
                                refine sp_add_X4 hS hC (fun I171 hC hF1 => ?_)
                                have hF : yFt I I171 := yFt.trans (by repeat (first | exact hF | refine yFt.upd ?_ (by decide))) hF1.t
                                have hd : (I171 34 8).toInt = (I170 34 8).toInt := congrArg Int32.toInt (hF1 34 8 (Or.inl (by decide)))
                                refine y_ret0 ?_
                                refine y_return rfl ?_
                                refine y_ret0 ?_
                                refine y_aload_n rfl rfl ?_
                                refine y_getR rfl (ySh.t hS rfl) (ySh.n hS rfl) rfl rfl (ySh.r hS rfl) ?_
                                refine y_iload_n rfl rfl ?_
                                refine y_iload rfl rfl ?_
                                refine y_iload rfl rfl ?_
                                refine y_iload rfl rfl ?_
                                refine y_virt rfl rfl rfl rfl rfl (ySh.t hS rfl) (ySh.n hS rfl) ?_
                                refine y_in (M := xm_X7_moveCapital) (ls := [some _, some _, some _, some _, some _]) rfl rfl rfl ?_
                                refine y_aload_n rfl rfl ?_
                                refine y_getR rfl (ySh.t hS rfl) (ySh.n hS rfl) rfl rfl (ySh.r hS rfl) ?_
                                refine y_aload_n rfl rfl ?_
                                refine y_iload_n rfl rfl ?_
                                refine y_iload_n rfl rfl ?_
                                refine y_virt rfl rfl rfl rfl rfl (ySh.t hS rfl) (ySh.n hS rfl) ?_
                                refine sp_at (by omega) (by omega) (by decide) (by decide) (fun z_ hz162 => ?_)
                                rw [yz_8] at hz162
                                refine y_ret1 ?_
                                refine y_dup2 rfl rfl rfl ?_
                                refine y_iaload rfl (ySh.t hS rfl) (ySh.n hS rfl) (by omega) (by omega) ?_
                                refine y_iload rfl rfl ?_
                                refine y_isub rfl ?_
                                refine y_iastore rfl (ySh.t hS rfl) (ySh.n hS rfl) (Nat.le_of_ble_eq_true rfl) (by omega) (by omega) ?_
                                refine y_aload_n rfl rfl ?_
                                refine y_getR rfl (ySh.t hS rfl) (ySh.n hS rfl) rfl rfl (ySh.r hS rfl) ?_
                                refine y_aload_n rfl rfl ?_
                                refine y_iload_n rfl rfl ?_
                                refine y_iload_n rfl rfl ?_
                                refine y_virt rfl rfl rfl rfl rfl (ySh.t hS rfl) (ySh.n hS rfl) ?_
                                refine sp_at (by omega) (by omega) (by decide) (by decide) (fun z_ hz163 => ?_)
                                rw [yz_8] at hz163
                                refine y_ret1 ?_
                                refine y_dup2 rfl rfl rfl ?_
                                refine y_iaload rfl (ySh.t hS rfl) (ySh.n hS rfl) (by omega) (by omega) ?_
                                refine y_iload rfl rfl ?_
                                refine y_iadd rfl ?_
                                refine y_iastore rfl (ySh.t hS rfl) (ySh.n hS rfl) (Nat.le_of_ble_eq_true rfl) (by omega) (by omega) ?_
                                refine y_return rfl ?_
                                refine y_ret0 ?_
                                refine y_aload_n rfl rfl ?_
                                refine y_getR rfl (ySh.t hS rfl) (ySh.n hS rfl) rfl rfl (ySh.r hS rfl) ?_
                                refine y_iload_n rfl rfl ?_
                                refine y_iload rfl rfl ?_
                                refine y_virt rfl rfl rfl rfl rfl (ySh.t hS rfl) (ySh.n hS rfl) ?_
                                refine y_in (M := xm_X7_capitalOf) (ls := [some _, some _, some _]) rfl rfl rfl ?_
                                refine y_aload_n rfl rfl ?_
                                refine y_getR rfl (ySh.t hS rfl) (ySh.n hS rfl) rfl rfl (ySh.r hS rfl) ?_
                                refine y_aload_n rfl rfl ?_
                                refine y_iload_n rfl rfl ?_
                                refine y_iload_n rfl rfl ?_
                                refine y_virt rfl rfl rfl rfl rfl (ySh.t hS rfl) (ySh.n hS rfl) ?_
                                refine sp_at (by omega) (by omega) (by decide) (by decide) (fun z_ hz164 => ?_)
                                rw [yz_8] at hz164
                                refine y_ret1 ?_
                                refine y_iaload rfl (ySh.t hS rfl) (ySh.n hS rfl) (by omega) (by omega) ?_
                                refine y_ireturn rfl rfl rfl ?_
                                refine y_ret1 ?_
                                refine y_ireturn rfl rfl rfl ?_
                                exact hQ _ _ hC (by repeat (first | exact hF | refine yFt.upd ?_ (by decide)))
                              · refine y_throw rfl rfl rfl ?_
                                exact hE2
      · rw [yz_m1] at h_6
        refine y_aload_n rfl rfl ?_
        refine y_getR rfl (ySh.t hS rfl) (ySh.n hS rfl) rfl rfl (ySh.r hS rfl) ?_
        refine y_iload_n rfl rfl ?_
        refine y_virt rfl rfl rfl rfl rfl (ySh.t hS rfl) (ySh.n hS rfl) ?_
        refine y_in (M := xm_X4_has) (ls := [some _, some _]) rfl rfl rfl ?_
        refine y_iload_n rfl rfl ?_
        refine y_if_lt rfl j_X4_has_16 (fun h_165 => ?_) (fun h_166 => ?_)
        · refine y_iconst rfl ?_
          refine y_ireturn rfl rfl rfl ?_
          refine y_ret1 ?_
          refine y_if_eqT rfl j_X8_isParty_20 (by decide) ?_
          refine y_iconst rfl ?_
          refine y_ireturn rfl rfl rfl ?_
          refine y_ret1 ?_
          refine y_if_eqT rfl j_X8_buyOut_27 (by decide) ?_
          refine y_throw rfl rfl rfl ?_
          exact hE0
        · refine y_iload_n rfl rfl ?_
          refine y_aload_n rfl rfl ?_
          refine y_getI rfl (ySh.t hS rfl) (ySh.n hS rfl) rfl rfl ?_
          refine y_icmp_ge rfl j_X4_has_16 (fun h_167 => ?_) (fun h_168 => ?_)
          · refine y_iconst rfl ?_
            refine y_ireturn rfl rfl rfl ?_
            refine y_ret1 ?_
            refine y_if_eqT rfl j_X8_isParty_20 (by decide) ?_
            refine y_iconst rfl ?_
            refine y_ireturn rfl rfl rfl ?_
            refine y_ret1 ?_
            refine y_if_eqT rfl j_X8_buyOut_27 (by decide) ?_
            refine y_throw rfl rfl rfl ?_
            exact hE0
          · refine y_iconst rfl ?_
            refine y_goto rfl j_X4_has_17 ?_
            refine y_ireturn rfl rfl rfl ?_
            refine y_ret1 ?_
            refine y_if_eqF rfl (by decide) ?_
            refine y_iconst rfl ?_
            refine y_goto rfl j_X8_isParty_21 ?_
            refine y_ireturn rfl rfl rfl ?_
            refine y_ret1 ?_
            refine y_if_eqF rfl (by decide) ?_
            refine y_aload_n rfl rfl ?_
            refine y_iload_n rfl rfl ?_
            refine y_virt rfl rfl rfl rfl rfl (ySh.t hS rfl) (ySh.n hS rfl) ?_
            refine y_in (M := xm_X8_isParty) (ls := [some _, some _]) rfl rfl rfl ?_
            refine y_iload_n rfl rfl ?_
            refine y_iconst rfl ?_
            refine y_icmp_eq rfl j_X8_isParty_16 (fun h_169 => ?_) (fun h_170 => ?_)
            · rw [yz_m1] at h_169
              refine y_iconst rfl ?_
              refine y_goto rfl j_X8_isParty_21 ?_
              refine y_ireturn rfl rfl rfl ?_
              refine y_ret1 ?_
              refine y_if_neT rfl j_X8_buyOut_38 (by decide) ?_
              refine y_iload_n rfl rfl ?_
              refine y_iload_n rfl rfl ?_
              refine y_icmp_eq rfl j_X8_buyOut_55 (fun h_171 => ?_) (fun h_172 => ?_)
              · refine y_throw rfl rfl rfl ?_
                exact hE1
              · refine y_iload rfl rfl ?_
                refine y_iconst rfl ?_
                refine y_sip rfl (by decide) ?_
                refine y_static rfl rfl rfl rfl rfl ?_
                refine y_in (M := xm_X8_isIn) (ls := [some _, some _, some _]) rfl rfl rfl ?_
                refine y_iload_n rfl rfl ?_
                refine y_iload_n rfl rfl ?_
                refine y_icmp_lt rfl j_X8_isIn_14 (fun h_173 => ?_) (fun h_174 => ?_)
                · rw [yz_1] at h_173
                  refine y_iconst rfl ?_
                  refine y_ireturn rfl rfl rfl ?_
                  refine y_ret1 ?_
                  refine y_if_neF rfl (by decide) ?_
                  refine y_throw rfl rfl rfl ?_
                  exact hE1
                · rw [yz_1] at h_174
                  refine y_iload_n rfl rfl ?_
                  refine y_iload_n rfl rfl ?_
                  refine y_icmp_gt rfl j_X8_isIn_14 (fun h_175 => ?_) (fun h_176 => ?_)
                  · rw [yz_999] at h_175
                    refine y_iconst rfl ?_
                    refine y_ireturn rfl rfl rfl ?_
                    refine y_ret1 ?_
                    refine y_if_neF rfl (by decide) ?_
                    refine y_throw rfl rfl rfl ?_
                    exact hE1
                  · rw [yz_999] at h_176
                    refine y_iconst rfl ?_
                    refine y_goto rfl j_X8_isIn_15 ?_
                    refine y_ireturn rfl rfl rfl ?_
                    refine y_ret1 ?_
                    refine y_if_neT rfl j_X8_buyOut_66 (by decide) ?_
                    refine y_iload_n rfl rfl ?_
                    refine y_static rfl rfl rfl rfl rfl ?_
                    refine y_in (M := xm_X8_placeOf) (ls := [some _]) rfl rfl rfl ?_
                    refine y_iload_n rfl rfl ?_
                    refine y_iconst rfl ?_
                    refine y_icmp_ne rfl j_X8_placeOf_10 (fun h_177 => ?_) (fun h_178 => ?_)
                    · rw [yz_m1] at h_177
                      refine y_iload_n rfl rfl ?_
                      refine y_ireturn rfl rfl rfl ?_
                      refine y_ret1 ?_
                      refine y_istore (ls' := [some _, some _, some _, some _, some _, some _, _]) rfl rfl rfl ?_
                      refine y_iload_n rfl rfl ?_
                      refine y_static rfl rfl rfl rfl rfl ?_
                      refine y_in (M := xm_X8_placeOf) (ls := [some _]) rfl rfl rfl ?_
                      refine y_iload_n rfl rfl ?_
                      refine y_iconst rfl ?_
                      refine y_icmp_ne rfl j_X8_placeOf_10 (fun h_179 => ?_) (fun h_180 => ?_)
                      · rw [yz_m1] at h_179
                        refine y_iload_n rfl rfl ?_
                        refine y_ireturn rfl rfl rfl ?_
                        refine y_ret1 ?_
                        refine y_istore (ls' := [some _, some _, some _, some _, some _, some _, some _]) rfl rfl rfl ?_
                        refine y_aload_n rfl rfl ?_
                        refine y_getR rfl (ySh.t hS rfl) (ySh.n hS rfl) rfl rfl (ySh.r hS rfl) ?_
                        refine y_iload_n rfl rfl ?_
                        refine y_iload rfl rfl ?_
                        refine y_virt rfl rfl rfl rfl rfl (ySh.t hS rfl) (ySh.n hS rfl) ?_
                        refine y_in (M := xm_X7_isPartner) (ls := [some _, some _, some _]) rfl rfl rfl ?_
                        refine y_aload_n rfl rfl ?_
                        refine y_getR rfl (ySh.t hS rfl) (ySh.n hS rfl) rfl rfl (ySh.r hS rfl) ?_
                        refine y_aload_n rfl rfl ?_
                        refine y_iload_n rfl rfl ?_
                        refine y_iload_n rfl rfl ?_
                        refine y_virt rfl rfl rfl rfl rfl (ySh.t hS rfl) (ySh.n hS rfl) ?_
                        refine sp_at (by omega) (by omega) (by omega) (by omega) (fun z_ hz181 => ?_)
                        refine y_ret1 ?_
                        refine y_baload rfl (ySh.t hS rfl) rfl (ySh.n hS rfl) (by omega) (by omega) ?_
                        refine y_ireturn rfl rfl (xfit_z (hC.p _)) ?_
                        refine y_ret1 ?_
                        refine y_if_eq rfl j_X8_buyOut_134 (fun h_182 => ?_) (fun h_183 => ?_)
                        · refine y_throw rfl rfl rfl ?_
                          exact hE2
                        · refine y_aload_n rfl rfl ?_
                          refine y_getR rfl (ySh.t hS rfl) (ySh.n hS rfl) rfl rfl (ySh.r hS rfl) ?_
                          refine y_iload_n rfl rfl ?_
                          refine y_iload rfl rfl ?_
                          refine y_virt rfl rfl rfl rfl rfl (ySh.t hS rfl) (ySh.n hS rfl) ?_
                          refine y_in (M := xm_X7_isPartner) (ls := [some _, some _, some _]) rfl rfl rfl ?_
                          refine y_aload_n rfl rfl ?_
                          refine y_getR rfl (ySh.t hS rfl) (ySh.n hS rfl) rfl rfl (ySh.r hS rfl) ?_
                          refine y_aload_n rfl rfl ?_
                          refine y_iload_n rfl rfl ?_
                          refine y_iload_n rfl rfl ?_
                          refine y_virt rfl rfl rfl rfl rfl (ySh.t hS rfl) (ySh.n hS rfl) ?_
                          refine sp_at (by omega) (by omega) (by omega) (by omega) (fun z_ hz184 => ?_)
                          refine y_ret1 ?_
                          refine y_baload rfl (ySh.t hS rfl) rfl (ySh.n hS rfl) (by omega) (by omega) ?_
                          refine y_ireturn rfl rfl (xfit_z (hC.p _)) ?_
                          refine y_ret1 ?_
                          refine y_if_eq rfl j_X8_buyOut_134 (fun h_185 => ?_) (fun h_186 => ?_)
                          · refine y_throw rfl rfl rfl ?_
                            exact hE2
                          · refine y_aload_n rfl rfl ?_
                            refine y_getR rfl (ySh.t hS rfl) (ySh.n hS rfl) rfl rfl (ySh.r hS rfl) ?_
                            refine y_iload_n rfl rfl ?_
                            refine y_iload rfl rfl ?_
                            refine y_virt rfl rfl rfl rfl rfl (ySh.t hS rfl) (ySh.n hS rfl) ?_
                            refine y_in (M := xm_X7_capitalOf) (ls := [some _, some _, some _]) rfl rfl rfl ?_
                            refine y_aload_n rfl rfl ?_
                            refine y_getR rfl (ySh.t hS rfl) (ySh.n hS rfl) rfl rfl (ySh.r hS rfl) ?_
                            refine y_aload_n rfl rfl ?_
                            refine y_iload_n rfl rfl ?_
                            refine y_iload_n rfl rfl ?_
                            refine y_virt rfl rfl rfl rfl rfl (ySh.t hS rfl) (ySh.n hS rfl) ?_
                            refine sp_at (by omega) (by omega) (by omega) (by omega) (fun z_ hz187 => ?_)
                            refine y_ret1 ?_
                            refine y_iaload rfl (ySh.t hS rfl) (ySh.n hS rfl) (by omega) (by omega) ?_
                            refine y_ireturn rfl rfl rfl ?_
                            refine y_ret1 ?_
                            refine y_iload rfl rfl ?_
                            refine y_icmp_lt rfl j_X8_buyOut_134 (fun h_188 => ?_) (fun h_189 => ?_)
                            · refine y_throw rfl rfl rfl ?_
                              exact hE2
                            · refine y_aload_n rfl rfl ?_
                              refine y_getR rfl (ySh.t hS rfl) (ySh.n hS rfl) rfl rfl (ySh.r hS rfl) ?_
                              refine y_getR rfl (ySh.t hS rfl) (ySh.n hS rfl) rfl rfl (ySh.r hS rfl) ?_
                              refine y_iload rfl rfl ?_
                              refine y_iaload rfl (ySh.t hS rfl) (ySh.n hS rfl) (by omega) (by omega) ?_
                              refine y_iload rfl rfl ?_
                              refine y_icmp_ge rfl j_X8_buyOut_145 (fun h_190 => ?_) (fun h_191 => ?_)
                              · refine y_aload_n rfl rfl ?_
                                refine y_getR rfl (ySh.t hS rfl) (ySh.n hS rfl) rfl rfl (ySh.r hS rfl) ?_
                                refine y_iload rfl rfl ?_
                                refine y_iload rfl rfl ?_
                                refine y_iload rfl rfl ?_
                                refine y_virt rfl rfl rfl rfl rfl (ySh.t hS rfl) (ySh.n hS rfl) ?_
                                refine y_in (M := xm_X4_move) (ls := [some _, some _, some _, some _]) rfl rfl rfl ?_
                                refine y_aload_n rfl rfl ?_
                                refine y_iload_n rfl rfl ?_
                                refine y_iload_n rfl rfl ?_
                                refine y_ineg rfl ?_
                                refine y_virt rfl rfl rfl rfl rfl (ySh.t hS rfl) (ySh.n hS rfl) ?_
                                refine sp_add_X4 hS hC (fun I202 hC hF1 => ?_)
                                have hF : yFt I I202 := yFt.trans (by repeat (first | exact hF | refine yFt.upd ?_ (by decide))) hF1.t
                                have hd : (I202 34 8).toInt = (I 34 8).toInt := congrArg Int32.toInt (hF1 34 8 (Or.inl (by decide)))
                                refine y_ret0 ?_
                                refine y_aload_n rfl rfl ?_
                                refine y_iload_n rfl rfl ?_
                                refine y_iload_n rfl rfl ?_
                                refine y_virt rfl rfl rfl rfl rfl (ySh.t hS rfl) (ySh.n hS rfl) ?_
                                refine sp_add_X4 hS hC (fun I203 hC hF1 => ?_)
                                have hF : yFt I I203 := yFt.trans (by repeat (first | exact hF | refine yFt.upd ?_ (by decide))) hF1.t
                                have hd : (I203 34 8).toInt = (I202 34 8).toInt := congrArg Int32.toInt (hF1 34 8 (Or.inl (by decide)))
                                refine y_ret0 ?_
                                refine y_return rfl ?_
                                refine y_ret0 ?_
                                refine y_aload_n rfl rfl ?_
                                refine y_getR rfl (ySh.t hS rfl) (ySh.n hS rfl) rfl rfl (ySh.r hS rfl) ?_
                                refine y_iload_n rfl rfl ?_
                                refine y_iload rfl rfl ?_
                                refine y_iload rfl rfl ?_
                                refine y_iload rfl rfl ?_
                                refine y_virt rfl rfl rfl rfl rfl (ySh.t hS rfl) (ySh.n hS rfl) ?_
                                refine y_in (M := xm_X7_moveCapital) (ls := [some _, some _, some _, some _, some _]) rfl rfl rfl ?_
                                refine y_aload_n rfl rfl ?_
                                refine y_getR rfl (ySh.t hS rfl) (ySh.n hS rfl) rfl rfl (ySh.r hS rfl) ?_
                                refine y_aload_n rfl rfl ?_
                                refine y_iload_n rfl rfl ?_
                                refine y_iload_n rfl rfl ?_
                                refine y_virt rfl rfl rfl rfl rfl (ySh.t hS rfl) (ySh.n hS rfl) ?_
                                refine sp_at (by omega) (by omega) (by omega) (by omega) (fun z_ hz194 => ?_)
                                refine y_ret1 ?_
                                refine y_dup2 rfl rfl rfl ?_
                                refine y_iaload rfl (ySh.t hS rfl) (ySh.n hS rfl) (by omega) (by omega) ?_
                                refine y_iload rfl rfl ?_
                                refine y_isub rfl ?_
                                refine y_iastore rfl (ySh.t hS rfl) (ySh.n hS rfl) (Nat.le_of_ble_eq_true rfl) (by omega) (by omega) ?_
                                refine y_aload_n rfl rfl ?_
                                refine y_getR rfl (ySh.t hS rfl) (ySh.n hS rfl) rfl rfl (ySh.r hS rfl) ?_
                                refine y_aload_n rfl rfl ?_
                                refine y_iload_n rfl rfl ?_
                                refine y_iload_n rfl rfl ?_
                                refine y_virt rfl rfl rfl rfl rfl (ySh.t hS rfl) (ySh.n hS rfl) ?_
                                refine sp_at (by omega) (by omega) (by omega) (by omega) (fun z_ hz195 => ?_)
                                refine y_ret1 ?_
                                refine y_dup2 rfl rfl rfl ?_
                                refine y_iaload rfl (ySh.t hS rfl) (ySh.n hS rfl) (by omega) (by omega) ?_
                                refine y_iload rfl rfl ?_
                                refine y_iadd rfl ?_
                                refine y_iastore rfl (ySh.t hS rfl) (ySh.n hS rfl) (Nat.le_of_ble_eq_true rfl) (by omega) (by omega) ?_
                                refine y_return rfl ?_
                                refine y_ret0 ?_
                                refine y_aload_n rfl rfl ?_
                                refine y_getR rfl (ySh.t hS rfl) (ySh.n hS rfl) rfl rfl (ySh.r hS rfl) ?_
                                refine y_iload_n rfl rfl ?_
                                refine y_iload rfl rfl ?_
                                refine y_virt rfl rfl rfl rfl rfl (ySh.t hS rfl) (ySh.n hS rfl) ?_
                                refine y_in (M := xm_X7_capitalOf) (ls := [some _, some _, some _]) rfl rfl rfl ?_
                                refine y_aload_n rfl rfl ?_
                                refine y_getR rfl (ySh.t hS rfl) (ySh.n hS rfl) rfl rfl (ySh.r hS rfl) ?_
                                refine y_aload_n rfl rfl ?_
                                refine y_iload_n rfl rfl ?_
                                refine y_iload_n rfl rfl ?_
                                refine y_virt rfl rfl rfl rfl rfl (ySh.t hS rfl) (ySh.n hS rfl) ?_
                                refine sp_at (by omega) (by omega) (by omega) (by omega) (fun z_ hz196 => ?_)
                                refine y_ret1 ?_
                                refine y_iaload rfl (ySh.t hS rfl) (ySh.n hS rfl) (by omega) (by omega) ?_
                                refine y_ireturn rfl rfl rfl ?_
                                refine y_ret1 ?_
                                refine y_ireturn rfl rfl rfl ?_
                                exact hQ _ _ hC (by repeat (first | exact hF | refine yFt.upd ?_ (by decide)))
                              · refine y_throw rfl rfl rfl ?_
                                exact hE2
                      · rw [yz_m1] at h_180
                        refine y_bip rfl (by decide) ?_
                        refine y_goto rfl j_X8_placeOf_11 ?_
                        refine y_ireturn rfl rfl rfl ?_
                        refine y_ret1 ?_
                        refine y_istore (ls' := [some _, some _, some _, some _, some _, some _, some _]) rfl rfl rfl ?_
                        refine y_aload_n rfl rfl ?_
                        refine y_getR rfl (ySh.t hS rfl) (ySh.n hS rfl) rfl rfl (ySh.r hS rfl) ?_
                        refine y_iload_n rfl rfl ?_
                        refine y_iload rfl rfl ?_
                        refine y_virt rfl rfl rfl rfl rfl (ySh.t hS rfl) (ySh.n hS rfl) ?_
                        refine y_in (M := xm_X7_isPartner) (ls := [some _, some _, some _]) rfl rfl rfl ?_
                        refine y_aload_n rfl rfl ?_
                        refine y_getR rfl (ySh.t hS rfl) (ySh.n hS rfl) rfl rfl (ySh.r hS rfl) ?_
                        refine y_aload_n rfl rfl ?_
                        refine y_iload_n rfl rfl ?_
                        refine y_iload_n rfl rfl ?_
                        refine y_virt rfl rfl rfl rfl rfl (ySh.t hS rfl) (ySh.n hS rfl) ?_
                        refine sp_at (by omega) (by omega) (by omega) (by omega) (fun z_ hz197 => ?_)
                        refine y_ret1 ?_
                        refine y_baload rfl (ySh.t hS rfl) rfl (ySh.n hS rfl) (by omega) (by omega) ?_
                        refine y_ireturn rfl rfl (xfit_z (hC.p _)) ?_
                        refine y_ret1 ?_
                        refine y_if_eq rfl j_X8_buyOut_134 (fun h_198 => ?_) (fun h_199 => ?_)
                        · refine y_throw rfl rfl rfl ?_
                          exact hE2
                        · refine y_aload_n rfl rfl ?_
                          refine y_getR rfl (ySh.t hS rfl) (ySh.n hS rfl) rfl rfl (ySh.r hS rfl) ?_
                          refine y_iload_n rfl rfl ?_
                          refine y_iload rfl rfl ?_
                          refine y_virt rfl rfl rfl rfl rfl (ySh.t hS rfl) (ySh.n hS rfl) ?_
                          refine y_in (M := xm_X7_isPartner) (ls := [some _, some _, some _]) rfl rfl rfl ?_
                          refine y_aload_n rfl rfl ?_
                          refine y_getR rfl (ySh.t hS rfl) (ySh.n hS rfl) rfl rfl (ySh.r hS rfl) ?_
                          refine y_aload_n rfl rfl ?_
                          refine y_iload_n rfl rfl ?_
                          refine y_iload_n rfl rfl ?_
                          refine y_virt rfl rfl rfl rfl rfl (ySh.t hS rfl) (ySh.n hS rfl) ?_
                          refine sp_at (by omega) (by omega) (by decide) (by decide) (fun z_ hz200 => ?_)
                          rw [yz_8] at hz200
                          refine y_ret1 ?_
                          refine y_baload rfl (ySh.t hS rfl) rfl (ySh.n hS rfl) (by omega) (by omega) ?_
                          refine y_ireturn rfl rfl (xfit_z (hC.p _)) ?_
                          refine y_ret1 ?_
                          refine y_if_eq rfl j_X8_buyOut_134 (fun h_201 => ?_) (fun h_202 => ?_)
                          · refine y_throw rfl rfl rfl ?_
                            exact hE2
                          · refine y_aload_n rfl rfl ?_
                            refine y_getR rfl (ySh.t hS rfl) (ySh.n hS rfl) rfl rfl (ySh.r hS rfl) ?_
                            refine y_iload_n rfl rfl ?_
                            refine y_iload rfl rfl ?_
                            refine y_virt rfl rfl rfl rfl rfl (ySh.t hS rfl) (ySh.n hS rfl) ?_
                            refine y_in (M := xm_X7_capitalOf) (ls := [some _, some _, some _]) rfl rfl rfl ?_
                            refine y_aload_n rfl rfl ?_
                            refine y_getR rfl (ySh.t hS rfl) (ySh.n hS rfl) rfl rfl (ySh.r hS rfl) ?_
                            refine y_aload_n rfl rfl ?_
                            refine y_iload_n rfl rfl ?_
                            refine y_iload_n rfl rfl ?_
                            refine y_virt rfl rfl rfl rfl rfl (ySh.t hS rfl) (ySh.n hS rfl) ?_
                            refine sp_at (by omega) (by omega) (by omega) (by omega) (fun z_ hz203 => ?_)
                            refine y_ret1 ?_
                            refine y_iaload rfl (ySh.t hS rfl) (ySh.n hS rfl) (by omega) (by omega) ?_
                            refine y_ireturn rfl rfl rfl ?_
                            refine y_ret1 ?_
                            refine y_iload rfl rfl ?_
                            refine y_icmp_lt rfl j_X8_buyOut_134 (fun h_204 => ?_) (fun h_205 => ?_)
                            · refine y_throw rfl rfl rfl ?_
                              exact hE2
                            · refine y_aload_n rfl rfl ?_
                              refine y_getR rfl (ySh.t hS rfl) (ySh.n hS rfl) rfl rfl (ySh.r hS rfl) ?_
                              refine y_getR rfl (ySh.t hS rfl) (ySh.n hS rfl) rfl rfl (ySh.r hS rfl) ?_
                              refine y_iload rfl rfl ?_
                              refine y_iaload rfl (ySh.t hS rfl) (ySh.n hS rfl) (by decide) (by decide) ?_
                              refine y_iload rfl rfl ?_
                              refine y_icmp_ge rfl j_X8_buyOut_145 (fun h_206 => ?_) (fun h_207 => ?_)
                              · refine y_aload_n rfl rfl ?_
                                refine y_getR rfl (ySh.t hS rfl) (ySh.n hS rfl) rfl rfl (ySh.r hS rfl) ?_
                                refine y_iload rfl rfl ?_
                                refine y_iload rfl rfl ?_
                                refine y_iload rfl rfl ?_
                                refine y_virt rfl rfl rfl rfl rfl (ySh.t hS rfl) (ySh.n hS rfl) ?_
                                refine y_in (M := xm_X4_move) (ls := [some _, some _, some _, some _]) rfl rfl rfl ?_
                                refine y_aload_n rfl rfl ?_
                                refine y_iload_n rfl rfl ?_
                                refine y_iload_n rfl rfl ?_
                                refine y_ineg rfl ?_
                                refine y_virt rfl rfl rfl rfl rfl (ySh.t hS rfl) (ySh.n hS rfl) ?_
                                refine sp_add_X4 hS hC (fun I218 hC hF1 => ?_)
                                have hF : yFt I I218 := yFt.trans (by repeat (first | exact hF | refine yFt.upd ?_ (by decide))) hF1.t
                                have hd : (I218 34 8).toInt = (I 34 8).toInt := congrArg Int32.toInt (hF1 34 8 (Or.inl (by decide)))
                                refine y_ret0 ?_
                                refine y_aload_n rfl rfl ?_
                                refine y_iload_n rfl rfl ?_
                                refine y_iload_n rfl rfl ?_
                                refine y_virt rfl rfl rfl rfl rfl (ySh.t hS rfl) (ySh.n hS rfl) ?_
                                refine sp_add_X4 hS hC (fun I219 hC hF1 => ?_)
                                have hF : yFt I I219 := yFt.trans (by repeat (first | exact hF | refine yFt.upd ?_ (by decide))) hF1.t
                                have hd : (I219 34 8).toInt = (I218 34 8).toInt := congrArg Int32.toInt (hF1 34 8 (Or.inl (by decide)))
                                refine y_ret0 ?_
                                refine y_return rfl ?_
                                refine y_ret0 ?_
                                refine y_aload_n rfl rfl ?_
                                refine y_getR rfl (ySh.t hS rfl) (ySh.n hS rfl) rfl rfl (ySh.r hS rfl) ?_
                                refine y_iload_n rfl rfl ?_
                                refine y_iload rfl rfl ?_
                                refine y_iload rfl rfl ?_
                                refine y_iload rfl rfl ?_
                                refine y_virt rfl rfl rfl rfl rfl (ySh.t hS rfl) (ySh.n hS rfl) ?_
                                refine y_in (M := xm_X7_moveCapital) (ls := [some _, some _, some _, some _, some _]) rfl rfl rfl ?_
                                refine y_aload_n rfl rfl ?_
                                refine y_getR rfl (ySh.t hS rfl) (ySh.n hS rfl) rfl rfl (ySh.r hS rfl) ?_
                                refine y_aload_n rfl rfl ?_
                                refine y_iload_n rfl rfl ?_
                                refine y_iload_n rfl rfl ?_
                                refine y_virt rfl rfl rfl rfl rfl (ySh.t hS rfl) (ySh.n hS rfl) ?_
                                refine sp_at (by omega) (by omega) (by omega) (by omega) (fun z_ hz210 => ?_)
                                refine y_ret1 ?_
                                refine y_dup2 rfl rfl rfl ?_
                                refine y_iaload rfl (ySh.t hS rfl) (ySh.n hS rfl) (by omega) (by omega) ?_
                                refine y_iload rfl rfl ?_
                                refine y_isub rfl ?_
                                refine y_iastore rfl (ySh.t hS rfl) (ySh.n hS rfl) (Nat.le_of_ble_eq_true rfl) (by omega) (by omega) ?_
                                refine y_aload_n rfl rfl ?_
                                refine y_getR rfl (ySh.t hS rfl) (ySh.n hS rfl) rfl rfl (ySh.r hS rfl) ?_
                                refine y_aload_n rfl rfl ?_
                                refine y_iload_n rfl rfl ?_
                                refine y_iload_n rfl rfl ?_
                                refine y_virt rfl rfl rfl rfl rfl (ySh.t hS rfl) (ySh.n hS rfl) ?_
                                refine sp_at (by omega) (by omega) (by decide) (by decide) (fun z_ hz211 => ?_)
                                rw [yz_8] at hz211
                                refine y_ret1 ?_
                                refine y_dup2 rfl rfl rfl ?_
                                refine y_iaload rfl (ySh.t hS rfl) (ySh.n hS rfl) (by omega) (by omega) ?_
                                refine y_iload rfl rfl ?_
                                refine y_iadd rfl ?_
                                refine y_iastore rfl (ySh.t hS rfl) (ySh.n hS rfl) (Nat.le_of_ble_eq_true rfl) (by omega) (by omega) ?_
                                refine y_return rfl ?_
                                refine y_ret0 ?_
                                refine y_aload_n rfl rfl ?_
                                refine y_getR rfl (ySh.t hS rfl) (ySh.n hS rfl) rfl rfl (ySh.r hS rfl) ?_
                                refine y_iload_n rfl rfl ?_
                                refine y_iload rfl rfl ?_
                                refine y_virt rfl rfl rfl rfl rfl (ySh.t hS rfl) (ySh.n hS rfl) ?_
                                refine y_in (M := xm_X7_capitalOf) (ls := [some _, some _, some _]) rfl rfl rfl ?_
                                refine y_aload_n rfl rfl ?_
                                refine y_getR rfl (ySh.t hS rfl) (ySh.n hS rfl) rfl rfl (ySh.r hS rfl) ?_
                                refine y_aload_n rfl rfl ?_
                                refine y_iload_n rfl rfl ?_
                                refine y_iload_n rfl rfl ?_
                                refine y_virt rfl rfl rfl rfl rfl (ySh.t hS rfl) (ySh.n hS rfl) ?_
                                refine sp_at (by omega) (by omega) (by omega) (by omega) (fun z_ hz212 => ?_)
                                refine y_ret1 ?_
                                refine y_iaload rfl (ySh.t hS rfl) (ySh.n hS rfl) (by omega) (by omega) ?_
                                refine y_ireturn rfl rfl rfl ?_
                                refine y_ret1 ?_
                                refine y_ireturn rfl rfl rfl ?_
                                exact hQ _ _ hC (by repeat (first | exact hF | refine yFt.upd ?_ (by decide)))
                              · refine y_throw rfl rfl rfl ?_
                                exact hE2
                    · rw [yz_m1] at h_178
                      refine y_bip rfl (by decide) ?_
                      refine y_goto rfl j_X8_placeOf_11 ?_
                      refine y_ireturn rfl rfl rfl ?_
                      refine y_ret1 ?_
                      refine y_istore (ls' := [some _, some _, some _, some _, some _, some _, _]) rfl rfl rfl ?_
                      refine y_iload_n rfl rfl ?_
                      refine y_static rfl rfl rfl rfl rfl ?_
                      refine y_in (M := xm_X8_placeOf) (ls := [some _]) rfl rfl rfl ?_
                      refine y_iload_n rfl rfl ?_
                      refine y_iconst rfl ?_
                      refine y_icmp_ne rfl j_X8_placeOf_10 (fun h_213 => ?_) (fun h_214 => ?_)
                      · rw [yz_m1] at h_213
                        refine y_iload_n rfl rfl ?_
                        refine y_ireturn rfl rfl rfl ?_
                        refine y_ret1 ?_
                        refine y_istore (ls' := [some _, some _, some _, some _, some _, some _, some _]) rfl rfl rfl ?_
                        refine y_aload_n rfl rfl ?_
                        refine y_getR rfl (ySh.t hS rfl) (ySh.n hS rfl) rfl rfl (ySh.r hS rfl) ?_
                        refine y_iload_n rfl rfl ?_
                        refine y_iload rfl rfl ?_
                        refine y_virt rfl rfl rfl rfl rfl (ySh.t hS rfl) (ySh.n hS rfl) ?_
                        refine y_in (M := xm_X7_isPartner) (ls := [some _, some _, some _]) rfl rfl rfl ?_
                        refine y_aload_n rfl rfl ?_
                        refine y_getR rfl (ySh.t hS rfl) (ySh.n hS rfl) rfl rfl (ySh.r hS rfl) ?_
                        refine y_aload_n rfl rfl ?_
                        refine y_iload_n rfl rfl ?_
                        refine y_iload_n rfl rfl ?_
                        refine y_virt rfl rfl rfl rfl rfl (ySh.t hS rfl) (ySh.n hS rfl) ?_
                        refine sp_at (by omega) (by omega) (by decide) (by decide) (fun z_ hz215 => ?_)
                        rw [yz_8] at hz215
                        refine y_ret1 ?_
                        refine y_baload rfl (ySh.t hS rfl) rfl (ySh.n hS rfl) (by omega) (by omega) ?_
                        refine y_ireturn rfl rfl (xfit_z (hC.p _)) ?_
                        refine y_ret1 ?_
                        refine y_if_eq rfl j_X8_buyOut_134 (fun h_216 => ?_) (fun h_217 => ?_)
                        · refine y_throw rfl rfl rfl ?_
                          exact hE2
                        · refine y_aload_n rfl rfl ?_
                          refine y_getR rfl (ySh.t hS rfl) (ySh.n hS rfl) rfl rfl (ySh.r hS rfl) ?_
                          refine y_iload_n rfl rfl ?_
                          refine y_iload rfl rfl ?_
                          refine y_virt rfl rfl rfl rfl rfl (ySh.t hS rfl) (ySh.n hS rfl) ?_
                          refine y_in (M := xm_X7_isPartner) (ls := [some _, some _, some _]) rfl rfl rfl ?_
                          refine y_aload_n rfl rfl ?_
                          refine y_getR rfl (ySh.t hS rfl) (ySh.n hS rfl) rfl rfl (ySh.r hS rfl) ?_
                          refine y_aload_n rfl rfl ?_
                          refine y_iload_n rfl rfl ?_
                          refine y_iload_n rfl rfl ?_
                          refine y_virt rfl rfl rfl rfl rfl (ySh.t hS rfl) (ySh.n hS rfl) ?_
                          refine sp_at (by omega) (by omega) (by omega) (by omega) (fun z_ hz218 => ?_)
                          refine y_ret1 ?_
                          refine y_baload rfl (ySh.t hS rfl) rfl (ySh.n hS rfl) (by omega) (by omega) ?_
                          refine y_ireturn rfl rfl (xfit_z (hC.p _)) ?_
                          refine y_ret1 ?_
                          refine y_if_eq rfl j_X8_buyOut_134 (fun h_219 => ?_) (fun h_220 => ?_)
                          · refine y_throw rfl rfl rfl ?_
                            exact hE2
                          · refine y_aload_n rfl rfl ?_
                            refine y_getR rfl (ySh.t hS rfl) (ySh.n hS rfl) rfl rfl (ySh.r hS rfl) ?_
                            refine y_iload_n rfl rfl ?_
                            refine y_iload rfl rfl ?_
                            refine y_virt rfl rfl rfl rfl rfl (ySh.t hS rfl) (ySh.n hS rfl) ?_
                            refine y_in (M := xm_X7_capitalOf) (ls := [some _, some _, some _]) rfl rfl rfl ?_
                            refine y_aload_n rfl rfl ?_
                            refine y_getR rfl (ySh.t hS rfl) (ySh.n hS rfl) rfl rfl (ySh.r hS rfl) ?_
                            refine y_aload_n rfl rfl ?_
                            refine y_iload_n rfl rfl ?_
                            refine y_iload_n rfl rfl ?_
                            refine y_virt rfl rfl rfl rfl rfl (ySh.t hS rfl) (ySh.n hS rfl) ?_
                            refine sp_at (by omega) (by omega) (by decide) (by decide) (fun z_ hz221 => ?_)
                            rw [yz_8] at hz221
                            refine y_ret1 ?_
                            refine y_iaload rfl (ySh.t hS rfl) (ySh.n hS rfl) (by omega) (by omega) ?_
                            refine y_ireturn rfl rfl rfl ?_
                            refine y_ret1 ?_
                            refine y_iload rfl rfl ?_
                            refine y_icmp_lt rfl j_X8_buyOut_134 (fun h_222 => ?_) (fun h_223 => ?_)
                            · refine y_throw rfl rfl rfl ?_
                              exact hE2
                            · refine y_aload_n rfl rfl ?_
                              refine y_getR rfl (ySh.t hS rfl) (ySh.n hS rfl) rfl rfl (ySh.r hS rfl) ?_
                              refine y_getR rfl (ySh.t hS rfl) (ySh.n hS rfl) rfl rfl (ySh.r hS rfl) ?_
                              refine y_iload rfl rfl ?_
                              refine y_iaload rfl (ySh.t hS rfl) (ySh.n hS rfl) (by omega) (by omega) ?_
                              refine y_iload rfl rfl ?_
                              refine y_icmp_ge rfl j_X8_buyOut_145 (fun h_224 => ?_) (fun h_225 => ?_)
                              · refine y_aload_n rfl rfl ?_
                                refine y_getR rfl (ySh.t hS rfl) (ySh.n hS rfl) rfl rfl (ySh.r hS rfl) ?_
                                refine y_iload rfl rfl ?_
                                refine y_iload rfl rfl ?_
                                refine y_iload rfl rfl ?_
                                refine y_virt rfl rfl rfl rfl rfl (ySh.t hS rfl) (ySh.n hS rfl) ?_
                                refine y_in (M := xm_X4_move) (ls := [some _, some _, some _, some _]) rfl rfl rfl ?_
                                refine y_aload_n rfl rfl ?_
                                refine y_iload_n rfl rfl ?_
                                refine y_iload_n rfl rfl ?_
                                refine y_ineg rfl ?_
                                refine y_virt rfl rfl rfl rfl rfl (ySh.t hS rfl) (ySh.n hS rfl) ?_
                                refine sp_add_X4 hS hC (fun I236 hC hF1 => ?_)
                                have hF : yFt I I236 := yFt.trans (by repeat (first | exact hF | refine yFt.upd ?_ (by decide))) hF1.t
                                have hd : (I236 34 8).toInt = (I 34 8).toInt := congrArg Int32.toInt (hF1 34 8 (Or.inl (by decide)))
                                refine y_ret0 ?_
                                refine y_aload_n rfl rfl ?_
                                refine y_iload_n rfl rfl ?_
                                refine y_iload_n rfl rfl ?_
                                refine y_virt rfl rfl rfl rfl rfl (ySh.t hS rfl) (ySh.n hS rfl) ?_
                                refine sp_add_X4 hS hC (fun I237 hC hF1 => ?_)
                                have hF : yFt I I237 := yFt.trans (by repeat (first | exact hF | refine yFt.upd ?_ (by decide))) hF1.t
                                have hd : (I237 34 8).toInt = (I236 34 8).toInt := congrArg Int32.toInt (hF1 34 8 (Or.inl (by decide)))
                                refine y_ret0 ?_
                                refine y_return rfl ?_
                                refine y_ret0 ?_
                                refine y_aload_n rfl rfl ?_
                                refine y_getR rfl (ySh.t hS rfl) (ySh.n hS rfl) rfl rfl (ySh.r hS rfl) ?_
                                refine y_iload_n rfl rfl ?_
                                refine y_iload rfl rfl ?_
                                refine y_iload rfl rfl ?_
                                refine y_iload rfl rfl ?_
                                refine y_virt rfl rfl rfl rfl rfl (ySh.t hS rfl) (ySh.n hS rfl) ?_
                                refine y_in (M := xm_X7_moveCapital) (ls := [some _, some _, some _, some _, some _]) rfl rfl rfl ?_
                                refine y_aload_n rfl rfl ?_
                                refine y_getR rfl (ySh.t hS rfl) (ySh.n hS rfl) rfl rfl (ySh.r hS rfl) ?_
                                refine y_aload_n rfl rfl ?_
                                refine y_iload_n rfl rfl ?_
                                refine y_iload_n rfl rfl ?_
                                refine y_virt rfl rfl rfl rfl rfl (ySh.t hS rfl) (ySh.n hS rfl) ?_
                                refine sp_at (by omega) (by omega) (by decide) (by decide) (fun z_ hz228 => ?_)
                                rw [yz_8] at hz228
                                refine y_ret1 ?_
                                refine y_dup2 rfl rfl rfl ?_
                                refine y_iaload rfl (ySh.t hS rfl) (ySh.n hS rfl) (by omega) (by omega) ?_
                                refine y_iload rfl rfl ?_
                                refine y_isub rfl ?_
                                refine y_iastore rfl (ySh.t hS rfl) (ySh.n hS rfl) (Nat.le_of_ble_eq_true rfl) (by omega) (by omega) ?_
                                refine y_aload_n rfl rfl ?_
                                refine y_getR rfl (ySh.t hS rfl) (ySh.n hS rfl) rfl rfl (ySh.r hS rfl) ?_
                                refine y_aload_n rfl rfl ?_
                                refine y_iload_n rfl rfl ?_
                                refine y_iload_n rfl rfl ?_
                                refine y_virt rfl rfl rfl rfl rfl (ySh.t hS rfl) (ySh.n hS rfl) ?_
                                refine sp_at (by omega) (by omega) (by omega) (by omega) (fun z_ hz229 => ?_)
                                refine y_ret1 ?_
                                refine y_dup2 rfl rfl rfl ?_
                                refine y_iaload rfl (ySh.t hS rfl) (ySh.n hS rfl) (by omega) (by omega) ?_
                                refine y_iload rfl rfl ?_
                                refine y_iadd rfl ?_
                                refine y_iastore rfl (ySh.t hS rfl) (ySh.n hS rfl) (Nat.le_of_ble_eq_true rfl) (by omega) (by omega) ?_
                                refine y_return rfl ?_
                                refine y_ret0 ?_
                                refine y_aload_n rfl rfl ?_
                                refine y_getR rfl (ySh.t hS rfl) (ySh.n hS rfl) rfl rfl (ySh.r hS rfl) ?_
                                refine y_iload_n rfl rfl ?_
                                refine y_iload rfl rfl ?_
                                refine y_virt rfl rfl rfl rfl rfl (ySh.t hS rfl) (ySh.n hS rfl) ?_
                                refine y_in (M := xm_X7_capitalOf) (ls := [some _, some _, some _]) rfl rfl rfl ?_
                                refine y_aload_n rfl rfl ?_
                                refine y_getR rfl (ySh.t hS rfl) (ySh.n hS rfl) rfl rfl (ySh.r hS rfl) ?_
                                refine y_aload_n rfl rfl ?_
                                refine y_iload_n rfl rfl ?_
                                refine y_iload_n rfl rfl ?_
                                refine y_virt rfl rfl rfl rfl rfl (ySh.t hS rfl) (ySh.n hS rfl) ?_
                                refine sp_at (by omega) (by omega) (by decide) (by decide) (fun z_ hz230 => ?_)
                                rw [yz_8] at hz230
                                refine y_ret1 ?_
                                refine y_iaload rfl (ySh.t hS rfl) (ySh.n hS rfl) (by omega) (by omega) ?_
                                refine y_ireturn rfl rfl rfl ?_
                                refine y_ret1 ?_
                                refine y_ireturn rfl rfl rfl ?_
                                exact hQ _ _ hC (by repeat (first | exact hF | refine yFt.upd ?_ (by decide)))
                              · refine y_throw rfl rfl rfl ?_
                                exact hE2
                      · rw [yz_m1] at h_214
                        refine y_bip rfl (by decide) ?_
                        refine y_goto rfl j_X8_placeOf_11 ?_
                        refine y_ireturn rfl rfl rfl ?_
                        refine y_ret1 ?_
                        refine y_istore (ls' := [some _, some _, some _, some _, some _, some _, some _]) rfl rfl rfl ?_
                        refine y_aload_n rfl rfl ?_
                        refine y_getR rfl (ySh.t hS rfl) (ySh.n hS rfl) rfl rfl (ySh.r hS rfl) ?_
                        refine y_iload_n rfl rfl ?_
                        refine y_iload rfl rfl ?_
                        refine y_virt rfl rfl rfl rfl rfl (ySh.t hS rfl) (ySh.n hS rfl) ?_
                        refine y_in (M := xm_X7_isPartner) (ls := [some _, some _, some _]) rfl rfl rfl ?_
                        refine y_aload_n rfl rfl ?_
                        refine y_getR rfl (ySh.t hS rfl) (ySh.n hS rfl) rfl rfl (ySh.r hS rfl) ?_
                        refine y_aload_n rfl rfl ?_
                        refine y_iload_n rfl rfl ?_
                        refine y_iload_n rfl rfl ?_
                        refine y_virt rfl rfl rfl rfl rfl (ySh.t hS rfl) (ySh.n hS rfl) ?_
                        refine sp_at (by omega) (by omega) (by decide) (by decide) (fun z_ hz231 => ?_)
                        rw [yz_8] at hz231
                        refine y_ret1 ?_
                        refine y_baload rfl (ySh.t hS rfl) rfl (ySh.n hS rfl) (by omega) (by omega) ?_
                        refine y_ireturn rfl rfl (xfit_z (hC.p _)) ?_
                        refine y_ret1 ?_
                        refine y_if_eq rfl j_X8_buyOut_134 (fun h_232 => ?_) (fun h_233 => ?_)
                        · refine y_throw rfl rfl rfl ?_
                          exact hE2
                        · refine y_aload_n rfl rfl ?_
                          refine y_getR rfl (ySh.t hS rfl) (ySh.n hS rfl) rfl rfl (ySh.r hS rfl) ?_
                          refine y_iload_n rfl rfl ?_
                          refine y_iload rfl rfl ?_
                          refine y_virt rfl rfl rfl rfl rfl (ySh.t hS rfl) (ySh.n hS rfl) ?_
                          refine y_in (M := xm_X7_isPartner) (ls := [some _, some _, some _]) rfl rfl rfl ?_
                          refine y_aload_n rfl rfl ?_
                          refine y_getR rfl (ySh.t hS rfl) (ySh.n hS rfl) rfl rfl (ySh.r hS rfl) ?_
                          refine y_aload_n rfl rfl ?_
                          refine y_iload_n rfl rfl ?_
                          refine y_iload_n rfl rfl ?_
                          refine y_virt rfl rfl rfl rfl rfl (ySh.t hS rfl) (ySh.n hS rfl) ?_
                          refine sp_at (by omega) (by omega) (by decide) (by decide) (fun z_ hz234 => ?_)
                          rw [yz_8] at hz234
                          refine y_ret1 ?_
                          refine y_baload rfl (ySh.t hS rfl) rfl (ySh.n hS rfl) (by omega) (by omega) ?_
                          refine y_ireturn rfl rfl (xfit_z (hC.p _)) ?_
                          refine y_ret1 ?_
                          refine y_if_eq rfl j_X8_buyOut_134 (fun h_235 => ?_) (fun h_236 => ?_)
                          · refine y_throw rfl rfl rfl ?_
                            exact hE2
                          · refine y_aload_n rfl rfl ?_
                            refine y_getR rfl (ySh.t hS rfl) (ySh.n hS rfl) rfl rfl (ySh.r hS rfl) ?_
                            refine y_iload_n rfl rfl ?_
                            refine y_iload rfl rfl ?_
                            refine y_virt rfl rfl rfl rfl rfl (ySh.t hS rfl) (ySh.n hS rfl) ?_
                            refine y_in (M := xm_X7_capitalOf) (ls := [some _, some _, some _]) rfl rfl rfl ?_
                            refine y_aload_n rfl rfl ?_
                            refine y_getR rfl (ySh.t hS rfl) (ySh.n hS rfl) rfl rfl (ySh.r hS rfl) ?_
                            refine y_aload_n rfl rfl ?_
                            refine y_iload_n rfl rfl ?_
                            refine y_iload_n rfl rfl ?_
                            refine y_virt rfl rfl rfl rfl rfl (ySh.t hS rfl) (ySh.n hS rfl) ?_
                            refine sp_at (by omega) (by omega) (by decide) (by decide) (fun z_ hz237 => ?_)
                            rw [yz_8] at hz237
                            refine y_ret1 ?_
                            refine y_iaload rfl (ySh.t hS rfl) (ySh.n hS rfl) (by omega) (by omega) ?_
                            refine y_ireturn rfl rfl rfl ?_
                            refine y_ret1 ?_
                            refine y_iload rfl rfl ?_
                            refine y_icmp_lt rfl j_X8_buyOut_134 (fun h_238 => ?_) (fun h_239 => ?_)
                            · refine y_throw rfl rfl rfl ?_
                              exact hE2
                            · refine y_aload_n rfl rfl ?_
                              refine y_getR rfl (ySh.t hS rfl) (ySh.n hS rfl) rfl rfl (ySh.r hS rfl) ?_
                              refine y_getR rfl (ySh.t hS rfl) (ySh.n hS rfl) rfl rfl (ySh.r hS rfl) ?_
                              refine y_iload rfl rfl ?_
                              refine y_iaload rfl (ySh.t hS rfl) (ySh.n hS rfl) (by decide) (by decide) ?_
                              refine y_iload rfl rfl ?_
                              refine y_icmp_ge rfl j_X8_buyOut_145 (fun h_240 => ?_) (fun h_241 => ?_)
                              · refine y_aload_n rfl rfl ?_
                                refine y_getR rfl (ySh.t hS rfl) (ySh.n hS rfl) rfl rfl (ySh.r hS rfl) ?_
                                refine y_iload rfl rfl ?_
                                refine y_iload rfl rfl ?_
                                refine y_iload rfl rfl ?_
                                refine y_virt rfl rfl rfl rfl rfl (ySh.t hS rfl) (ySh.n hS rfl) ?_
                                refine y_in (M := xm_X4_move) (ls := [some _, some _, some _, some _]) rfl rfl rfl ?_
                                refine y_aload_n rfl rfl ?_
                                refine y_iload_n rfl rfl ?_
                                refine y_iload_n rfl rfl ?_
                                refine y_ineg rfl ?_
                                refine y_virt rfl rfl rfl rfl rfl (ySh.t hS rfl) (ySh.n hS rfl) ?_
                                refine sp_add_X4 hS hC (fun I252 hC hF1 => ?_)
                                have hF : yFt I I252 := yFt.trans (by repeat (first | exact hF | refine yFt.upd ?_ (by decide))) hF1.t
                                have hd : (I252 34 8).toInt = (I 34 8).toInt := congrArg Int32.toInt (hF1 34 8 (Or.inl (by decide)))
                                refine y_ret0 ?_
                                refine y_aload_n rfl rfl ?_
                                refine y_iload_n rfl rfl ?_
                                refine y_iload_n rfl rfl ?_
                                refine y_virt rfl rfl rfl rfl rfl (ySh.t hS rfl) (ySh.n hS rfl) ?_
                                refine sp_add_X4 hS hC (fun I253 hC hF1 => ?_)
                                have hF : yFt I I253 := yFt.trans (by repeat (first | exact hF | refine yFt.upd ?_ (by decide))) hF1.t
                                have hd : (I253 34 8).toInt = (I252 34 8).toInt := congrArg Int32.toInt (hF1 34 8 (Or.inl (by decide)))
                                refine y_ret0 ?_
                                refine y_return rfl ?_
                                refine y_ret0 ?_
                                refine y_aload_n rfl rfl ?_
                                refine y_getR rfl (ySh.t hS rfl) (ySh.n hS rfl) rfl rfl (ySh.r hS rfl) ?_
                                refine y_iload_n rfl rfl ?_
                                refine y_iload rfl rfl ?_
                                refine y_iload rfl rfl ?_
                                refine y_iload rfl rfl ?_
                                refine y_virt rfl rfl rfl rfl rfl (ySh.t hS rfl) (ySh.n hS rfl) ?_
                                refine y_in (M := xm_X7_moveCapital) (ls := [some _, some _, some _, some _, some _]) rfl rfl rfl ?_
                                refine y_aload_n rfl rfl ?_
                                refine y_getR rfl (ySh.t hS rfl) (ySh.n hS rfl) rfl rfl (ySh.r hS rfl) ?_
                                refine y_aload_n rfl rfl ?_
                                refine y_iload_n rfl rfl ?_
                                refine y_iload_n rfl rfl ?_
                                refine y_virt rfl rfl rfl rfl rfl (ySh.t hS rfl) (ySh.n hS rfl) ?_
                                refine sp_at (by omega) (by omega) (by decide) (by decide) (fun z_ hz244 => ?_)
                                rw [yz_8] at hz244
                                refine y_ret1 ?_
                                refine y_dup2 rfl rfl rfl ?_
                                refine y_iaload rfl (ySh.t hS rfl) (ySh.n hS rfl) (by omega) (by omega) ?_
                                refine y_iload rfl rfl ?_
                                refine y_isub rfl ?_
                                refine y_iastore rfl (ySh.t hS rfl) (ySh.n hS rfl) (Nat.le_of_ble_eq_true rfl) (by omega) (by omega) ?_
                                refine y_aload_n rfl rfl ?_
                                refine y_getR rfl (ySh.t hS rfl) (ySh.n hS rfl) rfl rfl (ySh.r hS rfl) ?_
                                refine y_aload_n rfl rfl ?_
                                refine y_iload_n rfl rfl ?_
                                refine y_iload_n rfl rfl ?_
                                refine y_virt rfl rfl rfl rfl rfl (ySh.t hS rfl) (ySh.n hS rfl) ?_
                                refine sp_at (by omega) (by omega) (by decide) (by decide) (fun z_ hz245 => ?_)
                                rw [yz_8] at hz245
                                refine y_ret1 ?_
                                refine y_dup2 rfl rfl rfl ?_
                                refine y_iaload rfl (ySh.t hS rfl) (ySh.n hS rfl) (by omega) (by omega) ?_
                                refine y_iload rfl rfl ?_
                                refine y_iadd rfl ?_
                                refine y_iastore rfl (ySh.t hS rfl) (ySh.n hS rfl) (Nat.le_of_ble_eq_true rfl) (by omega) (by omega) ?_
                                refine y_return rfl ?_
                                refine y_ret0 ?_
                                refine y_aload_n rfl rfl ?_
                                refine y_getR rfl (ySh.t hS rfl) (ySh.n hS rfl) rfl rfl (ySh.r hS rfl) ?_
                                refine y_iload_n rfl rfl ?_
                                refine y_iload rfl rfl ?_
                                refine y_virt rfl rfl rfl rfl rfl (ySh.t hS rfl) (ySh.n hS rfl) ?_
                                refine y_in (M := xm_X7_capitalOf) (ls := [some _, some _, some _]) rfl rfl rfl ?_
                                refine y_aload_n rfl rfl ?_
                                refine y_getR rfl (ySh.t hS rfl) (ySh.n hS rfl) rfl rfl (ySh.r hS rfl) ?_
                                refine y_aload_n rfl rfl ?_
                                refine y_iload_n rfl rfl ?_
                                refine y_iload_n rfl rfl ?_
                                refine y_virt rfl rfl rfl rfl rfl (ySh.t hS rfl) (ySh.n hS rfl) ?_
                                refine sp_at (by omega) (by omega) (by decide) (by decide) (fun z_ hz246 => ?_)
                                rw [yz_8] at hz246
                                refine y_ret1 ?_
                                refine y_iaload rfl (ySh.t hS rfl) (ySh.n hS rfl) (by omega) (by omega) ?_
                                refine y_ireturn rfl rfl rfl ?_
                                refine y_ret1 ?_
                                refine y_ireturn rfl rfl rfl ?_
                                exact hQ _ _ hC (by repeat (first | exact hF | refine yFt.upd ?_ (by decide)))
                              · refine y_throw rfl rfl rfl ?_
                                exact hE2
            · rw [yz_m1] at h_170
              refine y_aload_n rfl rfl ?_
              refine y_getR rfl (ySh.t hS rfl) (ySh.n hS rfl) rfl rfl (ySh.r hS rfl) ?_
              refine y_iload_n rfl rfl ?_
              refine y_virt rfl rfl rfl rfl rfl (ySh.t hS rfl) (ySh.n hS rfl) ?_
              refine y_in (M := xm_X4_has) (ls := [some _, some _]) rfl rfl rfl ?_
              refine y_iload_n rfl rfl ?_
              refine y_if_lt rfl j_X4_has_16 (fun h_247 => ?_) (fun h_248 => ?_)
              · refine y_iconst rfl ?_
                refine y_ireturn rfl rfl rfl ?_
                refine y_ret1 ?_
                refine y_if_eqT rfl j_X8_isParty_20 (by decide) ?_
                refine y_iconst rfl ?_
                refine y_ireturn rfl rfl rfl ?_
                refine y_ret1 ?_
                refine y_if_neF rfl (by decide) ?_
                refine y_throw rfl rfl rfl ?_
                exact hE0
              · refine y_iload_n rfl rfl ?_
                refine y_aload_n rfl rfl ?_
                refine y_getI rfl (ySh.t hS rfl) (ySh.n hS rfl) rfl rfl ?_
                refine y_icmp_ge rfl j_X4_has_16 (fun h_249 => ?_) (fun h_250 => ?_)
                · refine y_iconst rfl ?_
                  refine y_ireturn rfl rfl rfl ?_
                  refine y_ret1 ?_
                  refine y_if_eqT rfl j_X8_isParty_20 (by decide) ?_
                  refine y_iconst rfl ?_
                  refine y_ireturn rfl rfl rfl ?_
                  refine y_ret1 ?_
                  refine y_if_neF rfl (by decide) ?_
                  refine y_throw rfl rfl rfl ?_
                  exact hE0
                · refine y_iconst rfl ?_
                  refine y_goto rfl j_X4_has_17 ?_
                  refine y_ireturn rfl rfl rfl ?_
                  refine y_ret1 ?_
                  refine y_if_eqF rfl (by decide) ?_
                  refine y_iconst rfl ?_
                  refine y_goto rfl j_X8_isParty_21 ?_
                  refine y_ireturn rfl rfl rfl ?_
                  refine y_ret1 ?_
                  refine y_if_neT rfl j_X8_buyOut_38 (by decide) ?_
                  refine y_iload_n rfl rfl ?_
                  refine y_iload_n rfl rfl ?_
                  refine y_icmp_eq rfl j_X8_buyOut_55 (fun h_251 => ?_) (fun h_252 => ?_)
                  · refine y_throw rfl rfl rfl ?_
                    exact hE1
                  · refine y_iload rfl rfl ?_
                    refine y_iconst rfl ?_
                    refine y_sip rfl (by decide) ?_
                    refine y_static rfl rfl rfl rfl rfl ?_
                    refine y_in (M := xm_X8_isIn) (ls := [some _, some _, some _]) rfl rfl rfl ?_
                    refine y_iload_n rfl rfl ?_
                    refine y_iload_n rfl rfl ?_
                    refine y_icmp_lt rfl j_X8_isIn_14 (fun h_253 => ?_) (fun h_254 => ?_)
                    · rw [yz_1] at h_253
                      refine y_iconst rfl ?_
                      refine y_ireturn rfl rfl rfl ?_
                      refine y_ret1 ?_
                      refine y_if_neF rfl (by decide) ?_
                      refine y_throw rfl rfl rfl ?_
                      exact hE1
                    · rw [yz_1] at h_254
                      refine y_iload_n rfl rfl ?_
                      refine y_iload_n rfl rfl ?_
                      refine y_icmp_gt rfl j_X8_isIn_14 (fun h_255 => ?_) (fun h_256 => ?_)
                      · rw [yz_999] at h_255
                        refine y_iconst rfl ?_
                        refine y_ireturn rfl rfl rfl ?_
                        refine y_ret1 ?_
                        refine y_if_neF rfl (by decide) ?_
                        refine y_throw rfl rfl rfl ?_
                        exact hE1
                      · rw [yz_999] at h_256
                        refine y_iconst rfl ?_
                        refine y_goto rfl j_X8_isIn_15 ?_
                        refine y_ireturn rfl rfl rfl ?_
                        refine y_ret1 ?_
                        refine y_if_neT rfl j_X8_buyOut_66 (by decide) ?_
                        refine y_iload_n rfl rfl ?_
                        refine y_static rfl rfl rfl rfl rfl ?_
                        refine y_in (M := xm_X8_placeOf) (ls := [some _]) rfl rfl rfl ?_
                        refine y_iload_n rfl rfl ?_
                        refine y_iconst rfl ?_
                        refine y_icmp_ne rfl j_X8_placeOf_10 (fun h_257 => ?_) (fun h_258 => ?_)
                        · rw [yz_m1] at h_257
                          refine y_iload_n rfl rfl ?_
                          refine y_ireturn rfl rfl rfl ?_
                          refine y_ret1 ?_
                          refine y_istore (ls' := [some _, some _, some _, some _, some _, some _, _]) rfl rfl rfl ?_
                          refine y_iload_n rfl rfl ?_
                          refine y_static rfl rfl rfl rfl rfl ?_
                          refine y_in (M := xm_X8_placeOf) (ls := [some _]) rfl rfl rfl ?_
                          refine y_iload_n rfl rfl ?_
                          refine y_iconst rfl ?_
                          refine y_icmp_ne rfl j_X8_placeOf_10 (fun h_259 => ?_) (fun h_260 => ?_)
                          · rw [yz_m1] at h_259
                            refine y_iload_n rfl rfl ?_
                            refine y_ireturn rfl rfl rfl ?_
                            refine y_ret1 ?_
                            refine y_istore (ls' := [some _, some _, some _, some _, some _, some _, some _]) rfl rfl rfl ?_
                            refine y_aload_n rfl rfl ?_
                            refine y_getR rfl (ySh.t hS rfl) (ySh.n hS rfl) rfl rfl (ySh.r hS rfl) ?_
                            refine y_iload_n rfl rfl ?_
                            refine y_iload rfl rfl ?_
                            refine y_virt rfl rfl rfl rfl rfl (ySh.t hS rfl) (ySh.n hS rfl) ?_
                            refine y_in (M := xm_X7_isPartner) (ls := [some _, some _, some _]) rfl rfl rfl ?_
                            refine y_aload_n rfl rfl ?_
                            refine y_getR rfl (ySh.t hS rfl) (ySh.n hS rfl) rfl rfl (ySh.r hS rfl) ?_
                            refine y_aload_n rfl rfl ?_
                            refine y_iload_n rfl rfl ?_
                            refine y_iload_n rfl rfl ?_
                            refine y_virt rfl rfl rfl rfl rfl (ySh.t hS rfl) (ySh.n hS rfl) ?_
                            refine sp_at (by omega) (by omega) (by omega) (by omega) (fun z_ hz261 => ?_)
                            refine y_ret1 ?_
                            refine y_baload rfl (ySh.t hS rfl) rfl (ySh.n hS rfl) (by omega) (by omega) ?_
                            refine y_ireturn rfl rfl (xfit_z (hC.p _)) ?_
                            refine y_ret1 ?_
                            refine y_if_eq rfl j_X8_buyOut_134 (fun h_262 => ?_) (fun h_263 => ?_)
                            · refine y_throw rfl rfl rfl ?_
                              exact hE2
                            · refine y_aload_n rfl rfl ?_
                              refine y_getR rfl (ySh.t hS rfl) (ySh.n hS rfl) rfl rfl (ySh.r hS rfl) ?_
                              refine y_iload_n rfl rfl ?_
                              refine y_iload rfl rfl ?_
                              refine y_virt rfl rfl rfl rfl rfl (ySh.t hS rfl) (ySh.n hS rfl) ?_
                              refine y_in (M := xm_X7_isPartner) (ls := [some _, some _, some _]) rfl rfl rfl ?_
                              refine y_aload_n rfl rfl ?_
                              refine y_getR rfl (ySh.t hS rfl) (ySh.n hS rfl) rfl rfl (ySh.r hS rfl) ?_
                              refine y_aload_n rfl rfl ?_
                              refine y_iload_n rfl rfl ?_
                              refine y_iload_n rfl rfl ?_
                              refine y_virt rfl rfl rfl rfl rfl (ySh.t hS rfl) (ySh.n hS rfl) ?_
                              refine sp_at (by omega) (by omega) (by omega) (by omega) (fun z_ hz264 => ?_)
                              refine y_ret1 ?_
                              refine y_baload rfl (ySh.t hS rfl) rfl (ySh.n hS rfl) (by omega) (by omega) ?_
                              refine y_ireturn rfl rfl (xfit_z (hC.p _)) ?_
                              refine y_ret1 ?_
                              refine y_if_eq rfl j_X8_buyOut_134 (fun h_265 => ?_) (fun h_266 => ?_)
                              · refine y_throw rfl rfl rfl ?_
                                exact hE2
                              · refine y_aload_n rfl rfl ?_
                                refine y_getR rfl (ySh.t hS rfl) (ySh.n hS rfl) rfl rfl (ySh.r hS rfl) ?_
                                refine y_iload_n rfl rfl ?_
                                refine y_iload rfl rfl ?_
                                refine y_virt rfl rfl rfl rfl rfl (ySh.t hS rfl) (ySh.n hS rfl) ?_
                                refine y_in (M := xm_X7_capitalOf) (ls := [some _, some _, some _]) rfl rfl rfl ?_
                                refine y_aload_n rfl rfl ?_
                                refine y_getR rfl (ySh.t hS rfl) (ySh.n hS rfl) rfl rfl (ySh.r hS rfl) ?_
                                refine y_aload_n rfl rfl ?_
                                refine y_iload_n rfl rfl ?_
                                refine y_iload_n rfl rfl ?_
                                refine y_virt rfl rfl rfl rfl rfl (ySh.t hS rfl) (ySh.n hS rfl) ?_
                                refine sp_at (by omega) (by omega) (by omega) (by omega) (fun z_ hz267 => ?_)
                                refine y_ret1 ?_
                                refine y_iaload rfl (ySh.t hS rfl) (ySh.n hS rfl) (by omega) (by omega) ?_
                                refine y_ireturn rfl rfl rfl ?_
                                refine y_ret1 ?_
                                refine y_iload rfl rfl ?_
                                refine y_icmp_lt rfl j_X8_buyOut_134 (fun h_268 => ?_) (fun h_269 => ?_)
                                · refine y_throw rfl rfl rfl ?_
                                  exact hE2
                                · refine y_aload_n rfl rfl ?_
                                  refine y_getR rfl (ySh.t hS rfl) (ySh.n hS rfl) rfl rfl (ySh.r hS rfl) ?_
                                  refine y_getR rfl (ySh.t hS rfl) (ySh.n hS rfl) rfl rfl (ySh.r hS rfl) ?_
                                  refine y_iload rfl rfl ?_
                                  refine y_iaload rfl (ySh.t hS rfl) (ySh.n hS rfl) (by omega) (by omega) ?_
                                  refine y_iload rfl rfl ?_
                                  refine y_icmp_ge rfl j_X8_buyOut_145 (fun h_270 => ?_) (fun h_271 => ?_)
                                  · refine y_aload_n rfl rfl ?_
                                    refine y_getR rfl (ySh.t hS rfl) (ySh.n hS rfl) rfl rfl (ySh.r hS rfl) ?_
                                    refine y_iload rfl rfl ?_
                                    refine y_iload rfl rfl ?_
                                    refine y_iload rfl rfl ?_
                                    refine y_virt rfl rfl rfl rfl rfl (ySh.t hS rfl) (ySh.n hS rfl) ?_
                                    refine y_in (M := xm_X4_move) (ls := [some _, some _, some _, some _]) rfl rfl rfl ?_
                                    refine y_aload_n rfl rfl ?_
                                    refine y_iload_n rfl rfl ?_
                                    refine y_iload_n rfl rfl ?_
                                    refine y_ineg rfl ?_
                                    refine y_virt rfl rfl rfl rfl rfl (ySh.t hS rfl) (ySh.n hS rfl) ?_
                                    refine sp_add_X4 hS hC (fun I282 hC hF1 => ?_)
                                    have hF : yFt I I282 := yFt.trans (by repeat (first | exact hF | refine yFt.upd ?_ (by decide))) hF1.t
                                    have hd : (I282 34 8).toInt = (I 34 8).toInt := congrArg Int32.toInt (hF1 34 8 (Or.inl (by decide)))
                                    refine y_ret0 ?_
                                    refine y_aload_n rfl rfl ?_
                                    refine y_iload_n rfl rfl ?_
                                    refine y_iload_n rfl rfl ?_
                                    refine y_virt rfl rfl rfl rfl rfl (ySh.t hS rfl) (ySh.n hS rfl) ?_
                                    refine sp_add_X4 hS hC (fun I283 hC hF1 => ?_)
                                    have hF : yFt I I283 := yFt.trans (by repeat (first | exact hF | refine yFt.upd ?_ (by decide))) hF1.t
                                    have hd : (I283 34 8).toInt = (I282 34 8).toInt := congrArg Int32.toInt (hF1 34 8 (Or.inl (by decide)))
                                    refine y_ret0 ?_
                                    refine y_return rfl ?_
                                    refine y_ret0 ?_
                                    refine y_aload_n rfl rfl ?_
                                    refine y_getR rfl (ySh.t hS rfl) (ySh.n hS rfl) rfl rfl (ySh.r hS rfl) ?_
                                    refine y_iload_n rfl rfl ?_
                                    refine y_iload rfl rfl ?_
                                    refine y_iload rfl rfl ?_
                                    refine y_iload rfl rfl ?_
                                    refine y_virt rfl rfl rfl rfl rfl (ySh.t hS rfl) (ySh.n hS rfl) ?_
                                    refine y_in (M := xm_X7_moveCapital) (ls := [some _, some _, some _, some _, some _]) rfl rfl rfl ?_
                                    refine y_aload_n rfl rfl ?_
                                    refine y_getR rfl (ySh.t hS rfl) (ySh.n hS rfl) rfl rfl (ySh.r hS rfl) ?_
                                    refine y_aload_n rfl rfl ?_
                                    refine y_iload_n rfl rfl ?_
                                    refine y_iload_n rfl rfl ?_
                                    refine y_virt rfl rfl rfl rfl rfl (ySh.t hS rfl) (ySh.n hS rfl) ?_
                                    refine sp_at (by omega) (by omega) (by omega) (by omega) (fun z_ hz274 => ?_)
                                    refine y_ret1 ?_
                                    refine y_dup2 rfl rfl rfl ?_
                                    refine y_iaload rfl (ySh.t hS rfl) (ySh.n hS rfl) (by omega) (by omega) ?_
                                    refine y_iload rfl rfl ?_
                                    refine y_isub rfl ?_
                                    refine y_iastore rfl (ySh.t hS rfl) (ySh.n hS rfl) (Nat.le_of_ble_eq_true rfl) (by omega) (by omega) ?_
                                    refine y_aload_n rfl rfl ?_
                                    refine y_getR rfl (ySh.t hS rfl) (ySh.n hS rfl) rfl rfl (ySh.r hS rfl) ?_
                                    refine y_aload_n rfl rfl ?_
                                    refine y_iload_n rfl rfl ?_
                                    refine y_iload_n rfl rfl ?_
                                    refine y_virt rfl rfl rfl rfl rfl (ySh.t hS rfl) (ySh.n hS rfl) ?_
                                    refine sp_at (by omega) (by omega) (by omega) (by omega) (fun z_ hz275 => ?_)
                                    refine y_ret1 ?_
                                    refine y_dup2 rfl rfl rfl ?_
                                    refine y_iaload rfl (ySh.t hS rfl) (ySh.n hS rfl) (by omega) (by omega) ?_
                                    refine y_iload rfl rfl ?_
                                    refine y_iadd rfl ?_
                                    refine y_iastore rfl (ySh.t hS rfl) (ySh.n hS rfl) (Nat.le_of_ble_eq_true rfl) (by omega) (by omega) ?_
                                    refine y_return rfl ?_
                                    refine y_ret0 ?_
                                    refine y_aload_n rfl rfl ?_
                                    refine y_getR rfl (ySh.t hS rfl) (ySh.n hS rfl) rfl rfl (ySh.r hS rfl) ?_
                                    refine y_iload_n rfl rfl ?_
                                    refine y_iload rfl rfl ?_
                                    refine y_virt rfl rfl rfl rfl rfl (ySh.t hS rfl) (ySh.n hS rfl) ?_
                                    refine y_in (M := xm_X7_capitalOf) (ls := [some _, some _, some _]) rfl rfl rfl ?_
                                    refine y_aload_n rfl rfl ?_
                                    refine y_getR rfl (ySh.t hS rfl) (ySh.n hS rfl) rfl rfl (ySh.r hS rfl) ?_
                                    refine y_aload_n rfl rfl ?_
                                    refine y_iload_n rfl rfl ?_
                                    refine y_iload_n rfl rfl ?_
                                    refine y_virt rfl rfl rfl rfl rfl (ySh.t hS rfl) (ySh.n hS rfl) ?_
                                    refine sp_at (by omega) (by omega) (by omega) (by omega) (fun z_ hz276 => ?_)
                                    refine y_ret1 ?_
                                    refine y_iaload rfl (ySh.t hS rfl) (ySh.n hS rfl) (by omega) (by omega) ?_
                                    refine y_ireturn rfl rfl rfl ?_
                                    refine y_ret1 ?_
                                    refine y_ireturn rfl rfl rfl ?_
                                    exact hQ _ _ hC (by repeat (first | exact hF | refine yFt.upd ?_ (by decide)))
                                  · refine y_throw rfl rfl rfl ?_
                                    exact hE2
                          · rw [yz_m1] at h_260
                            refine y_bip rfl (by decide) ?_
                            refine y_goto rfl j_X8_placeOf_11 ?_
                            refine y_ireturn rfl rfl rfl ?_
                            refine y_ret1 ?_
                            refine y_istore (ls' := [some _, some _, some _, some _, some _, some _, some _]) rfl rfl rfl ?_
                            refine y_aload_n rfl rfl ?_
                            refine y_getR rfl (ySh.t hS rfl) (ySh.n hS rfl) rfl rfl (ySh.r hS rfl) ?_
                            refine y_iload_n rfl rfl ?_
                            refine y_iload rfl rfl ?_
                            refine y_virt rfl rfl rfl rfl rfl (ySh.t hS rfl) (ySh.n hS rfl) ?_
                            refine y_in (M := xm_X7_isPartner) (ls := [some _, some _, some _]) rfl rfl rfl ?_
                            refine y_aload_n rfl rfl ?_
                            refine y_getR rfl (ySh.t hS rfl) (ySh.n hS rfl) rfl rfl (ySh.r hS rfl) ?_
                            refine y_aload_n rfl rfl ?_
                            refine y_iload_n rfl rfl ?_
                            refine y_iload_n rfl rfl ?_
                            refine y_virt rfl rfl rfl rfl rfl (ySh.t hS rfl) (ySh.n hS rfl) ?_
                            refine sp_at (by omega) (by omega) (by omega) (by omega) (fun z_ hz277 => ?_)
                            refine y_ret1 ?_
                            refine y_baload rfl (ySh.t hS rfl) rfl (ySh.n hS rfl) (by omega) (by omega) ?_
                            refine y_ireturn rfl rfl (xfit_z (hC.p _)) ?_
                            refine y_ret1 ?_
                            refine y_if_eq rfl j_X8_buyOut_134 (fun h_278 => ?_) (fun h_279 => ?_)
                            · refine y_throw rfl rfl rfl ?_
                              exact hE2
                            · refine y_aload_n rfl rfl ?_
                              refine y_getR rfl (ySh.t hS rfl) (ySh.n hS rfl) rfl rfl (ySh.r hS rfl) ?_
                              refine y_iload_n rfl rfl ?_
                              refine y_iload rfl rfl ?_
                              refine y_virt rfl rfl rfl rfl rfl (ySh.t hS rfl) (ySh.n hS rfl) ?_
                              refine y_in (M := xm_X7_isPartner) (ls := [some _, some _, some _]) rfl rfl rfl ?_
                              refine y_aload_n rfl rfl ?_
                              refine y_getR rfl (ySh.t hS rfl) (ySh.n hS rfl) rfl rfl (ySh.r hS rfl) ?_
                              refine y_aload_n rfl rfl ?_
                              refine y_iload_n rfl rfl ?_
                              refine y_iload_n rfl rfl ?_
                              refine y_virt rfl rfl rfl rfl rfl (ySh.t hS rfl) (ySh.n hS rfl) ?_
                              refine sp_at (by omega) (by omega) (by decide) (by decide) (fun z_ hz280 => ?_)
                              rw [yz_8] at hz280
                              refine y_ret1 ?_
                              refine y_baload rfl (ySh.t hS rfl) rfl (ySh.n hS rfl) (by omega) (by omega) ?_
                              refine y_ireturn rfl rfl (xfit_z (hC.p _)) ?_
                              refine y_ret1 ?_
                              refine y_if_eq rfl j_X8_buyOut_134 (fun h_281 => ?_) (fun h_282 => ?_)
                              · refine y_throw rfl rfl rfl ?_
                                exact hE2
                              · refine y_aload_n rfl rfl ?_
                                refine y_getR rfl (ySh.t hS rfl) (ySh.n hS rfl) rfl rfl (ySh.r hS rfl) ?_
                                refine y_iload_n rfl rfl ?_
                                refine y_iload rfl rfl ?_
                                refine y_virt rfl rfl rfl rfl rfl (ySh.t hS rfl) (ySh.n hS rfl) ?_
                                refine y_in (M := xm_X7_capitalOf) (ls := [some _, some _, some _]) rfl rfl rfl ?_
                                refine y_aload_n rfl rfl ?_
                                refine y_getR rfl (ySh.t hS rfl) (ySh.n hS rfl) rfl rfl (ySh.r hS rfl) ?_
                                refine y_aload_n rfl rfl ?_
                                refine y_iload_n rfl rfl ?_
                                refine y_iload_n rfl rfl ?_
                                refine y_virt rfl rfl rfl rfl rfl (ySh.t hS rfl) (ySh.n hS rfl) ?_
                                refine sp_at (by omega) (by omega) (by omega) (by omega) (fun z_ hz283 => ?_)
                                refine y_ret1 ?_
                                refine y_iaload rfl (ySh.t hS rfl) (ySh.n hS rfl) (by omega) (by omega) ?_
                                refine y_ireturn rfl rfl rfl ?_
                                refine y_ret1 ?_
                                refine y_iload rfl rfl ?_
                                refine y_icmp_lt rfl j_X8_buyOut_134 (fun h_284 => ?_) (fun h_285 => ?_)
                                · refine y_throw rfl rfl rfl ?_
                                  exact hE2
                                · refine y_aload_n rfl rfl ?_
                                  refine y_getR rfl (ySh.t hS rfl) (ySh.n hS rfl) rfl rfl (ySh.r hS rfl) ?_
                                  refine y_getR rfl (ySh.t hS rfl) (ySh.n hS rfl) rfl rfl (ySh.r hS rfl) ?_
                                  refine y_iload rfl rfl ?_
                                  refine y_iaload rfl (ySh.t hS rfl) (ySh.n hS rfl) (by decide) (by decide) ?_
                                  refine y_iload rfl rfl ?_
                                  refine y_icmp_ge rfl j_X8_buyOut_145 (fun h_286 => ?_) (fun h_287 => ?_)
                                  · refine y_aload_n rfl rfl ?_
                                    refine y_getR rfl (ySh.t hS rfl) (ySh.n hS rfl) rfl rfl (ySh.r hS rfl) ?_
                                    refine y_iload rfl rfl ?_
                                    refine y_iload rfl rfl ?_
                                    refine y_iload rfl rfl ?_
                                    refine y_virt rfl rfl rfl rfl rfl (ySh.t hS rfl) (ySh.n hS rfl) ?_
                                    refine y_in (M := xm_X4_move) (ls := [some _, some _, some _, some _]) rfl rfl rfl ?_
                                    refine y_aload_n rfl rfl ?_
                                    refine y_iload_n rfl rfl ?_
                                    refine y_iload_n rfl rfl ?_
                                    refine y_ineg rfl ?_
                                    refine y_virt rfl rfl rfl rfl rfl (ySh.t hS rfl) (ySh.n hS rfl) ?_
                                    refine sp_add_X4 hS hC (fun I298 hC hF1 => ?_)
                                    have hF : yFt I I298 := yFt.trans (by repeat (first | exact hF | refine yFt.upd ?_ (by decide))) hF1.t
                                    have hd : (I298 34 8).toInt = (I 34 8).toInt := congrArg Int32.toInt (hF1 34 8 (Or.inl (by decide)))
                                    refine y_ret0 ?_
                                    refine y_aload_n rfl rfl ?_
                                    refine y_iload_n rfl rfl ?_
                                    refine y_iload_n rfl rfl ?_
                                    refine y_virt rfl rfl rfl rfl rfl (ySh.t hS rfl) (ySh.n hS rfl) ?_
                                    refine sp_add_X4 hS hC (fun I299 hC hF1 => ?_)
                                    have hF : yFt I I299 := yFt.trans (by repeat (first | exact hF | refine yFt.upd ?_ (by decide))) hF1.t
                                    have hd : (I299 34 8).toInt = (I298 34 8).toInt := congrArg Int32.toInt (hF1 34 8 (Or.inl (by decide)))
                                    refine y_ret0 ?_
                                    refine y_return rfl ?_
                                    refine y_ret0 ?_
                                    refine y_aload_n rfl rfl ?_
                                    refine y_getR rfl (ySh.t hS rfl) (ySh.n hS rfl) rfl rfl (ySh.r hS rfl) ?_
                                    refine y_iload_n rfl rfl ?_
                                    refine y_iload rfl rfl ?_
                                    refine y_iload rfl rfl ?_
                                    refine y_iload rfl rfl ?_
                                    refine y_virt rfl rfl rfl rfl rfl (ySh.t hS rfl) (ySh.n hS rfl) ?_
                                    refine y_in (M := xm_X7_moveCapital) (ls := [some _, some _, some _, some _, some _]) rfl rfl rfl ?_
                                    refine y_aload_n rfl rfl ?_
                                    refine y_getR rfl (ySh.t hS rfl) (ySh.n hS rfl) rfl rfl (ySh.r hS rfl) ?_
                                    refine y_aload_n rfl rfl ?_
                                    refine y_iload_n rfl rfl ?_
                                    refine y_iload_n rfl rfl ?_
                                    refine y_virt rfl rfl rfl rfl rfl (ySh.t hS rfl) (ySh.n hS rfl) ?_
                                    refine sp_at (by omega) (by omega) (by omega) (by omega) (fun z_ hz290 => ?_)
                                    refine y_ret1 ?_
                                    refine y_dup2 rfl rfl rfl ?_
                                    refine y_iaload rfl (ySh.t hS rfl) (ySh.n hS rfl) (by omega) (by omega) ?_
                                    refine y_iload rfl rfl ?_
                                    refine y_isub rfl ?_
                                    refine y_iastore rfl (ySh.t hS rfl) (ySh.n hS rfl) (Nat.le_of_ble_eq_true rfl) (by omega) (by omega) ?_
                                    refine y_aload_n rfl rfl ?_
                                    refine y_getR rfl (ySh.t hS rfl) (ySh.n hS rfl) rfl rfl (ySh.r hS rfl) ?_
                                    refine y_aload_n rfl rfl ?_
                                    refine y_iload_n rfl rfl ?_
                                    refine y_iload_n rfl rfl ?_
                                    refine y_virt rfl rfl rfl rfl rfl (ySh.t hS rfl) (ySh.n hS rfl) ?_
                                    refine sp_at (by omega) (by omega) (by decide) (by decide) (fun z_ hz291 => ?_)
                                    rw [yz_8] at hz291
                                    refine y_ret1 ?_
                                    refine y_dup2 rfl rfl rfl ?_
                                    refine y_iaload rfl (ySh.t hS rfl) (ySh.n hS rfl) (by omega) (by omega) ?_
                                    refine y_iload rfl rfl ?_
                                    refine y_iadd rfl ?_
                                    refine y_iastore rfl (ySh.t hS rfl) (ySh.n hS rfl) (Nat.le_of_ble_eq_true rfl) (by omega) (by omega) ?_
                                    refine y_return rfl ?_
                                    refine y_ret0 ?_
                                    refine y_aload_n rfl rfl ?_
                                    refine y_getR rfl (ySh.t hS rfl) (ySh.n hS rfl) rfl rfl (ySh.r hS rfl) ?_
                                    refine y_iload_n rfl rfl ?_
                                    refine y_iload rfl rfl ?_
                                    refine y_virt rfl rfl rfl rfl rfl (ySh.t hS rfl) (ySh.n hS rfl) ?_
                                    refine y_in (M := xm_X7_capitalOf) (ls := [some _, some _, some _]) rfl rfl rfl ?_
                                    refine y_aload_n rfl rfl ?_
                                    refine y_getR rfl (ySh.t hS rfl) (ySh.n hS rfl) rfl rfl (ySh.r hS rfl) ?_
                                    refine y_aload_n rfl rfl ?_
                                    refine y_iload_n rfl rfl ?_
                                    refine y_iload_n rfl rfl ?_
                                    refine y_virt rfl rfl rfl rfl rfl (ySh.t hS rfl) (ySh.n hS rfl) ?_
                                    refine sp_at (by omega) (by omega) (by omega) (by omega) (fun z_ hz292 => ?_)
                                    refine y_ret1 ?_
                                    refine y_iaload rfl (ySh.t hS rfl) (ySh.n hS rfl) (by omega) (by omega) ?_
                                    refine y_ireturn rfl rfl rfl ?_
                                    refine y_ret1 ?_
                                    refine y_ireturn rfl rfl rfl ?_
                                    exact hQ _ _ hC (by repeat (first | exact hF | refine yFt.upd ?_ (by decide)))
                                  · refine y_throw rfl rfl rfl ?_
                                    exact hE2
                        · rw [yz_m1] at h_258
                          refine y_bip rfl (by decide) ?_
                          refine y_goto rfl j_X8_placeOf_11 ?_
                          refine y_ireturn rfl rfl rfl ?_
                          refine y_ret1 ?_
                          refine y_istore (ls' := [some _, some _, some _, some _, some _, some _, _]) rfl rfl rfl ?_
                          refine y_iload_n rfl rfl ?_
                          refine y_static rfl rfl rfl rfl rfl ?_
                          refine y_in (M := xm_X8_placeOf) (ls := [some _]) rfl rfl rfl ?_
                          refine y_iload_n rfl rfl ?_
                          refine y_iconst rfl ?_
                          refine y_icmp_ne rfl j_X8_placeOf_10 (fun h_293 => ?_) (fun h_294 => ?_)
                          · rw [yz_m1] at h_293
                            refine y_iload_n rfl rfl ?_
                            refine y_ireturn rfl rfl rfl ?_
                            refine y_ret1 ?_
                            refine y_istore (ls' := [some _, some _, some _, some _, some _, some _, some _]) rfl rfl rfl ?_
                            refine y_aload_n rfl rfl ?_
                            refine y_getR rfl (ySh.t hS rfl) (ySh.n hS rfl) rfl rfl (ySh.r hS rfl) ?_
                            refine y_iload_n rfl rfl ?_
                            refine y_iload rfl rfl ?_
                            refine y_virt rfl rfl rfl rfl rfl (ySh.t hS rfl) (ySh.n hS rfl) ?_
                            refine y_in (M := xm_X7_isPartner) (ls := [some _, some _, some _]) rfl rfl rfl ?_
                            refine y_aload_n rfl rfl ?_
                            refine y_getR rfl (ySh.t hS rfl) (ySh.n hS rfl) rfl rfl (ySh.r hS rfl) ?_
                            refine y_aload_n rfl rfl ?_
                            refine y_iload_n rfl rfl ?_
                            refine y_iload_n rfl rfl ?_
                            refine y_virt rfl rfl rfl rfl rfl (ySh.t hS rfl) (ySh.n hS rfl) ?_
                            refine sp_at (by omega) (by omega) (by decide) (by decide) (fun z_ hz295 => ?_)
                            rw [yz_8] at hz295
                            refine y_ret1 ?_
                            refine y_baload rfl (ySh.t hS rfl) rfl (ySh.n hS rfl) (by omega) (by omega) ?_
                            refine y_ireturn rfl rfl (xfit_z (hC.p _)) ?_
                            refine y_ret1 ?_
                            refine y_if_eq rfl j_X8_buyOut_134 (fun h_296 => ?_) (fun h_297 => ?_)
                            · refine y_throw rfl rfl rfl ?_
                              exact hE2
                            · refine y_aload_n rfl rfl ?_
                              refine y_getR rfl (ySh.t hS rfl) (ySh.n hS rfl) rfl rfl (ySh.r hS rfl) ?_
                              refine y_iload_n rfl rfl ?_
                              refine y_iload rfl rfl ?_
                              refine y_virt rfl rfl rfl rfl rfl (ySh.t hS rfl) (ySh.n hS rfl) ?_
                              refine y_in (M := xm_X7_isPartner) (ls := [some _, some _, some _]) rfl rfl rfl ?_
                              refine y_aload_n rfl rfl ?_
                              refine y_getR rfl (ySh.t hS rfl) (ySh.n hS rfl) rfl rfl (ySh.r hS rfl) ?_
                              refine y_aload_n rfl rfl ?_
                              refine y_iload_n rfl rfl ?_
                              refine y_iload_n rfl rfl ?_
                              refine y_virt rfl rfl rfl rfl rfl (ySh.t hS rfl) (ySh.n hS rfl) ?_
                              refine sp_at (by omega) (by omega) (by omega) (by omega) (fun z_ hz298 => ?_)
                              refine y_ret1 ?_
                              refine y_baload rfl (ySh.t hS rfl) rfl (ySh.n hS rfl) (by omega) (by omega) ?_
                              refine y_ireturn rfl rfl (xfit_z (hC.p _)) ?_
                              refine y_ret1 ?_
                              refine y_if_eq rfl j_X8_buyOut_134 (fun h_299 => ?_) (fun h_300 => ?_)
                              · refine y_throw rfl rfl rfl ?_
                                exact hE2
                              · refine y_aload_n rfl rfl ?_
                                refine y_getR rfl (ySh.t hS rfl) (ySh.n hS rfl) rfl rfl (ySh.r hS rfl) ?_
                                refine y_iload_n rfl rfl ?_
                                refine y_iload rfl rfl ?_
                                refine y_virt rfl rfl rfl rfl rfl (ySh.t hS rfl) (ySh.n hS rfl) ?_
                                refine y_in (M := xm_X7_capitalOf) (ls := [some _, some _, some _]) rfl rfl rfl ?_
                                refine y_aload_n rfl rfl ?_
                                refine y_getR rfl (ySh.t hS rfl) (ySh.n hS rfl) rfl rfl (ySh.r hS rfl) ?_
                                refine y_aload_n rfl rfl ?_
                                refine y_iload_n rfl rfl ?_
                                refine y_iload_n rfl rfl ?_
                                refine y_virt rfl rfl rfl rfl rfl (ySh.t hS rfl) (ySh.n hS rfl) ?_
                                refine sp_at (by omega) (by omega) (by decide) (by decide) (fun z_ hz301 => ?_)
                                rw [yz_8] at hz301
                                refine y_ret1 ?_
                                refine y_iaload rfl (ySh.t hS rfl) (ySh.n hS rfl) (by omega) (by omega) ?_
                                refine y_ireturn rfl rfl rfl ?_
                                refine y_ret1 ?_
                                refine y_iload rfl rfl ?_
                                refine y_icmp_lt rfl j_X8_buyOut_134 (fun h_302 => ?_) (fun h_303 => ?_)
                                · refine y_throw rfl rfl rfl ?_
                                  exact hE2
                                · refine y_aload_n rfl rfl ?_
                                  refine y_getR rfl (ySh.t hS rfl) (ySh.n hS rfl) rfl rfl (ySh.r hS rfl) ?_
                                  refine y_getR rfl (ySh.t hS rfl) (ySh.n hS rfl) rfl rfl (ySh.r hS rfl) ?_
                                  refine y_iload rfl rfl ?_
                                  refine y_iaload rfl (ySh.t hS rfl) (ySh.n hS rfl) (by omega) (by omega) ?_
                                  refine y_iload rfl rfl ?_
                                  refine y_icmp_ge rfl j_X8_buyOut_145 (fun h_304 => ?_) (fun h_305 => ?_)
                                  · refine y_aload_n rfl rfl ?_
                                    refine y_getR rfl (ySh.t hS rfl) (ySh.n hS rfl) rfl rfl (ySh.r hS rfl) ?_
                                    refine y_iload rfl rfl ?_
                                    refine y_iload rfl rfl ?_
                                    refine y_iload rfl rfl ?_
                                    refine y_virt rfl rfl rfl rfl rfl (ySh.t hS rfl) (ySh.n hS rfl) ?_
                                    refine y_in (M := xm_X4_move) (ls := [some _, some _, some _, some _]) rfl rfl rfl ?_
                                    refine y_aload_n rfl rfl ?_
                                    refine y_iload_n rfl rfl ?_
                                    refine y_iload_n rfl rfl ?_
                                    refine y_ineg rfl ?_
                                    refine y_virt rfl rfl rfl rfl rfl (ySh.t hS rfl) (ySh.n hS rfl) ?_
                                    refine sp_add_X4 hS hC (fun I316 hC hF1 => ?_)
                                    have hF : yFt I I316 := yFt.trans (by repeat (first | exact hF | refine yFt.upd ?_ (by decide))) hF1.t
                                    have hd : (I316 34 8).toInt = (I 34 8).toInt := congrArg Int32.toInt (hF1 34 8 (Or.inl (by decide)))
                                    refine y_ret0 ?_
                                    refine y_aload_n rfl rfl ?_
                                    refine y_iload_n rfl rfl ?_
                                    refine y_iload_n rfl rfl ?_
                                    refine y_virt rfl rfl rfl rfl rfl (ySh.t hS rfl) (ySh.n hS rfl) ?_
                                    refine sp_add_X4 hS hC (fun I317 hC hF1 => ?_)
                                    have hF : yFt I I317 := yFt.trans (by repeat (first | exact hF | refine yFt.upd ?_ (by decide))) hF1.t
                                    have hd : (I317 34 8).toInt = (I316 34 8).toInt := congrArg Int32.toInt (hF1 34 8 (Or.inl (by decide)))
                                    refine y_ret0 ?_
                                    refine y_return rfl ?_
                                    refine y_ret0 ?_
                                    refine y_aload_n rfl rfl ?_
                                    refine y_getR rfl (ySh.t hS rfl) (ySh.n hS rfl) rfl rfl (ySh.r hS rfl) ?_
                                    refine y_iload_n rfl rfl ?_
                                    refine y_iload rfl rfl ?_
                                    refine y_iload rfl rfl ?_
                                    refine y_iload rfl rfl ?_
                                    refine y_virt rfl rfl rfl rfl rfl (ySh.t hS rfl) (ySh.n hS rfl) ?_
                                    refine y_in (M := xm_X7_moveCapital) (ls := [some _, some _, some _, some _, some _]) rfl rfl rfl ?_
                                    refine y_aload_n rfl rfl ?_
                                    refine y_getR rfl (ySh.t hS rfl) (ySh.n hS rfl) rfl rfl (ySh.r hS rfl) ?_
                                    refine y_aload_n rfl rfl ?_
                                    refine y_iload_n rfl rfl ?_
                                    refine y_iload_n rfl rfl ?_
                                    refine y_virt rfl rfl rfl rfl rfl (ySh.t hS rfl) (ySh.n hS rfl) ?_
                                    refine sp_at (by omega) (by omega) (by decide) (by decide) (fun z_ hz308 => ?_)
                                    rw [yz_8] at hz308
                                    refine y_ret1 ?_
                                    refine y_dup2 rfl rfl rfl ?_
                                    refine y_iaload rfl (ySh.t hS rfl) (ySh.n hS rfl) (by omega) (by omega) ?_
                                    refine y_iload rfl rfl ?_
                                    refine y_isub rfl ?_
                                    refine y_iastore rfl (ySh.t hS rfl) (ySh.n hS rfl) (Nat.le_of_ble_eq_true rfl) (by omega) (by omega) ?_
                                    refine y_aload_n rfl rfl ?_
                                    refine y_getR rfl (ySh.t hS rfl) (ySh.n hS rfl) rfl rfl (ySh.r hS rfl) ?_
                                    refine y_aload_n rfl rfl ?_
                                    refine y_iload_n rfl rfl ?_
                                    refine y_iload_n rfl rfl ?_
                                    refine y_virt rfl rfl rfl rfl rfl (ySh.t hS rfl) (ySh.n hS rfl) ?_
                                    refine sp_at (by omega) (by omega) (by omega) (by omega) (fun z_ hz309 => ?_)
                                    refine y_ret1 ?_
                                    refine y_dup2 rfl rfl rfl ?_
                                    refine y_iaload rfl (ySh.t hS rfl) (ySh.n hS rfl) (by omega) (by omega) ?_
                                    refine y_iload rfl rfl ?_
                                    refine y_iadd rfl ?_
                                    refine y_iastore rfl (ySh.t hS rfl) (ySh.n hS rfl) (Nat.le_of_ble_eq_true rfl) (by omega) (by omega) ?_
                                    refine y_return rfl ?_
                                    refine y_ret0 ?_
                                    refine y_aload_n rfl rfl ?_
                                    refine y_getR rfl (ySh.t hS rfl) (ySh.n hS rfl) rfl rfl (ySh.r hS rfl) ?_
                                    refine y_iload_n rfl rfl ?_
                                    refine y_iload rfl rfl ?_
                                    refine y_virt rfl rfl rfl rfl rfl (ySh.t hS rfl) (ySh.n hS rfl) ?_
                                    refine y_in (M := xm_X7_capitalOf) (ls := [some _, some _, some _]) rfl rfl rfl ?_
                                    refine y_aload_n rfl rfl ?_
                                    refine y_getR rfl (ySh.t hS rfl) (ySh.n hS rfl) rfl rfl (ySh.r hS rfl) ?_
                                    refine y_aload_n rfl rfl ?_
                                    refine y_iload_n rfl rfl ?_
                                    refine y_iload_n rfl rfl ?_
                                    refine y_virt rfl rfl rfl rfl rfl (ySh.t hS rfl) (ySh.n hS rfl) ?_
                                    refine sp_at (by omega) (by omega) (by decide) (by decide) (fun z_ hz310 => ?_)
                                    rw [yz_8] at hz310
                                    refine y_ret1 ?_
                                    refine y_iaload rfl (ySh.t hS rfl) (ySh.n hS rfl) (by omega) (by omega) ?_
                                    refine y_ireturn rfl rfl rfl ?_
                                    refine y_ret1 ?_
                                    refine y_ireturn rfl rfl rfl ?_
                                    exact hQ _ _ hC (by repeat (first | exact hF | refine yFt.upd ?_ (by decide)))
                                  · refine y_throw rfl rfl rfl ?_
                                    exact hE2
                          · rw [yz_m1] at h_294
                            refine y_bip rfl (by decide) ?_
                            refine y_goto rfl j_X8_placeOf_11 ?_
                            refine y_ireturn rfl rfl rfl ?_
                            refine y_ret1 ?_
                            refine y_istore (ls' := [some _, some _, some _, some _, some _, some _, some _]) rfl rfl rfl ?_
                            refine y_aload_n rfl rfl ?_
                            refine y_getR rfl (ySh.t hS rfl) (ySh.n hS rfl) rfl rfl (ySh.r hS rfl) ?_
                            refine y_iload_n rfl rfl ?_
                            refine y_iload rfl rfl ?_
                            refine y_virt rfl rfl rfl rfl rfl (ySh.t hS rfl) (ySh.n hS rfl) ?_
                            refine y_in (M := xm_X7_isPartner) (ls := [some _, some _, some _]) rfl rfl rfl ?_
                            refine y_aload_n rfl rfl ?_
                            refine y_getR rfl (ySh.t hS rfl) (ySh.n hS rfl) rfl rfl (ySh.r hS rfl) ?_
                            refine y_aload_n rfl rfl ?_
                            refine y_iload_n rfl rfl ?_
                            refine y_iload_n rfl rfl ?_
                            refine y_virt rfl rfl rfl rfl rfl (ySh.t hS rfl) (ySh.n hS rfl) ?_
                            refine sp_at (by omega) (by omega) (by decide) (by decide) (fun z_ hz311 => ?_)
                            rw [yz_8] at hz311
                            refine y_ret1 ?_
                            refine y_baload rfl (ySh.t hS rfl) rfl (ySh.n hS rfl) (by omega) (by omega) ?_
                            refine y_ireturn rfl rfl (xfit_z (hC.p _)) ?_
                            refine y_ret1 ?_
                            refine y_if_eq rfl j_X8_buyOut_134 (fun h_312 => ?_) (fun h_313 => ?_)
                            · refine y_throw rfl rfl rfl ?_
                              exact hE2
                            · refine y_aload_n rfl rfl ?_
                              refine y_getR rfl (ySh.t hS rfl) (ySh.n hS rfl) rfl rfl (ySh.r hS rfl) ?_
                              refine y_iload_n rfl rfl ?_
                              refine y_iload rfl rfl ?_
                              refine y_virt rfl rfl rfl rfl rfl (ySh.t hS rfl) (ySh.n hS rfl) ?_
                              refine y_in (M := xm_X7_isPartner) (ls := [some _, some _, some _]) rfl rfl rfl ?_
                              refine y_aload_n rfl rfl ?_
                              refine y_getR rfl (ySh.t hS rfl) (ySh.n hS rfl) rfl rfl (ySh.r hS rfl) ?_
                              refine y_aload_n rfl rfl ?_
                              refine y_iload_n rfl rfl ?_
                              refine y_iload_n rfl rfl ?_
                              refine y_virt rfl rfl rfl rfl rfl (ySh.t hS rfl) (ySh.n hS rfl) ?_
                              refine sp_at (by omega) (by omega) (by decide) (by decide) (fun z_ hz314 => ?_)
                              rw [yz_8] at hz314
                              refine y_ret1 ?_
                              refine y_baload rfl (ySh.t hS rfl) rfl (ySh.n hS rfl) (by omega) (by omega) ?_
                              refine y_ireturn rfl rfl (xfit_z (hC.p _)) ?_
                              refine y_ret1 ?_
                              refine y_if_eq rfl j_X8_buyOut_134 (fun h_315 => ?_) (fun h_316 => ?_)
                              · refine y_throw rfl rfl rfl ?_
                                exact hE2
                              · refine y_aload_n rfl rfl ?_
                                refine y_getR rfl (ySh.t hS rfl) (ySh.n hS rfl) rfl rfl (ySh.r hS rfl) ?_
                                refine y_iload_n rfl rfl ?_
                                refine y_iload rfl rfl ?_
                                refine y_virt rfl rfl rfl rfl rfl (ySh.t hS rfl) (ySh.n hS rfl) ?_
                                refine y_in (M := xm_X7_capitalOf) (ls := [some _, some _, some _]) rfl rfl rfl ?_
                                refine y_aload_n rfl rfl ?_
                                refine y_getR rfl (ySh.t hS rfl) (ySh.n hS rfl) rfl rfl (ySh.r hS rfl) ?_
                                refine y_aload_n rfl rfl ?_
                                refine y_iload_n rfl rfl ?_
                                refine y_iload_n rfl rfl ?_
                                refine y_virt rfl rfl rfl rfl rfl (ySh.t hS rfl) (ySh.n hS rfl) ?_
                                refine sp_at (by omega) (by omega) (by decide) (by decide) (fun z_ hz317 => ?_)
                                rw [yz_8] at hz317
                                refine y_ret1 ?_
                                refine y_iaload rfl (ySh.t hS rfl) (ySh.n hS rfl) (by omega) (by omega) ?_
                                refine y_ireturn rfl rfl rfl ?_
                                refine y_ret1 ?_
                                refine y_iload rfl rfl ?_
                                refine y_icmp_lt rfl j_X8_buyOut_134 (fun h_318 => ?_) (fun h_319 => ?_)
                                · refine y_throw rfl rfl rfl ?_
                                  exact hE2
                                · refine y_aload_n rfl rfl ?_
                                  refine y_getR rfl (ySh.t hS rfl) (ySh.n hS rfl) rfl rfl (ySh.r hS rfl) ?_
                                  refine y_getR rfl (ySh.t hS rfl) (ySh.n hS rfl) rfl rfl (ySh.r hS rfl) ?_
                                  refine y_iload rfl rfl ?_
                                  refine y_iaload rfl (ySh.t hS rfl) (ySh.n hS rfl) (by decide) (by decide) ?_
                                  refine y_iload rfl rfl ?_
                                  refine y_icmp_ge rfl j_X8_buyOut_145 (fun h_320 => ?_) (fun h_321 => ?_)
                                  · refine y_aload_n rfl rfl ?_
                                    refine y_getR rfl (ySh.t hS rfl) (ySh.n hS rfl) rfl rfl (ySh.r hS rfl) ?_
                                    refine y_iload rfl rfl ?_
                                    refine y_iload rfl rfl ?_
                                    refine y_iload rfl rfl ?_
                                    refine y_virt rfl rfl rfl rfl rfl (ySh.t hS rfl) (ySh.n hS rfl) ?_
                                    refine y_in (M := xm_X4_move) (ls := [some _, some _, some _, some _]) rfl rfl rfl ?_
                                    refine y_aload_n rfl rfl ?_
                                    refine y_iload_n rfl rfl ?_
                                    refine y_iload_n rfl rfl ?_
                                    refine y_ineg rfl ?_
                                    refine y_virt rfl rfl rfl rfl rfl (ySh.t hS rfl) (ySh.n hS rfl) ?_
                                    refine sp_add_X4 hS hC (fun I332 hC hF1 => ?_)
                                    have hF : yFt I I332 := yFt.trans (by repeat (first | exact hF | refine yFt.upd ?_ (by decide))) hF1.t
                                    have hd : (I332 34 8).toInt = (I 34 8).toInt := congrArg Int32.toInt (hF1 34 8 (Or.inl (by decide)))
                                    refine y_ret0 ?_
                                    refine y_aload_n rfl rfl ?_
                                    refine y_iload_n rfl rfl ?_
                                    refine y_iload_n rfl rfl ?_
                                    refine y_virt rfl rfl rfl rfl rfl (ySh.t hS rfl) (ySh.n hS rfl) ?_
                                    refine sp_add_X4 hS hC (fun I333 hC hF1 => ?_)
                                    have hF : yFt I I333 := yFt.trans (by repeat (first | exact hF | refine yFt.upd ?_ (by decide))) hF1.t
                                    have hd : (I333 34 8).toInt = (I332 34 8).toInt := congrArg Int32.toInt (hF1 34 8 (Or.inl (by decide)))
                                    refine y_ret0 ?_
                                    refine y_return rfl ?_
                                    refine y_ret0 ?_
                                    refine y_aload_n rfl rfl ?_
                                    refine y_getR rfl (ySh.t hS rfl) (ySh.n hS rfl) rfl rfl (ySh.r hS rfl) ?_
                                    refine y_iload_n rfl rfl ?_
                                    refine y_iload rfl rfl ?_
                                    refine y_iload rfl rfl ?_
                                    refine y_iload rfl rfl ?_
                                    refine y_virt rfl rfl rfl rfl rfl (ySh.t hS rfl) (ySh.n hS rfl) ?_
                                    refine y_in (M := xm_X7_moveCapital) (ls := [some _, some _, some _, some _, some _]) rfl rfl rfl ?_
                                    refine y_aload_n rfl rfl ?_
                                    refine y_getR rfl (ySh.t hS rfl) (ySh.n hS rfl) rfl rfl (ySh.r hS rfl) ?_
                                    refine y_aload_n rfl rfl ?_
                                    refine y_iload_n rfl rfl ?_
                                    refine y_iload_n rfl rfl ?_
                                    refine y_virt rfl rfl rfl rfl rfl (ySh.t hS rfl) (ySh.n hS rfl) ?_
                                    refine sp_at (by omega) (by omega) (by decide) (by decide) (fun z_ hz324 => ?_)
                                    rw [yz_8] at hz324
                                    refine y_ret1 ?_
                                    refine y_dup2 rfl rfl rfl ?_
                                    refine y_iaload rfl (ySh.t hS rfl) (ySh.n hS rfl) (by omega) (by omega) ?_
                                    refine y_iload rfl rfl ?_
                                    refine y_isub rfl ?_
                                    refine y_iastore rfl (ySh.t hS rfl) (ySh.n hS rfl) (Nat.le_of_ble_eq_true rfl) (by omega) (by omega) ?_
                                    refine y_aload_n rfl rfl ?_
                                    refine y_getR rfl (ySh.t hS rfl) (ySh.n hS rfl) rfl rfl (ySh.r hS rfl) ?_
                                    refine y_aload_n rfl rfl ?_
                                    refine y_iload_n rfl rfl ?_
                                    refine y_iload_n rfl rfl ?_
                                    refine y_virt rfl rfl rfl rfl rfl (ySh.t hS rfl) (ySh.n hS rfl) ?_
                                    refine sp_at (by omega) (by omega) (by decide) (by decide) (fun z_ hz325 => ?_)
                                    rw [yz_8] at hz325
                                    refine y_ret1 ?_
                                    refine y_dup2 rfl rfl rfl ?_
                                    refine y_iaload rfl (ySh.t hS rfl) (ySh.n hS rfl) (by omega) (by omega) ?_
                                    refine y_iload rfl rfl ?_
                                    refine y_iadd rfl ?_
                                    refine y_iastore rfl (ySh.t hS rfl) (ySh.n hS rfl) (Nat.le_of_ble_eq_true rfl) (by omega) (by omega) ?_
                                    refine y_return rfl ?_
                                    refine y_ret0 ?_
                                    refine y_aload_n rfl rfl ?_
                                    refine y_getR rfl (ySh.t hS rfl) (ySh.n hS rfl) rfl rfl (ySh.r hS rfl) ?_
                                    refine y_iload_n rfl rfl ?_
                                    refine y_iload rfl rfl ?_
                                    refine y_virt rfl rfl rfl rfl rfl (ySh.t hS rfl) (ySh.n hS rfl) ?_
                                    refine y_in (M := xm_X7_capitalOf) (ls := [some _, some _, some _]) rfl rfl rfl ?_
                                    refine y_aload_n rfl rfl ?_
                                    refine y_getR rfl (ySh.t hS rfl) (ySh.n hS rfl) rfl rfl (ySh.r hS rfl) ?_
                                    refine y_aload_n rfl rfl ?_
                                    refine y_iload_n rfl rfl ?_
                                    refine y_iload_n rfl rfl ?_
                                    refine y_virt rfl rfl rfl rfl rfl (ySh.t hS rfl) (ySh.n hS rfl) ?_
                                    refine sp_at (by omega) (by omega) (by decide) (by decide) (fun z_ hz326 => ?_)
                                    rw [yz_8] at hz326
                                    refine y_ret1 ?_
                                    refine y_iaload rfl (ySh.t hS rfl) (ySh.n hS rfl) (by omega) (by omega) ?_
                                    refine y_ireturn rfl rfl rfl ?_
                                    refine y_ret1 ?_
                                    refine y_ireturn rfl rfl rfl ?_
                                    exact hQ _ _ hC (by repeat (first | exact hF | refine yFt.upd ?_ (by decide)))
                                  · refine y_throw rfl rfl rfl ?_
                                    exact hE2
theorem m_deposit (hS : ySh n tg R) (hC : yCI I) {x1 x2 : Int32} (hE0 : Q (.inr "java/lang/IndexOutOfBoundsException") (n, tg, I, R) (c + 1) (s + 6)) (hE1 : Q (.inr "java/lang/IllegalArgumentException") (n, tg, I, R) (c + 1) (s + 6)) (hE2 : Q (.inr "java/lang/IllegalStateException") (n, tg, I, R) (c + 1) (s + 6)) (hQ : ∀ v I1, yCI I1 → yFt I I1 → Q (.inl (some (.int v))) (n, tg, I1, R) c s) : yC 136 [.ref 34, .int x1, .int x2] (n, tg, I, R) c s Q := by
  have hF : yFt I I := yFt.rf
  refine y_in (M := xm_X8_deposit) (ls := [some _, some _, some _, _]) rfl rfl rfl ?_
  refine y_aload_n rfl rfl ?_
  refine y_getR rfl (ySh.t hS rfl) (ySh.n hS rfl) rfl rfl (ySh.r hS rfl) ?_
  refine y_iload_n rfl rfl ?_
  refine y_virt rfl rfl rfl rfl rfl (ySh.t hS rfl) (ySh.n hS rfl) ?_
  refine y_in (M := xm_X4_has) (ls := [some _, some _]) rfl rfl rfl ?_
  refine y_iload_n rfl rfl ?_
  refine y_if_lt rfl j_X4_has_16 (fun h_1 => ?_) (fun h_2 => ?_)
  · refine y_iconst rfl ?_
    refine y_ireturn rfl rfl rfl ?_
    refine y_ret1 ?_
    refine y_if_neF rfl (by decide) ?_
    refine y_throw rfl rfl rfl ?_
    exact hE0
  · refine y_iload_n rfl rfl ?_
    refine y_aload_n rfl rfl ?_
    refine y_getI rfl (ySh.t hS rfl) (ySh.n hS rfl) rfl rfl ?_
    refine y_icmp_ge rfl j_X4_has_16 (fun h_3 => ?_) (fun h_4 => ?_)
    · refine y_iconst rfl ?_
      refine y_ireturn rfl rfl rfl ?_
      refine y_ret1 ?_
      refine y_if_neF rfl (by decide) ?_
      refine y_throw rfl rfl rfl ?_
      exact hE0
    · refine y_iconst rfl ?_
      refine y_goto rfl j_X4_has_17 ?_
      refine y_ireturn rfl rfl rfl ?_
      refine y_ret1 ?_
      refine y_if_neT rfl j_X8_deposit_22 (by decide) ?_
      refine y_iload_n rfl rfl ?_
      refine y_if_eq rfl j_X8_deposit_39 (fun h_5 => ?_) (fun h_6 => ?_)
      · refine y_throw rfl rfl rfl ?_
        exact hE1
      · refine y_iload_n rfl rfl ?_
        refine y_sip rfl (by decide) ?_
        refine y_sip rfl (by decide) ?_
        refine y_static rfl rfl rfl rfl rfl ?_
        refine y_in (M := xm_X8_isIn) (ls := [some _, some _, some _]) rfl rfl rfl ?_
        refine y_iload_n rfl rfl ?_
        refine y_iload_n rfl rfl ?_
        refine y_icmp_lt rfl j_X8_isIn_14 (fun h_7 => ?_) (fun h_8 => ?_)
        · rw [yz_m9999] at h_7
          refine y_iconst rfl ?_
          refine y_ireturn rfl rfl rfl ?_
          refine y_ret1 ?_
          refine y_if_neF rfl (by decide) ?_
          refine y_throw rfl rfl rfl ?_
          exact hE1
        · rw [yz_m9999] at h_8
          refine y_iload_n rfl rfl ?_
          refine y_iload_n rfl rfl ?_
          refine y_icmp_gt rfl j_X8_isIn_14 (fun h_9 => ?_) (fun h_10 => ?_)
          · rw [yz_9999] at h_9
            refine y_iconst rfl ?_
            refine y_ireturn rfl rfl rfl ?_
            refine y_ret1 ?_
            refine y_if_neF rfl (by decide) ?_
            refine y_throw rfl rfl rfl ?_
            exact hE1
          · rw [yz_9999] at h_10
            refine y_iconst rfl ?_
            refine y_goto rfl j_X8_isIn_15 ?_
            refine y_ireturn rfl rfl rfl ?_
            refine y_ret1 ?_
            refine y_if_neT rfl j_X8_deposit_50 (by decide) ?_
            refine y_iload_n rfl rfl ?_
            refine y_if_le rfl j_X8_deposit_71 (fun h_11 => ?_) (fun h_12 => ?_)
            · refine y_iconst rfl ?_
              refine y_istore_n (ls' := [some _, some _, some _, some _]) rfl rfl rfl ?_
              refine y_iload_n rfl rfl ?_
              refine y_if_neF rfl (by decide) ?_
              refine y_aload_n rfl rfl ?_
              refine y_getR rfl (ySh.t hS rfl) (ySh.n hS rfl) rfl rfl (ySh.r hS rfl) ?_
              refine y_getR rfl (ySh.t hS rfl) (ySh.n hS rfl) rfl rfl (ySh.r hS rfl) ?_
              refine y_iload_n rfl rfl ?_
              refine y_iaload rfl (ySh.t hS rfl) (ySh.n hS rfl) (by omega) (by omega) ?_
              refine y_iload_n rfl rfl ?_
              refine y_iadd rfl ?_
              refine y_iconst rfl ?_
              refine y_ldc_wI (v := (99999 : Int)) rfl rfl rfl (by decide) ?_
              refine y_static rfl rfl rfl rfl rfl ?_
              refine y_in (M := xm_X8_isIn) (ls := [some _, some _, some _]) rfl rfl rfl ?_
              refine y_iload_n rfl rfl ?_
              refine y_iload_n rfl rfl ?_
              refine y_icmp_lt rfl j_X8_isIn_14 (fun h_13 => ?_) (fun h_14 => ?_)
              · rw [yz_0] at h_13
                refine y_iconst rfl ?_
                refine y_ireturn rfl rfl rfl ?_
                refine y_ret1 ?_
                refine y_if_neF rfl (by decide) ?_
                refine y_throw rfl rfl rfl ?_
                exact hE2
              · rw [yz_0] at h_14
                refine y_iload_n rfl rfl ?_
                refine y_iload_n rfl rfl ?_
                refine y_icmp_gt rfl j_X8_isIn_14 (fun h_15 => ?_) (fun h_16 => ?_)
                · rw [yz_99999] at h_15
                  refine y_iconst rfl ?_
                  refine y_ireturn rfl rfl rfl ?_
                  refine y_ret1 ?_
                  refine y_if_neF rfl (by decide) ?_
                  refine y_throw rfl rfl rfl ?_
                  exact hE2
                · rw [yz_99999] at h_16
                  refine y_iconst rfl ?_
                  refine y_goto rfl j_X8_isIn_15 ?_
                  refine y_ireturn rfl rfl rfl ?_
                  refine y_ret1 ?_
                  refine y_if_neT rfl j_X8_deposit_109 (by decide) ?_
                  refine y_aload_n rfl rfl ?_
                  refine y_getR rfl (ySh.t hS rfl) (ySh.n hS rfl) rfl rfl (ySh.r hS rfl) ?_
                  refine y_iload_n rfl rfl ?_
                  refine y_iload_n rfl rfl ?_
                  refine y_ineg rfl ?_
                  refine y_virt rfl rfl rfl rfl rfl (ySh.t hS rfl) (ySh.n hS rfl) ?_
                  refine sp_add_X4 hS hC (fun I27 hC hF1 => ?_)
                  have hF : yFt I I27 := yFt.trans (by repeat (first | exact hF | refine yFt.upd ?_ (by decide))) hF1.t
                  have hd : (I27 34 8).toInt = (I 34 8).toInt := congrArg Int32.toInt (hF1 34 8 (Or.inl (by decide)))
                  refine y_ret0 ?_
                  refine y_aload_n rfl rfl ?_
                  refine y_getR rfl (ySh.t hS rfl) (ySh.n hS rfl) rfl rfl (ySh.r hS rfl) ?_
                  refine y_getR rfl (ySh.t hS rfl) (ySh.n hS rfl) rfl rfl (ySh.r hS rfl) ?_
                  refine y_iload_n rfl rfl ?_
                  refine y_dup2 rfl rfl rfl ?_
                  refine y_iaload rfl (ySh.t hS rfl) (ySh.n hS rfl) (by omega) (by omega) ?_
                  refine y_iload_n rfl rfl ?_
                  refine y_iadd rfl ?_
                  refine y_iastore rfl (ySh.t hS rfl) (ySh.n hS rfl) (Nat.le_of_ble_eq_true rfl) (by omega) (by omega) ?_
                  refine y_aload_n rfl rfl ?_
                  refine y_getR rfl (ySh.t hS rfl) (ySh.n hS rfl) rfl rfl (ySh.r hS rfl) ?_
                  refine y_getR rfl (ySh.t hS rfl) (ySh.n hS rfl) rfl rfl (ySh.r hS rfl) ?_
                  refine y_iload_n rfl rfl ?_
                  refine y_iaload rfl (ySh.t hS rfl) (ySh.n hS rfl) (by omega) (by omega) ?_
                  refine y_ireturn rfl rfl rfl ?_
                  exact hQ _ _ hC (by repeat (first | exact hF | refine yFt.upd ?_ (by decide)))
            · refine y_aload_n rfl rfl ?_
              refine y_getR rfl (ySh.t hS rfl) (ySh.n hS rfl) rfl rfl (ySh.r hS rfl) ?_
              refine y_getR rfl (ySh.t hS rfl) (ySh.n hS rfl) rfl rfl (ySh.r hS rfl) ?_
              refine y_iload_n rfl rfl ?_
              refine y_iaload rfl (ySh.t hS rfl) (ySh.n hS rfl) (by omega) (by omega) ?_
              refine y_iload_n rfl rfl ?_
              refine y_icmp_ge rfl j_X8_deposit_71 (fun h_18 => ?_) (fun h_19 => ?_)
              · refine y_iconst rfl ?_
                refine y_istore_n (ls' := [some _, some _, some _, some _]) rfl rfl rfl ?_
                refine y_iload_n rfl rfl ?_
                refine y_if_neF rfl (by decide) ?_
                refine y_aload_n rfl rfl ?_
                refine y_getR rfl (ySh.t hS rfl) (ySh.n hS rfl) rfl rfl (ySh.r hS rfl) ?_
                refine y_getR rfl (ySh.t hS rfl) (ySh.n hS rfl) rfl rfl (ySh.r hS rfl) ?_
                refine y_iload_n rfl rfl ?_
                refine y_iaload rfl (ySh.t hS rfl) (ySh.n hS rfl) (by omega) (by omega) ?_
                refine y_iload_n rfl rfl ?_
                refine y_iadd rfl ?_
                refine y_iconst rfl ?_
                refine y_ldc_wI (v := (99999 : Int)) rfl rfl rfl (by decide) ?_
                refine y_static rfl rfl rfl rfl rfl ?_
                refine y_in (M := xm_X8_isIn) (ls := [some _, some _, some _]) rfl rfl rfl ?_
                refine y_iload_n rfl rfl ?_
                refine y_iload_n rfl rfl ?_
                refine y_icmp_lt rfl j_X8_isIn_14 (fun h_20 => ?_) (fun h_21 => ?_)
                · rw [yz_0] at h_20
                  refine y_iconst rfl ?_
                  refine y_ireturn rfl rfl rfl ?_
                  refine y_ret1 ?_
                  refine y_if_neF rfl (by decide) ?_
                  refine y_throw rfl rfl rfl ?_
                  exact hE2
                · rw [yz_0] at h_21
                  refine y_iload_n rfl rfl ?_
                  refine y_iload_n rfl rfl ?_
                  refine y_icmp_gt rfl j_X8_isIn_14 (fun h_22 => ?_) (fun h_23 => ?_)
                  · rw [yz_99999] at h_22
                    refine y_iconst rfl ?_
                    refine y_ireturn rfl rfl rfl ?_
                    refine y_ret1 ?_
                    refine y_if_neF rfl (by decide) ?_
                    refine y_throw rfl rfl rfl ?_
                    exact hE2
                  · rw [yz_99999] at h_23
                    refine y_iconst rfl ?_
                    refine y_goto rfl j_X8_isIn_15 ?_
                    refine y_ireturn rfl rfl rfl ?_
                    refine y_ret1 ?_
                    refine y_if_neT rfl j_X8_deposit_109 (by decide) ?_
                    refine y_aload_n rfl rfl ?_
                    refine y_getR rfl (ySh.t hS rfl) (ySh.n hS rfl) rfl rfl (ySh.r hS rfl) ?_
                    refine y_iload_n rfl rfl ?_
                    refine y_iload_n rfl rfl ?_
                    refine y_ineg rfl ?_
                    refine y_virt rfl rfl rfl rfl rfl (ySh.t hS rfl) (ySh.n hS rfl) ?_
                    refine sp_add_X4 hS hC (fun I34 hC hF1 => ?_)
                    have hF : yFt I I34 := yFt.trans (by repeat (first | exact hF | refine yFt.upd ?_ (by decide))) hF1.t
                    have hd : (I34 34 8).toInt = (I 34 8).toInt := congrArg Int32.toInt (hF1 34 8 (Or.inl (by decide)))
                    refine y_ret0 ?_
                    refine y_aload_n rfl rfl ?_
                    refine y_getR rfl (ySh.t hS rfl) (ySh.n hS rfl) rfl rfl (ySh.r hS rfl) ?_
                    refine y_getR rfl (ySh.t hS rfl) (ySh.n hS rfl) rfl rfl (ySh.r hS rfl) ?_
                    refine y_iload_n rfl rfl ?_
                    refine y_dup2 rfl rfl rfl ?_
                    refine y_iaload rfl (ySh.t hS rfl) (ySh.n hS rfl) (by omega) (by omega) ?_
                    refine y_iload_n rfl rfl ?_
                    refine y_iadd rfl ?_
                    refine y_iastore rfl (ySh.t hS rfl) (ySh.n hS rfl) (Nat.le_of_ble_eq_true rfl) (by omega) (by omega) ?_
                    refine y_aload_n rfl rfl ?_
                    refine y_getR rfl (ySh.t hS rfl) (ySh.n hS rfl) rfl rfl (ySh.r hS rfl) ?_
                    refine y_getR rfl (ySh.t hS rfl) (ySh.n hS rfl) rfl rfl (ySh.r hS rfl) ?_
                    refine y_iload_n rfl rfl ?_
                    refine y_iaload rfl (ySh.t hS rfl) (ySh.n hS rfl) (by omega) (by omega) ?_
                    refine y_ireturn rfl rfl rfl ?_
                    exact hQ _ _ hC (by repeat (first | exact hF | refine yFt.upd ?_ (by decide)))
              · refine y_iconst rfl ?_
                refine y_goto rfl j_X8_deposit_72 ?_
                refine y_istore_n (ls' := [some _, some _, some _, some _]) rfl rfl rfl ?_
                refine y_iload_n rfl rfl ?_
                refine y_if_neT rfl j_X8_deposit_98 (by decide) ?_
                refine y_throw rfl rfl rfl ?_
                exact hE2
theorem m_share (hS : ySh n tg R) (hC : yCI I) {x1 x2 x3 : Int32} (hE1 : Q (.inr "java/lang/IllegalArgumentException") (n, tg, I, R) (c + 1) (s + 6)) (hQ : ∀ v I1, yCI I1 → yFt I I1 → Q (.inl (some (.int v))) (n, tg, I1, R) c s) : yC 137 [.ref 34, .int x1, .int x2, .int x3] (n, tg, I, R) c s Q := by
  have hF : yFt I I := yFt.rf
  refine y_in (M := xm_X8_share) (ls := [some _, some _, some _, some _, _, _, _]) rfl rfl rfl ?_
  refine y_iload_n rfl rfl ?_
  refine y_iconst rfl ?_
  refine y_sip rfl (by decide) ?_
  refine y_static rfl rfl rfl rfl rfl ?_
  refine y_in (M := xm_X8_isIn) (ls := [some _, some _, some _]) rfl rfl rfl ?_
  refine y_iload_n rfl rfl ?_
  refine y_iload_n rfl rfl ?_
  refine y_icmp_lt rfl j_X8_isIn_14 (fun h_1 => ?_) (fun h_2 => ?_)
  · rw [yz_0] at h_1
    refine y_iconst rfl ?_
    refine y_ireturn rfl rfl rfl ?_
    refine y_ret1 ?_
    refine y_if_eqT rfl j_X8_share_32 (by decide) ?_
    refine y_throw rfl rfl rfl ?_
    exact hE1
  · rw [yz_0] at h_2
    refine y_iload_n rfl rfl ?_
    refine y_iload_n rfl rfl ?_
    refine y_icmp_gt rfl j_X8_isIn_14 (fun h_3 => ?_) (fun h_4 => ?_)
    · rw [yz_9999] at h_3
      refine y_iconst rfl ?_
      refine y_ireturn rfl rfl rfl ?_
      refine y_ret1 ?_
      refine y_if_eqT rfl j_X8_share_32 (by decide) ?_
      refine y_throw rfl rfl rfl ?_
      exact hE1
    · rw [yz_9999] at h_4
      refine y_iconst rfl ?_
      refine y_goto rfl j_X8_isIn_15 ?_
      refine y_ireturn rfl rfl rfl ?_
      refine y_ret1 ?_
      refine y_if_eqF rfl (by decide) ?_
      refine y_iload_n rfl rfl ?_
      refine y_iconst rfl ?_
      refine y_sip rfl (by decide) ?_
      refine y_static rfl rfl rfl rfl rfl ?_
      refine y_in (M := xm_X8_isIn) (ls := [some _, some _, some _]) rfl rfl rfl ?_
      refine y_iload_n rfl rfl ?_
      refine y_iload_n rfl rfl ?_
      refine y_icmp_lt rfl j_X8_isIn_14 (fun h_5 => ?_) (fun h_6 => ?_)
      · rw [yz_0] at h_5
        refine y_iconst rfl ?_
        refine y_ireturn rfl rfl rfl ?_
        refine y_ret1 ?_
        refine y_if_eqT rfl j_X8_share_32 (by decide) ?_
        refine y_throw rfl rfl rfl ?_
        exact hE1
      · rw [yz_0] at h_6
        refine y_iload_n rfl rfl ?_
        refine y_iload_n rfl rfl ?_
        refine y_icmp_gt rfl j_X8_isIn_14 (fun h_7 => ?_) (fun h_8 => ?_)
        · rw [yz_999] at h_7
          refine y_iconst rfl ?_
          refine y_ireturn rfl rfl rfl ?_
          refine y_ret1 ?_
          refine y_if_eqT rfl j_X8_share_32 (by decide) ?_
          refine y_throw rfl rfl rfl ?_
          exact hE1
        · rw [yz_999] at h_8
          refine y_iconst rfl ?_
          refine y_goto rfl j_X8_isIn_15 ?_
          refine y_ireturn rfl rfl rfl ?_
          refine y_ret1 ?_
          refine y_if_eqF rfl (by decide) ?_
          refine y_iload_n rfl rfl ?_
          refine y_iconst rfl ?_
          refine y_bip rfl (by decide) ?_
          refine y_static rfl rfl rfl rfl rfl ?_
          refine y_in (M := xm_X8_isIn) (ls := [some _, some _, some _]) rfl rfl rfl ?_
          refine y_iload_n rfl rfl ?_
          refine y_iload_n rfl rfl ?_
          refine y_icmp_lt rfl j_X8_isIn_14 (fun h_9 => ?_) (fun h_10 => ?_)
          · rw [yz_0] at h_9
            refine y_iconst rfl ?_
            refine y_ireturn rfl rfl rfl ?_
            refine y_ret1 ?_
            refine y_if_neF rfl (by decide) ?_
            refine y_throw rfl rfl rfl ?_
            exact hE1
          · rw [yz_0] at h_10
            refine y_iload_n rfl rfl ?_
            refine y_iload_n rfl rfl ?_
            refine y_icmp_gt rfl j_X8_isIn_14 (fun h_11 => ?_) (fun h_12 => ?_)
            · rw [yz_50] at h_11
              refine y_iconst rfl ?_
              refine y_ireturn rfl rfl rfl ?_
              refine y_ret1 ?_
              refine y_if_neF rfl (by decide) ?_
              refine y_throw rfl rfl rfl ?_
              exact hE1
            · rw [yz_50] at h_12
              refine y_iconst rfl ?_
              refine y_goto rfl j_X8_isIn_15 ?_
              refine y_ireturn rfl rfl rfl ?_
              refine y_ret1 ?_
              refine y_if_neT rfl j_X8_share_43 (by decide) ?_
              refine y_aload_n rfl rfl ?_
              refine y_getR rfl (ySh.t hS rfl) (ySh.n hS rfl) rfl rfl (ySh.r hS rfl) ?_
              refine y_iload_n rfl rfl ?_
              refine y_putI rfl (ySh.t hS rfl) (ySh.n hS rfl) rfl (Nat.le_of_ble_eq_true rfl) rfl rfl ?_
              refine y_aload_n rfl rfl ?_
              refine y_getR rfl (ySh.t hS rfl) (ySh.n hS rfl) rfl rfl (ySh.r hS rfl) ?_
              refine y_iload_n rfl rfl ?_
              refine y_putI rfl (ySh.t hS rfl) (ySh.n hS rfl) rfl (Nat.le_of_ble_eq_true rfl) rfl rfl ?_
              refine y_aload_n rfl rfl ?_
              refine y_getR rfl (ySh.t hS rfl) (ySh.n hS rfl) rfl rfl (ySh.r hS rfl) ?_
              refine y_iload_n rfl rfl ?_
              refine y_virt rfl rfl rfl rfl rfl (ySh.t hS rfl) (ySh.n hS rfl) ?_
              refine y_in (M := xm_X3_leftByManagement) (ls := [some _, some _]) rfl rfl rfl ?_
              refine y_iload_n rfl rfl ?_
              refine y_iload_n rfl rfl ?_
              refine y_aload_n rfl rfl ?_
              refine y_getI rfl (ySh.t hS rfl) (ySh.n hS rfl) rfl rfl ?_
              refine y_imul rfl ?_
              refine y_bip rfl (by decide) ?_
              refine y_idiv rfl (by decide) ?_
              refine y_isub rfl ?_
              refine y_ireturn rfl rfl rfl ?_
              refine y_ret1 ?_
              refine y_istore (ls' := [some _, some _, some _, some _, some _, _, _]) rfl rfl rfl ?_
              refine y_aload_n rfl rfl ?_
              refine y_getR rfl (ySh.t hS rfl) (ySh.n hS rfl) rfl rfl (ySh.r hS rfl) ?_
              refine y_iload rfl rfl ?_
              refine y_aload_n rfl rfl ?_
              refine y_getR rfl (ySh.t hS rfl) (ySh.n hS rfl) rfl rfl (ySh.r hS rfl) ?_
              refine y_iconst rfl ?_
              refine y_virt rfl rfl rfl rfl rfl (ySh.t hS rfl) (ySh.n hS rfl) ?_
              refine sp_isAllowedNow hS (by decide) (by decide) (fun h_13 => ?_) (fun h_14 => ?_)
              · refine y_ret1 ?_
                refine y_virt rfl rfl rfl rfl rfl (ySh.t hS rfl) (ySh.n hS rfl) ?_
                refine y_in (M := xm_X3_smoothed) (ls := [some _, some _, some _]) rfl rfl rfl ?_
                refine y_iload_n rfl rfl ?_
                refine y_if_neT rfl j_X3_smoothed_6 (by decide) ?_
                refine y_iload_n rfl rfl ?_
                refine y_aload_n rfl rfl ?_
                refine y_getI rfl (ySh.t hS rfl) (ySh.n hS rfl) rfl rfl ?_
                refine y_icmp_le rfl j_X3_smoothed_21 (fun h_15 => ?_) (fun h_16 => ?_)
                · refine y_iload_n rfl rfl ?_
                  refine y_aload_n rfl rfl ?_
                  refine y_getI rfl (ySh.t hS rfl) (ySh.n hS rfl) rfl rfl ?_
                  refine y_iload_n rfl rfl ?_
                  refine y_isub rfl ?_
                  refine y_aload_n rfl rfl ?_
                  refine y_getIv (v := I 74 2) rfl (ySh.t hS rfl) (ySh.n hS rfl) rfl rfl rfl ?_
                  refine y_min rfl rfl ?_
                  refine y_iadd rfl ?_
                  refine y_ireturn rfl rfl rfl ?_
                  refine y_ret1 ?_
                  refine y_istore (ls' := [some _, some _, some _, some _, some _, some _, _]) rfl rfl rfl ?_
                  refine y_aload_n rfl rfl ?_
                  refine y_getR rfl (ySh.t hS rfl) (ySh.n hS rfl) rfl rfl (ySh.r hS rfl) ?_
                  refine y_dup rfl rfl ?_
                  refine y_getIv (v := I 74 2) rfl (ySh.t hS rfl) (ySh.n hS rfl) rfl rfl rfl ?_
                  refine y_iload rfl rfl ?_
                  refine y_iload rfl rfl ?_
                  refine y_isub rfl ?_
                  refine y_iadd rfl ?_
                  refine y_putI rfl (ySh.t hS rfl) (ySh.n hS rfl) rfl (Nat.le_of_ble_eq_true rfl) rfl rfl ?_
                  refine y_aload_n rfl rfl ?_
                  refine y_getR rfl (ySh.t hS rfl) (ySh.n hS rfl) rfl rfl (ySh.r hS rfl) ?_
                  refine y_iload rfl rfl ?_
                  refine y_virt rfl rfl rfl rfl rfl (ySh.t hS rfl) (ySh.n hS rfl) ?_
                  refine y_setCC (by exact hC) (fun hC => ?_)
                  refine sp_payOut_X3 hS hC (fun v_ I27 hC hF1 => ?_)
                  have hF : yFt I I27 := yFt.trans (by repeat (first | exact hF | refine yFt.upd ?_ (by decide))) hF1.t
                  have hd : (I27 34 8).toInt = (I 34 8).toInt := congrArg Int32.toInt (hF1 34 8 (Or.inl (by decide)))
                  refine y_ret1 ?_
                  refine y_istore (ls' := [some _, some _, some _, some _, some _, some _, some _]) rfl rfl rfl ?_
                  refine y_aload_n rfl rfl ?_
                  refine y_getR rfl (ySh.t hS rfl) (ySh.n hS rfl) rfl rfl (ySh.r hS rfl) ?_
                  refine y_bip rfl (by decide) ?_
                  refine y_iload_n rfl rfl ?_
                  refine y_iload rfl rfl ?_
                  refine y_isub rfl ?_
                  refine y_virt rfl rfl rfl rfl rfl (ySh.t hS rfl) (ySh.n hS rfl) ?_
                  refine sp_add_X4 hS hC (fun I28 hC hF1 => ?_)
                  have hF : yFt I I28 := yFt.trans (by repeat (first | exact hF | refine yFt.upd ?_ (by decide))) hF1.t
                  have hd : (I28 34 8).toInt = (I27 34 8).toInt := congrArg Int32.toInt (hF1 34 8 (Or.inl (by decide)))
                  refine y_ret0 ?_
                  refine y_aload_n rfl rfl ?_
                  refine y_getR rfl (ySh.t hS rfl) (ySh.n hS rfl) rfl rfl (ySh.r hS rfl) ?_
                  refine y_dup rfl rfl ?_
                  refine y_getI rfl (ySh.t hS rfl) (ySh.n hS rfl) rfl rfl ?_
                  refine y_iload rfl rfl ?_
                  refine y_iload rfl rfl ?_
                  refine y_isub rfl ?_
                  refine y_iadd rfl ?_
                  refine y_putI rfl (ySh.t hS rfl) (ySh.n hS rfl) rfl (Nat.le_of_ble_eq_true rfl) rfl rfl ?_
                  refine y_iload rfl rfl ?_
                  refine y_ireturn rfl rfl rfl ?_
                  exact hQ _ _ hC (by repeat (first | exact hF | refine yFt.upd ?_ (by decide)))
                · refine y_aload_n rfl rfl ?_
                  refine y_getI rfl (ySh.t hS rfl) (ySh.n hS rfl) rfl rfl ?_
                  refine y_goto rfl j_X3_smoothed_36 ?_
                  refine y_ireturn rfl rfl rfl ?_
                  refine y_ret1 ?_
                  refine y_istore (ls' := [some _, some _, some _, some _, some _, some _, _]) rfl rfl rfl ?_
                  refine y_aload_n rfl rfl ?_
                  refine y_getR rfl (ySh.t hS rfl) (ySh.n hS rfl) rfl rfl (ySh.r hS rfl) ?_
                  refine y_dup rfl rfl ?_
                  refine y_getIv (v := I 74 2) rfl (ySh.t hS rfl) (ySh.n hS rfl) rfl rfl rfl ?_
                  refine y_iload rfl rfl ?_
                  refine y_iload rfl rfl ?_
                  refine y_isub rfl ?_
                  refine y_iadd rfl ?_
                  refine y_putI rfl (ySh.t hS rfl) (ySh.n hS rfl) rfl (Nat.le_of_ble_eq_true rfl) rfl rfl ?_
                  refine y_aload_n rfl rfl ?_
                  refine y_getR rfl (ySh.t hS rfl) (ySh.n hS rfl) rfl rfl (ySh.r hS rfl) ?_
                  refine y_iload rfl rfl ?_
                  refine y_virt rfl rfl rfl rfl rfl (ySh.t hS rfl) (ySh.n hS rfl) ?_
                  refine y_setCC (by exact hC) (fun hC => ?_)
                  refine sp_payOut_X3 hS hC (fun v_ I29 hC hF1 => ?_)
                  have hF : yFt I I29 := yFt.trans (by repeat (first | exact hF | refine yFt.upd ?_ (by decide))) hF1.t
                  have hd : (I29 34 8).toInt = (I 34 8).toInt := congrArg Int32.toInt (hF1 34 8 (Or.inl (by decide)))
                  refine y_ret1 ?_
                  refine y_istore (ls' := [some _, some _, some _, some _, some _, some _, some _]) rfl rfl rfl ?_
                  refine y_aload_n rfl rfl ?_
                  refine y_getR rfl (ySh.t hS rfl) (ySh.n hS rfl) rfl rfl (ySh.r hS rfl) ?_
                  refine y_bip rfl (by decide) ?_
                  refine y_iload_n rfl rfl ?_
                  refine y_iload rfl rfl ?_
                  refine y_isub rfl ?_
                  refine y_virt rfl rfl rfl rfl rfl (ySh.t hS rfl) (ySh.n hS rfl) ?_
                  refine sp_add_X4 hS hC (fun I30 hC hF1 => ?_)
                  have hF : yFt I I30 := yFt.trans (by repeat (first | exact hF | refine yFt.upd ?_ (by decide))) hF1.t
                  have hd : (I30 34 8).toInt = (I29 34 8).toInt := congrArg Int32.toInt (hF1 34 8 (Or.inl (by decide)))
                  refine y_ret0 ?_
                  refine y_aload_n rfl rfl ?_
                  refine y_getR rfl (ySh.t hS rfl) (ySh.n hS rfl) rfl rfl (ySh.r hS rfl) ?_
                  refine y_dup rfl rfl ?_
                  refine y_getI rfl (ySh.t hS rfl) (ySh.n hS rfl) rfl rfl ?_
                  refine y_iload rfl rfl ?_
                  refine y_iload rfl rfl ?_
                  refine y_isub rfl ?_
                  refine y_iadd rfl ?_
                  refine y_putI rfl (ySh.t hS rfl) (ySh.n hS rfl) rfl (Nat.le_of_ble_eq_true rfl) rfl rfl ?_
                  refine y_iload rfl rfl ?_
                  refine y_ireturn rfl rfl rfl ?_
                  exact hQ _ _ hC (by repeat (first | exact hF | refine yFt.upd ?_ (by decide)))
              · refine y_ret1 ?_
                refine y_virt rfl rfl rfl rfl rfl (ySh.t hS rfl) (ySh.n hS rfl) ?_
                refine y_in (M := xm_X3_smoothed) (ls := [some _, some _, some _]) rfl rfl rfl ?_
                refine y_iload_n rfl rfl ?_
                refine y_if_neF rfl (by decide) ?_
                refine y_iload_n rfl rfl ?_
                refine y_ireturn rfl rfl rfl ?_
                refine y_ret1 ?_
                refine y_istore (ls' := [some _, some _, some _, some _, some _, some _, _]) rfl rfl rfl ?_
                refine y_aload_n rfl rfl ?_
                refine y_getR rfl (ySh.t hS rfl) (ySh.n hS rfl) rfl rfl (ySh.r hS rfl) ?_
                refine y_dup rfl rfl ?_
                refine y_getIv (v := I 74 2) rfl (ySh.t hS rfl) (ySh.n hS rfl) rfl rfl rfl ?_
                refine y_iload rfl rfl ?_
                refine y_iload rfl rfl ?_
                refine y_isub rfl ?_
                refine y_iadd rfl ?_
                refine y_putI rfl (ySh.t hS rfl) (ySh.n hS rfl) rfl (Nat.le_of_ble_eq_true rfl) rfl rfl ?_
                refine y_aload_n rfl rfl ?_
                refine y_getR rfl (ySh.t hS rfl) (ySh.n hS rfl) rfl rfl (ySh.r hS rfl) ?_
                refine y_iload rfl rfl ?_
                refine y_virt rfl rfl rfl rfl rfl (ySh.t hS rfl) (ySh.n hS rfl) ?_
                refine y_setCC (by exact hC) (fun hC => ?_)
                refine sp_payOut_X3 hS hC (fun v_ I31 hC hF1 => ?_)
                have hF : yFt I I31 := yFt.trans (by repeat (first | exact hF | refine yFt.upd ?_ (by decide))) hF1.t
                have hd : (I31 34 8).toInt = (I 34 8).toInt := congrArg Int32.toInt (hF1 34 8 (Or.inl (by decide)))
                refine y_ret1 ?_
                refine y_istore (ls' := [some _, some _, some _, some _, some _, some _, some _]) rfl rfl rfl ?_
                refine y_aload_n rfl rfl ?_
                refine y_getR rfl (ySh.t hS rfl) (ySh.n hS rfl) rfl rfl (ySh.r hS rfl) ?_
                refine y_bip rfl (by decide) ?_
                refine y_iload_n rfl rfl ?_
                refine y_iload rfl rfl ?_
                refine y_isub rfl ?_
                refine y_virt rfl rfl rfl rfl rfl (ySh.t hS rfl) (ySh.n hS rfl) ?_
                refine sp_add_X4 hS hC (fun I32 hC hF1 => ?_)
                have hF : yFt I I32 := yFt.trans (by repeat (first | exact hF | refine yFt.upd ?_ (by decide))) hF1.t
                have hd : (I32 34 8).toInt = (I31 34 8).toInt := congrArg Int32.toInt (hF1 34 8 (Or.inl (by decide)))
                refine y_ret0 ?_
                refine y_aload_n rfl rfl ?_
                refine y_getR rfl (ySh.t hS rfl) (ySh.n hS rfl) rfl rfl (ySh.r hS rfl) ?_
                refine y_dup rfl rfl ?_
                refine y_getI rfl (ySh.t hS rfl) (ySh.n hS rfl) rfl rfl ?_
                refine y_iload rfl rfl ?_
                refine y_iload rfl rfl ?_
                refine y_isub rfl ?_
                refine y_iadd rfl ?_
                refine y_putI rfl (ySh.t hS rfl) (ySh.n hS rfl) rfl (Nat.le_of_ble_eq_true rfl) rfl rfl ?_
                refine y_iload rfl rfl ?_
                refine y_ireturn rfl rfl rfl ?_
                exact hQ _ _ hC (by repeat (first | exact hF | refine yFt.upd ?_ (by decide)))
theorem m_invest (hS : ySh n tg R) (hC : yCI I) {x1 : Int32} (hE1 : Q (.inr "java/lang/IllegalArgumentException") (n, tg, I, R) (c + 1) (s + 6)) (hE2 : Q (.inr "java/lang/IllegalStateException") (n, tg, I, R) (c + 1) (s + 6)) (hQ : ∀ v I1, yCI I1 → yFt I I1 → Q (.inl (some (.int v))) (n, tg, I1, R) c s) : yC 139 [.ref 34, .int x1] (n, tg, I, R) c s Q := by
  have hF : yFt I I := yFt.rf
  have hz := (yshl (x := I 77 0) (by omega) (by omega)).1.2
  refine y_in (M := xm_X8_invest) (ls := [some _, some _]) rfl rfl rfl ?_
  refine y_aload_n rfl rfl ?_
  refine y_getR rfl (ySh.t hS rfl) (ySh.n hS rfl) rfl rfl (ySh.r hS rfl) ?_
  refine y_iload_n rfl rfl ?_
  refine y_virt rfl rfl rfl rfl rfl (ySh.t hS rfl) (ySh.n hS rfl) ?_
  refine y_in (M := xm_X1_isSet) (ls := [some _, some _]) rfl rfl rfl ?_
  refine y_iload_n rfl rfl ?_
  refine y_if_lt rfl j_X1_isSet_18 (fun h_1 => ?_) (fun h_2 => ?_)
  · refine y_iconst rfl ?_
    refine y_ireturn rfl rfl rfl ?_
    refine y_ret1 ?_
    refine y_if_neF rfl (by decide) ?_
    refine y_throw rfl rfl rfl ?_
    exact hE1
  · refine y_iload_n rfl rfl ?_
    refine y_iconst rfl ?_
    refine y_aload_n rfl rfl ?_
    refine y_getI rfl (ySh.t hS rfl) (ySh.n hS rfl) rfl rfl ?_
    refine y_ishl rfl ?_
    refine y_icmp_ge rfl j_X1_isSet_18 (fun h_3 => ?_) (fun h_4 => ?_)
    · refine y_iconst rfl ?_
      refine y_ireturn rfl rfl rfl ?_
      refine y_ret1 ?_
      refine y_if_neF rfl (by decide) ?_
      refine y_throw rfl rfl rfl ?_
      exact hE1
    · refine y_iconst rfl ?_
      refine y_goto rfl j_X1_isSet_19 ?_
      refine y_ireturn rfl rfl rfl ?_
      refine y_ret1 ?_
      refine y_if_neT rfl j_X8_invest_22 (by decide) ?_
      refine y_iload_n rfl rfl ?_
      refine y_aload_n rfl rfl ?_
      refine y_getR rfl (ySh.t hS rfl) (ySh.n hS rfl) rfl rfl (ySh.r hS rfl) ?_
      refine y_getI rfl (ySh.t hS rfl) (ySh.n hS rfl) rfl rfl ?_
      refine y_iconst rfl ?_
      refine y_ixor rfl ?_
      refine y_iand rfl ?_
      refine y_if_eq rfl j_X8_invest_47 (fun h_5 => ?_) (fun h_6 => ?_)
      · refine y_aload_n rfl rfl ?_
        refine y_getR rfl (ySh.t hS rfl) (ySh.n hS rfl) rfl rfl (ySh.r hS rfl) ?_
        refine y_bip rfl (by decide) ?_
        refine y_aload_n rfl rfl ?_
        refine y_getR rfl (ySh.t hS rfl) (ySh.n hS rfl) rfl rfl (ySh.r hS rfl) ?_
        refine y_aload_n rfl rfl ?_
        refine y_getR rfl (ySh.t hS rfl) (ySh.n hS rfl) rfl rfl (ySh.r hS rfl) ?_
        refine y_getI rfl (ySh.t hS rfl) (ySh.n hS rfl) rfl rfl ?_
        refine y_virt rfl rfl rfl rfl rfl (ySh.t hS rfl) (ySh.n hS rfl) ?_
        refine y_in (M := xm_X1_prices) (ls := [some _, some _]) rfl rfl rfl ?_
        refine y_aload_n rfl rfl ?_
        refine y_iload_n rfl rfl ?_
        refine y_virt rfl rfl rfl rfl rfl (ySh.t hS rfl) (ySh.n hS rfl) ?_
        refine y_in (M := xm_X1_isSet) (ls := [some _, some _]) rfl rfl rfl ?_
        refine y_iload_n rfl rfl ?_
        refine y_if_lt rfl j_X1_isSet_18 (fun h_7 => ?_) (fun h_8 => ?_)
        · refine y_iconst rfl ?_
          refine y_ireturn rfl rfl rfl ?_
          refine y_ret1 ?_
          refine y_if_eqT rfl j_X1_prices_17 (by decide) ?_
          refine y_iconst rfl ?_
          refine y_ireturn rfl rfl rfl ?_
          refine y_ret1 ?_
          refine y_aload_n rfl rfl ?_
          refine y_getR rfl (ySh.t hS rfl) (ySh.n hS rfl) rfl rfl (ySh.r hS rfl) ?_
          refine y_iload_n rfl rfl ?_
          refine y_virt rfl rfl rfl rfl rfl (ySh.t hS rfl) (ySh.n hS rfl) ?_
          refine y_in (M := xm_X1_prices) (ls := [some _, some _]) rfl rfl rfl ?_
          refine y_aload_n rfl rfl ?_
          refine y_iload_n rfl rfl ?_
          refine y_virt rfl rfl rfl rfl rfl (ySh.t hS rfl) (ySh.n hS rfl) ?_
          refine y_in (M := xm_X1_isSet) (ls := [some _, some _]) rfl rfl rfl ?_
          refine y_iload_n rfl rfl ?_
          refine y_if_lt rfl j_X1_isSet_18 (fun h_9 => ?_) (fun h_10 => ?_)
          · refine y_iconst rfl ?_
            refine y_ireturn rfl rfl rfl ?_
            refine y_ret1 ?_
            refine y_if_eqT rfl j_X1_prices_17 (by decide) ?_
            refine y_iconst rfl ?_
            refine y_ireturn rfl rfl rfl ?_
            refine y_ret1 ?_
            refine y_isub rfl ?_
            refine y_virt rfl rfl rfl rfl rfl (ySh.t hS rfl) (ySh.n hS rfl) ?_
            refine sp_add_X4 hS hC (fun I21 hC hF1 => ?_)
            have hF : yFt I I21 := yFt.trans (by repeat (first | exact hF | refine yFt.upd ?_ (by decide))) hF1.t
            have hd : (I21 34 8).toInt = (I 34 8).toInt := congrArg Int32.toInt (hF1 34 8 (Or.inl (by decide)))
            refine y_ret0 ?_
            refine y_aload_n rfl rfl ?_
            refine y_getR rfl (ySh.t hS rfl) (ySh.n hS rfl) rfl rfl (ySh.r hS rfl) ?_
            refine y_iload_n rfl rfl ?_
            refine y_putI rfl (ySh.t hS rfl) (ySh.n hS rfl) rfl (Nat.le_of_ble_eq_true rfl) rfl rfl ?_
            refine y_aload_n rfl rfl ?_
            refine y_getR rfl (ySh.t hS rfl) (ySh.n hS rfl) rfl rfl (ySh.r hS rfl) ?_
            refine y_getR rfl (ySh.t hS rfl) (ySh.n hS rfl) rfl rfl (ySh.r hS rfl) ?_
            refine y_bip rfl (by decide) ?_
            refine y_iaload rfl (ySh.t hS rfl) (ySh.n hS rfl) (by decide) (by decide) ?_
            refine y_ireturn rfl rfl rfl ?_
            exact hQ _ _ hC (by repeat (first | exact hF | refine yFt.upd ?_ (by decide)))
          · refine y_iload_n rfl rfl ?_
            refine y_iconst rfl ?_
            refine y_aload_n rfl rfl ?_
            refine y_getI rfl (ySh.t hS rfl) (ySh.n hS rfl) rfl rfl ?_
            refine y_ishl rfl ?_
            refine y_icmp_ge rfl j_X1_isSet_18 (fun h_12 => ?_) (fun h_13 => ?_)
            · refine y_iconst rfl ?_
              refine y_ireturn rfl rfl rfl ?_
              refine y_ret1 ?_
              refine y_if_eqT rfl j_X1_prices_17 (by decide) ?_
              refine y_iconst rfl ?_
              refine y_ireturn rfl rfl rfl ?_
              refine y_ret1 ?_
              refine y_isub rfl ?_
              refine y_virt rfl rfl rfl rfl rfl (ySh.t hS rfl) (ySh.n hS rfl) ?_
              refine sp_add_X4 hS hC (fun I24 hC hF1 => ?_)
              have hF : yFt I I24 := yFt.trans (by repeat (first | exact hF | refine yFt.upd ?_ (by decide))) hF1.t
              have hd : (I24 34 8).toInt = (I 34 8).toInt := congrArg Int32.toInt (hF1 34 8 (Or.inl (by decide)))
              refine y_ret0 ?_
              refine y_aload_n rfl rfl ?_
              refine y_getR rfl (ySh.t hS rfl) (ySh.n hS rfl) rfl rfl (ySh.r hS rfl) ?_
              refine y_iload_n rfl rfl ?_
              refine y_putI rfl (ySh.t hS rfl) (ySh.n hS rfl) rfl (Nat.le_of_ble_eq_true rfl) rfl rfl ?_
              refine y_aload_n rfl rfl ?_
              refine y_getR rfl (ySh.t hS rfl) (ySh.n hS rfl) rfl rfl (ySh.r hS rfl) ?_
              refine y_getR rfl (ySh.t hS rfl) (ySh.n hS rfl) rfl rfl (ySh.r hS rfl) ?_
              refine y_bip rfl (by decide) ?_
              refine y_iaload rfl (ySh.t hS rfl) (ySh.n hS rfl) (by decide) (by decide) ?_
              refine y_ireturn rfl rfl rfl ?_
              exact hQ _ _ hC (by repeat (first | exact hF | refine yFt.upd ?_ (by decide)))
            · refine y_iconst rfl ?_
              refine y_goto rfl j_X1_isSet_19 ?_
              refine y_ireturn rfl rfl rfl ?_
              refine y_ret1 ?_
              refine y_if_eqF rfl (by decide) ?_
              refine y_aload_n rfl rfl ?_
              refine y_getR rfl (ySh.t hS rfl) (ySh.n hS rfl) rfl rfl (ySh.r hS rfl) ?_
              refine y_iload_n rfl rfl ?_
              refine y_iaload rfl (ySh.t hS rfl) (ySh.n hS rfl) (by omega) (by omega) ?_
              refine y_goto rfl j_X1_prices_18 ?_
              refine y_ireturn rfl rfl rfl ?_
              refine y_ret1 ?_
              refine y_isub rfl ?_
              refine y_virt rfl rfl rfl rfl rfl (ySh.t hS rfl) (ySh.n hS rfl) ?_
              refine sp_add_X4 hS hC (fun I25 hC hF1 => ?_)
              have hF : yFt I I25 := yFt.trans (by repeat (first | exact hF | refine yFt.upd ?_ (by decide))) hF1.t
              have hd : (I25 34 8).toInt = (I 34 8).toInt := congrArg Int32.toInt (hF1 34 8 (Or.inl (by decide)))
              refine y_ret0 ?_
              refine y_aload_n rfl rfl ?_
              refine y_getR rfl (ySh.t hS rfl) (ySh.n hS rfl) rfl rfl (ySh.r hS rfl) ?_
              refine y_iload_n rfl rfl ?_
              refine y_putI rfl (ySh.t hS rfl) (ySh.n hS rfl) rfl (Nat.le_of_ble_eq_true rfl) rfl rfl ?_
              refine y_aload_n rfl rfl ?_
              refine y_getR rfl (ySh.t hS rfl) (ySh.n hS rfl) rfl rfl (ySh.r hS rfl) ?_
              refine y_getR rfl (ySh.t hS rfl) (ySh.n hS rfl) rfl rfl (ySh.r hS rfl) ?_
              refine y_bip rfl (by decide) ?_
              refine y_iaload rfl (ySh.t hS rfl) (ySh.n hS rfl) (by decide) (by decide) ?_
              refine y_ireturn rfl rfl rfl ?_
              exact hQ _ _ hC (by repeat (first | exact hF | refine yFt.upd ?_ (by decide)))
        · refine y_iload_n rfl rfl ?_
          refine y_iconst rfl ?_
          refine y_aload_n rfl rfl ?_
          refine y_getI rfl (ySh.t hS rfl) (ySh.n hS rfl) rfl rfl ?_
          refine y_ishl rfl ?_
          refine y_icmp_ge rfl j_X1_isSet_18 (fun h_16 => ?_) (fun h_17 => ?_)
          · refine y_iconst rfl ?_
            refine y_ireturn rfl rfl rfl ?_
            refine y_ret1 ?_
            refine y_if_eqT rfl j_X1_prices_17 (by decide) ?_
            refine y_iconst rfl ?_
            refine y_ireturn rfl rfl rfl ?_
            refine y_ret1 ?_
            refine y_aload_n rfl rfl ?_
            refine y_getR rfl (ySh.t hS rfl) (ySh.n hS rfl) rfl rfl (ySh.r hS rfl) ?_
            refine y_iload_n rfl rfl ?_
            refine y_virt rfl rfl rfl rfl rfl (ySh.t hS rfl) (ySh.n hS rfl) ?_
            refine y_in (M := xm_X1_prices) (ls := [some _, some _]) rfl rfl rfl ?_
            refine y_aload_n rfl rfl ?_
            refine y_iload_n rfl rfl ?_
            refine y_virt rfl rfl rfl rfl rfl (ySh.t hS rfl) (ySh.n hS rfl) ?_
            refine y_in (M := xm_X1_isSet) (ls := [some _, some _]) rfl rfl rfl ?_
            refine y_iload_n rfl rfl ?_
            refine y_if_lt rfl j_X1_isSet_18 (fun h_18 => ?_) (fun h_19 => ?_)
            · refine y_iconst rfl ?_
              refine y_ireturn rfl rfl rfl ?_
              refine y_ret1 ?_
              refine y_if_eqT rfl j_X1_prices_17 (by decide) ?_
              refine y_iconst rfl ?_
              refine y_ireturn rfl rfl rfl ?_
              refine y_ret1 ?_
              refine y_isub rfl ?_
              refine y_virt rfl rfl rfl rfl rfl (ySh.t hS rfl) (ySh.n hS rfl) ?_
              refine sp_add_X4 hS hC (fun I30 hC hF1 => ?_)
              have hF : yFt I I30 := yFt.trans (by repeat (first | exact hF | refine yFt.upd ?_ (by decide))) hF1.t
              have hd : (I30 34 8).toInt = (I 34 8).toInt := congrArg Int32.toInt (hF1 34 8 (Or.inl (by decide)))
              refine y_ret0 ?_
              refine y_aload_n rfl rfl ?_
              refine y_getR rfl (ySh.t hS rfl) (ySh.n hS rfl) rfl rfl (ySh.r hS rfl) ?_
              refine y_iload_n rfl rfl ?_
              refine y_putI rfl (ySh.t hS rfl) (ySh.n hS rfl) rfl (Nat.le_of_ble_eq_true rfl) rfl rfl ?_
              refine y_aload_n rfl rfl ?_
              refine y_getR rfl (ySh.t hS rfl) (ySh.n hS rfl) rfl rfl (ySh.r hS rfl) ?_
              refine y_getR rfl (ySh.t hS rfl) (ySh.n hS rfl) rfl rfl (ySh.r hS rfl) ?_
              refine y_bip rfl (by decide) ?_
              refine y_iaload rfl (ySh.t hS rfl) (ySh.n hS rfl) (by decide) (by decide) ?_
              refine y_ireturn rfl rfl rfl ?_
              exact hQ _ _ hC (by repeat (first | exact hF | refine yFt.upd ?_ (by decide)))
            · refine y_iload_n rfl rfl ?_
              refine y_iconst rfl ?_
              refine y_aload_n rfl rfl ?_
              refine y_getI rfl (ySh.t hS rfl) (ySh.n hS rfl) rfl rfl ?_
              refine y_ishl rfl ?_
              refine y_icmp_ge rfl j_X1_isSet_18 (fun h_21 => ?_) (fun h_22 => ?_)
              · refine y_iconst rfl ?_
                refine y_ireturn rfl rfl rfl ?_
                refine y_ret1 ?_
                refine y_if_eqT rfl j_X1_prices_17 (by decide) ?_
                refine y_iconst rfl ?_
                refine y_ireturn rfl rfl rfl ?_
                refine y_ret1 ?_
                refine y_isub rfl ?_
                refine y_virt rfl rfl rfl rfl rfl (ySh.t hS rfl) (ySh.n hS rfl) ?_
                refine sp_add_X4 hS hC (fun I33 hC hF1 => ?_)
                have hF : yFt I I33 := yFt.trans (by repeat (first | exact hF | refine yFt.upd ?_ (by decide))) hF1.t
                have hd : (I33 34 8).toInt = (I 34 8).toInt := congrArg Int32.toInt (hF1 34 8 (Or.inl (by decide)))
                refine y_ret0 ?_
                refine y_aload_n rfl rfl ?_
                refine y_getR rfl (ySh.t hS rfl) (ySh.n hS rfl) rfl rfl (ySh.r hS rfl) ?_
                refine y_iload_n rfl rfl ?_
                refine y_putI rfl (ySh.t hS rfl) (ySh.n hS rfl) rfl (Nat.le_of_ble_eq_true rfl) rfl rfl ?_
                refine y_aload_n rfl rfl ?_
                refine y_getR rfl (ySh.t hS rfl) (ySh.n hS rfl) rfl rfl (ySh.r hS rfl) ?_
                refine y_getR rfl (ySh.t hS rfl) (ySh.n hS rfl) rfl rfl (ySh.r hS rfl) ?_
                refine y_bip rfl (by decide) ?_
                refine y_iaload rfl (ySh.t hS rfl) (ySh.n hS rfl) (by decide) (by decide) ?_
                refine y_ireturn rfl rfl rfl ?_
                exact hQ _ _ hC (by repeat (first | exact hF | refine yFt.upd ?_ (by decide)))
              · refine y_iconst rfl ?_
                refine y_goto rfl j_X1_isSet_19 ?_
                refine y_ireturn rfl rfl rfl ?_
                refine y_ret1 ?_
                refine y_if_eqF rfl (by decide) ?_
                refine y_aload_n rfl rfl ?_
                refine y_getR rfl (ySh.t hS rfl) (ySh.n hS rfl) rfl rfl (ySh.r hS rfl) ?_
                refine y_iload_n rfl rfl ?_
                refine y_iaload rfl (ySh.t hS rfl) (ySh.n hS rfl) (by omega) (by omega) ?_
                refine y_goto rfl j_X1_prices_18 ?_
                refine y_ireturn rfl rfl rfl ?_
                refine y_ret1 ?_
                refine y_isub rfl ?_
                refine y_virt rfl rfl rfl rfl rfl (ySh.t hS rfl) (ySh.n hS rfl) ?_
                refine sp_add_X4 hS hC (fun I34 hC hF1 => ?_)
                have hF : yFt I I34 := yFt.trans (by repeat (first | exact hF | refine yFt.upd ?_ (by decide))) hF1.t
                have hd : (I34 34 8).toInt = (I 34 8).toInt := congrArg Int32.toInt (hF1 34 8 (Or.inl (by decide)))
                refine y_ret0 ?_
                refine y_aload_n rfl rfl ?_
                refine y_getR rfl (ySh.t hS rfl) (ySh.n hS rfl) rfl rfl (ySh.r hS rfl) ?_
                refine y_iload_n rfl rfl ?_
                refine y_putI rfl (ySh.t hS rfl) (ySh.n hS rfl) rfl (Nat.le_of_ble_eq_true rfl) rfl rfl ?_
                refine y_aload_n rfl rfl ?_
                refine y_getR rfl (ySh.t hS rfl) (ySh.n hS rfl) rfl rfl (ySh.r hS rfl) ?_
                refine y_getR rfl (ySh.t hS rfl) (ySh.n hS rfl) rfl rfl (ySh.r hS rfl) ?_
                refine y_bip rfl (by decide) ?_
                refine y_iaload rfl (ySh.t hS rfl) (ySh.n hS rfl) (by decide) (by decide) ?_
                refine y_ireturn rfl rfl rfl ?_
                exact hQ _ _ hC (by repeat (first | exact hF | refine yFt.upd ?_ (by decide)))
          · refine y_iconst rfl ?_
            refine y_goto rfl j_X1_isSet_19 ?_
            refine y_ireturn rfl rfl rfl ?_
            refine y_ret1 ?_
            refine y_if_eqF rfl (by decide) ?_
            refine y_aload_n rfl rfl ?_
            refine y_getR rfl (ySh.t hS rfl) (ySh.n hS rfl) rfl rfl (ySh.r hS rfl) ?_
            refine y_iload_n rfl rfl ?_
            refine y_iaload rfl (ySh.t hS rfl) (ySh.n hS rfl) (by omega) (by omega) ?_
            refine y_goto rfl j_X1_prices_18 ?_
            refine y_ireturn rfl rfl rfl ?_
            refine y_ret1 ?_
            refine y_aload_n rfl rfl ?_
            refine y_getR rfl (ySh.t hS rfl) (ySh.n hS rfl) rfl rfl (ySh.r hS rfl) ?_
            refine y_iload_n rfl rfl ?_
            refine y_virt rfl rfl rfl rfl rfl (ySh.t hS rfl) (ySh.n hS rfl) ?_
            refine y_in (M := xm_X1_prices) (ls := [some _, some _]) rfl rfl rfl ?_
            refine y_aload_n rfl rfl ?_
            refine y_iload_n rfl rfl ?_
            refine y_virt rfl rfl rfl rfl rfl (ySh.t hS rfl) (ySh.n hS rfl) ?_
            refine y_in (M := xm_X1_isSet) (ls := [some _, some _]) rfl rfl rfl ?_
            refine y_iload_n rfl rfl ?_
            refine y_if_lt rfl j_X1_isSet_18 (fun h_25 => ?_) (fun h_26 => ?_)
            · refine y_iconst rfl ?_
              refine y_ireturn rfl rfl rfl ?_
              refine y_ret1 ?_
              refine y_if_eqT rfl j_X1_prices_17 (by decide) ?_
              refine y_iconst rfl ?_
              refine y_ireturn rfl rfl rfl ?_
              refine y_ret1 ?_
              refine y_isub rfl ?_
              refine y_virt rfl rfl rfl rfl rfl (ySh.t hS rfl) (ySh.n hS rfl) ?_
              refine sp_add_X4 hS hC (fun I37 hC hF1 => ?_)
              have hF : yFt I I37 := yFt.trans (by repeat (first | exact hF | refine yFt.upd ?_ (by decide))) hF1.t
              have hd : (I37 34 8).toInt = (I 34 8).toInt := congrArg Int32.toInt (hF1 34 8 (Or.inl (by decide)))
              refine y_ret0 ?_
              refine y_aload_n rfl rfl ?_
              refine y_getR rfl (ySh.t hS rfl) (ySh.n hS rfl) rfl rfl (ySh.r hS rfl) ?_
              refine y_iload_n rfl rfl ?_
              refine y_putI rfl (ySh.t hS rfl) (ySh.n hS rfl) rfl (Nat.le_of_ble_eq_true rfl) rfl rfl ?_
              refine y_aload_n rfl rfl ?_
              refine y_getR rfl (ySh.t hS rfl) (ySh.n hS rfl) rfl rfl (ySh.r hS rfl) ?_
              refine y_getR rfl (ySh.t hS rfl) (ySh.n hS rfl) rfl rfl (ySh.r hS rfl) ?_
              refine y_bip rfl (by decide) ?_
              refine y_iaload rfl (ySh.t hS rfl) (ySh.n hS rfl) (by decide) (by decide) ?_
              refine y_ireturn rfl rfl rfl ?_
              exact hQ _ _ hC (by repeat (first | exact hF | refine yFt.upd ?_ (by decide)))
            · refine y_iload_n rfl rfl ?_
              refine y_iconst rfl ?_
              refine y_aload_n rfl rfl ?_
              refine y_getI rfl (ySh.t hS rfl) (ySh.n hS rfl) rfl rfl ?_
              refine y_ishl rfl ?_
              refine y_icmp_ge rfl j_X1_isSet_18 (fun h_28 => ?_) (fun h_29 => ?_)
              · refine y_iconst rfl ?_
                refine y_ireturn rfl rfl rfl ?_
                refine y_ret1 ?_
                refine y_if_eqT rfl j_X1_prices_17 (by decide) ?_
                refine y_iconst rfl ?_
                refine y_ireturn rfl rfl rfl ?_
                refine y_ret1 ?_
                refine y_isub rfl ?_
                refine y_virt rfl rfl rfl rfl rfl (ySh.t hS rfl) (ySh.n hS rfl) ?_
                refine sp_add_X4 hS hC (fun I40 hC hF1 => ?_)
                have hF : yFt I I40 := yFt.trans (by repeat (first | exact hF | refine yFt.upd ?_ (by decide))) hF1.t
                have hd : (I40 34 8).toInt = (I 34 8).toInt := congrArg Int32.toInt (hF1 34 8 (Or.inl (by decide)))
                refine y_ret0 ?_
                refine y_aload_n rfl rfl ?_
                refine y_getR rfl (ySh.t hS rfl) (ySh.n hS rfl) rfl rfl (ySh.r hS rfl) ?_
                refine y_iload_n rfl rfl ?_
                refine y_putI rfl (ySh.t hS rfl) (ySh.n hS rfl) rfl (Nat.le_of_ble_eq_true rfl) rfl rfl ?_
                refine y_aload_n rfl rfl ?_
                refine y_getR rfl (ySh.t hS rfl) (ySh.n hS rfl) rfl rfl (ySh.r hS rfl) ?_
                refine y_getR rfl (ySh.t hS rfl) (ySh.n hS rfl) rfl rfl (ySh.r hS rfl) ?_
                refine y_bip rfl (by decide) ?_
                refine y_iaload rfl (ySh.t hS rfl) (ySh.n hS rfl) (by decide) (by decide) ?_
                refine y_ireturn rfl rfl rfl ?_
                exact hQ _ _ hC (by repeat (first | exact hF | refine yFt.upd ?_ (by decide)))
              · refine y_iconst rfl ?_
                refine y_goto rfl j_X1_isSet_19 ?_
                refine y_ireturn rfl rfl rfl ?_
                refine y_ret1 ?_
                refine y_if_eqF rfl (by decide) ?_
                refine y_aload_n rfl rfl ?_
                refine y_getR rfl (ySh.t hS rfl) (ySh.n hS rfl) rfl rfl (ySh.r hS rfl) ?_
                refine y_iload_n rfl rfl ?_
                refine y_iaload rfl (ySh.t hS rfl) (ySh.n hS rfl) (by omega) (by omega) ?_
                refine y_goto rfl j_X1_prices_18 ?_
                refine y_ireturn rfl rfl rfl ?_
                refine y_ret1 ?_
                refine y_isub rfl ?_
                refine y_virt rfl rfl rfl rfl rfl (ySh.t hS rfl) (ySh.n hS rfl) ?_
                refine sp_add_X4 hS hC (fun I41 hC hF1 => ?_)
                have hF : yFt I I41 := yFt.trans (by repeat (first | exact hF | refine yFt.upd ?_ (by decide))) hF1.t
                have hd : (I41 34 8).toInt = (I 34 8).toInt := congrArg Int32.toInt (hF1 34 8 (Or.inl (by decide)))
                refine y_ret0 ?_
                refine y_aload_n rfl rfl ?_
                refine y_getR rfl (ySh.t hS rfl) (ySh.n hS rfl) rfl rfl (ySh.r hS rfl) ?_
                refine y_iload_n rfl rfl ?_
                refine y_putI rfl (ySh.t hS rfl) (ySh.n hS rfl) rfl (Nat.le_of_ble_eq_true rfl) rfl rfl ?_
                refine y_aload_n rfl rfl ?_
                refine y_getR rfl (ySh.t hS rfl) (ySh.n hS rfl) rfl rfl (ySh.r hS rfl) ?_
                refine y_getR rfl (ySh.t hS rfl) (ySh.n hS rfl) rfl rfl (ySh.r hS rfl) ?_
                refine y_bip rfl (by decide) ?_
                refine y_iaload rfl (ySh.t hS rfl) (ySh.n hS rfl) (by decide) (by decide) ?_
                refine y_ireturn rfl rfl rfl ?_
                exact hQ _ _ hC (by repeat (first | exact hF | refine yFt.upd ?_ (by decide)))
      · refine y_throw rfl rfl rfl ?_
        exact hE2
theorem m_dividend (hS : ySh n tg R) (hC : yCI I) {x1 x2 : Int32} (hE0 : Q (.inr "java/lang/IndexOutOfBoundsException") (n, tg, I, R) (c + 1) (s + 6)) (hE1 : Q (.inr "java/lang/IllegalArgumentException") (n, tg, I, R) (c + 1) (s + 6)) (hE2 : Q (.inr "java/lang/IllegalStateException") (n, tg, I, R) (c + 1) (s + 6)) (hQ : ∀ v I1, yCI I1 → yFt I I1 → Q (.inl (some (.int v))) (n, tg, I1, R) c s) : yC 140 [.ref 34, .int x1, .int x2] (n, tg, I, R) c s Q := by
  have hF : yFt I I := yFt.rf
  refine y_in (M := xm_X8_dividend) (ls := [some _, some _, some _, _]) rfl rfl rfl ?_
  refine y_aload_n rfl rfl ?_
  refine y_getR rfl (ySh.t hS rfl) (ySh.n hS rfl) rfl rfl (ySh.r hS rfl) ?_
  refine y_iload_n rfl rfl ?_
  refine y_virt rfl rfl rfl rfl rfl (ySh.t hS rfl) (ySh.n hS rfl) ?_
  refine y_in (M := xm_X1_has) (ls := [some _, some _]) rfl rfl rfl ?_
  refine y_iload_n rfl rfl ?_
  refine y_if_lt rfl j_X1_has_16 (fun h_1 => ?_) (fun h_2 => ?_)
  · refine y_iconst rfl ?_
    refine y_ireturn rfl rfl rfl ?_
    refine y_ret1 ?_
    refine y_if_neF rfl (by decide) ?_
    refine y_throw rfl rfl rfl ?_
    exact hE0
  · refine y_iload_n rfl rfl ?_
    refine y_aload_n rfl rfl ?_
    refine y_getI rfl (ySh.t hS rfl) (ySh.n hS rfl) rfl rfl ?_
    refine y_icmp_ge rfl j_X1_has_16 (fun h_3 => ?_) (fun h_4 => ?_)
    · refine y_iconst rfl ?_
      refine y_ireturn rfl rfl rfl ?_
      refine y_ret1 ?_
      refine y_if_neF rfl (by decide) ?_
      refine y_throw rfl rfl rfl ?_
      exact hE0
    · refine y_iconst rfl ?_
      refine y_goto rfl j_X1_has_17 ?_
      refine y_ireturn rfl rfl rfl ?_
      refine y_ret1 ?_
      refine y_if_neT rfl j_X8_dividend_22 (by decide) ?_
      refine y_iload_n rfl rfl ?_
      refine y_iconst rfl ?_
      refine y_sip rfl (by decide) ?_
      refine y_static rfl rfl rfl rfl rfl ?_
      refine y_in (M := xm_X8_isIn) (ls := [some _, some _, some _]) rfl rfl rfl ?_
      refine y_iload_n rfl rfl ?_
      refine y_iload_n rfl rfl ?_
      refine y_icmp_lt rfl j_X8_isIn_14 (fun h_5 => ?_) (fun h_6 => ?_)
      · rw [yz_0] at h_5
        refine y_iconst rfl ?_
        refine y_ireturn rfl rfl rfl ?_
        refine y_ret1 ?_
        refine y_if_neF rfl (by decide) ?_
        refine y_throw rfl rfl rfl ?_
        exact hE1
      · rw [yz_0] at h_6
        refine y_iload_n rfl rfl ?_
        refine y_iload_n rfl rfl ?_
        refine y_icmp_gt rfl j_X8_isIn_14 (fun h_7 => ?_) (fun h_8 => ?_)
        · rw [yz_999] at h_7
          refine y_iconst rfl ?_
          refine y_ireturn rfl rfl rfl ?_
          refine y_ret1 ?_
          refine y_if_neF rfl (by decide) ?_
          refine y_throw rfl rfl rfl ?_
          exact hE1
        · rw [yz_999] at h_8
          refine y_iconst rfl ?_
          refine y_goto rfl j_X8_isIn_15 ?_
          refine y_ireturn rfl rfl rfl ?_
          refine y_ret1 ?_
          refine y_if_neT rfl j_X8_dividend_44 (by decide) ?_
          refine y_aload_n rfl rfl ?_
          refine y_getR rfl (ySh.t hS rfl) (ySh.n hS rfl) rfl rfl (ySh.r hS rfl) ?_
          refine y_iload_n rfl rfl ?_
          refine y_virt rfl rfl rfl rfl rfl (ySh.t hS rfl) (ySh.n hS rfl) ?_
          refine y_in (M := xm_X1_isHeld) (ls := [some _, some _]) rfl rfl rfl ?_
          refine y_aload_n rfl rfl ?_
          refine y_getI rfl (ySh.t hS rfl) (ySh.n hS rfl) rfl rfl ?_
          refine y_iload_n rfl rfl ?_
          refine y_ishr rfl ?_
          refine y_iconst rfl ?_
          refine y_iand rfl ?_
          refine y_iconst rfl ?_
          refine y_icmp_ne rfl j_X1_isHeld_16 (fun h_9 => ?_) (fun h_10 => ?_)
          · rw [yz_1] at h_9
            refine y_iconst rfl ?_
            refine y_ireturn rfl rfl rfl ?_
            refine y_ret1 ?_
            refine y_if_neF rfl (by decide) ?_
            refine y_throw rfl rfl rfl ?_
            exact hE2
          · rw [yz_1] at h_10
            refine y_iconst rfl ?_
            refine y_goto rfl j_X1_isHeld_17 ?_
            refine y_ireturn rfl rfl rfl ?_
            refine y_ret1 ?_
            refine y_if_neT rfl j_X8_dividend_66 (by decide) ?_
            refine y_aload_n rfl rfl ?_
            refine y_getR rfl (ySh.t hS rfl) (ySh.n hS rfl) rfl rfl (ySh.r hS rfl) ?_
            refine y_iload_n rfl rfl ?_
            refine y_iload_n rfl rfl ?_
            refine y_virt rfl rfl rfl rfl rfl (ySh.t hS rfl) (ySh.n hS rfl) ?_
            refine y_in (M := xm_X1_tainted) (ls := [some _, some _, some _, _, _]) rfl rfl rfl ?_
            refine y_aload_n rfl rfl ?_
            refine y_getR rfl (ySh.t hS rfl) (ySh.n hS rfl) rfl rfl (ySh.r hS rfl) ?_
            refine y_iload_n rfl rfl ?_
            refine y_iaload rfl (ySh.t hS rfl) (ySh.n hS rfl) (by omega) (by omega) ?_
            refine y_iconst rfl ?_
            refine y_isub rfl ?_
            refine y_istore_n (ls' := [some _, some _, some _, some _, _]) rfl rfl rfl ?_
            refine y_iload_n rfl rfl ?_
            refine y_aload_n rfl rfl ?_
            refine y_getR rfl (ySh.t hS rfl) (ySh.n hS rfl) rfl rfl (ySh.r hS rfl) ?_
            refine y_iload_n rfl rfl ?_
            refine y_iaload rfl (ySh.t hS rfl) (ySh.n hS rfl) (by omega) (by omega) ?_
            refine y_imul rfl ?_
            refine y_istore (ls' := [some _, some _, some _, some _, some _]) rfl rfl rfl ?_
            refine y_iload rfl rfl ?_
            refine y_iload_n rfl rfl ?_
            refine y_iadd rfl ?_
            refine y_i2l rfl ?_
            refine y_lconst rfl ?_
            refine y_aload_n rfl rfl ?_
            refine y_getR rfl (ySh.t hS rfl) (ySh.n hS rfl) rfl rfl (ySh.r hS rfl) ?_
            refine y_iload_n rfl rfl ?_
            refine y_iaload rfl (ySh.t hS rfl) (ySh.n hS rfl) (by omega) (by omega) ?_
            refine y_i2l rfl ?_
            refine y_static rfl rfl rfl rfl rfl ?_
            refine sp_portion ?_
            refine y_ret1 ?_
            refine y_iload_n rfl rfl ?_
            refine y_min rfl rfl ?_
            refine y_ireturn rfl rfl rfl ?_
            refine y_ret1 ?_
            refine y_istore_n (ls' := [some _, some _, some _, some _]) rfl rfl rfl ?_
            refine y_aload_n rfl rfl ?_
            refine y_getR rfl (ySh.t hS rfl) (ySh.n hS rfl) rfl rfl (ySh.r hS rfl) ?_
            refine y_bip rfl (by decide) ?_
            refine y_iload_n rfl rfl ?_
            refine y_virt rfl rfl rfl rfl rfl (ySh.t hS rfl) (ySh.n hS rfl) ?_
            refine sp_add_X4 hS hC (fun I21 hC hF1 => ?_)
            have hF : yFt I I21 := yFt.trans (by repeat (first | exact hF | refine yFt.upd ?_ (by decide))) hF1.t
            have hd : (I21 34 8).toInt = (I 34 8).toInt := congrArg Int32.toInt (hF1 34 8 (Or.inl (by decide)))
            refine y_ret0 ?_
            refine y_aload_n rfl rfl ?_
            refine y_getR rfl (ySh.t hS rfl) (ySh.n hS rfl) rfl rfl (ySh.r hS rfl) ?_
            refine y_bip rfl (by decide) ?_
            refine y_iload_n rfl rfl ?_
            refine y_virt rfl rfl rfl rfl rfl (ySh.t hS rfl) (ySh.n hS rfl) ?_
            refine y_in (M := xm_X4_giveAway) (ls := [some _, some _, some _]) rfl rfl rfl ?_
            refine y_aload_n rfl rfl ?_
            refine y_iload_n rfl rfl ?_
            refine y_iload_n rfl rfl ?_
            refine y_ineg rfl ?_
            refine y_virt rfl rfl rfl rfl rfl (ySh.t hS rfl) (ySh.n hS rfl) ?_
            refine sp_add_X4 hS hC (fun I22 hC hF1 => ?_)
            have hF : yFt I I22 := yFt.trans (by repeat (first | exact hF | refine yFt.upd ?_ (by decide))) hF1.t
            have hd : (I22 34 8).toInt = (I21 34 8).toInt := congrArg Int32.toInt (hF1 34 8 (Or.inl (by decide)))
            refine y_ret0 ?_
            refine y_aload_n rfl rfl ?_
            refine y_dup rfl rfl ?_
            refine y_getI rfl (ySh.t hS rfl) (ySh.n hS rfl) rfl rfl ?_
            refine y_iload_n rfl rfl ?_
            refine y_iadd rfl ?_
            refine y_putI rfl (ySh.t hS rfl) (ySh.n hS rfl) rfl (Nat.le_of_ble_eq_true rfl) rfl rfl ?_
            refine y_return rfl ?_
            refine y_ret0 ?_
            refine y_aload_n rfl rfl ?_
            refine y_getR rfl (ySh.t hS rfl) (ySh.n hS rfl) rfl rfl (ySh.r hS rfl) ?_
            refine y_getR rfl (ySh.t hS rfl) (ySh.n hS rfl) rfl rfl (ySh.r hS rfl) ?_
            refine y_iload_n rfl rfl ?_
            refine y_dup2 rfl rfl rfl ?_
            refine y_iaload rfl (ySh.t hS rfl) (ySh.n hS rfl) (by omega) (by omega) ?_
            refine y_iload_n rfl rfl ?_
            refine y_iadd rfl ?_
            refine y_iastore rfl (ySh.t hS rfl) (ySh.n hS rfl) (Nat.le_of_ble_eq_true rfl) (by omega) (by omega) ?_
            refine y_iload_n rfl rfl ?_
            refine y_ireturn rfl rfl rfl ?_
            exact hQ _ _ hC (by repeat (first | exact hF | refine yFt.upd ?_ (by decide)))
theorem m_ofPerson (hS : ySh n tg R) (hC : yCI I) {x1 x2 : Int32} (hE0 : ¬ (0 ≤ x1.toInt ∧ x1.toInt < (I 38 0).toInt) → Q (.inr "java/lang/IndexOutOfBoundsException") (n, tg, I, R) (c + 1) (s + 6)) (hE1 : ¬ (0 ≤ x2.toInt ∧ x2.toInt ≤ 7) → Q (.inr "java/lang/IllegalArgumentException") (n, tg, I, R) (c + 1) (s + 6)) (hQ : ∀ v, Q (.inl (some (.int v))) (n, tg, I, R) c s) : yC 142 [.ref 34, .int x1, .int x2] (n, tg, I, R) c s Q := by
  refine y_in (M := xm_X8_ofPerson) (ls := [some _, some _, some _]) rfl rfl rfl ?_
  refine y_aload_n rfl rfl ?_
  refine y_getR rfl (ySh.t hS rfl) (ySh.n hS rfl) rfl rfl (ySh.r hS rfl) ?_
  refine y_iload_n rfl rfl ?_
  refine y_virt rfl rfl rfl rfl rfl (ySh.t hS rfl) (ySh.n hS rfl) ?_
  refine y_in (M := xm_X4_has) (ls := [some _, some _]) rfl rfl rfl ?_
  refine y_iload_n rfl rfl ?_
  refine y_if_lt rfl j_X4_has_16 (fun h_1 => ?_) (fun h_2 => ?_)
  · refine y_iconst rfl ?_
    refine y_ireturn rfl rfl rfl ?_
    refine y_ret1 ?_
    refine y_if_neF rfl (by decide) ?_
    refine y_throw rfl rfl rfl ?_
    exact hE0 (by omega)
  · refine y_iload_n rfl rfl ?_
    refine y_aload_n rfl rfl ?_
    refine y_getI rfl (ySh.t hS rfl) (ySh.n hS rfl) rfl rfl ?_
    refine y_icmp_ge rfl j_X4_has_16 (fun h_3 => ?_) (fun h_4 => ?_)
    · refine y_iconst rfl ?_
      refine y_ireturn rfl rfl rfl ?_
      refine y_ret1 ?_
      refine y_if_neF rfl (by decide) ?_
      refine y_throw rfl rfl rfl ?_
      exact hE0 (by omega)
    · refine y_iconst rfl ?_
      refine y_goto rfl j_X4_has_17 ?_
      refine y_ireturn rfl rfl rfl ?_
      refine y_ret1 ?_
      refine y_if_neT rfl j_X8_ofPerson_22 (by decide) ?_
      refine y_iload_n rfl rfl ?_
      refine y_sw rfl (fun h_6 => ?_) (fun h_5 => ?_)
      · refine y_swOut rfl j_X8_ofPerson_143 h_6 ?_
        refine y_throw rfl rfl rfl ?_
        exact hE1 (by omega)
      rcases ySwC0_7 h_5 with h_5 | h_5 | h_5 | h_5 | h_5 | h_5 | h_5 | h_5
      · refine y_swIn (j := 0) rfl h_5 (by decide) j_X8_ofPerson_68 ?_
        refine y_aload_n rfl rfl ?_
        refine y_getR rfl (ySh.t hS rfl) (ySh.n hS rfl) rfl rfl (ySh.r hS rfl) ?_
        refine y_getR rfl (ySh.t hS rfl) (ySh.n hS rfl) rfl rfl (ySh.r hS rfl) ?_
        refine y_iload_n rfl rfl ?_
        refine y_iaload rfl (ySh.t hS rfl) (ySh.n hS rfl) (by omega) (by omega) ?_
        refine y_ireturn rfl rfl rfl ?_
        exact hQ _
      · refine y_swIn (j := 1) rfl h_5 (by decide) j_X8_ofPerson_78 ?_
        refine y_aload_n rfl rfl ?_
        refine y_getR rfl (ySh.t hS rfl) (ySh.n hS rfl) rfl rfl (ySh.r hS rfl) ?_
        refine y_iload_n rfl rfl ?_
        refine y_virt rfl rfl rfl rfl rfl (ySh.t hS rfl) (ySh.n hS rfl) ?_
        refine sp_ownedBy_X6 hS hC (fun v_ => ?_)
        refine y_ret1 ?_
        refine y_ireturn rfl rfl rfl ?_
        exact hQ _
      · refine y_swIn (j := 2) rfl h_5 (by decide) j_X8_ofPerson_87 ?_
        refine y_aload_n rfl rfl ?_
        refine y_getR rfl (ySh.t hS rfl) (ySh.n hS rfl) rfl rfl (ySh.r hS rfl) ?_
        refine y_getR rfl (ySh.t hS rfl) (ySh.n hS rfl) rfl rfl (ySh.r hS rfl) ?_
        refine y_iload_n rfl rfl ?_
        refine y_iaload rfl (ySh.t hS rfl) (ySh.n hS rfl) (by omega) (by omega) ?_
        refine y_ireturn rfl rfl rfl ?_
        exact hQ _
      · refine y_swIn (j := 3) rfl h_5 (by decide) j_X8_ofPerson_97 ?_
        refine y_aload_n rfl rfl ?_
        refine y_getR rfl (ySh.t hS rfl) (ySh.n hS rfl) rfl rfl (ySh.r hS rfl) ?_
        refine y_getR rfl (ySh.t hS rfl) (ySh.n hS rfl) rfl rfl (ySh.r hS rfl) ?_
        refine y_iload_n rfl rfl ?_
        refine y_iaload rfl (ySh.t hS rfl) (ySh.n hS rfl) (by omega) (by omega) ?_
        refine y_ireturn rfl rfl rfl ?_
        exact hQ _
      · refine y_swIn (j := 4) rfl h_5 (by decide) j_X8_ofPerson_107 ?_
        refine y_aload_n rfl rfl ?_
        refine y_getR rfl (ySh.t hS rfl) (ySh.n hS rfl) rfl rfl (ySh.r hS rfl) ?_
        refine y_iload_n rfl rfl ?_
        refine y_virt rfl rfl rfl rfl rfl (ySh.t hS rfl) (ySh.n hS rfl) ?_
        refine sp_partsLeftOf_X5 hS hC (fun v_ => ?_)
        refine y_ret1 ?_
        refine y_ireturn rfl rfl rfl ?_
        exact hQ _
      · refine y_swIn (j := 5) rfl h_5 (by decide) j_X8_ofPerson_116 ?_
        refine y_aload_n rfl rfl ?_
        refine y_getR rfl (ySh.t hS rfl) (ySh.n hS rfl) rfl rfl (ySh.r hS rfl) ?_
        refine y_iload_n rfl rfl ?_
        refine y_virt rfl rfl rfl rfl rfl (ySh.t hS rfl) (ySh.n hS rfl) ?_
        refine sp_debtOf_X5 hS hC (fun v_ => ?_)
        refine y_ret1 ?_
        refine y_ireturn rfl rfl rfl ?_
        exact hQ _
      · refine y_swIn (j := 6) rfl h_5 (by decide) j_X8_ofPerson_125 ?_
        refine y_aload_n rfl rfl ?_
        refine y_getR rfl (ySh.t hS rfl) (ySh.n hS rfl) rfl rfl (ySh.r hS rfl) ?_
        refine y_iload_n rfl rfl ?_
        refine y_virt rfl rfl rfl rfl rfl (ySh.t hS rfl) (ySh.n hS rfl) ?_
        refine sp_openOf_X2 hS hC (fun v_ => ?_)
        refine y_ret1 ?_
        refine y_ireturn rfl rfl rfl ?_
        exact hQ _
      · refine y_swIn (j := 7) rfl h_5 (by decide) j_X8_ofPerson_134 ?_
        refine y_aload_n rfl rfl ?_
        refine y_getR rfl (ySh.t hS rfl) (ySh.n hS rfl) rfl rfl (ySh.r hS rfl) ?_
        refine y_iload_n rfl rfl ?_
        refine y_virt rfl rfl rfl rfl rfl (ySh.t hS rfl) (ySh.n hS rfl) ?_
        refine sp_capitalEverywhere_X7 hS hC (by omega) (by omega) (fun v_ => ?_)
        refine y_ret1 ?_
        refine y_ireturn rfl rfl rfl ?_
        exact hQ _
theorem m_ofThing (hS : ySh n tg R) (hC : yCI I) {x1 x2 : Int32} (hE0 : ¬ (0 ≤ x1.toInt ∧ x1.toInt < (I 40 0).toInt) → Q (.inr "java/lang/IndexOutOfBoundsException") (n, tg, I, R) (c + 1) (s + 6)) (hE1 : ¬ (0 ≤ x2.toInt ∧ x2.toInt ≤ 6) → Q (.inr "java/lang/IllegalArgumentException") (n, tg, I, R) (c + 1) (s + 6)) (hQ : ∀ v, Q (.inl (some (.int v))) (n, tg, I, R) c s) : yC 143 [.ref 34, .int x1, .int x2] (n, tg, I, R) c s Q := by
  refine y_in (M := xm_X8_ofThing) (ls := [some _, some _, some _]) rfl rfl rfl ?_
  refine y_aload_n rfl rfl ?_
  refine y_getR rfl (ySh.t hS rfl) (ySh.n hS rfl) rfl rfl (ySh.r hS rfl) ?_
  refine y_iload_n rfl rfl ?_
  refine y_virt rfl rfl rfl rfl rfl (ySh.t hS rfl) (ySh.n hS rfl) ?_
  refine y_in (M := xm_X6_has) (ls := [some _, some _]) rfl rfl rfl ?_
  refine y_iload_n rfl rfl ?_
  refine y_if_lt rfl j_X6_has_16 (fun h_1 => ?_) (fun h_2 => ?_)
  · refine y_iconst rfl ?_
    refine y_ireturn rfl rfl rfl ?_
    refine y_ret1 ?_
    refine y_if_neF rfl (by decide) ?_
    refine y_throw rfl rfl rfl ?_
    exact hE0 (by omega)
  · refine y_iload_n rfl rfl ?_
    refine y_aload_n rfl rfl ?_
    refine y_getI rfl (ySh.t hS rfl) (ySh.n hS rfl) rfl rfl ?_
    refine y_icmp_ge rfl j_X6_has_16 (fun h_3 => ?_) (fun h_4 => ?_)
    · refine y_iconst rfl ?_
      refine y_ireturn rfl rfl rfl ?_
      refine y_ret1 ?_
      refine y_if_neF rfl (by decide) ?_
      refine y_throw rfl rfl rfl ?_
      exact hE0 (by omega)
    · refine y_iconst rfl ?_
      refine y_goto rfl j_X6_has_17 ?_
      refine y_ireturn rfl rfl rfl ?_
      refine y_ret1 ?_
      refine y_if_neT rfl j_X8_ofThing_21 (by decide) ?_
      refine y_iload_n rfl rfl ?_
      refine y_sw rfl (fun h_6 => ?_) (fun h_5 => ?_)
      · refine y_swOut rfl j_X8_ofThing_150 h_6 ?_
        refine y_throw rfl rfl rfl ?_
        exact hE1 (by omega)
      rcases ySwC0_6 h_5 with h_5 | h_5 | h_5 | h_5 | h_5 | h_5 | h_5
      · refine y_swIn (j := 0) rfl h_5 (by decide) j_X8_ofThing_64 ?_
        refine y_aload_n rfl rfl ?_
        refine y_getR rfl (ySh.t hS rfl) (ySh.n hS rfl) rfl rfl (ySh.r hS rfl) ?_
        refine y_getR rfl (ySh.t hS rfl) (ySh.n hS rfl) rfl rfl (ySh.r hS rfl) ?_
        refine y_iload_n rfl rfl ?_
        refine y_iaload rfl (ySh.t hS rfl) (ySh.n hS rfl) (by omega) (by omega) ?_
        refine y_ireturn rfl rfl rfl ?_
        exact hQ _
      · refine y_swIn (j := 1) rfl h_5 (by decide) j_X8_ofThing_74 ?_
        refine y_aload_n rfl rfl ?_
        refine y_getR rfl (ySh.t hS rfl) (ySh.n hS rfl) rfl rfl (ySh.r hS rfl) ?_
        refine y_getR rfl (ySh.t hS rfl) (ySh.n hS rfl) rfl rfl (ySh.r hS rfl) ?_
        refine y_iload_n rfl rfl ?_
        refine y_iaload rfl (ySh.t hS rfl) (ySh.n hS rfl) (by omega) (by omega) ?_
        refine y_ireturn rfl rfl rfl ?_
        exact hQ _
      · refine y_swIn (j := 2) rfl h_5 (by decide) j_X8_ofThing_84 ?_
        refine y_aload_n rfl rfl ?_
        refine y_getR rfl (ySh.t hS rfl) (ySh.n hS rfl) rfl rfl (ySh.r hS rfl) ?_
        refine y_getR rfl (ySh.t hS rfl) (ySh.n hS rfl) rfl rfl (ySh.r hS rfl) ?_
        refine y_iload_n rfl rfl ?_
        refine y_baload rfl (ySh.t hS rfl) rfl (ySh.n hS rfl) (by omega) (by omega) ?_
        refine y_if_eq rfl j_X8_ofThing_100 (fun h_7 => ?_) (fun h_8 => ?_)
        · refine y_iconst rfl ?_
          refine y_ireturn rfl rfl rfl ?_
          exact hQ _
        · refine y_iconst rfl ?_
          refine y_goto rfl j_X8_ofThing_101 ?_
          refine y_ireturn rfl rfl rfl ?_
          exact hQ _
      · refine y_swIn (j := 3) rfl h_5 (by decide) j_X8_ofThing_102 ?_
        refine y_aload_n rfl rfl ?_
        refine y_getR rfl (ySh.t hS rfl) (ySh.n hS rfl) rfl rfl (ySh.r hS rfl) ?_
        refine y_getR rfl (ySh.t hS rfl) (ySh.n hS rfl) rfl rfl (ySh.r hS rfl) ?_
        refine y_iload_n rfl rfl ?_
        refine y_baload rfl (ySh.t hS rfl) rfl (ySh.n hS rfl) (by omega) (by omega) ?_
        refine y_if_eq rfl j_X8_ofThing_118 (fun h_9 => ?_) (fun h_10 => ?_)
        · refine y_iconst rfl ?_
          refine y_ireturn rfl rfl rfl ?_
          exact hQ _
        · refine y_iconst rfl ?_
          refine y_goto rfl j_X8_ofThing_119 ?_
          refine y_ireturn rfl rfl rfl ?_
          exact hQ _
      · refine y_swIn (j := 4) rfl h_5 (by decide) j_X8_ofThing_120 ?_
        refine y_aload_n rfl rfl ?_
        refine y_getR rfl (ySh.t hS rfl) (ySh.n hS rfl) rfl rfl (ySh.r hS rfl) ?_
        refine y_getR rfl (ySh.t hS rfl) (ySh.n hS rfl) rfl rfl (ySh.r hS rfl) ?_
        refine y_iload_n rfl rfl ?_
        refine y_iaload rfl (ySh.t hS rfl) (ySh.n hS rfl) (by omega) (by omega) ?_
        refine y_ireturn rfl rfl rfl ?_
        exact hQ _
      · refine y_swIn (j := 5) rfl h_5 (by decide) j_X8_ofThing_130 ?_
        refine y_aload_n rfl rfl ?_
        refine y_getR rfl (ySh.t hS rfl) (ySh.n hS rfl) rfl rfl (ySh.r hS rfl) ?_
        refine y_getR rfl (ySh.t hS rfl) (ySh.n hS rfl) rfl rfl (ySh.r hS rfl) ?_
        refine y_iload_n rfl rfl ?_
        refine y_iaload rfl (ySh.t hS rfl) (ySh.n hS rfl) (by omega) (by omega) ?_
        refine y_ireturn rfl rfl rfl ?_
        exact hQ _
      · refine y_swIn (j := 6) rfl h_5 (by decide) j_X8_ofThing_140 ?_
        refine y_aload_n rfl rfl ?_
        refine y_getR rfl (ySh.t hS rfl) (ySh.n hS rfl) rfl rfl (ySh.r hS rfl) ?_
        refine y_getR rfl (ySh.t hS rfl) (ySh.n hS rfl) rfl rfl (ySh.r hS rfl) ?_
        refine y_iload_n rfl rfl ?_
        refine y_iaload rfl (ySh.t hS rfl) (ySh.n hS rfl) (by omega) (by omega) ?_
        refine y_ireturn rfl rfl rfl ?_
        exact hQ _
theorem m_ofSale (hS : ySh n tg R) (hC : yCI I) {x1 x2 : Int32} (hE0 : ¬ (0 ≤ x1.toInt ∧ x1.toInt < (I 48 0).toInt) → Q (.inr "java/lang/IndexOutOfBoundsException") (n, tg, I, R) (c + 1) (s + 6)) (hE1 : ¬ (0 ≤ x2.toInt ∧ x2.toInt ≤ 9) → Q (.inr "java/lang/IllegalArgumentException") (n, tg, I, R) (c + 1) (s + 6)) (hQ : ∀ v, Q (.inl (some (.int v))) (n, tg, I, R) c s) : yC 144 [.ref 34, .int x1, .int x2] (n, tg, I, R) c s Q := by
  refine y_in (M := xm_X8_ofSale) (ls := [some _, some _, some _]) rfl rfl rfl ?_
  refine y_aload_n rfl rfl ?_
  refine y_getR rfl (ySh.t hS rfl) (ySh.n hS rfl) rfl rfl (ySh.r hS rfl) ?_
  refine y_iload_n rfl rfl ?_
  refine y_virt rfl rfl rfl rfl rfl (ySh.t hS rfl) (ySh.n hS rfl) ?_
  refine y_in (M := xm_X5_has) (ls := [some _, some _]) rfl rfl rfl ?_
  refine y_iload_n rfl rfl ?_
  refine y_if_lt rfl j_X5_has_16 (fun h_1 => ?_) (fun h_2 => ?_)
  · refine y_iconst rfl ?_
    refine y_ireturn rfl rfl rfl ?_
    refine y_ret1 ?_
    refine y_if_neF rfl (by decide) ?_
    refine y_throw rfl rfl rfl ?_
    exact hE0 (by omega)
  · refine y_iload_n rfl rfl ?_
    refine y_aload_n rfl rfl ?_
    refine y_getI rfl (ySh.t hS rfl) (ySh.n hS rfl) rfl rfl ?_
    refine y_icmp_ge rfl j_X5_has_16 (fun h_3 => ?_) (fun h_4 => ?_)
    · refine y_iconst rfl ?_
      refine y_ireturn rfl rfl rfl ?_
      refine y_ret1 ?_
      refine y_if_neF rfl (by decide) ?_
      refine y_throw rfl rfl rfl ?_
      exact hE0 (by omega)
    · refine y_iconst rfl ?_
      refine y_goto rfl j_X5_has_17 ?_
      refine y_ireturn rfl rfl rfl ?_
      refine y_ret1 ?_
      refine y_if_neT rfl j_X8_ofSale_21 (by decide) ?_
      refine y_iload_n rfl rfl ?_
      refine y_sw rfl (fun h_6 => ?_) (fun h_5 => ?_)
      · refine y_swOut rfl j_X8_ofSale_174 h_6 ?_
        refine y_throw rfl rfl rfl ?_
        exact hE1 (by omega)
      rcases ySwC0_9 h_5 with h_5 | h_5 | h_5 | h_5 | h_5 | h_5 | h_5 | h_5 | h_5 | h_5
      · refine y_swIn (j := 0) rfl h_5 (by decide) j_X8_ofSale_76 ?_
        refine y_aload_n rfl rfl ?_
        refine y_getR rfl (ySh.t hS rfl) (ySh.n hS rfl) rfl rfl (ySh.r hS rfl) ?_
        refine y_getR rfl (ySh.t hS rfl) (ySh.n hS rfl) rfl rfl (ySh.r hS rfl) ?_
        refine y_iload_n rfl rfl ?_
        refine y_iaload rfl (ySh.t hS rfl) (ySh.n hS rfl) (by omega) (by omega) ?_
        refine y_ireturn rfl rfl rfl ?_
        exact hQ _
      · refine y_swIn (j := 1) rfl h_5 (by decide) j_X8_ofSale_86 ?_
        refine y_aload_n rfl rfl ?_
        refine y_getR rfl (ySh.t hS rfl) (ySh.n hS rfl) rfl rfl (ySh.r hS rfl) ?_
        refine y_getR rfl (ySh.t hS rfl) (ySh.n hS rfl) rfl rfl (ySh.r hS rfl) ?_
        refine y_iload_n rfl rfl ?_
        refine y_iaload rfl (ySh.t hS rfl) (ySh.n hS rfl) (by omega) (by omega) ?_
        refine y_ireturn rfl rfl rfl ?_
        exact hQ _
      · refine y_swIn (j := 2) rfl h_5 (by decide) j_X8_ofSale_96 ?_
        refine y_aload_n rfl rfl ?_
        refine y_getR rfl (ySh.t hS rfl) (ySh.n hS rfl) rfl rfl (ySh.r hS rfl) ?_
        refine y_getR rfl (ySh.t hS rfl) (ySh.n hS rfl) rfl rfl (ySh.r hS rfl) ?_
        refine y_iload_n rfl rfl ?_
        refine y_iaload rfl (ySh.t hS rfl) (ySh.n hS rfl) (by omega) (by omega) ?_
        refine y_ireturn rfl rfl rfl ?_
        exact hQ _
      · refine y_swIn (j := 3) rfl h_5 (by decide) j_X8_ofSale_106 ?_
        refine y_aload_n rfl rfl ?_
        refine y_getR rfl (ySh.t hS rfl) (ySh.n hS rfl) rfl rfl (ySh.r hS rfl) ?_
        refine y_getR rfl (ySh.t hS rfl) (ySh.n hS rfl) rfl rfl (ySh.r hS rfl) ?_
        refine y_iload_n rfl rfl ?_
        refine y_iaload rfl (ySh.t hS rfl) (ySh.n hS rfl) (by omega) (by omega) ?_
        refine y_ireturn rfl rfl rfl ?_
        exact hQ _
      · refine y_swIn (j := 4) rfl h_5 (by decide) j_X8_ofSale_116 ?_
        refine y_aload_n rfl rfl ?_
        refine y_getR rfl (ySh.t hS rfl) (ySh.n hS rfl) rfl rfl (ySh.r hS rfl) ?_
        refine y_getR rfl (ySh.t hS rfl) (ySh.n hS rfl) rfl rfl (ySh.r hS rfl) ?_
        refine y_iload_n rfl rfl ?_
        refine y_iaload rfl (ySh.t hS rfl) (ySh.n hS rfl) (by omega) (by omega) ?_
        refine y_ireturn rfl rfl rfl ?_
        exact hQ _
      · refine y_swIn (j := 5) rfl h_5 (by decide) j_X8_ofSale_126 ?_
        refine y_aload_n rfl rfl ?_
        refine y_getR rfl (ySh.t hS rfl) (ySh.n hS rfl) rfl rfl (ySh.r hS rfl) ?_
        refine y_getR rfl (ySh.t hS rfl) (ySh.n hS rfl) rfl rfl (ySh.r hS rfl) ?_
        refine y_iload_n rfl rfl ?_
        refine y_iaload rfl (ySh.t hS rfl) (ySh.n hS rfl) (by omega) (by omega) ?_
        refine y_ireturn rfl rfl rfl ?_
        exact hQ _
      · refine y_swIn (j := 6) rfl h_5 (by decide) j_X8_ofSale_136 ?_
        refine y_aload_n rfl rfl ?_
        refine y_getR rfl (ySh.t hS rfl) (ySh.n hS rfl) rfl rfl (ySh.r hS rfl) ?_
        refine y_iload_n rfl rfl ?_
        refine y_virt rfl rfl rfl rfl rfl (ySh.t hS rfl) (ySh.n hS rfl) ?_
        refine sp_nextDay_X5 hS hC (by omega) (by omega) (fun v_ => ?_)
        refine y_ret1 ?_
        refine y_ireturn rfl rfl rfl ?_
        exact hQ _
      · refine y_swIn (j := 7) rfl h_5 (by decide) j_X8_ofSale_145 ?_
        refine y_aload_n rfl rfl ?_
        refine y_getR rfl (ySh.t hS rfl) (ySh.n hS rfl) rfl rfl (ySh.r hS rfl) ?_
        refine y_iload_n rfl rfl ?_
        refine y_virt rfl rfl rfl rfl rfl (ySh.t hS rfl) (ySh.n hS rfl) ?_
        refine sp_nextPart_X5 hS hC (by omega) (by omega) (fun v_ => ?_)
        refine y_ret1 ?_
        refine y_ireturn rfl rfl rfl ?_
        exact hQ _
      · refine y_swIn (j := 8) rfl h_5 (by decide) j_X8_ofSale_154 ?_
        refine y_aload_n rfl rfl ?_
        refine y_getR rfl (ySh.t hS rfl) (ySh.n hS rfl) rfl rfl (ySh.r hS rfl) ?_
        refine y_getR rfl (ySh.t hS rfl) (ySh.n hS rfl) rfl rfl (ySh.r hS rfl) ?_
        refine y_iload_n rfl rfl ?_
        refine y_iaload rfl (ySh.t hS rfl) (ySh.n hS rfl) (by omega) (by omega) ?_
        refine y_ireturn rfl rfl rfl ?_
        exact hQ _
      · refine y_swIn (j := 9) rfl h_5 (by decide) j_X8_ofSale_164 ?_
        refine y_aload_n rfl rfl ?_
        refine y_getR rfl (ySh.t hS rfl) (ySh.n hS rfl) rfl rfl (ySh.r hS rfl) ?_
        refine y_getR rfl (ySh.t hS rfl) (ySh.n hS rfl) rfl rfl (ySh.r hS rfl) ?_
        refine y_iload_n rfl rfl ?_
        refine y_iaload rfl (ySh.t hS rfl) (ySh.n hS rfl) (by omega) (by omega) ?_
        refine y_ireturn rfl rfl rfl ?_
        exact hQ _
theorem m_ofLease (hS : ySh n tg R) (hC : yCI I) {x1 x2 : Int32} (hE0 : ¬ (0 ≤ x1.toInt ∧ x1.toInt < (I 59 0).toInt) → Q (.inr "java/lang/IndexOutOfBoundsException") (n, tg, I, R) (c + 1) (s + 6)) (hE1 : ¬ (0 ≤ x2.toInt ∧ x2.toInt ≤ 5) → Q (.inr "java/lang/IllegalArgumentException") (n, tg, I, R) (c + 1) (s + 6)) (hQ : ∀ v, Q (.inl (some (.int v))) (n, tg, I, R) c s) : yC 145 [.ref 34, .int x1, .int x2] (n, tg, I, R) c s Q := by
  refine y_in (M := xm_X8_ofLease) (ls := [some _, some _, some _]) rfl rfl rfl ?_
  refine y_aload_n rfl rfl ?_
  refine y_getR rfl (ySh.t hS rfl) (ySh.n hS rfl) rfl rfl (ySh.r hS rfl) ?_
  refine y_iload_n rfl rfl ?_
  refine y_virt rfl rfl rfl rfl rfl (ySh.t hS rfl) (ySh.n hS rfl) ?_
  refine y_in (M := xm_X2_has) (ls := [some _, some _]) rfl rfl rfl ?_
  refine y_iload_n rfl rfl ?_
  refine y_if_lt rfl j_X2_has_16 (fun h_1 => ?_) (fun h_2 => ?_)
  · refine y_iconst rfl ?_
    refine y_ireturn rfl rfl rfl ?_
    refine y_ret1 ?_
    refine y_if_neF rfl (by decide) ?_
    refine y_throw rfl rfl rfl ?_
    exact hE0 (by omega)
  · refine y_iload_n rfl rfl ?_
    refine y_aload_n rfl rfl ?_
    refine y_getI rfl (ySh.t hS rfl) (ySh.n hS rfl) rfl rfl ?_
    refine y_icmp_ge rfl j_X2_has_16 (fun h_3 => ?_) (fun h_4 => ?_)
    · refine y_iconst rfl ?_
      refine y_ireturn rfl rfl rfl ?_
      refine y_ret1 ?_
      refine y_if_neF rfl (by decide) ?_
      refine y_throw rfl rfl rfl ?_
      exact hE0 (by omega)
    · refine y_iconst rfl ?_
      refine y_goto rfl j_X2_has_17 ?_
      refine y_ireturn rfl rfl rfl ?_
      refine y_ret1 ?_
      refine y_if_neT rfl j_X8_ofLease_21 (by decide) ?_
      refine y_iload_n rfl rfl ?_
      refine y_sw rfl (fun h_6 => ?_) (fun h_5 => ?_)
      · refine y_swOut rfl j_X8_ofLease_144 h_6 ?_
        refine y_throw rfl rfl rfl ?_
        exact hE1 (by omega)
      rcases ySwC0_5 h_5 with h_5 | h_5 | h_5 | h_5 | h_5 | h_5
      · refine y_swIn (j := 0) rfl h_5 (by decide) j_X8_ofLease_60 ?_
        refine y_aload_n rfl rfl ?_
        refine y_getR rfl (ySh.t hS rfl) (ySh.n hS rfl) rfl rfl (ySh.r hS rfl) ?_
        refine y_getR rfl (ySh.t hS rfl) (ySh.n hS rfl) rfl rfl (ySh.r hS rfl) ?_
        refine y_iload_n rfl rfl ?_
        refine y_iaload rfl (ySh.t hS rfl) (ySh.n hS rfl) (by omega) (by omega) ?_
        refine y_ireturn rfl rfl rfl ?_
        exact hQ _
      · refine y_swIn (j := 1) rfl h_5 (by decide) j_X8_ofLease_70 ?_
        refine y_aload_n rfl rfl ?_
        refine y_getR rfl (ySh.t hS rfl) (ySh.n hS rfl) rfl rfl (ySh.r hS rfl) ?_
        refine y_getR rfl (ySh.t hS rfl) (ySh.n hS rfl) rfl rfl (ySh.r hS rfl) ?_
        refine y_iload_n rfl rfl ?_
        refine y_iaload rfl (ySh.t hS rfl) (ySh.n hS rfl) (by omega) (by omega) ?_
        refine y_ireturn rfl rfl rfl ?_
        exact hQ _
      · refine y_swIn (j := 2) rfl h_5 (by decide) j_X8_ofLease_80 ?_
        refine y_aload_n rfl rfl ?_
        refine y_getR rfl (ySh.t hS rfl) (ySh.n hS rfl) rfl rfl (ySh.r hS rfl) ?_
        refine y_getR rfl (ySh.t hS rfl) (ySh.n hS rfl) rfl rfl (ySh.r hS rfl) ?_
        refine y_iload_n rfl rfl ?_
        refine y_baload rfl (ySh.t hS rfl) rfl (ySh.n hS rfl) (by omega) (by omega) ?_
        refine y_if_eq rfl j_X8_ofLease_96 (fun h_7 => ?_) (fun h_8 => ?_)
        · refine y_iconst rfl ?_
          refine y_ireturn rfl rfl rfl ?_
          exact hQ _
        · refine y_iconst rfl ?_
          refine y_goto rfl j_X8_ofLease_97 ?_
          refine y_ireturn rfl rfl rfl ?_
          exact hQ _
      · refine y_swIn (j := 3) rfl h_5 (by decide) j_X8_ofLease_98 ?_
        refine y_aload_n rfl rfl ?_
        refine y_getR rfl (ySh.t hS rfl) (ySh.n hS rfl) rfl rfl (ySh.r hS rfl) ?_
        refine y_getR rfl (ySh.t hS rfl) (ySh.n hS rfl) rfl rfl (ySh.r hS rfl) ?_
        refine y_iload_n rfl rfl ?_
        refine y_iaload rfl (ySh.t hS rfl) (ySh.n hS rfl) (by omega) (by omega) ?_
        refine y_ireturn rfl rfl rfl ?_
        exact hQ _
      · refine y_swIn (j := 4) rfl h_5 (by decide) j_X8_ofLease_108 ?_
        refine y_aload_n rfl rfl ?_
        refine y_getR rfl (ySh.t hS rfl) (ySh.n hS rfl) rfl rfl (ySh.r hS rfl) ?_
        refine y_getR rfl (ySh.t hS rfl) (ySh.n hS rfl) rfl rfl (ySh.r hS rfl) ?_
        refine y_iload_n rfl rfl ?_
        refine y_iaload rfl (ySh.t hS rfl) (ySh.n hS rfl) (by omega) (by omega) ?_
        refine y_ireturn rfl rfl rfl ?_
        exact hQ _
      · refine y_swIn (j := 5) rfl h_5 (by decide) j_X8_ofLease_118 ?_
        refine y_aload_n rfl rfl ?_
        refine y_getR rfl (ySh.t hS rfl) (ySh.n hS rfl) rfl rfl (ySh.r hS rfl) ?_
        refine y_getR rfl (ySh.t hS rfl) (ySh.n hS rfl) rfl rfl (ySh.r hS rfl) ?_
        refine y_iload_n rfl rfl ?_
        refine y_baload rfl (ySh.t hS rfl) rfl (ySh.n hS rfl) (by omega) (by omega) ?_
        refine y_if_eq rfl j_X8_ofLease_134 (fun h_9 => ?_) (fun h_10 => ?_)
        · refine y_aload_n rfl rfl ?_
          refine y_getR rfl (ySh.t hS rfl) (ySh.n hS rfl) rfl rfl (ySh.r hS rfl) ?_
          refine y_getR rfl (ySh.t hS rfl) (ySh.n hS rfl) rfl rfl (ySh.r hS rfl) ?_
          refine y_iload_n rfl rfl ?_
          refine y_iaload rfl (ySh.t hS rfl) (ySh.n hS rfl) (by omega) (by omega) ?_
          refine y_ireturn rfl rfl rfl ?_
          exact hQ _
        · refine y_iconst rfl ?_
          refine y_goto rfl j_X8_ofLease_143 ?_
          refine y_ireturn rfl rfl rfl ?_
          exact hQ _
theorem m_ofVenture (hS : ySh n tg R) (hC : yCI I) {x1 x2 x3 : Int32} (hE0 : ¬ (0 ≤ x1.toInt ∧ x1.toInt < (I 69 0).toInt ∧ (x2.toInt = -1 ∨ 0 ≤ x2.toInt ∧ x2.toInt < (I 38 0).toInt)) → Q (.inr "java/lang/IndexOutOfBoundsException") (n, tg, I, R) (c + 1) (s + 6)) (hE1 : ¬ (0 ≤ x3.toInt ∧ x3.toInt ≤ 2) → Q (.inr "java/lang/IllegalArgumentException") (n, tg, I, R) (c + 1) (s + 6)) (hQ : ∀ v, Q (.inl (some (.int v))) (n, tg, I, R) c s) : yC 146 [.ref 34, .int x1, .int x2, .int x3] (n, tg, I, R) c s Q := by
  refine y_in (M := xm_X8_ofVenture) (ls := [some _, some _, some _, some _, _]) rfl rfl rfl ?_
  refine y_aload_n rfl rfl ?_
  refine y_getR rfl (ySh.t hS rfl) (ySh.n hS rfl) rfl rfl (ySh.r hS rfl) ?_
  refine y_iload_n rfl rfl ?_
  refine y_virt rfl rfl rfl rfl rfl (ySh.t hS rfl) (ySh.n hS rfl) ?_
  refine y_in (M := xm_X7_has) (ls := [some _, some _]) rfl rfl rfl ?_
  refine y_iload_n rfl rfl ?_
  refine y_if_lt rfl j_X7_has_16 (fun h_1 => ?_) (fun h_2 => ?_)
  · refine y_iconst rfl ?_
    refine y_ireturn rfl rfl rfl ?_
    refine y_ret1 ?_
    refine y_if_eqT rfl j_X8_ofVenture_19 (by decide) ?_
    refine y_throw rfl rfl rfl ?_
    exact hE0 (by omega)
  · refine y_iload_n rfl rfl ?_
    refine y_aload_n rfl rfl ?_
    refine y_getI rfl (ySh.t hS rfl) (ySh.n hS rfl) rfl rfl ?_
    refine y_icmp_ge rfl j_X7_has_16 (fun h_3 => ?_) (fun h_4 => ?_)
    · refine y_iconst rfl ?_
      refine y_ireturn rfl rfl rfl ?_
      refine y_ret1 ?_
      refine y_if_eqT rfl j_X8_ofVenture_19 (by decide) ?_
      refine y_throw rfl rfl rfl ?_
      exact hE0 (by omega)
    · refine y_iconst rfl ?_
      refine y_goto rfl j_X7_has_17 ?_
      refine y_ireturn rfl rfl rfl ?_
      refine y_ret1 ?_
      refine y_if_eqF rfl (by decide) ?_
      refine y_aload_n rfl rfl ?_
      refine y_iload_n rfl rfl ?_
      refine y_virt rfl rfl rfl rfl rfl (ySh.t hS rfl) (ySh.n hS rfl) ?_
      refine y_in (M := xm_X8_isParty) (ls := [some _, some _]) rfl rfl rfl ?_
      refine y_iload_n rfl rfl ?_
      refine y_iconst rfl ?_
      refine y_icmp_eq rfl j_X8_isParty_16 (fun h_5 => ?_) (fun h_6 => ?_)
      · rw [yz_m1] at h_5
        refine y_iconst rfl ?_
        refine y_goto rfl j_X8_isParty_21 ?_
        refine y_ireturn rfl rfl rfl ?_
        refine y_ret1 ?_
        refine y_if_neT rfl j_X8_ofVenture_30 (by decide) ?_
        refine y_iload_n rfl rfl ?_
        refine y_static rfl rfl rfl rfl rfl ?_
        refine y_in (M := xm_X8_placeOf) (ls := [some _]) rfl rfl rfl ?_
        refine y_iload_n rfl rfl ?_
        refine y_iconst rfl ?_
        refine y_icmp_ne rfl j_X8_placeOf_10 (fun h_7 => ?_) (fun h_8 => ?_)
        · rw [yz_m1] at h_7
          refine y_iload_n rfl rfl ?_
          refine y_ireturn rfl rfl rfl ?_
          refine y_ret1 ?_
          refine y_istore (ls' := [some _, some _, some _, some _, some _]) rfl rfl rfl ?_
          refine y_iload_n rfl rfl ?_
          refine y_sw rfl (fun h_10 => ?_) (fun h_9 => ?_)
          · refine y_swOut rfl j_X8_ofVenture_97 h_10 ?_
            refine y_throw rfl rfl rfl ?_
            exact hE1 (by omega)
          rcases ySwC0_2 h_9 with h_9 | h_9 | h_9
          · refine y_swIn (j := 0) rfl h_9 (by decide) j_X8_ofVenture_64 ?_
            refine y_aload_n rfl rfl ?_
            refine y_getR rfl (ySh.t hS rfl) (ySh.n hS rfl) rfl rfl (ySh.r hS rfl) ?_
            refine y_iload_n rfl rfl ?_
            refine y_iload rfl rfl ?_
            refine y_virt rfl rfl rfl rfl rfl (ySh.t hS rfl) (ySh.n hS rfl) ?_
            refine y_in (M := xm_X7_capitalOf) (ls := [some _, some _, some _]) rfl rfl rfl ?_
            refine y_aload_n rfl rfl ?_
            refine y_getR rfl (ySh.t hS rfl) (ySh.n hS rfl) rfl rfl (ySh.r hS rfl) ?_
            refine y_aload_n rfl rfl ?_
            refine y_iload_n rfl rfl ?_
            refine y_iload_n rfl rfl ?_
            refine y_virt rfl rfl rfl rfl rfl (ySh.t hS rfl) (ySh.n hS rfl) ?_
            refine sp_at (by omega) (by omega) (by omega) (by omega) (fun z_ hz11 => ?_)
            refine y_ret1 ?_
            refine y_iaload rfl (ySh.t hS rfl) (ySh.n hS rfl) (by omega) (by omega) ?_
            refine y_ireturn rfl rfl rfl ?_
            refine y_ret1 ?_
            refine y_ireturn rfl rfl rfl ?_
            exact hQ _
          · refine y_swIn (j := 1) rfl h_9 (by decide) j_X8_ofVenture_75 ?_
            refine y_aload_n rfl rfl ?_
            refine y_getR rfl (ySh.t hS rfl) (ySh.n hS rfl) rfl rfl (ySh.r hS rfl) ?_
            refine y_iload_n rfl rfl ?_
            refine y_iload rfl rfl ?_
            refine y_virt rfl rfl rfl rfl rfl (ySh.t hS rfl) (ySh.n hS rfl) ?_
            refine y_in (M := xm_X7_shareOf) (ls := [some _, some _, some _]) rfl rfl rfl ?_
            refine y_aload_n rfl rfl ?_
            refine y_getR rfl (ySh.t hS rfl) (ySh.n hS rfl) rfl rfl (ySh.r hS rfl) ?_
            refine y_aload_n rfl rfl ?_
            refine y_iload_n rfl rfl ?_
            refine y_iload_n rfl rfl ?_
            refine y_virt rfl rfl rfl rfl rfl (ySh.t hS rfl) (ySh.n hS rfl) ?_
            refine sp_at (by omega) (by omega) (by omega) (by omega) (fun z_ hz12 => ?_)
            refine y_ret1 ?_
            refine y_iaload rfl (ySh.t hS rfl) (ySh.n hS rfl) (by omega) (by omega) ?_
            refine y_ireturn rfl rfl rfl ?_
            refine y_ret1 ?_
            refine y_ireturn rfl rfl rfl ?_
            exact hQ _
          · refine y_swIn (j := 2) rfl h_9 (by decide) j_X8_ofVenture_86 ?_
            refine y_aload_n rfl rfl ?_
            refine y_getR rfl (ySh.t hS rfl) (ySh.n hS rfl) rfl rfl (ySh.r hS rfl) ?_
            refine y_iload_n rfl rfl ?_
            refine y_iload rfl rfl ?_
            refine y_virt rfl rfl rfl rfl rfl (ySh.t hS rfl) (ySh.n hS rfl) ?_
            refine y_in (M := xm_X7_gainOf) (ls := [some _, some _, some _]) rfl rfl rfl ?_
            refine y_aload_n rfl rfl ?_
            refine y_getR rfl (ySh.t hS rfl) (ySh.n hS rfl) rfl rfl (ySh.r hS rfl) ?_
            refine y_aload_n rfl rfl ?_
            refine y_iload_n rfl rfl ?_
            refine y_iload_n rfl rfl ?_
            refine y_virt rfl rfl rfl rfl rfl (ySh.t hS rfl) (ySh.n hS rfl) ?_
            refine sp_at (by omega) (by omega) (by omega) (by omega) (fun z_ hz13 => ?_)
            refine y_ret1 ?_
            refine y_iaload rfl (ySh.t hS rfl) (ySh.n hS rfl) (by omega) (by omega) ?_
            refine y_ireturn rfl rfl rfl ?_
            refine y_ret1 ?_
            refine y_ireturn rfl rfl rfl ?_
            exact hQ _
        · rw [yz_m1] at h_8
          refine y_bip rfl (by decide) ?_
          refine y_goto rfl j_X8_placeOf_11 ?_
          refine y_ireturn rfl rfl rfl ?_
          refine y_ret1 ?_
          refine y_istore (ls' := [some _, some _, some _, some _, some _]) rfl rfl rfl ?_
          refine y_iload_n rfl rfl ?_
          refine y_sw rfl (fun h_15 => ?_) (fun h_14 => ?_)
          · refine y_swOut rfl j_X8_ofVenture_97 h_15 ?_
            refine y_throw rfl rfl rfl ?_
            exact hE1 (by omega)
          rcases ySwC0_2 h_14 with h_14 | h_14 | h_14
          · refine y_swIn (j := 0) rfl h_14 (by decide) j_X8_ofVenture_64 ?_
            refine y_aload_n rfl rfl ?_
            refine y_getR rfl (ySh.t hS rfl) (ySh.n hS rfl) rfl rfl (ySh.r hS rfl) ?_
            refine y_iload_n rfl rfl ?_
            refine y_iload rfl rfl ?_
            refine y_virt rfl rfl rfl rfl rfl (ySh.t hS rfl) (ySh.n hS rfl) ?_
            refine y_in (M := xm_X7_capitalOf) (ls := [some _, some _, some _]) rfl rfl rfl ?_
            refine y_aload_n rfl rfl ?_
            refine y_getR rfl (ySh.t hS rfl) (ySh.n hS rfl) rfl rfl (ySh.r hS rfl) ?_
            refine y_aload_n rfl rfl ?_
            refine y_iload_n rfl rfl ?_
            refine y_iload_n rfl rfl ?_
            refine y_virt rfl rfl rfl rfl rfl (ySh.t hS rfl) (ySh.n hS rfl) ?_
            refine sp_at (by omega) (by omega) (by decide) (by decide) (fun z_ hz16 => ?_)
            rw [yz_8] at hz16
            refine y_ret1 ?_
            refine y_iaload rfl (ySh.t hS rfl) (ySh.n hS rfl) (by omega) (by omega) ?_
            refine y_ireturn rfl rfl rfl ?_
            refine y_ret1 ?_
            refine y_ireturn rfl rfl rfl ?_
            exact hQ _
          · refine y_swIn (j := 1) rfl h_14 (by decide) j_X8_ofVenture_75 ?_
            refine y_aload_n rfl rfl ?_
            refine y_getR rfl (ySh.t hS rfl) (ySh.n hS rfl) rfl rfl (ySh.r hS rfl) ?_
            refine y_iload_n rfl rfl ?_
            refine y_iload rfl rfl ?_
            refine y_virt rfl rfl rfl rfl rfl (ySh.t hS rfl) (ySh.n hS rfl) ?_
            refine y_in (M := xm_X7_shareOf) (ls := [some _, some _, some _]) rfl rfl rfl ?_
            refine y_aload_n rfl rfl ?_
            refine y_getR rfl (ySh.t hS rfl) (ySh.n hS rfl) rfl rfl (ySh.r hS rfl) ?_
            refine y_aload_n rfl rfl ?_
            refine y_iload_n rfl rfl ?_
            refine y_iload_n rfl rfl ?_
            refine y_virt rfl rfl rfl rfl rfl (ySh.t hS rfl) (ySh.n hS rfl) ?_
            refine sp_at (by omega) (by omega) (by decide) (by decide) (fun z_ hz17 => ?_)
            rw [yz_8] at hz17
            refine y_ret1 ?_
            refine y_iaload rfl (ySh.t hS rfl) (ySh.n hS rfl) (by omega) (by omega) ?_
            refine y_ireturn rfl rfl rfl ?_
            refine y_ret1 ?_
            refine y_ireturn rfl rfl rfl ?_
            exact hQ _
          · refine y_swIn (j := 2) rfl h_14 (by decide) j_X8_ofVenture_86 ?_
            refine y_aload_n rfl rfl ?_
            refine y_getR rfl (ySh.t hS rfl) (ySh.n hS rfl) rfl rfl (ySh.r hS rfl) ?_
            refine y_iload_n rfl rfl ?_
            refine y_iload rfl rfl ?_
            refine y_virt rfl rfl rfl rfl rfl (ySh.t hS rfl) (ySh.n hS rfl) ?_
            refine y_in (M := xm_X7_gainOf) (ls := [some _, some _, some _]) rfl rfl rfl ?_
            refine y_aload_n rfl rfl ?_
            refine y_getR rfl (ySh.t hS rfl) (ySh.n hS rfl) rfl rfl (ySh.r hS rfl) ?_
            refine y_aload_n rfl rfl ?_
            refine y_iload_n rfl rfl ?_
            refine y_iload_n rfl rfl ?_
            refine y_virt rfl rfl rfl rfl rfl (ySh.t hS rfl) (ySh.n hS rfl) ?_
            refine sp_at (by omega) (by omega) (by decide) (by decide) (fun z_ hz18 => ?_)
            rw [yz_8] at hz18
            refine y_ret1 ?_
            refine y_iaload rfl (ySh.t hS rfl) (ySh.n hS rfl) (by omega) (by omega) ?_
            refine y_ireturn rfl rfl rfl ?_
            refine y_ret1 ?_
            refine y_ireturn rfl rfl rfl ?_
            exact hQ _
      · rw [yz_m1] at h_6
        refine y_aload_n rfl rfl ?_
        refine y_getR rfl (ySh.t hS rfl) (ySh.n hS rfl) rfl rfl (ySh.r hS rfl) ?_
        refine y_iload_n rfl rfl ?_
        refine y_virt rfl rfl rfl rfl rfl (ySh.t hS rfl) (ySh.n hS rfl) ?_
        refine y_in (M := xm_X4_has) (ls := [some _, some _]) rfl rfl rfl ?_
        refine y_iload_n rfl rfl ?_
        refine y_if_lt rfl j_X4_has_16 (fun h_19 => ?_) (fun h_20 => ?_)
        · refine y_iconst rfl ?_
          refine y_ireturn rfl rfl rfl ?_
          refine y_ret1 ?_
          refine y_if_eqT rfl j_X8_isParty_20 (by decide) ?_
          refine y_iconst rfl ?_
          refine y_ireturn rfl rfl rfl ?_
          refine y_ret1 ?_
          refine y_if_neF rfl (by decide) ?_
          refine y_throw rfl rfl rfl ?_
          exact hE0 (by omega)
        · refine y_iload_n rfl rfl ?_
          refine y_aload_n rfl rfl ?_
          refine y_getI rfl (ySh.t hS rfl) (ySh.n hS rfl) rfl rfl ?_
          refine y_icmp_ge rfl j_X4_has_16 (fun h_21 => ?_) (fun h_22 => ?_)
          · refine y_iconst rfl ?_
            refine y_ireturn rfl rfl rfl ?_
            refine y_ret1 ?_
            refine y_if_eqT rfl j_X8_isParty_20 (by decide) ?_
            refine y_iconst rfl ?_
            refine y_ireturn rfl rfl rfl ?_
            refine y_ret1 ?_
            refine y_if_neF rfl (by decide) ?_
            refine y_throw rfl rfl rfl ?_
            exact hE0 (by omega)
          · refine y_iconst rfl ?_
            refine y_goto rfl j_X4_has_17 ?_
            refine y_ireturn rfl rfl rfl ?_
            refine y_ret1 ?_
            refine y_if_eqF rfl (by decide) ?_
            refine y_iconst rfl ?_
            refine y_goto rfl j_X8_isParty_21 ?_
            refine y_ireturn rfl rfl rfl ?_
            refine y_ret1 ?_
            refine y_if_neT rfl j_X8_ofVenture_30 (by decide) ?_
            refine y_iload_n rfl rfl ?_
            refine y_static rfl rfl rfl rfl rfl ?_
            refine y_in (M := xm_X8_placeOf) (ls := [some _]) rfl rfl rfl ?_
            refine y_iload_n rfl rfl ?_
            refine y_iconst rfl ?_
            refine y_icmp_ne rfl j_X8_placeOf_10 (fun h_23 => ?_) (fun h_24 => ?_)
            · rw [yz_m1] at h_23
              refine y_iload_n rfl rfl ?_
              refine y_ireturn rfl rfl rfl ?_
              refine y_ret1 ?_
              refine y_istore (ls' := [some _, some _, some _, some _, some _]) rfl rfl rfl ?_
              refine y_iload_n rfl rfl ?_
              refine y_sw rfl (fun h_26 => ?_) (fun h_25 => ?_)
              · refine y_swOut rfl j_X8_ofVenture_97 h_26 ?_
                refine y_throw rfl rfl rfl ?_
                exact hE1 (by omega)
              rcases ySwC0_2 h_25 with h_25 | h_25 | h_25
              · refine y_swIn (j := 0) rfl h_25 (by decide) j_X8_ofVenture_64 ?_
                refine y_aload_n rfl rfl ?_
                refine y_getR rfl (ySh.t hS rfl) (ySh.n hS rfl) rfl rfl (ySh.r hS rfl) ?_
                refine y_iload_n rfl rfl ?_
                refine y_iload rfl rfl ?_
                refine y_virt rfl rfl rfl rfl rfl (ySh.t hS rfl) (ySh.n hS rfl) ?_
                refine y_in (M := xm_X7_capitalOf) (ls := [some _, some _, some _]) rfl rfl rfl ?_
                refine y_aload_n rfl rfl ?_
                refine y_getR rfl (ySh.t hS rfl) (ySh.n hS rfl) rfl rfl (ySh.r hS rfl) ?_
                refine y_aload_n rfl rfl ?_
                refine y_iload_n rfl rfl ?_
                refine y_iload_n rfl rfl ?_
                refine y_virt rfl rfl rfl rfl rfl (ySh.t hS rfl) (ySh.n hS rfl) ?_
                refine sp_at (by omega) (by omega) (by omega) (by omega) (fun z_ hz27 => ?_)
                refine y_ret1 ?_
                refine y_iaload rfl (ySh.t hS rfl) (ySh.n hS rfl) (by omega) (by omega) ?_
                refine y_ireturn rfl rfl rfl ?_
                refine y_ret1 ?_
                refine y_ireturn rfl rfl rfl ?_
                exact hQ _
              · refine y_swIn (j := 1) rfl h_25 (by decide) j_X8_ofVenture_75 ?_
                refine y_aload_n rfl rfl ?_
                refine y_getR rfl (ySh.t hS rfl) (ySh.n hS rfl) rfl rfl (ySh.r hS rfl) ?_
                refine y_iload_n rfl rfl ?_
                refine y_iload rfl rfl ?_
                refine y_virt rfl rfl rfl rfl rfl (ySh.t hS rfl) (ySh.n hS rfl) ?_
                refine y_in (M := xm_X7_shareOf) (ls := [some _, some _, some _]) rfl rfl rfl ?_
                refine y_aload_n rfl rfl ?_
                refine y_getR rfl (ySh.t hS rfl) (ySh.n hS rfl) rfl rfl (ySh.r hS rfl) ?_
                refine y_aload_n rfl rfl ?_
                refine y_iload_n rfl rfl ?_
                refine y_iload_n rfl rfl ?_
                refine y_virt rfl rfl rfl rfl rfl (ySh.t hS rfl) (ySh.n hS rfl) ?_
                refine sp_at (by omega) (by omega) (by omega) (by omega) (fun z_ hz28 => ?_)
                refine y_ret1 ?_
                refine y_iaload rfl (ySh.t hS rfl) (ySh.n hS rfl) (by omega) (by omega) ?_
                refine y_ireturn rfl rfl rfl ?_
                refine y_ret1 ?_
                refine y_ireturn rfl rfl rfl ?_
                exact hQ _
              · refine y_swIn (j := 2) rfl h_25 (by decide) j_X8_ofVenture_86 ?_
                refine y_aload_n rfl rfl ?_
                refine y_getR rfl (ySh.t hS rfl) (ySh.n hS rfl) rfl rfl (ySh.r hS rfl) ?_
                refine y_iload_n rfl rfl ?_
                refine y_iload rfl rfl ?_
                refine y_virt rfl rfl rfl rfl rfl (ySh.t hS rfl) (ySh.n hS rfl) ?_
                refine y_in (M := xm_X7_gainOf) (ls := [some _, some _, some _]) rfl rfl rfl ?_
                refine y_aload_n rfl rfl ?_
                refine y_getR rfl (ySh.t hS rfl) (ySh.n hS rfl) rfl rfl (ySh.r hS rfl) ?_
                refine y_aload_n rfl rfl ?_
                refine y_iload_n rfl rfl ?_
                refine y_iload_n rfl rfl ?_
                refine y_virt rfl rfl rfl rfl rfl (ySh.t hS rfl) (ySh.n hS rfl) ?_
                refine sp_at (by omega) (by omega) (by omega) (by omega) (fun z_ hz29 => ?_)
                refine y_ret1 ?_
                refine y_iaload rfl (ySh.t hS rfl) (ySh.n hS rfl) (by omega) (by omega) ?_
                refine y_ireturn rfl rfl rfl ?_
                refine y_ret1 ?_
                refine y_ireturn rfl rfl rfl ?_
                exact hQ _
            · rw [yz_m1] at h_24
              refine y_bip rfl (by decide) ?_
              refine y_goto rfl j_X8_placeOf_11 ?_
              refine y_ireturn rfl rfl rfl ?_
              refine y_ret1 ?_
              refine y_istore (ls' := [some _, some _, some _, some _, some _]) rfl rfl rfl ?_
              refine y_iload_n rfl rfl ?_
              refine y_sw rfl (fun h_31 => ?_) (fun h_30 => ?_)
              · refine y_swOut rfl j_X8_ofVenture_97 h_31 ?_
                refine y_throw rfl rfl rfl ?_
                exact hE1 (by omega)
              rcases ySwC0_2 h_30 with h_30 | h_30 | h_30
              · refine y_swIn (j := 0) rfl h_30 (by decide) j_X8_ofVenture_64 ?_
                refine y_aload_n rfl rfl ?_
                refine y_getR rfl (ySh.t hS rfl) (ySh.n hS rfl) rfl rfl (ySh.r hS rfl) ?_
                refine y_iload_n rfl rfl ?_
                refine y_iload rfl rfl ?_
                refine y_virt rfl rfl rfl rfl rfl (ySh.t hS rfl) (ySh.n hS rfl) ?_
                refine y_in (M := xm_X7_capitalOf) (ls := [some _, some _, some _]) rfl rfl rfl ?_
                refine y_aload_n rfl rfl ?_
                refine y_getR rfl (ySh.t hS rfl) (ySh.n hS rfl) rfl rfl (ySh.r hS rfl) ?_
                refine y_aload_n rfl rfl ?_
                refine y_iload_n rfl rfl ?_
                refine y_iload_n rfl rfl ?_
                refine y_virt rfl rfl rfl rfl rfl (ySh.t hS rfl) (ySh.n hS rfl) ?_
                refine sp_at (by omega) (by omega) (by decide) (by decide) (fun z_ hz32 => ?_)
                rw [yz_8] at hz32
                refine y_ret1 ?_
                refine y_iaload rfl (ySh.t hS rfl) (ySh.n hS rfl) (by omega) (by omega) ?_
                refine y_ireturn rfl rfl rfl ?_
                refine y_ret1 ?_
                refine y_ireturn rfl rfl rfl ?_
                exact hQ _
              · refine y_swIn (j := 1) rfl h_30 (by decide) j_X8_ofVenture_75 ?_
                refine y_aload_n rfl rfl ?_
                refine y_getR rfl (ySh.t hS rfl) (ySh.n hS rfl) rfl rfl (ySh.r hS rfl) ?_
                refine y_iload_n rfl rfl ?_
                refine y_iload rfl rfl ?_
                refine y_virt rfl rfl rfl rfl rfl (ySh.t hS rfl) (ySh.n hS rfl) ?_
                refine y_in (M := xm_X7_shareOf) (ls := [some _, some _, some _]) rfl rfl rfl ?_
                refine y_aload_n rfl rfl ?_
                refine y_getR rfl (ySh.t hS rfl) (ySh.n hS rfl) rfl rfl (ySh.r hS rfl) ?_
                refine y_aload_n rfl rfl ?_
                refine y_iload_n rfl rfl ?_
                refine y_iload_n rfl rfl ?_
                refine y_virt rfl rfl rfl rfl rfl (ySh.t hS rfl) (ySh.n hS rfl) ?_
                refine sp_at (by omega) (by omega) (by decide) (by decide) (fun z_ hz33 => ?_)
                rw [yz_8] at hz33
                refine y_ret1 ?_
                refine y_iaload rfl (ySh.t hS rfl) (ySh.n hS rfl) (by omega) (by omega) ?_
                refine y_ireturn rfl rfl rfl ?_
                refine y_ret1 ?_
                refine y_ireturn rfl rfl rfl ?_
                exact hQ _
              · refine y_swIn (j := 2) rfl h_30 (by decide) j_X8_ofVenture_86 ?_
                refine y_aload_n rfl rfl ?_
                refine y_getR rfl (ySh.t hS rfl) (ySh.n hS rfl) rfl rfl (ySh.r hS rfl) ?_
                refine y_iload_n rfl rfl ?_
                refine y_iload rfl rfl ?_
                refine y_virt rfl rfl rfl rfl rfl (ySh.t hS rfl) (ySh.n hS rfl) ?_
                refine y_in (M := xm_X7_gainOf) (ls := [some _, some _, some _]) rfl rfl rfl ?_
                refine y_aload_n rfl rfl ?_
                refine y_getR rfl (ySh.t hS rfl) (ySh.n hS rfl) rfl rfl (ySh.r hS rfl) ?_
                refine y_aload_n rfl rfl ?_
                refine y_iload_n rfl rfl ?_
                refine y_iload_n rfl rfl ?_
                refine y_virt rfl rfl rfl rfl rfl (ySh.t hS rfl) (ySh.n hS rfl) ?_
                refine sp_at (by omega) (by omega) (by decide) (by decide) (fun z_ hz34 => ?_)
                rw [yz_8] at hz34
                refine y_ret1 ?_
                refine y_iaload rfl (ySh.t hS rfl) (ySh.n hS rfl) (by omega) (by omega) ?_
                refine y_ireturn rfl rfl rfl ?_
                refine y_ret1 ?_
                refine y_ireturn rfl rfl rfl ?_
                exact hQ _
theorem m_ofFirm (hS : ySh n tg R) (hC : yCI I) {x1 x2 : Int32} (hE0 : ¬ (0 ≤ x1.toInt ∧ x1.toInt < (I 77 0).toInt) → Q (.inr "java/lang/IndexOutOfBoundsException") (n, tg, I, R) (c + 1) (s + 6)) (hE1 : ¬ (0 ≤ x2.toInt ∧ x2.toInt ≤ 4) → Q (.inr "java/lang/IllegalArgumentException") (n, tg, I, R) (c + 1) (s + 6)) (hQ : ∀ v, Q (.inl (some (.int v))) (n, tg, I, R) c s) : yC 147 [.ref 34, .int x1, .int x2] (n, tg, I, R) c s Q := by
  have hz := (yshl (x := I 77 0) (by omega) (by omega)).1.2
  refine y_in (M := xm_X8_ofFirm) (ls := [some _, some _, some _]) rfl rfl rfl ?_
  refine y_aload_n rfl rfl ?_
  refine y_getR rfl (ySh.t hS rfl) (ySh.n hS rfl) rfl rfl (ySh.r hS rfl) ?_
  refine y_iload_n rfl rfl ?_
  refine y_virt rfl rfl rfl rfl rfl (ySh.t hS rfl) (ySh.n hS rfl) ?_
  refine y_in (M := xm_X1_has) (ls := [some _, some _]) rfl rfl rfl ?_
  refine y_iload_n rfl rfl ?_
  refine y_if_lt rfl j_X1_has_16 (fun h_1 => ?_) (fun h_2 => ?_)
  · refine y_iconst rfl ?_
    refine y_ireturn rfl rfl rfl ?_
    refine y_ret1 ?_
    refine y_if_neF rfl (by decide) ?_
    refine y_throw rfl rfl rfl ?_
    exact hE0 (by omega)
  · refine y_iload_n rfl rfl ?_
    refine y_aload_n rfl rfl ?_
    refine y_getI rfl (ySh.t hS rfl) (ySh.n hS rfl) rfl rfl ?_
    refine y_icmp_ge rfl j_X1_has_16 (fun h_3 => ?_) (fun h_4 => ?_)
    · refine y_iconst rfl ?_
      refine y_ireturn rfl rfl rfl ?_
      refine y_ret1 ?_
      refine y_if_neF rfl (by decide) ?_
      refine y_throw rfl rfl rfl ?_
      exact hE0 (by omega)
    · refine y_iconst rfl ?_
      refine y_goto rfl j_X1_has_17 ?_
      refine y_ireturn rfl rfl rfl ?_
      refine y_ret1 ?_
      refine y_if_neT rfl j_X8_ofFirm_22 (by decide) ?_
      refine y_iload_n rfl rfl ?_
      refine y_sw rfl (fun h_6 => ?_) (fun h_5 => ?_)
      · refine y_swOut rfl j_X8_ofFirm_122 h_6 ?_
        refine y_throw rfl rfl rfl ?_
        exact hE1 (by omega)
      rcases ySwC0_4 h_5 with h_5 | h_5 | h_5 | h_5 | h_5
      · refine y_swIn (j := 0) rfl h_5 (by decide) j_X8_ofFirm_56 ?_
        refine y_aload_n rfl rfl ?_
        refine y_getR rfl (ySh.t hS rfl) (ySh.n hS rfl) rfl rfl (ySh.r hS rfl) ?_
        refine y_iload_n rfl rfl ?_
        refine y_virt rfl rfl rfl rfl rfl (ySh.t hS rfl) (ySh.n hS rfl) ?_
        refine y_in (M := xm_X1_isClean) (ls := [some _, some _]) rfl rfl rfl ?_
        refine y_aload_n rfl rfl ?_
        refine y_getI rfl (ySh.t hS rfl) (ySh.n hS rfl) rfl rfl ?_
        refine y_iload_n rfl rfl ?_
        refine y_ishr rfl ?_
        refine y_iconst rfl ?_
        refine y_iand rfl ?_
        refine y_iconst rfl ?_
        refine y_icmp_ne rfl j_X1_isClean_16 (fun h_7 => ?_) (fun h_8 => ?_)
        · rw [yz_1] at h_7
          refine y_iconst rfl ?_
          refine y_ireturn rfl rfl rfl ?_
          refine y_ret1 ?_
          refine y_if_eqT rfl j_X8_ofFirm_71 (by decide) ?_
          refine y_iconst rfl ?_
          refine y_ireturn rfl rfl rfl ?_
          exact hQ _
        · rw [yz_1] at h_8
          refine y_iconst rfl ?_
          refine y_goto rfl j_X1_isClean_17 ?_
          refine y_ireturn rfl rfl rfl ?_
          refine y_ret1 ?_
          refine y_if_eqF rfl (by decide) ?_
          refine y_iconst rfl ?_
          refine y_goto rfl j_X8_ofFirm_72 ?_
          refine y_ireturn rfl rfl rfl ?_
          exact hQ _
      · refine y_swIn (j := 1) rfl h_5 (by decide) j_X8_ofFirm_73 ?_
        refine y_aload_n rfl rfl ?_
        refine y_getR rfl (ySh.t hS rfl) (ySh.n hS rfl) rfl rfl (ySh.r hS rfl) ?_
        refine y_iload_n rfl rfl ?_
        refine y_virt rfl rfl rfl rfl rfl (ySh.t hS rfl) (ySh.n hS rfl) ?_
        refine y_in (M := xm_X1_isHeld) (ls := [some _, some _]) rfl rfl rfl ?_
        refine y_aload_n rfl rfl ?_
        refine y_getI rfl (ySh.t hS rfl) (ySh.n hS rfl) rfl rfl ?_
        refine y_iload_n rfl rfl ?_
        refine y_ishr rfl ?_
        refine y_iconst rfl ?_
        refine y_iand rfl ?_
        refine y_iconst rfl ?_
        refine y_icmp_ne rfl j_X1_isHeld_16 (fun h_9 => ?_) (fun h_10 => ?_)
        · rw [yz_1] at h_9
          refine y_iconst rfl ?_
          refine y_ireturn rfl rfl rfl ?_
          refine y_ret1 ?_
          refine y_if_eqT rfl j_X8_ofFirm_88 (by decide) ?_
          refine y_iconst rfl ?_
          refine y_ireturn rfl rfl rfl ?_
          exact hQ _
        · rw [yz_1] at h_10
          refine y_iconst rfl ?_
          refine y_goto rfl j_X1_isHeld_17 ?_
          refine y_ireturn rfl rfl rfl ?_
          refine y_ret1 ?_
          refine y_if_eqF rfl (by decide) ?_
          refine y_iconst rfl ?_
          refine y_goto rfl j_X8_ofFirm_89 ?_
          refine y_ireturn rfl rfl rfl ?_
          exact hQ _
      · refine y_swIn (j := 2) rfl h_5 (by decide) j_X8_ofFirm_90 ?_
        refine y_aload_n rfl rfl ?_
        refine y_getR rfl (ySh.t hS rfl) (ySh.n hS rfl) rfl rfl (ySh.r hS rfl) ?_
        refine y_getR rfl (ySh.t hS rfl) (ySh.n hS rfl) rfl rfl (ySh.r hS rfl) ?_
        refine y_iload_n rfl rfl ?_
        refine y_iaload rfl (ySh.t hS rfl) (ySh.n hS rfl) (by omega) (by omega) ?_
        refine y_ireturn rfl rfl rfl ?_
        exact hQ _
      · refine y_swIn (j := 3) rfl h_5 (by decide) j_X8_ofFirm_100 ?_
        refine y_aload_n rfl rfl ?_
        refine y_getR rfl (ySh.t hS rfl) (ySh.n hS rfl) rfl rfl (ySh.r hS rfl) ?_
        refine y_iconst rfl ?_
        refine y_iload_n rfl rfl ?_
        refine y_ishl rfl ?_
        refine y_virt rfl rfl rfl rfl rfl (ySh.t hS rfl) (ySh.n hS rfl) ?_
        refine y_in (M := xm_X1_prices) (ls := [some _, some _]) rfl rfl rfl ?_
        refine y_aload_n rfl rfl ?_
        refine y_iload_n rfl rfl ?_
        refine y_virt rfl rfl rfl rfl rfl (ySh.t hS rfl) (ySh.n hS rfl) ?_
        refine y_in (M := xm_X1_isSet) (ls := [some _, some _]) rfl rfl rfl ?_
        refine y_iload_n rfl rfl ?_
        refine y_if_lt rfl j_X1_isSet_18 (fun h_11 => ?_) (fun h_12 => ?_)
        · refine y_iconst rfl ?_
          refine y_ireturn rfl rfl rfl ?_
          refine y_ret1 ?_
          refine y_if_eqT rfl j_X1_prices_17 (by decide) ?_
          refine y_iconst rfl ?_
          refine y_ireturn rfl rfl rfl ?_
          refine y_ret1 ?_
          refine y_ireturn rfl rfl rfl ?_
          exact hQ _
        · refine y_iload_n rfl rfl ?_
          refine y_iconst rfl ?_
          refine y_aload_n rfl rfl ?_
          refine y_getI rfl (ySh.t hS rfl) (ySh.n hS rfl) rfl rfl ?_
          refine y_ishl rfl ?_
          refine y_icmp_ge rfl j_X1_isSet_18 (fun h_13 => ?_) (fun h_14 => ?_)
          · refine y_iconst rfl ?_
            refine y_ireturn rfl rfl rfl ?_
            refine y_ret1 ?_
            refine y_if_eqT rfl j_X1_prices_17 (by decide) ?_
            refine y_iconst rfl ?_
            refine y_ireturn rfl rfl rfl ?_
            refine y_ret1 ?_
            refine y_ireturn rfl rfl rfl ?_
            exact hQ _
          · refine y_iconst rfl ?_
            refine y_goto rfl j_X1_isSet_19 ?_
            refine y_ireturn rfl rfl rfl ?_
            refine y_ret1 ?_
            refine y_if_eqF rfl (by decide) ?_
            refine y_aload_n rfl rfl ?_
            refine y_getR rfl (ySh.t hS rfl) (ySh.n hS rfl) rfl rfl (ySh.r hS rfl) ?_
            refine y_iload_n rfl rfl ?_
            refine y_iaload rfl (ySh.t hS rfl) (ySh.n hS rfl) (by omega) (by omega) ?_
            refine y_goto rfl j_X1_prices_18 ?_
            refine y_ireturn rfl rfl rfl ?_
            refine y_ret1 ?_
            refine y_ireturn rfl rfl rfl ?_
            exact hQ _
      · refine y_swIn (j := 4) rfl h_5 (by decide) j_X8_ofFirm_111 ?_
        refine y_aload_n rfl rfl ?_
        refine y_getR rfl (ySh.t hS rfl) (ySh.n hS rfl) rfl rfl (ySh.r hS rfl) ?_
        refine y_iconst rfl ?_
        refine y_iload_n rfl rfl ?_
        refine y_ishl rfl ?_
        refine y_virt rfl rfl rfl rfl rfl (ySh.t hS rfl) (ySh.n hS rfl) ?_
        refine y_in (M := xm_X1_gains) (ls := [some _, some _]) rfl rfl rfl ?_
        refine y_aload_n rfl rfl ?_
        refine y_iload_n rfl rfl ?_
        refine y_virt rfl rfl rfl rfl rfl (ySh.t hS rfl) (ySh.n hS rfl) ?_
        refine y_in (M := xm_X1_isSet) (ls := [some _, some _]) rfl rfl rfl ?_
        refine y_iload_n rfl rfl ?_
        refine y_if_lt rfl j_X1_isSet_18 (fun h_15 => ?_) (fun h_16 => ?_)
        · refine y_iconst rfl ?_
          refine y_ireturn rfl rfl rfl ?_
          refine y_ret1 ?_
          refine y_if_eqT rfl j_X1_gains_17 (by decide) ?_
          refine y_iconst rfl ?_
          refine y_ireturn rfl rfl rfl ?_
          refine y_ret1 ?_
          refine y_ireturn rfl rfl rfl ?_
          exact hQ _
        · refine y_iload_n rfl rfl ?_
          refine y_iconst rfl ?_
          refine y_aload_n rfl rfl ?_
          refine y_getI rfl (ySh.t hS rfl) (ySh.n hS rfl) rfl rfl ?_
          refine y_ishl rfl ?_
          refine y_icmp_ge rfl j_X1_isSet_18 (fun h_17 => ?_) (fun h_18 => ?_)
          · refine y_iconst rfl ?_
            refine y_ireturn rfl rfl rfl ?_
            refine y_ret1 ?_
            refine y_if_eqT rfl j_X1_gains_17 (by decide) ?_
            refine y_iconst rfl ?_
            refine y_ireturn rfl rfl rfl ?_
            refine y_ret1 ?_
            refine y_ireturn rfl rfl rfl ?_
            exact hQ _
          · refine y_iconst rfl ?_
            refine y_goto rfl j_X1_isSet_19 ?_
            refine y_ireturn rfl rfl rfl ?_
            refine y_ret1 ?_
            refine y_if_eqF rfl (by decide) ?_
            refine y_aload_n rfl rfl ?_
            refine y_getR rfl (ySh.t hS rfl) (ySh.n hS rfl) rfl rfl (ySh.r hS rfl) ?_
            refine y_iload_n rfl rfl ?_
            refine y_iaload rfl (ySh.t hS rfl) (ySh.n hS rfl) (by omega) (by omega) ?_
            refine y_goto rfl j_X1_gains_18 ?_
            refine y_ireturn rfl rfl rfl ?_
            refine y_ret1 ?_
            refine y_ireturn rfl rfl rfl ?_
            exact hQ _
theorem m_allowed (hS : ySh n tg R) (hC : yCI I) {x1 x2 : Int32} (hE0 : Q (.inr "java/lang/IndexOutOfBoundsException") (n, tg, I, R) (c + 1) (s + 6)) (hE1 : Q (.inr "java/lang/IllegalArgumentException") (n, tg, I, R) (c + 1) (s + 6)) (hQ1 : Q (.inl (some (.int (Int32.ofInt 1)))) (n, tg, I, R) c s) (hQ0 : Q (.inl (some (.int (Int32.ofInt 0)))) (n, tg, I, R) c s) : yC 148 [.ref 34, .int x1, .int x2] (n, tg, I, R) c s Q := by
  refine y_in (M := xm_X8_allowed) (ls := [some _, some _, some _]) rfl rfl rfl ?_
  refine y_iload_n rfl rfl ?_
  refine y_iconst rfl ?_
  refine y_iconst rfl ?_
  refine y_static rfl rfl rfl rfl rfl ?_
  refine y_in (M := xm_X8_isIn) (ls := [some _, some _, some _]) rfl rfl rfl ?_
  refine y_iload_n rfl rfl ?_
  refine y_iload_n rfl rfl ?_
  refine y_icmp_lt rfl j_X8_isIn_14 (fun h_1 => ?_) (fun h_2 => ?_)
  · rw [yz_0] at h_1
    refine y_iconst rfl ?_
    refine y_ireturn rfl rfl rfl ?_
    refine y_ret1 ?_
    refine y_if_neF rfl (by decide) ?_
    refine y_throw rfl rfl rfl ?_
    exact hE0
  · rw [yz_0] at h_2
    refine y_iload_n rfl rfl ?_
    refine y_iload_n rfl rfl ?_
    refine y_icmp_gt rfl j_X8_isIn_14 (fun h_3 => ?_) (fun h_4 => ?_)
    · rw [yz_4] at h_3
      refine y_iconst rfl ?_
      refine y_ireturn rfl rfl rfl ?_
      refine y_ret1 ?_
      refine y_if_neF rfl (by decide) ?_
      refine y_throw rfl rfl rfl ?_
      exact hE0
    · rw [yz_4] at h_4
      refine y_iconst rfl ?_
      refine y_goto rfl j_X8_isIn_15 ?_
      refine y_ireturn rfl rfl rfl ?_
      refine y_ret1 ?_
      refine y_if_neT rfl j_X8_allowed_20 (by decide) ?_
      refine y_iload_n rfl rfl ?_
      refine y_iconst rfl ?_
      refine y_aload_n rfl rfl ?_
      refine y_getI rfl (ySh.t hS rfl) (ySh.n hS rfl) rfl rfl ?_
      refine y_static rfl rfl rfl rfl rfl ?_
      refine y_in (M := xm_X8_isIn) (ls := [some _, some _, some _]) rfl rfl rfl ?_
      refine y_iload_n rfl rfl ?_
      refine y_iload_n rfl rfl ?_
      refine y_icmp_lt rfl j_X8_isIn_14 (fun h_5 => ?_) (fun h_6 => ?_)
      · rw [yz_0] at h_5
        refine y_iconst rfl ?_
        refine y_ireturn rfl rfl rfl ?_
        refine y_ret1 ?_
        refine y_if_neF rfl (by decide) ?_
        refine y_throw rfl rfl rfl ?_
        exact hE1
      · rw [yz_0] at h_6
        refine y_iload_n rfl rfl ?_
        refine y_iload_n rfl rfl ?_
        refine y_icmp_gt rfl j_X8_isIn_14 (fun h_7 => ?_) (fun h_8 => ?_)
        · refine y_iconst rfl ?_
          refine y_ireturn rfl rfl rfl ?_
          refine y_ret1 ?_
          refine y_if_neF rfl (by decide) ?_
          refine y_throw rfl rfl rfl ?_
          exact hE1
        · refine y_iconst rfl ?_
          refine y_goto rfl j_X8_isIn_15 ?_
          refine y_ireturn rfl rfl rfl ?_
          refine y_ret1 ?_
          refine y_if_neT rfl j_X8_allowed_43 (by decide) ?_
          refine y_iload_n rfl rfl ?_
          refine y_aload_n rfl rfl ?_
          refine y_getI rfl (ySh.t hS rfl) (ySh.n hS rfl) rfl rfl ?_
          refine y_icmp_ne rfl j_X8_allowed_62 (fun h_9 => ?_) (fun h_10 => ?_)
          · refine y_aload_n rfl rfl ?_
            refine y_getR rfl (ySh.t hS rfl) (ySh.n hS rfl) rfl rfl (ySh.r hS rfl) ?_
            refine y_iload_n rfl rfl ?_
            refine y_iload_n rfl rfl ?_
            refine y_virt rfl rfl rfl rfl rfl (ySh.t hS rfl) (ySh.n hS rfl) ?_
            refine y_in (M := xm_X0_wasAllowed) (ls := [some _, some _, some _]) rfl rfl rfl ?_
            refine y_aload_n rfl rfl ?_
            refine y_getR rfl (ySh.t hS rfl) (ySh.n hS rfl) rfl rfl (ySh.r hS rfl) ?_
            refine y_iload_n rfl rfl ?_
            refine y_baload rfl (ySh.t hS rfl) rfl (ySh.n hS rfl) (by omega) (by omega) ?_
            refine y_iload_n rfl rfl ?_
            refine y_ishr rfl ?_
            refine y_iconst rfl ?_
            refine y_iand rfl ?_
            refine y_iconst rfl ?_
            refine y_icmp_ne rfl j_X0_wasAllowed_18 (fun h_11 => ?_) (fun h_12 => ?_)
            · rw [yz_1] at h_11
              refine y_iconst rfl ?_
              refine y_ireturn rfl rfl rfl ?_
              refine y_ret1 ?_
              refine y_ireturn rfl rfl rfl ?_
              exact hQ0
            · rw [yz_1] at h_12
              refine y_iconst rfl ?_
              refine y_goto rfl j_X0_wasAllowed_19 ?_
              refine y_ireturn rfl rfl rfl ?_
              refine y_ret1 ?_
              refine y_ireturn rfl rfl rfl ?_
              exact hQ1
          · refine y_aload_n rfl rfl ?_
            refine y_getR rfl (ySh.t hS rfl) (ySh.n hS rfl) rfl rfl (ySh.r hS rfl) ?_
            refine y_iload_n rfl rfl ?_
            refine y_virt rfl rfl rfl rfl rfl (ySh.t hS rfl) (ySh.n hS rfl) ?_
            refine sp_isAllowedNow hS (by omega) (by omega) (fun h_13 => ?_) (fun h_14 => ?_)
            · refine y_ret1 ?_
              refine y_goto rfl j_X8_allowed_71 ?_
              refine y_ireturn rfl rfl rfl ?_
              exact hQ1
            · refine y_ret1 ?_
              refine y_goto rfl j_X8_allowed_71 ?_
              refine y_ireturn rfl rfl rfl ?_
              exact hQ0
theorem m_house (hS : ySh n tg R) (hC : yCI I) {x1 : Int32} (hE1 : ¬ (0 ≤ x1.toInt ∧ x1.toInt ≤ 15) → Q (.inr "java/lang/IllegalArgumentException") (n, tg, I, R) (c + 1) (s + 6)) (hQ : ∀ v, Q (.inl (some (.int v))) (n, tg, I, R) c s) : yC 149 [.ref 34, .int x1] (n, tg, I, R) c s Q := by
  refine y_in (M := xm_X8_house) (ls := [some _, some _]) rfl rfl rfl ?_
  refine y_iload_n rfl rfl ?_
  refine y_sw rfl (fun h_2 => ?_) (fun h_1 => ?_)
  · refine y_swOut rfl j_X8_house_207 h_2 ?_
    refine y_throw rfl rfl rfl ?_
    exact hE1 (by omega)
  rcases ySwC0_15 h_1 with h_1 | h_1 | h_1 | h_1 | h_1 | h_1 | h_1 | h_1 | h_1 | h_1 | h_1 | h_1 | h_1 | h_1 | h_1 | h_1
  · refine y_swIn (j := 0) rfl h_1 (by decide) j_X8_house_80 ?_
    refine y_aload_n rfl rfl ?_
    refine y_getI rfl (ySh.t hS rfl) (ySh.n hS rfl) rfl rfl ?_
    refine y_ireturn rfl rfl rfl ?_
    exact hQ _
  · refine y_swIn (j := 1) rfl h_1 (by decide) j_X8_house_85 ?_
    refine y_aload_n rfl rfl ?_
    refine y_getR rfl (ySh.t hS rfl) (ySh.n hS rfl) rfl rfl (ySh.r hS rfl) ?_
    refine y_getR rfl (ySh.t hS rfl) (ySh.n hS rfl) rfl rfl (ySh.r hS rfl) ?_
    refine y_bip rfl (by decide) ?_
    refine y_iaload rfl (ySh.t hS rfl) (ySh.n hS rfl) (by decide) (by decide) ?_
    refine y_ireturn rfl rfl rfl ?_
    exact hQ _
  · refine y_swIn (j := 2) rfl h_1 (by decide) j_X8_house_96 ?_
    refine y_aload_n rfl rfl ?_
    refine y_getR rfl (ySh.t hS rfl) (ySh.n hS rfl) rfl rfl (ySh.r hS rfl) ?_
    refine y_getI rfl (ySh.t hS rfl) (ySh.n hS rfl) rfl rfl ?_
    refine y_ireturn rfl rfl rfl ?_
    exact hQ _
  · refine y_swIn (j := 3) rfl h_1 (by decide) j_X8_house_104 ?_
    refine y_aload_n rfl rfl ?_
    refine y_getR rfl (ySh.t hS rfl) (ySh.n hS rfl) rfl rfl (ySh.r hS rfl) ?_
    refine y_getI rfl (ySh.t hS rfl) (ySh.n hS rfl) rfl rfl ?_
    refine y_ireturn rfl rfl rfl ?_
    exact hQ _
  · refine y_swIn (j := 4) rfl h_1 (by decide) j_X8_house_112 ?_
    refine y_aload_n rfl rfl ?_
    refine y_getR rfl (ySh.t hS rfl) (ySh.n hS rfl) rfl rfl (ySh.r hS rfl) ?_
    refine y_virt rfl rfl rfl rfl rfl (ySh.t hS rfl) (ySh.n hS rfl) ?_
    refine sp_deposits_X3 hS hC (fun v_ => ?_)
    refine y_ret1 ?_
    refine y_ireturn rfl rfl rfl ?_
    exact hQ _
  · refine y_swIn (j := 5) rfl h_1 (by decide) j_X8_house_120 ?_
    refine y_aload_n rfl rfl ?_
    refine y_getI rfl (ySh.t hS rfl) (ySh.n hS rfl) rfl rfl ?_
    refine y_ireturn rfl rfl rfl ?_
    exact hQ _
  · refine y_swIn (j := 6) rfl h_1 (by decide) j_X8_house_125 ?_
    refine y_aload_n rfl rfl ?_
    refine y_getR rfl (ySh.t hS rfl) (ySh.n hS rfl) rfl rfl (ySh.r hS rfl) ?_
    refine y_getI rfl (ySh.t hS rfl) (ySh.n hS rfl) rfl rfl ?_
    refine y_ireturn rfl rfl rfl ?_
    exact hQ _
  · refine y_swIn (j := 7) rfl h_1 (by decide) j_X8_house_133 ?_
    refine y_aload_n rfl rfl ?_
    refine y_getR rfl (ySh.t hS rfl) (ySh.n hS rfl) rfl rfl (ySh.r hS rfl) ?_
    refine y_virt rfl rfl rfl rfl rfl (ySh.t hS rfl) (ySh.n hS rfl) ?_
    refine sp_countVoid_X5 hS hC (fun v_ => ?_)
    refine y_ret1 ?_
    refine y_ireturn rfl rfl rfl ?_
    exact hQ _
  · refine y_swIn (j := 8) rfl h_1 (by decide) j_X8_house_141 ?_
    refine y_aload_n rfl rfl ?_
    refine y_getR rfl (ySh.t hS rfl) (ySh.n hS rfl) rfl rfl (ySh.r hS rfl) ?_
    refine y_virt rfl rfl rfl rfl rfl (ySh.t hS rfl) (ySh.n hS rfl) ?_
    refine sp_countDone_X5 hS hC (fun v_ => ?_)
    refine y_ret1 ?_
    refine y_ireturn rfl rfl rfl ?_
    exact hQ _
  · refine y_swIn (j := 9) rfl h_1 (by decide) j_X8_house_149 ?_
    refine y_aload_n rfl rfl ?_
    refine y_getR rfl (ySh.t hS rfl) (ySh.n hS rfl) rfl rfl (ySh.r hS rfl) ?_
    refine y_virt rfl rfl rfl rfl rfl (ySh.t hS rfl) (ySh.n hS rfl) ?_
    refine sp_countOpen_X2 hS hC (fun v_ => ?_)
    refine y_ret1 ?_
    refine y_ireturn rfl rfl rfl ?_
    exact hQ _
  · refine y_swIn (j := 10) rfl h_1 (by decide) j_X8_house_157 ?_
    refine y_aload_n rfl rfl ?_
    refine y_getR rfl (ySh.t hS rfl) (ySh.n hS rfl) rfl rfl (ySh.r hS rfl) ?_
    refine y_getI rfl (ySh.t hS rfl) (ySh.n hS rfl) rfl rfl ?_
    refine y_ireturn rfl rfl rfl ?_
    exact hQ _
  · refine y_swIn (j := 11) rfl h_1 (by decide) j_X8_house_165 ?_
    refine y_aload_n rfl rfl ?_
    refine y_getR rfl (ySh.t hS rfl) (ySh.n hS rfl) rfl rfl (ySh.r hS rfl) ?_
    refine y_getI rfl (ySh.t hS rfl) (ySh.n hS rfl) rfl rfl ?_
    refine y_ireturn rfl rfl rfl ?_
    exact hQ _
  · refine y_swIn (j := 12) rfl h_1 (by decide) j_X8_house_173 ?_
    refine y_aload_n rfl rfl ?_
    refine y_getR rfl (ySh.t hS rfl) (ySh.n hS rfl) rfl rfl (ySh.r hS rfl) ?_
    refine y_bip rfl (by decide) ?_
    refine y_virt rfl rfl rfl rfl rfl (ySh.t hS rfl) (ySh.n hS rfl) ?_
    refine sp_ownedBy_X6 hS hC (fun v_ => ?_)
    refine y_ret1 ?_
    refine y_ireturn rfl rfl rfl ?_
    exact hQ _
  · refine y_swIn (j := 13) rfl h_1 (by decide) j_X8_house_183 ?_
    refine y_aload_n rfl rfl ?_
    refine y_getR rfl (ySh.t hS rfl) (ySh.n hS rfl) rfl rfl (ySh.r hS rfl) ?_
    refine y_virt rfl rfl rfl rfl rfl (ySh.t hS rfl) (ySh.n hS rfl) ?_
    refine sp_cashOfPeople_X4 hS hC (fun v_ => ?_)
    refine y_ret1 ?_
    refine y_ireturn rfl rfl rfl ?_
    exact hQ _
  · refine y_swIn (j := 14) rfl h_1 (by decide) j_X8_house_191 ?_
    refine y_aload_n rfl rfl ?_
    refine y_getR rfl (ySh.t hS rfl) (ySh.n hS rfl) rfl rfl (ySh.r hS rfl) ?_
    refine y_getI rfl (ySh.t hS rfl) (ySh.n hS rfl) rfl rfl ?_
    refine y_ireturn rfl rfl rfl ?_
    exact hQ _
  · refine y_swIn (j := 15) rfl h_1 (by decide) j_X8_house_199 ?_
    refine y_aload_n rfl rfl ?_
    refine y_getR rfl (ySh.t hS rfl) (ySh.n hS rfl) rfl rfl (ySh.r hS rfl) ?_
    refine y_getI rfl (ySh.t hS rfl) (ySh.n hS rfl) rfl rfl ?_
    refine y_ireturn rfl rfl rfl ?_
    exact hQ _
theorem m_pillars (hS : ySh n tg R) (hC : yCI I) {x1 x2 : Int32} (hE0 : Q (.inr "java/lang/IndexOutOfBoundsException") (n, tg, I, R) (c + 1) (s + 6)) (hQ : ∀ v, Q (.inl (some (.int v))) (n, tg, I, R) c s) : yC 151 [.ref 34, .int x1, .int x2] (n, tg, I, R) c s Q := by
  refine y_in (M := xm_X8_pillars) (ls := [some _, some _, some _]) rfl rfl rfl ?_
  refine y_aload_n rfl rfl ?_
  refine y_getR rfl (ySh.t hS rfl) (ySh.n hS rfl) rfl rfl (ySh.r hS rfl) ?_
  refine y_iload_n rfl rfl ?_
  refine y_virt rfl rfl rfl rfl rfl (ySh.t hS rfl) (ySh.n hS rfl) ?_
  refine y_in (M := xm_X6_has) (ls := [some _, some _]) rfl rfl rfl ?_
  refine y_iload_n rfl rfl ?_
  refine y_if_lt rfl j_X6_has_16 (fun h_1 => ?_) (fun h_2 => ?_)
  · refine y_iconst rfl ?_
    refine y_ireturn rfl rfl rfl ?_
    refine y_ret1 ?_
    refine y_if_eqT rfl j_X8_pillars_22 (by decide) ?_
    refine y_throw rfl rfl rfl ?_
    exact hE0
  · refine y_iload_n rfl rfl ?_
    refine y_aload_n rfl rfl ?_
    refine y_getI rfl (ySh.t hS rfl) (ySh.n hS rfl) rfl rfl ?_
    refine y_icmp_ge rfl j_X6_has_16 (fun h_3 => ?_) (fun h_4 => ?_)
    · refine y_iconst rfl ?_
      refine y_ireturn rfl rfl rfl ?_
      refine y_ret1 ?_
      refine y_if_eqT rfl j_X8_pillars_22 (by decide) ?_
      refine y_throw rfl rfl rfl ?_
      exact hE0
    · refine y_iconst rfl ?_
      refine y_goto rfl j_X6_has_17 ?_
      refine y_ireturn rfl rfl rfl ?_
      refine y_ret1 ?_
      refine y_if_eqF rfl (by decide) ?_
      refine y_aload_n rfl rfl ?_
      refine y_getR rfl (ySh.t hS rfl) (ySh.n hS rfl) rfl rfl (ySh.r hS rfl) ?_
      refine y_iload_n rfl rfl ?_
      refine y_virt rfl rfl rfl rfl rfl (ySh.t hS rfl) (ySh.n hS rfl) ?_
      refine y_in (M := xm_X4_has) (ls := [some _, some _]) rfl rfl rfl ?_
      refine y_iload_n rfl rfl ?_
      refine y_if_lt rfl j_X4_has_16 (fun h_5 => ?_) (fun h_6 => ?_)
      · refine y_iconst rfl ?_
        refine y_ireturn rfl rfl rfl ?_
        refine y_ret1 ?_
        refine y_if_neF rfl (by decide) ?_
        refine y_throw rfl rfl rfl ?_
        exact hE0
      · refine y_iload_n rfl rfl ?_
        refine y_aload_n rfl rfl ?_
        refine y_getI rfl (ySh.t hS rfl) (ySh.n hS rfl) rfl rfl ?_
        refine y_icmp_ge rfl j_X4_has_16 (fun h_7 => ?_) (fun h_8 => ?_)
        · refine y_iconst rfl ?_
          refine y_ireturn rfl rfl rfl ?_
          refine y_ret1 ?_
          refine y_if_neF rfl (by decide) ?_
          refine y_throw rfl rfl rfl ?_
          exact hE0
        · refine y_iconst rfl ?_
          refine y_goto rfl j_X4_has_17 ?_
          refine y_ireturn rfl rfl rfl ?_
          refine y_ret1 ?_
          refine y_if_neT rfl j_X8_pillars_32 (by decide) ?_
          refine y_aload_n rfl rfl ?_
          refine y_iload_n rfl rfl ?_
          refine y_iload_n rfl rfl ?_
          refine y_virt rfl rfl rfl rfl rfl (ySh.t hS rfl) (ySh.n hS rfl) ?_
          refine sp_missingPillars_X8 hS hC (by omega) (by omega) (fun v_ => ?_)
          refine y_ret1 ?_
          refine y_ireturn rfl rfl rfl ?_
          exact hQ _
theorem m_best (hS : ySh n tg R) (hC : yCI I) {x1 x2 : Int32} (hE1 : ¬ (0 ≤ x1.toInt ∧ x1.toInt ≤ 999) → Q (.inr "java/lang/IllegalArgumentException") (n, tg, I, R) (c + 1) (s + 6)) (hQ : ∀ v, Q (.inl (some (.int v))) (n, tg, I, R) c s) : yC 152 [.ref 34, .int x1, .int x2] (n, tg, I, R) c s Q := by
  have hz := (yshl (x := I 77 0) (by omega) (by omega)).1.2
  refine y_in (M := xm_X8_best) (ls := [some _, some _, some _, _]) rfl rfl rfl ?_
  refine y_iload_n rfl rfl ?_
  refine y_iconst rfl ?_
  refine y_sip rfl (by decide) ?_
  refine y_static rfl rfl rfl rfl rfl ?_
  refine y_in (M := xm_X8_isIn) (ls := [some _, some _, some _]) rfl rfl rfl ?_
  refine y_iload_n rfl rfl ?_
  refine y_iload_n rfl rfl ?_
  refine y_icmp_lt rfl j_X8_isIn_14 (fun h_1 => ?_) (fun h_2 => ?_)
  · rw [yz_0] at h_1
    refine y_iconst rfl ?_
    refine y_ireturn rfl rfl rfl ?_
    refine y_ret1 ?_
    refine y_if_neF rfl (by decide) ?_
    refine y_throw rfl rfl rfl ?_
    exact hE1 (by omega)
  · rw [yz_0] at h_2
    refine y_iload_n rfl rfl ?_
    refine y_iload_n rfl rfl ?_
    refine y_icmp_gt rfl j_X8_isIn_14 (fun h_3 => ?_) (fun h_4 => ?_)
    · rw [yz_999] at h_3
      refine y_iconst rfl ?_
      refine y_ireturn rfl rfl rfl ?_
      refine y_ret1 ?_
      refine y_if_neF rfl (by decide) ?_
      refine y_throw rfl rfl rfl ?_
      exact hE1 (by omega)
    · rw [yz_999] at h_4
      refine y_iconst rfl ?_
      refine y_goto rfl j_X8_isIn_15 ?_
      refine y_ireturn rfl rfl rfl ?_
      refine y_ret1 ?_
      refine y_if_neT rfl j_X8_best_22 (by decide) ?_
      refine y_aload_n rfl rfl ?_
      refine y_getR rfl (ySh.t hS rfl) (ySh.n hS rfl) rfl rfl (ySh.r hS rfl) ?_
      refine y_iload_n rfl rfl ?_
      refine y_virt rfl rfl rfl rfl rfl (ySh.t hS rfl) (ySh.n hS rfl) ?_
      refine sp_bestHolding hS hC (fun v_ => ?_)
      refine y_ret1 ?_
      refine y_istore_n (ls' := [some _, some _, some _, some _]) rfl rfl rfl ?_
      refine y_iload_n rfl rfl ?_
      refine y_if_eq rfl j_X8_best_39 (fun h_5 => ?_) (fun h_6 => ?_)
      · refine y_aload_n rfl rfl ?_
        refine y_getR rfl (ySh.t hS rfl) (ySh.n hS rfl) rfl rfl (ySh.r hS rfl) ?_
        refine y_iload_n rfl rfl ?_
        refine y_virt rfl rfl rfl rfl rfl (ySh.t hS rfl) (ySh.n hS rfl) ?_
        refine y_in (M := xm_X1_gains) (ls := [some _, some _]) rfl rfl rfl ?_
        refine y_aload_n rfl rfl ?_
        refine y_iload_n rfl rfl ?_
        refine y_virt rfl rfl rfl rfl rfl (ySh.t hS rfl) (ySh.n hS rfl) ?_
        refine y_in (M := xm_X1_isSet) (ls := [some _, some _]) rfl rfl rfl ?_
        refine y_iload_n rfl rfl ?_
        refine y_if_lt rfl j_X1_isSet_18 (fun h_7 => ?_) (fun h_8 => ?_)
        · refine y_iconst rfl ?_
          refine y_ireturn rfl rfl rfl ?_
          refine y_ret1 ?_
          refine y_if_eqT rfl j_X1_gains_17 (by decide) ?_
          refine y_iconst rfl ?_
          refine y_ireturn rfl rfl rfl ?_
          refine y_ret1 ?_
          refine y_ireturn rfl rfl rfl ?_
          exact hQ _
        · refine y_iload_n rfl rfl ?_
          refine y_iconst rfl ?_
          refine y_aload_n rfl rfl ?_
          refine y_getI rfl (ySh.t hS rfl) (ySh.n hS rfl) rfl rfl ?_
          refine y_ishl rfl ?_
          refine y_icmp_ge rfl j_X1_isSet_18 (fun h_9 => ?_) (fun h_10 => ?_)
          · refine y_iconst rfl ?_
            refine y_ireturn rfl rfl rfl ?_
            refine y_ret1 ?_
            refine y_if_eqT rfl j_X1_gains_17 (by decide) ?_
            refine y_iconst rfl ?_
            refine y_ireturn rfl rfl rfl ?_
            refine y_ret1 ?_
            refine y_ireturn rfl rfl rfl ?_
            exact hQ _
          · refine y_iconst rfl ?_
            refine y_goto rfl j_X1_isSet_19 ?_
            refine y_ireturn rfl rfl rfl ?_
            refine y_ret1 ?_
            refine y_if_eqF rfl (by decide) ?_
            refine y_aload_n rfl rfl ?_
            refine y_getR rfl (ySh.t hS rfl) (ySh.n hS rfl) rfl rfl (ySh.r hS rfl) ?_
            refine y_iload_n rfl rfl ?_
            refine y_iaload rfl (ySh.t hS rfl) (ySh.n hS rfl) (by omega) (by omega) ?_
            refine y_goto rfl j_X1_gains_18 ?_
            refine y_ireturn rfl rfl rfl ?_
            refine y_ret1 ?_
            refine y_ireturn rfl rfl rfl ?_
            exact hQ _
      · refine y_iload_n rfl rfl ?_
        refine y_goto rfl j_X8_best_47 ?_
        refine y_ireturn rfl rfl rfl ?_
        exact hQ _
theorem m_wouldShare (hS : ySh n tg R) (hC : yCI I) {x1 x2 : Int32} (hE0 : Q (.inr "java/lang/IndexOutOfBoundsException") (n, tg, I, R) (c + 1) (s + 6)) (hE1 : Q (.inr "java/lang/IllegalArgumentException") (n, tg, I, R) (c + 1) (s + 6)) (hQ : ∀ v, Q (.inl (some (.int v))) (n, tg, I, R) c s) : yC 153 [.ref 34, .int x1, .int x2] (n, tg, I, R) c s Q := by
  refine y_in (M := xm_X8_wouldShare) (ls := [some _, some _, some _, _, _]) rfl rfl rfl ?_
  refine y_aload_n rfl rfl ?_
  refine y_getR rfl (ySh.t hS rfl) (ySh.n hS rfl) rfl rfl (ySh.r hS rfl) ?_
  refine y_iload_n rfl rfl ?_
  refine y_virt rfl rfl rfl rfl rfl (ySh.t hS rfl) (ySh.n hS rfl) ?_
  refine y_in (M := xm_X4_has) (ls := [some _, some _]) rfl rfl rfl ?_
  refine y_iload_n rfl rfl ?_
  refine y_if_lt rfl j_X4_has_16 (fun h_1 => ?_) (fun h_2 => ?_)
  · refine y_iconst rfl ?_
    refine y_ireturn rfl rfl rfl ?_
    refine y_ret1 ?_
    refine y_if_neF rfl (by decide) ?_
    refine y_throw rfl rfl rfl ?_
    exact hE0
  · refine y_iload_n rfl rfl ?_
    refine y_aload_n rfl rfl ?_
    refine y_getI rfl (ySh.t hS rfl) (ySh.n hS rfl) rfl rfl ?_
    refine y_icmp_ge rfl j_X4_has_16 (fun h_3 => ?_) (fun h_4 => ?_)
    · refine y_iconst rfl ?_
      refine y_ireturn rfl rfl rfl ?_
      refine y_ret1 ?_
      refine y_if_neF rfl (by decide) ?_
      refine y_throw rfl rfl rfl ?_
      exact hE0
    · refine y_iconst rfl ?_
      refine y_goto rfl j_X4_has_17 ?_
      refine y_ireturn rfl rfl rfl ?_
      refine y_ret1 ?_
      refine y_if_neT rfl j_X8_wouldShare_22 (by decide) ?_
      refine y_iload_n rfl rfl ?_
      refine y_iconst rfl ?_
      refine y_sip rfl (by decide) ?_
      refine y_static rfl rfl rfl rfl rfl ?_
      refine y_in (M := xm_X8_isIn) (ls := [some _, some _, some _]) rfl rfl rfl ?_
      refine y_iload_n rfl rfl ?_
      refine y_iload_n rfl rfl ?_
      refine y_icmp_lt rfl j_X8_isIn_14 (fun h_5 => ?_) (fun h_6 => ?_)
      · rw [yz_0] at h_5
        refine y_iconst rfl ?_
        refine y_ireturn rfl rfl rfl ?_
        refine y_ret1 ?_
        refine y_if_neF rfl (by decide) ?_
        refine y_throw rfl rfl rfl ?_
        exact hE1
      · rw [yz_0] at h_6
        refine y_iload_n rfl rfl ?_
        refine y_iload_n rfl rfl ?_
        refine y_icmp_gt rfl j_X8_isIn_14 (fun h_7 => ?_) (fun h_8 => ?_)
        · rw [yz_9999] at h_7
          refine y_iconst rfl ?_
          refine y_ireturn rfl rfl rfl ?_
          refine y_ret1 ?_
          refine y_if_neF rfl (by decide) ?_
          refine y_throw rfl rfl rfl ?_
          exact hE1
        · rw [yz_9999] at h_8
          refine y_iconst rfl ?_
          refine y_goto rfl j_X8_isIn_15 ?_
          refine y_ireturn rfl rfl rfl ?_
          refine y_ret1 ?_
          refine y_if_neT rfl j_X8_wouldShare_44 (by decide) ?_
          refine y_aload_n rfl rfl ?_
          refine y_getR rfl (ySh.t hS rfl) (ySh.n hS rfl) rfl rfl (ySh.r hS rfl) ?_
          refine y_iload_n rfl rfl ?_
          refine y_virt rfl rfl rfl rfl rfl (ySh.t hS rfl) (ySh.n hS rfl) ?_
          refine y_in (M := xm_X3_leftByManagement) (ls := [some _, some _]) rfl rfl rfl ?_
          refine y_iload_n rfl rfl ?_
          refine y_iload_n rfl rfl ?_
          refine y_aload_n rfl rfl ?_
          refine y_getI rfl (ySh.t hS rfl) (ySh.n hS rfl) rfl rfl ?_
          refine y_imul rfl ?_
          refine y_bip rfl (by decide) ?_
          refine y_idiv rfl (by decide) ?_
          refine y_isub rfl ?_
          refine y_ireturn rfl rfl rfl ?_
          refine y_ret1 ?_
          refine y_istore_n (ls' := [some _, some _, some _, some _, _]) rfl rfl rfl ?_
          refine y_aload_n rfl rfl ?_
          refine y_getR rfl (ySh.t hS rfl) (ySh.n hS rfl) rfl rfl (ySh.r hS rfl) ?_
          refine y_iload_n rfl rfl ?_
          refine y_aload_n rfl rfl ?_
          refine y_getR rfl (ySh.t hS rfl) (ySh.n hS rfl) rfl rfl (ySh.r hS rfl) ?_
          refine y_iconst rfl ?_
          refine y_virt rfl rfl rfl rfl rfl (ySh.t hS rfl) (ySh.n hS rfl) ?_
          refine sp_isAllowedNow hS (by decide) (by decide) (fun h_9 => ?_) (fun h_10 => ?_)
          · refine y_ret1 ?_
            refine y_virt rfl rfl rfl rfl rfl (ySh.t hS rfl) (ySh.n hS rfl) ?_
            refine y_in (M := xm_X3_smoothed) (ls := [some _, some _, some _]) rfl rfl rfl ?_
            refine y_iload_n rfl rfl ?_
            refine y_if_neT rfl j_X3_smoothed_6 (by decide) ?_
            refine y_iload_n rfl rfl ?_
            refine y_aload_n rfl rfl ?_
            refine y_getI rfl (ySh.t hS rfl) (ySh.n hS rfl) rfl rfl ?_
            refine y_icmp_le rfl j_X3_smoothed_21 (fun h_11 => ?_) (fun h_12 => ?_)
            · refine y_iload_n rfl rfl ?_
              refine y_aload_n rfl rfl ?_
              refine y_getI rfl (ySh.t hS rfl) (ySh.n hS rfl) rfl rfl ?_
              refine y_iload_n rfl rfl ?_
              refine y_isub rfl ?_
              refine y_aload_n rfl rfl ?_
              refine y_getI rfl (ySh.t hS rfl) (ySh.n hS rfl) rfl rfl ?_
              refine y_min rfl rfl ?_
              refine y_iadd rfl ?_
              refine y_ireturn rfl rfl rfl ?_
              refine y_ret1 ?_
              refine y_istore (ls' := [some _, some _, some _, some _, some _]) rfl rfl rfl ?_
              refine y_aload_n rfl rfl ?_
              refine y_getR rfl (ySh.t hS rfl) (ySh.n hS rfl) rfl rfl (ySh.r hS rfl) ?_
              refine y_iload_n rfl rfl ?_
              refine y_iload rfl rfl ?_
              refine y_aload_n rfl rfl ?_
              refine y_getR rfl (ySh.t hS rfl) (ySh.n hS rfl) rfl rfl (ySh.r hS rfl) ?_
              refine y_virt rfl rfl rfl rfl rfl (ySh.t hS rfl) (ySh.n hS rfl) ?_
              refine sp_weights_X3 hS hC (fun v_ => ?_)
              refine y_ret1 ?_
              refine y_virt rfl rfl rfl rfl rfl (ySh.t hS rfl) (ySh.n hS rfl) ?_
              refine y_in (M := xm_X3_portionOf) (ls := [some _, some _, some _, some _, _]) rfl rfl rfl ?_
              refine y_iload_n rfl rfl ?_
              refine y_i2l rfl ?_
              refine y_aload_n rfl rfl ?_
              refine y_getR rfl (ySh.t hS rfl) (ySh.n hS rfl) rfl rfl (ySh.r hS rfl) ?_
              refine y_iload_n rfl rfl ?_
              refine y_iaload rfl (ySh.t hS rfl) (ySh.n hS rfl) (by omega) (by omega) ?_
              refine y_i2l rfl ?_
              refine y_lload_n rfl rfl ?_
              refine y_static rfl rfl rfl rfl rfl ?_
              refine sp_portion ?_
              refine y_ret1 ?_
              refine y_ldcI (v := (99999 : Int)) rfl rfl rfl (by decide) ?_
              refine y_aload_n rfl rfl ?_
              refine y_getR rfl (ySh.t hS rfl) (ySh.n hS rfl) rfl rfl (ySh.r hS rfl) ?_
              refine y_iload_n rfl rfl ?_
              refine y_iaload rfl (ySh.t hS rfl) (ySh.n hS rfl) (by omega) (by omega) ?_
              refine y_isub rfl ?_
              refine y_min rfl rfl ?_
              refine y_ireturn rfl rfl rfl ?_
              refine y_ret1 ?_
              refine y_ireturn rfl rfl rfl ?_
              exact hQ _
            · refine y_aload_n rfl rfl ?_
              refine y_getI rfl (ySh.t hS rfl) (ySh.n hS rfl) rfl rfl ?_
              refine y_goto rfl j_X3_smoothed_36 ?_
              refine y_ireturn rfl rfl rfl ?_
              refine y_ret1 ?_
              refine y_istore (ls' := [some _, some _, some _, some _, some _]) rfl rfl rfl ?_
              refine y_aload_n rfl rfl ?_
              refine y_getR rfl (ySh.t hS rfl) (ySh.n hS rfl) rfl rfl (ySh.r hS rfl) ?_
              refine y_iload_n rfl rfl ?_
              refine y_iload rfl rfl ?_
              refine y_aload_n rfl rfl ?_
              refine y_getR rfl (ySh.t hS rfl) (ySh.n hS rfl) rfl rfl (ySh.r hS rfl) ?_
              refine y_virt rfl rfl rfl rfl rfl (ySh.t hS rfl) (ySh.n hS rfl) ?_
              refine sp_weights_X3 hS hC (fun v_ => ?_)
              refine y_ret1 ?_
              refine y_virt rfl rfl rfl rfl rfl (ySh.t hS rfl) (ySh.n hS rfl) ?_
              refine y_in (M := xm_X3_portionOf) (ls := [some _, some _, some _, some _, _]) rfl rfl rfl ?_
              refine y_iload_n rfl rfl ?_
              refine y_i2l rfl ?_
              refine y_aload_n rfl rfl ?_
              refine y_getR rfl (ySh.t hS rfl) (ySh.n hS rfl) rfl rfl (ySh.r hS rfl) ?_
              refine y_iload_n rfl rfl ?_
              refine y_iaload rfl (ySh.t hS rfl) (ySh.n hS rfl) (by omega) (by omega) ?_
              refine y_i2l rfl ?_
              refine y_lload_n rfl rfl ?_
              refine y_static rfl rfl rfl rfl rfl ?_
              refine sp_portion ?_
              refine y_ret1 ?_
              refine y_ldcI (v := (99999 : Int)) rfl rfl rfl (by decide) ?_
              refine y_aload_n rfl rfl ?_
              refine y_getR rfl (ySh.t hS rfl) (ySh.n hS rfl) rfl rfl (ySh.r hS rfl) ?_
              refine y_iload_n rfl rfl ?_
              refine y_iaload rfl (ySh.t hS rfl) (ySh.n hS rfl) (by omega) (by omega) ?_
              refine y_isub rfl ?_
              refine y_min rfl rfl ?_
              refine y_ireturn rfl rfl rfl ?_
              refine y_ret1 ?_
              refine y_ireturn rfl rfl rfl ?_
              exact hQ _
          · refine y_ret1 ?_
            refine y_virt rfl rfl rfl rfl rfl (ySh.t hS rfl) (ySh.n hS rfl) ?_
            refine y_in (M := xm_X3_smoothed) (ls := [some _, some _, some _]) rfl rfl rfl ?_
            refine y_iload_n rfl rfl ?_
            refine y_if_neF rfl (by decide) ?_
            refine y_iload_n rfl rfl ?_
            refine y_ireturn rfl rfl rfl ?_
            refine y_ret1 ?_
            refine y_istore (ls' := [some _, some _, some _, some _, some _]) rfl rfl rfl ?_
            refine y_aload_n rfl rfl ?_
            refine y_getR rfl (ySh.t hS rfl) (ySh.n hS rfl) rfl rfl (ySh.r hS rfl) ?_
            refine y_iload_n rfl rfl ?_
            refine y_iload rfl rfl ?_
            refine y_aload_n rfl rfl ?_
            refine y_getR rfl (ySh.t hS rfl) (ySh.n hS rfl) rfl rfl (ySh.r hS rfl) ?_
            refine y_virt rfl rfl rfl rfl rfl (ySh.t hS rfl) (ySh.n hS rfl) ?_
            refine sp_weights_X3 hS hC (fun v_ => ?_)
            refine y_ret1 ?_
            refine y_virt rfl rfl rfl rfl rfl (ySh.t hS rfl) (ySh.n hS rfl) ?_
            refine y_in (M := xm_X3_portionOf) (ls := [some _, some _, some _, some _, _]) rfl rfl rfl ?_
            refine y_iload_n rfl rfl ?_
            refine y_i2l rfl ?_
            refine y_aload_n rfl rfl ?_
            refine y_getR rfl (ySh.t hS rfl) (ySh.n hS rfl) rfl rfl (ySh.r hS rfl) ?_
            refine y_iload_n rfl rfl ?_
            refine y_iaload rfl (ySh.t hS rfl) (ySh.n hS rfl) (by omega) (by omega) ?_
            refine y_i2l rfl ?_
            refine y_lload_n rfl rfl ?_
            refine y_static rfl rfl rfl rfl rfl ?_
            refine sp_portion ?_
            refine y_ret1 ?_
            refine y_ldcI (v := (99999 : Int)) rfl rfl rfl (by decide) ?_
            refine y_aload_n rfl rfl ?_
            refine y_getR rfl (ySh.t hS rfl) (ySh.n hS rfl) rfl rfl (ySh.r hS rfl) ?_
            refine y_iload_n rfl rfl ?_
            refine y_iaload rfl (ySh.t hS rfl) (ySh.n hS rfl) (by omega) (by omega) ?_
            refine y_isub rfl ?_
            refine y_min rfl rfl ?_
            refine y_ireturn rfl rfl rfl ?_
            refine y_ret1 ?_
            refine y_ireturn rfl rfl rfl ?_
            exact hQ _
theorem m_isSound (hS : ySh n tg R) (hC : yCI I)  (hQ1 : Q (.inl (some (.int (Int32.ofInt 1)))) (n, tg, I, R) c s) (hQ0 : Q (.inl (some (.int (Int32.ofInt 0)))) (n, tg, I, R) c s) : yC 154 [.ref 34] (n, tg, I, R) c s Q := by
  refine y_in (M := xm_X8_isSound) (ls := [some _]) rfl rfl rfl ?_
  refine y_aload_n rfl rfl ?_
  refine y_getR rfl (ySh.t hS rfl) (ySh.n hS rfl) rfl rfl (ySh.r hS rfl) ?_
  refine y_virt rfl rfl rfl rfl rfl (ySh.t hS rfl) (ySh.n hS rfl) ?_
  refine sp_isInOrder_X3 hS hC ?_ ?_
  · refine y_ret1 ?_
    refine y_if_eqF rfl (by decide) ?_
    refine y_aload_n rfl rfl ?_
    refine y_getR rfl (ySh.t hS rfl) (ySh.n hS rfl) rfl rfl (ySh.r hS rfl) ?_
    refine y_virt rfl rfl rfl rfl rfl (ySh.t hS rfl) (ySh.n hS rfl) ?_
    refine sp_isInOrderV hS hC ?_ ?_
    · refine y_ret1 ?_
      refine y_if_eqF rfl (by decide) ?_
      refine y_aload_n rfl rfl ?_
      refine y_getR rfl (ySh.t hS rfl) (ySh.n hS rfl) rfl rfl (ySh.r hS rfl) ?_
      refine y_virt rfl rfl rfl rfl rfl (ySh.t hS rfl) (ySh.n hS rfl) ?_
      refine sp_isInOrder_X6 hS hC ?_ ?_
      · refine y_ret1 ?_
        refine y_if_eqF rfl (by decide) ?_
        refine y_aload_n rfl rfl ?_
        refine y_getR rfl (ySh.t hS rfl) (ySh.n hS rfl) rfl rfl (ySh.r hS rfl) ?_
        refine y_virt rfl rfl rfl rfl rfl (ySh.t hS rfl) (ySh.n hS rfl) ?_
        refine sp_isInOrder_X5 hS hC ?_ ?_
        · refine y_ret1 ?_
          refine y_if_eqF rfl (by decide) ?_
          refine y_aload_n rfl rfl ?_
          refine y_getR rfl (ySh.t hS rfl) (ySh.n hS rfl) rfl rfl (ySh.r hS rfl) ?_
          refine y_virt rfl rfl rfl rfl rfl (ySh.t hS rfl) (ySh.n hS rfl) ?_
          refine sp_allFees_X5 hS hC (fun v_ => ?_)
          refine y_ret1 ?_
          refine y_aload_n rfl rfl ?_
          refine y_getR rfl (ySh.t hS rfl) (ySh.n hS rfl) rfl rfl (ySh.r hS rfl) ?_
          refine y_getI rfl (ySh.t hS rfl) (ySh.n hS rfl) rfl rfl ?_
          refine y_icmp_gt rfl j_X8_isSound_61 (fun h_1 => ?_) (fun h_2 => ?_)
          · refine y_iconst rfl ?_
            refine y_ireturn rfl rfl rfl ?_
            exact hQ0
          · refine y_iconst rfl ?_
            refine y_goto rfl j_X8_isSound_62 ?_
            refine y_ireturn rfl rfl rfl ?_
            exact hQ1
        · refine y_ret1 ?_
          refine y_if_eqT rfl j_X8_isSound_61 (by decide) ?_
          refine y_iconst rfl ?_
          refine y_ireturn rfl rfl rfl ?_
          exact hQ0
      · refine y_ret1 ?_
        refine y_if_eqT rfl j_X8_isSound_61 (by decide) ?_
        refine y_iconst rfl ?_
        refine y_ireturn rfl rfl rfl ?_
        exact hQ0
    · refine y_ret1 ?_
      refine y_if_eqT rfl j_X8_isSound_61 (by decide) ?_
      refine y_iconst rfl ?_
      refine y_ireturn rfl rfl rfl ?_
      exact hQ0
  · refine y_ret1 ?_
    refine y_if_eqT rfl j_X8_isSound_61 (by decide) ?_
    refine y_iconst rfl ?_
    refine y_ireturn rfl rfl rfl ?_
    exact hQ0
theorem lp_addPeople2 (hS : ySh n tg R) (hC : yCI I) {x1 : Int64} {x5 : Int32} (h50 : 0 ≤ x5.toInt) (h51 : x5.toInt < (I 38 0).toInt) (hx : ∀ v : Int64, yW xm_X8_addPeople xc_X8_addPeople_49 [some (.ref 34), some (.long x1), none, some (.long v), none, some (.int x5), none] [] (n, tg, I, R) c s Q) : ∀ (m : Nat) (x3 : Int64) (x6 : Int32), (0 ≤ x6.toInt) → (x6.toInt ≤ 8) → 8 - x6.toInt < m → yW xm_X8_addPeople xc_X8_addPeople_20 [some (.ref 34), some (.long x1), none, some (.long x3), none, some (.int x5), some (.int x6)] [] (n, tg, I, R) c s Q := by
  intro m
  induction m with
  | zero => intro x3 x6 i0 i1 hm; exfalso; omega
  | succ m ih =>
    intro x3 x6 i0 i1 hm
    refine y_iload rfl rfl ?_
    refine y_bip rfl (by decide) ?_
    refine y_icmp_gt rfl j_X8_addPeople_49 (fun h_1 => ?_) (fun h_2 => ?_)
    · rw [yz_7] at h_1
      refine y_fgt (ls := [some _, some _, none, some _, none, some _, none]) ⟨rfl, rfl, rfl, rfl, trivial⟩ ?_
      exact hx _
    · rw [yz_7] at h_2
      refine y_lload_n rfl rfl ?_
      refine y_ldc2 rfl ?_
      refine y_lmul rfl ?_
      refine y_aload_n rfl rfl ?_
      refine y_iload rfl rfl ?_
      refine y_iload rfl rfl ?_
      refine y_virt rfl rfl rfl rfl rfl (ySh.t hS rfl) (ySh.n hS rfl) ?_
      refine m_ofPerson hS hC (fun h_ => by exfalso; omega) (fun h_ => by exfalso; omega) (fun v_ => ?_)
      refine y_ret1 ?_
      refine y_i2l rfl ?_
      refine y_ladd rfl ?_
      refine y_lstore_n (ls' := [some _, some _, _, some _, _, some _, some _]) rfl rfl rfl ?_
      refine y_iinc (ls' := [some _, some _, _, some _, _, some _, some _]) rfl rfl rfl rfl ?_
      refine y_goto rfl j_X8_addPeople_20 ?_
      exact ih _ _ (by first | omega | (rw [yinc (by omega)]; omega)) (by first | omega | (rw [yinc (by omega)]; omega)) (by first | omega | (rw [yinc (by omega)]; omega))
theorem lp_addPeople (hS : ySh n tg R) (hC : yCI I) {x1 : Int64} (hQ : ∀ v, Q (.inl (some (.long v))) (n, tg, I, R) c s) : ∀ (m : Nat) (x3 : Int64) (x5 : Int32), (0 ≤ x5.toInt) → (x5.toInt ≤ (I 38 0).toInt) → (I 38 0).toInt - x5.toInt < m → yW xm_X8_addPeople xc_X8_addPeople_5 [some (.ref 34), some (.long x1), none, some (.long x3), none, some (.int x5), none] [] (n, tg, I, R) c s Q := by
  intro m
  induction m with
  | zero => intro x3 x5 i0 i1 hm; exfalso; omega
  | succ m ih =>
    intro x3 x5 i0 i1 hm
    refine y_iload rfl rfl ?_
    refine y_aload_n rfl rfl ?_
    refine y_getR rfl (ySh.t hS rfl) (ySh.n hS rfl) rfl rfl (ySh.r hS rfl) ?_
    refine y_getI rfl (ySh.t hS rfl) (ySh.n hS rfl) rfl rfl ?_
    refine y_icmp_ge rfl j_X8_addPeople_55 (fun h_1 => ?_) (fun h_2 => ?_)
    · refine y_lload_n rfl rfl ?_
      refine y_lreturn rfl ?_
      exact hQ _
    · refine y_iconst rfl ?_
      refine y_istore (ls' := [some _, some _, _, some _, _, some _, some _]) rfl rfl rfl ?_
      refine lp_addPeople2 hS hC (by omega) (by omega) (fun v_ => ?_) 100 _ _ (by decide) (by decide) (by decide)
      refine y_iinc (ls' := [some _, some _, _, some _, _, some _, _]) rfl rfl rfl rfl ?_
      refine y_goto rfl j_X8_addPeople_5 ?_
      exact ih _ _ (by first | omega | (rw [yinc (by omega)]; omega)) (by first | omega | (rw [yinc (by omega)]; omega)) (by first | omega | (rw [yinc (by omega)]; omega))
theorem sp_addPeople (hS : ySh n tg R) (hC : yCI I) {x1 : Int64} (hQ : ∀ v, Q (.inl (some (.long v))) (n, tg, I, R) c s) : yC 156 [.ref 34, .long x1] (n, tg, I, R) c s Q := by
  refine y_in (M := xm_X8_addPeople) (ls := [some _, some _, _, _, _, _, _]) rfl rfl rfl ?_
  refine y_lload_n rfl rfl ?_
  refine y_lstore_n (ls' := [some _, some _, _, some _, _, _, _]) rfl rfl rfl ?_
  refine y_iconst rfl ?_
  refine y_istore (ls' := [some _, some _, _, some _, _, some _, _]) rfl rfl rfl ?_
  exact lp_addPeople hS hC hQ 100 _ _ (by decide) (by rw [yz_0]; omega) (by rw [yz_0]; omega)
theorem lp_addThings2 (hS : ySh n tg R) (hC : yCI I) {x1 : Int64} {x5 : Int32} (h50 : 0 ≤ x5.toInt) (h51 : x5.toInt < (I 40 0).toInt) (hx : ∀ v : Int64, yW xm_X8_addThings xc_X8_addThings_49 [some (.ref 34), some (.long x1), none, some (.long v), none, some (.int x5), none] [] (n, tg, I, R) c s Q) : ∀ (m : Nat) (x3 : Int64) (x6 : Int32), (1 ≤ x6.toInt) → (x6.toInt ≤ 7) → 7 - x6.toInt < m → yW xm_X8_addThings xc_X8_addThings_20 [some (.ref 34), some (.long x1), none, some (.long x3), none, some (.int x5), some (.int x6)] [] (n, tg, I, R) c s Q := by
  intro m
  induction m with
  | zero => intro x3 x6 i0 i1 hm; exfalso; omega
  | succ m ih =>
    intro x3 x6 i0 i1 hm
    refine y_iload rfl rfl ?_
    refine y_bip rfl (by decide) ?_
    refine y_icmp_gt rfl j_X8_addThings_49 (fun h_1 => ?_) (fun h_2 => ?_)
    · rw [yz_6] at h_1
      refine y_fgt (ls := [some _, some _, none, some _, none, some _, none]) ⟨rfl, rfl, rfl, rfl, trivial⟩ ?_
      exact hx _
    · rw [yz_6] at h_2
      refine y_lload_n rfl rfl ?_
      refine y_ldc2 rfl ?_
      refine y_lmul rfl ?_
      refine y_aload_n rfl rfl ?_
      refine y_iload rfl rfl ?_
      refine y_iload rfl rfl ?_
      refine y_virt rfl rfl rfl rfl rfl (ySh.t hS rfl) (ySh.n hS rfl) ?_
      refine m_ofThing hS hC (fun h_ => by exfalso; omega) (fun h_ => by exfalso; omega) (fun v_ => ?_)
      refine y_ret1 ?_
      refine y_i2l rfl ?_
      refine y_ladd rfl ?_
      refine y_lstore_n (ls' := [some _, some _, _, some _, _, some _, some _]) rfl rfl rfl ?_
      refine y_iinc (ls' := [some _, some _, _, some _, _, some _, some _]) rfl rfl rfl rfl ?_
      refine y_goto rfl j_X8_addThings_20 ?_
      exact ih _ _ (by first | omega | (rw [yinc (by omega)]; omega)) (by first | omega | (rw [yinc (by omega)]; omega)) (by first | omega | (rw [yinc (by omega)]; omega))
theorem lp_addThings (hS : ySh n tg R) (hC : yCI I) {x1 : Int64} (hQ : ∀ v, Q (.inl (some (.long v))) (n, tg, I, R) c s) : ∀ (m : Nat) (x3 : Int64) (x5 : Int32), (0 ≤ x5.toInt) → (x5.toInt ≤ (I 40 0).toInt) → (I 40 0).toInt - x5.toInt < m → yW xm_X8_addThings xc_X8_addThings_5 [some (.ref 34), some (.long x1), none, some (.long x3), none, some (.int x5), none] [] (n, tg, I, R) c s Q := by
  intro m
  induction m with
  | zero => intro x3 x5 i0 i1 hm; exfalso; omega
  | succ m ih =>
    intro x3 x5 i0 i1 hm
    refine y_iload rfl rfl ?_
    refine y_aload_n rfl rfl ?_
    refine y_getR rfl (ySh.t hS rfl) (ySh.n hS rfl) rfl rfl (ySh.r hS rfl) ?_
    refine y_getI rfl (ySh.t hS rfl) (ySh.n hS rfl) rfl rfl ?_
    refine y_icmp_ge rfl j_X8_addThings_55 (fun h_1 => ?_) (fun h_2 => ?_)
    · refine y_lload_n rfl rfl ?_
      refine y_lreturn rfl ?_
      exact hQ _
    · refine y_iconst rfl ?_
      refine y_istore (ls' := [some _, some _, _, some _, _, some _, some _]) rfl rfl rfl ?_
      refine lp_addThings2 hS hC (by omega) (by omega) (fun v_ => ?_) 100 _ _ (by decide) (by decide) (by decide)
      refine y_iinc (ls' := [some _, some _, _, some _, _, some _, _]) rfl rfl rfl rfl ?_
      refine y_goto rfl j_X8_addThings_5 ?_
      exact ih _ _ (by first | omega | (rw [yinc (by omega)]; omega)) (by first | omega | (rw [yinc (by omega)]; omega)) (by first | omega | (rw [yinc (by omega)]; omega))
theorem sp_addThings (hS : ySh n tg R) (hC : yCI I) {x1 : Int64} (hQ : ∀ v, Q (.inl (some (.long v))) (n, tg, I, R) c s) : yC 157 [.ref 34, .long x1] (n, tg, I, R) c s Q := by
  refine y_in (M := xm_X8_addThings) (ls := [some _, some _, _, _, _, _, _]) rfl rfl rfl ?_
  refine y_lload_n rfl rfl ?_
  refine y_lstore_n (ls' := [some _, some _, _, some _, _, _, _]) rfl rfl rfl ?_
  refine y_iconst rfl ?_
  refine y_istore (ls' := [some _, some _, _, some _, _, some _, _]) rfl rfl rfl ?_
  exact lp_addThings hS hC hQ 100 _ _ (by decide) (by rw [yz_0]; omega) (by rw [yz_0]; omega)
theorem lp_addSales2 (hS : ySh n tg R) (hC : yCI I) {x1 : Int64} {x5 : Int32} (h50 : 0 ≤ x5.toInt) (h51 : x5.toInt < (I 48 0).toInt) (hx : ∀ v : Int64, yW xm_X8_addSales xc_X8_addSales_49 [some (.ref 34), some (.long x1), none, some (.long v), none, some (.int x5), none] [] (n, tg, I, R) c s Q) : ∀ (m : Nat) (x3 : Int64) (x6 : Int32), (2 ≤ x6.toInt) → (x6.toInt ≤ 10) → 10 - x6.toInt < m → yW xm_X8_addSales xc_X8_addSales_20 [some (.ref 34), some (.long x1), none, some (.long x3), none, some (.int x5), some (.int x6)] [] (n, tg, I, R) c s Q := by
  intro m
  induction m with
  | zero => intro x3 x6 i0 i1 hm; exfalso; omega
  | succ m ih =>
    intro x3 x6 i0 i1 hm
    refine y_iload rfl rfl ?_
    refine y_bip rfl (by decide) ?_
    refine y_icmp_gt rfl j_X8_addSales_49 (fun h_1 => ?_) (fun h_2 => ?_)
    · rw [yz_9] at h_1
      refine y_fgt (ls := [some _, some _, none, some _, none, some _, none]) ⟨rfl, rfl, rfl, rfl, trivial⟩ ?_
      exact hx _
    · rw [yz_9] at h_2
      refine y_lload_n rfl rfl ?_
      refine y_ldc2 rfl ?_
      refine y_lmul rfl ?_
      refine y_aload_n rfl rfl ?_
      refine y_iload rfl rfl ?_
      refine y_iload rfl rfl ?_
      refine y_virt rfl rfl rfl rfl rfl (ySh.t hS rfl) (ySh.n hS rfl) ?_
      refine m_ofSale hS hC (fun h_ => by exfalso; omega) (fun h_ => by exfalso; omega) (fun v_ => ?_)
      refine y_ret1 ?_
      refine y_i2l rfl ?_
      refine y_ladd rfl ?_
      refine y_lstore_n (ls' := [some _, some _, _, some _, _, some _, some _]) rfl rfl rfl ?_
      refine y_iinc (ls' := [some _, some _, _, some _, _, some _, some _]) rfl rfl rfl rfl ?_
      refine y_goto rfl j_X8_addSales_20 ?_
      exact ih _ _ (by first | omega | (rw [yinc (by omega)]; omega)) (by first | omega | (rw [yinc (by omega)]; omega)) (by first | omega | (rw [yinc (by omega)]; omega))
theorem lp_addSales (hS : ySh n tg R) (hC : yCI I) {x1 : Int64} (hQ : ∀ v, Q (.inl (some (.long v))) (n, tg, I, R) c s) : ∀ (m : Nat) (x3 : Int64) (x5 : Int32), (0 ≤ x5.toInt) → (x5.toInt ≤ (I 48 0).toInt) → (I 48 0).toInt - x5.toInt < m → yW xm_X8_addSales xc_X8_addSales_5 [some (.ref 34), some (.long x1), none, some (.long x3), none, some (.int x5), none] [] (n, tg, I, R) c s Q := by
  intro m
  induction m with
  | zero => intro x3 x5 i0 i1 hm; exfalso; omega
  | succ m ih =>
    intro x3 x5 i0 i1 hm
    refine y_iload rfl rfl ?_
    refine y_aload_n rfl rfl ?_
    refine y_getR rfl (ySh.t hS rfl) (ySh.n hS rfl) rfl rfl (ySh.r hS rfl) ?_
    refine y_getI rfl (ySh.t hS rfl) (ySh.n hS rfl) rfl rfl ?_
    refine y_icmp_ge rfl j_X8_addSales_55 (fun h_1 => ?_) (fun h_2 => ?_)
    · refine y_lload_n rfl rfl ?_
      refine y_lreturn rfl ?_
      exact hQ _
    · refine y_iconst rfl ?_
      refine y_istore (ls' := [some _, some _, _, some _, _, some _, some _]) rfl rfl rfl ?_
      refine lp_addSales2 hS hC (by omega) (by omega) (fun v_ => ?_) 100 _ _ (by decide) (by decide) (by decide)
      refine y_iinc (ls' := [some _, some _, _, some _, _, some _, _]) rfl rfl rfl rfl ?_
      refine y_goto rfl j_X8_addSales_5 ?_
      exact ih _ _ (by first | omega | (rw [yinc (by omega)]; omega)) (by first | omega | (rw [yinc (by omega)]; omega)) (by first | omega | (rw [yinc (by omega)]; omega))
theorem sp_addSales (hS : ySh n tg R) (hC : yCI I) {x1 : Int64} (hQ : ∀ v, Q (.inl (some (.long v))) (n, tg, I, R) c s) : yC 158 [.ref 34, .long x1] (n, tg, I, R) c s Q := by
  refine y_in (M := xm_X8_addSales) (ls := [some _, some _, _, _, _, _, _]) rfl rfl rfl ?_
  refine y_lload_n rfl rfl ?_
  refine y_lstore_n (ls' := [some _, some _, _, some _, _, _, _]) rfl rfl rfl ?_
  refine y_iconst rfl ?_
  refine y_istore (ls' := [some _, some _, _, some _, _, some _, _]) rfl rfl rfl ?_
  exact lp_addSales hS hC hQ 100 _ _ (by decide) (by rw [yz_0]; omega) (by rw [yz_0]; omega)
theorem lp_addLeases2 (hS : ySh n tg R) (hC : yCI I) {x1 : Int64} {x5 : Int32} (h50 : 0 ≤ x5.toInt) (h51 : x5.toInt < (I 59 0).toInt) (hx : ∀ v : Int64, yW xm_X8_addLeases xc_X8_addLeases_48 [some (.ref 34), some (.long x1), none, some (.long v), none, some (.int x5), none] [] (n, tg, I, R) c s Q) : ∀ (m : Nat) (x3 : Int64) (x6 : Int32), (2 ≤ x6.toInt) → (x6.toInt ≤ 6) → 6 - x6.toInt < m → yW xm_X8_addLeases xc_X8_addLeases_20 [some (.ref 34), some (.long x1), none, some (.long x3), none, some (.int x5), some (.int x6)] [] (n, tg, I, R) c s Q := by
  intro m
  induction m with
  | zero => intro x3 x6 i0 i1 hm; exfalso; omega
  | succ m ih =>
    intro x3 x6 i0 i1 hm
    refine y_iload rfl rfl ?_
    refine y_iconst rfl ?_
    refine y_icmp_gt rfl j_X8_addLeases_48 (fun h_1 => ?_) (fun h_2 => ?_)
    · rw [yz_5] at h_1
      refine y_fgt (ls := [some _, some _, none, some _, none, some _, none]) ⟨rfl, rfl, rfl, rfl, trivial⟩ ?_
      exact hx _
    · rw [yz_5] at h_2
      refine y_lload_n rfl rfl ?_
      refine y_ldc2 rfl ?_
      refine y_lmul rfl ?_
      refine y_aload_n rfl rfl ?_
      refine y_iload rfl rfl ?_
      refine y_iload rfl rfl ?_
      refine y_virt rfl rfl rfl rfl rfl (ySh.t hS rfl) (ySh.n hS rfl) ?_
      refine m_ofLease hS hC (fun h_ => by exfalso; omega) (fun h_ => by exfalso; omega) (fun v_ => ?_)
      refine y_ret1 ?_
      refine y_i2l rfl ?_
      refine y_ladd rfl ?_
      refine y_lstore_n (ls' := [some _, some _, _, some _, _, some _, some _]) rfl rfl rfl ?_
      refine y_iinc (ls' := [some _, some _, _, some _, _, some _, some _]) rfl rfl rfl rfl ?_
      refine y_goto rfl j_X8_addLeases_20 ?_
      exact ih _ _ (by first | omega | (rw [yinc (by omega)]; omega)) (by first | omega | (rw [yinc (by omega)]; omega)) (by first | omega | (rw [yinc (by omega)]; omega))
theorem lp_addLeases (hS : ySh n tg R) (hC : yCI I) {x1 : Int64} (hQ : ∀ v, Q (.inl (some (.long v))) (n, tg, I, R) c s) : ∀ (m : Nat) (x3 : Int64) (x5 : Int32), (0 ≤ x5.toInt) → (x5.toInt ≤ (I 59 0).toInt) → (I 59 0).toInt - x5.toInt < m → yW xm_X8_addLeases xc_X8_addLeases_5 [some (.ref 34), some (.long x1), none, some (.long x3), none, some (.int x5), none] [] (n, tg, I, R) c s Q := by
  intro m
  induction m with
  | zero => intro x3 x5 i0 i1 hm; exfalso; omega
  | succ m ih =>
    intro x3 x5 i0 i1 hm
    refine y_iload rfl rfl ?_
    refine y_aload_n rfl rfl ?_
    refine y_getR rfl (ySh.t hS rfl) (ySh.n hS rfl) rfl rfl (ySh.r hS rfl) ?_
    refine y_getI rfl (ySh.t hS rfl) (ySh.n hS rfl) rfl rfl ?_
    refine y_icmp_ge rfl j_X8_addLeases_54 (fun h_1 => ?_) (fun h_2 => ?_)
    · refine y_lload_n rfl rfl ?_
      refine y_lreturn rfl ?_
      exact hQ _
    · refine y_iconst rfl ?_
      refine y_istore (ls' := [some _, some _, _, some _, _, some _, some _]) rfl rfl rfl ?_
      refine lp_addLeases2 hS hC (by omega) (by omega) (fun v_ => ?_) 100 _ _ (by decide) (by decide) (by decide)
      refine y_iinc (ls' := [some _, some _, _, some _, _, some _, _]) rfl rfl rfl rfl ?_
      refine y_goto rfl j_X8_addLeases_5 ?_
      exact ih _ _ (by first | omega | (rw [yinc (by omega)]; omega)) (by first | omega | (rw [yinc (by omega)]; omega)) (by first | omega | (rw [yinc (by omega)]; omega))
theorem sp_addLeases (hS : ySh n tg R) (hC : yCI I) {x1 : Int64} (hQ : ∀ v, Q (.inl (some (.long v))) (n, tg, I, R) c s) : yC 159 [.ref 34, .long x1] (n, tg, I, R) c s Q := by
  refine y_in (M := xm_X8_addLeases) (ls := [some _, some _, _, _, _, _, _]) rfl rfl rfl ?_
  refine y_lload_n rfl rfl ?_
  refine y_lstore_n (ls' := [some _, some _, _, some _, _, _, _]) rfl rfl rfl ?_
  refine y_iconst rfl ?_
  refine y_istore (ls' := [some _, some _, _, some _, _, some _, _]) rfl rfl rfl ?_
  exact lp_addLeases hS hC hQ 100 _ _ (by decide) (by rw [yz_0]; omega) (by rw [yz_0]; omega)
theorem lp_addFirms2 (hS : ySh n tg R) (hC : yCI I) {x1 : Int64} {x5 : Int32} (h50 : 0 ≤ x5.toInt) (h51 : x5.toInt < (I 77 0).toInt) (hx : ∀ v : Int64, yW xm_X8_addFirms xc_X8_addFirms_48 [some (.ref 34), some (.long x1), none, some (.long v), none, some (.int x5), none] [] (n, tg, I, R) c s Q) : ∀ (m : Nat) (x3 : Int64) (x6 : Int32), (0 ≤ x6.toInt) → (x6.toInt ≤ 3) → 3 - x6.toInt < m → yW xm_X8_addFirms xc_X8_addFirms_20 [some (.ref 34), some (.long x1), none, some (.long x3), none, some (.int x5), some (.int x6)] [] (n, tg, I, R) c s Q := by
  intro m
  induction m with
  | zero => intro x3 x6 i0 i1 hm; exfalso; omega
  | succ m ih =>
    intro x3 x6 i0 i1 hm
    refine y_iload rfl rfl ?_
    refine y_iconst rfl ?_
    refine y_icmp_gt rfl j_X8_addFirms_48 (fun h_1 => ?_) (fun h_2 => ?_)
    · rw [yz_2] at h_1
      refine y_fgt (ls := [some _, some _, none, some _, none, some _, none]) ⟨rfl, rfl, rfl, rfl, trivial⟩ ?_
      exact hx _
    · rw [yz_2] at h_2
      refine y_lload_n rfl rfl ?_
      refine y_ldc2 rfl ?_
      refine y_lmul rfl ?_
      refine y_aload_n rfl rfl ?_
      refine y_iload rfl rfl ?_
      refine y_iload rfl rfl ?_
      refine y_virt rfl rfl rfl rfl rfl (ySh.t hS rfl) (ySh.n hS rfl) ?_
      refine m_ofFirm hS hC (fun h_ => by exfalso; omega) (fun h_ => by exfalso; omega) (fun v_ => ?_)
      refine y_ret1 ?_
      refine y_i2l rfl ?_
      refine y_ladd rfl ?_
      refine y_lstore_n (ls' := [some _, some _, _, some _, _, some _, some _]) rfl rfl rfl ?_
      refine y_iinc (ls' := [some _, some _, _, some _, _, some _, some _]) rfl rfl rfl rfl ?_
      refine y_goto rfl j_X8_addFirms_20 ?_
      exact ih _ _ (by first | omega | (rw [yinc (by omega)]; omega)) (by first | omega | (rw [yinc (by omega)]; omega)) (by first | omega | (rw [yinc (by omega)]; omega))
theorem lp_addFirms (hS : ySh n tg R) (hC : yCI I) {x1 : Int64} (hQ : ∀ v, Q (.inl (some (.long v))) (n, tg, I, R) c s) : ∀ (m : Nat) (x3 : Int64) (x5 : Int32), (0 ≤ x5.toInt) → (x5.toInt ≤ (I 77 0).toInt) → (I 77 0).toInt - x5.toInt < m → yW xm_X8_addFirms xc_X8_addFirms_5 [some (.ref 34), some (.long x1), none, some (.long x3), none, some (.int x5), none] [] (n, tg, I, R) c s Q := by
  intro m
  induction m with
  | zero => intro x3 x5 i0 i1 hm; exfalso; omega
  | succ m ih =>
    intro x3 x5 i0 i1 hm
    refine y_iload rfl rfl ?_
    refine y_aload_n rfl rfl ?_
    refine y_getR rfl (ySh.t hS rfl) (ySh.n hS rfl) rfl rfl (ySh.r hS rfl) ?_
    refine y_getI rfl (ySh.t hS rfl) (ySh.n hS rfl) rfl rfl ?_
    refine y_icmp_ge rfl j_X8_addFirms_54 (fun h_1 => ?_) (fun h_2 => ?_)
    · refine y_lload_n rfl rfl ?_
      refine y_lreturn rfl ?_
      exact hQ _
    · refine y_iconst rfl ?_
      refine y_istore (ls' := [some _, some _, _, some _, _, some _, some _]) rfl rfl rfl ?_
      refine lp_addFirms2 hS hC (by omega) (by omega) (fun v_ => ?_) 100 _ _ (by decide) (by decide) (by decide)
      refine y_iinc (ls' := [some _, some _, _, some _, _, some _, _]) rfl rfl rfl rfl ?_
      refine y_goto rfl j_X8_addFirms_5 ?_
      exact ih _ _ (by first | omega | (rw [yinc (by omega)]; omega)) (by first | omega | (rw [yinc (by omega)]; omega)) (by first | omega | (rw [yinc (by omega)]; omega))
theorem sp_addFirms (hS : ySh n tg R) (hC : yCI I) {x1 : Int64} (hQ : ∀ v, Q (.inl (some (.long v))) (n, tg, I, R) c s) : yC 162 [.ref 34, .long x1] (n, tg, I, R) c s Q := by
  refine y_in (M := xm_X8_addFirms) (ls := [some _, some _, _, _, _, _, _]) rfl rfl rfl ?_
  refine y_lload_n rfl rfl ?_
  refine y_lstore_n (ls' := [some _, some _, _, some _, _, _, _]) rfl rfl rfl ?_
  refine y_iconst rfl ?_
  refine y_istore (ls' := [some _, some _, _, some _, _, some _, _]) rfl rfl rfl ?_
  exact lp_addFirms hS hC hQ 100 _ _ (by decide) (by rw [yz_0]; omega) (by rw [yz_0]; omega)
theorem lp_addPartner (hS : ySh n tg R) (hC : yCI I) {x1 : Int64} {x3 x4 : Int32} (hv0 : 0 ≤ x3.toInt) (hv1 : x3.toInt < (I 69 0).toInt) (hv2 : x4.toInt = -1 ∨ 0 ≤ x4.toInt ∧ x4.toInt < (I 38 0).toInt) (hQ : ∀ v, Q (.inl (some (.long v))) (n, tg, I, R) c s) : ∀ (m : Nat) (x5 : Int64) (x7 : Int32), (0 ≤ x7.toInt) → (x7.toInt ≤ 3) → 3 - x7.toInt < m → yW xm_X8_addPartner xc_X8_addPartner_6 [some (.ref 34), some (.long x1), none, some (.int x3), some (.int x4), some (.long x5), none, some (.int x7)] [] (n, tg, I, R) c s Q := by
  intro m
  induction m with
  | zero => intro x5 x7 i0 i1 hm; exfalso; omega
  | succ m ih =>
    intro x5 x7 i0 i1 hm
    refine y_iload rfl rfl ?_
    refine y_iconst rfl ?_
    refine y_icmp_gt rfl j_X8_addPartner_37 (fun h_1 => ?_) (fun h_2 => ?_)
    · rw [yz_2] at h_1
      refine y_lload rfl rfl ?_
      refine y_lreturn rfl ?_
      exact hQ _
    · rw [yz_2] at h_2
      refine y_lload rfl rfl ?_
      refine y_ldc2 rfl ?_
      refine y_lmul rfl ?_
      refine y_aload_n rfl rfl ?_
      refine y_iload_n rfl rfl ?_
      refine y_iload rfl rfl ?_
      refine y_iload rfl rfl ?_
      refine y_virt rfl rfl rfl rfl rfl (ySh.t hS rfl) (ySh.n hS rfl) ?_
      refine m_ofVenture hS hC (fun h_ => by exfalso; omega) (fun h_ => by exfalso; omega) (fun v_ => ?_)
      refine y_ret1 ?_
      refine y_i2l rfl ?_
      refine y_ladd rfl ?_
      refine y_lstore (ls' := [some _, some _, _, some _, some _, some _, _, some _]) rfl rfl rfl ?_
      refine y_iinc (ls' := [some _, some _, _, some _, some _, some _, _, some _]) rfl rfl rfl rfl ?_
      refine y_goto rfl j_X8_addPartner_6 ?_
      exact ih _ _ (by first | omega | (rw [yinc (by omega)]; omega)) (by first | omega | (rw [yinc (by omega)]; omega)) (by first | omega | (rw [yinc (by omega)]; omega))
theorem sp_addPartner (hS : ySh n tg R) (hC : yCI I) {x1 : Int64} {x3 x4 : Int32} (hv0 : 0 ≤ x3.toInt) (hv1 : x3.toInt < (I 69 0).toInt) (hv2 : x4.toInt = -1 ∨ 0 ≤ x4.toInt ∧ x4.toInt < (I 38 0).toInt) (hQ : ∀ v, Q (.inl (some (.long v))) (n, tg, I, R) c s) : yC 161 [.ref 34, .long x1, .int x3, .int x4] (n, tg, I, R) c s Q := by
  refine y_in (M := xm_X8_addPartner) (ls := [some _, some _, _, some _, some _, _, _, _]) rfl rfl rfl ?_
  refine y_lload_n rfl rfl ?_
  refine y_lstore (ls' := [some _, some _, _, some _, some _, some _, _, _]) rfl rfl rfl ?_
  refine y_iconst rfl ?_
  refine y_istore (ls' := [some _, some _, _, some _, some _, some _, _, some _]) rfl rfl rfl ?_
  exact lp_addPartner hS hC hv0 hv1 hv2 hQ 100 _ _ (by decide) (by decide) (by decide)
theorem lp_addVentures2 (hS : ySh n tg R) (hC : yCI I) {x1 : Int64} {x5 : Int32} (h50 : 0 ≤ x5.toInt) (h51 : x5.toInt < (I 69 0).toInt) (hx : ∀ v : Int64, yW xm_X8_addVentures xc_X8_addVentures_48 [some (.ref 34), some (.long x1), none, some (.long v), none, some (.int x5), none] [] (n, tg, I, R) c s Q) : ∀ (m : Nat) (x3 : Int64) (x6 : Int32), (0 ≤ x6.toInt) → (x6.toInt ≤ (I 38 0).toInt) → (I 38 0).toInt - x6.toInt < m → yW xm_X8_addVentures xc_X8_addVentures_20 [some (.ref 34), some (.long x1), none, some (.long x3), none, some (.int x5), some (.int x6)] [] (n, tg, I, R) c s Q := by
  intro m
  induction m with
  | zero => intro x3 x6 i0 i1 hm; exfalso; omega
  | succ m ih =>
    intro x3 x6 i0 i1 hm
    refine y_iload rfl rfl ?_
    refine y_aload_n rfl rfl ?_
    refine y_getR rfl (ySh.t hS rfl) (ySh.n hS rfl) rfl rfl (ySh.r hS rfl) ?_
    refine y_getI rfl (ySh.t hS rfl) (ySh.n hS rfl) rfl rfl ?_
    refine y_icmp_ge rfl j_X8_addVentures_48 (fun h_1 => ?_) (fun h_2 => ?_)
    · refine y_fgt (ls := [some _, some _, none, some _, none, some _, none]) ⟨rfl, rfl, rfl, rfl, trivial⟩ ?_
      exact hx _
    · refine y_aload_n rfl rfl ?_
      refine y_lload_n rfl rfl ?_
      refine y_iload rfl rfl ?_
      refine y_iload rfl rfl ?_
      refine y_virt rfl rfl rfl rfl rfl (ySh.t hS rfl) (ySh.n hS rfl) ?_
      refine sp_addPartner hS hC (by omega) (by omega) (Or.inr ⟨by omega, by omega⟩) (fun v_ => ?_)
      refine y_ret1 ?_
      refine y_lstore_n (ls' := [some _, some _, _, some _, _, some _, some _]) rfl rfl rfl ?_
      refine y_iinc (ls' := [some _, some _, _, some _, _, some _, some _]) rfl rfl rfl rfl ?_
      refine y_goto rfl j_X8_addVentures_20 ?_
      exact ih _ _ (by first | omega | (rw [yinc (by omega)]; omega)) (by first | omega | (rw [yinc (by omega)]; omega)) (by first | omega | (rw [yinc (by omega)]; omega))
theorem lp_addVentures (hS : ySh n tg R) (hC : yCI I) {x1 : Int64} (hQ : ∀ v, Q (.inl (some (.long v))) (n, tg, I, R) c s) : ∀ (m : Nat) (x3 : Int64) (x5 : Int32), (0 ≤ x5.toInt) → (x5.toInt ≤ (I 69 0).toInt) → (I 69 0).toInt - x5.toInt < m → yW xm_X8_addVentures xc_X8_addVentures_5 [some (.ref 34), some (.long x1), none, some (.long x3), none, some (.int x5), none] [] (n, tg, I, R) c s Q := by
  intro m
  induction m with
  | zero => intro x3 x5 i0 i1 hm; exfalso; omega
  | succ m ih =>
    intro x3 x5 i0 i1 hm
    refine y_iload rfl rfl ?_
    refine y_aload_n rfl rfl ?_
    refine y_getR rfl (ySh.t hS rfl) (ySh.n hS rfl) rfl rfl (ySh.r hS rfl) ?_
    refine y_getI rfl (ySh.t hS rfl) (ySh.n hS rfl) rfl rfl ?_
    refine y_icmp_ge rfl j_X8_addVentures_63 (fun h_1 => ?_) (fun h_2 => ?_)
    · refine y_lload_n rfl rfl ?_
      refine y_lreturn rfl ?_
      exact hQ _
    · refine y_iconst rfl ?_
      refine y_istore (ls' := [some _, some _, _, some _, _, some _, some _]) rfl rfl rfl ?_
      refine lp_addVentures2 hS hC (by omega) (by omega) (fun v_ => ?_) 100 _ _ (by decide) (by rw [yz_0]; omega) (by rw [yz_0]; omega)
      refine y_aload_n rfl rfl ?_
      refine y_lload_n rfl rfl ?_
      refine y_iload rfl rfl ?_
      refine y_iconst rfl ?_
      refine y_virt rfl rfl rfl rfl rfl (ySh.t hS rfl) (ySh.n hS rfl) ?_
      refine sp_addPartner hS hC (by omega) (by omega) (Or.inl yz_m1) (fun v_ => ?_)
      refine y_ret1 ?_
      refine y_lstore_n (ls' := [some _, some _, _, some _, _, some _, _]) rfl rfl rfl ?_
      refine y_iinc (ls' := [some _, some _, _, some _, _, some _, _]) rfl rfl rfl rfl ?_
      refine y_goto rfl j_X8_addVentures_5 ?_
      exact ih _ _ (by first | omega | (rw [yinc (by omega)]; omega)) (by first | omega | (rw [yinc (by omega)]; omega)) (by first | omega | (rw [yinc (by omega)]; omega))
theorem sp_addVentures (hS : ySh n tg R) (hC : yCI I) {x1 : Int64} (hQ : ∀ v, Q (.inl (some (.long v))) (n, tg, I, R) c s) : yC 160 [.ref 34, .long x1] (n, tg, I, R) c s Q := by
  refine y_in (M := xm_X8_addVentures) (ls := [some _, some _, _, _, _, _, _]) rfl rfl rfl ?_
  refine y_lload_n rfl rfl ?_
  refine y_lstore_n (ls' := [some _, some _, _, some _, _, _, _]) rfl rfl rfl ?_
  refine y_iconst rfl ?_
  refine y_istore (ls' := [some _, some _, _, some _, _, some _, _]) rfl rfl rfl ?_
  exact lp_addVentures hS hC hQ 100 _ _ (by decide) (by rw [yz_0]; omega) (by rw [yz_0]; omega)
theorem lp_digestB (hS : ySh n tg R) (hC : yCI I) (hQ : ∀ v, Q (.inl (some (.long v))) (n, tg, I, R) c s) : ∀ (m : Nat) (x1 : Int64) (x3 : Int32), (0 ≤ x3.toInt) → (x3.toInt ≤ 5) → 5 - x3.toInt < m → yW xm_X8_digest xc_X8_digest_69 [some (.ref 34), some (.long x1), none, some (.int x3)] [] (n, tg, I, R) c s Q := by
  intro m
  induction m with
  | zero => intro x1 x3 i0 i1 hm; exfalso; omega
  | succ m ih =>
    intro x1 x3 i0 i1 hm
    refine y_iload_n rfl rfl ?_
    refine y_iconst rfl ?_
    refine y_icmp_ge rfl j_X8_digest_104 (fun h_1 => ?_) (fun h_2 => ?_)
    · rw [yz_5] at h_1
      refine y_lload_n rfl rfl ?_
      refine y_ldc2 rfl ?_
      refine y_lmul rfl ?_
      refine y_aload_n rfl rfl ?_
      refine y_bip rfl (by decide) ?_
      refine y_iconst rfl ?_
      refine y_virt rfl rfl rfl rfl rfl (ySh.t hS rfl) (ySh.n hS rfl) ?_
      refine m_best hS hC (fun h_ => by exfalso; (try rw [yz_100] at h_); (try rw [yz_0] at h_);  omega) (fun v_ => ?_)
      refine y_ret1 ?_
      refine y_i2l rfl ?_
      refine y_ladd rfl ?_
      refine y_lstore_n (ls' := [some _, some _, _, some _]) rfl rfl rfl ?_
      refine y_lload_n rfl rfl ?_
      refine y_ldc2 rfl ?_
      refine y_lmul rfl ?_
      refine y_aload_n rfl rfl ?_
      refine y_bip rfl (by decide) ?_
      refine y_iconst rfl ?_
      refine y_virt rfl rfl rfl rfl rfl (ySh.t hS rfl) (ySh.n hS rfl) ?_
      refine m_best hS hC (fun h_ => by exfalso; (try rw [yz_100] at h_); (try rw [yz_1] at h_);  omega) (fun v_ => ?_)
      refine y_ret1 ?_
      refine y_i2l rfl ?_
      refine y_ladd rfl ?_
      refine y_lstore_n (ls' := [some _, some _, _, some _]) rfl rfl rfl ?_
      refine y_lload_n rfl rfl ?_
      refine y_ldc2 rfl ?_
      refine y_lmul rfl ?_
      refine y_aload_n rfl rfl ?_
      refine y_virt rfl rfl rfl rfl rfl (ySh.t hS rfl) (ySh.n hS rfl) ?_
      refine m_isSound hS hC  ?_ ?_
      · refine y_ret1 ?_
        refine y_if_eqF rfl (by decide) ?_
        refine y_iconst rfl ?_
        refine y_goto rfl j_X8_digest_151 ?_
        refine y_i2l rfl ?_
        refine y_ladd rfl ?_
        refine y_lreturn rfl ?_
        exact hQ _
      · refine y_ret1 ?_
        refine y_if_eqT rfl j_X8_digest_150 (by decide) ?_
        refine y_iconst rfl ?_
        refine y_i2l rfl ?_
        refine y_ladd rfl ?_
        refine y_lreturn rfl ?_
        exact hQ _
    · rw [yz_5] at h_2
      refine y_lload_n rfl rfl ?_
      refine y_ldc2 rfl ?_
      refine y_lmul rfl ?_
      refine y_aload_n rfl rfl ?_
      refine y_getR rfl (ySh.t hS rfl) (ySh.n hS rfl) rfl rfl (ySh.r hS rfl) ?_
      refine y_iload_n rfl rfl ?_
      refine y_virt rfl rfl rfl rfl rfl (ySh.t hS rfl) (ySh.n hS rfl) ?_
      refine sp_isAllowedNow hS (by omega) (by omega) (fun h_3 => ?_) (fun h_4 => ?_)
      · refine y_ret1 ?_
        refine y_if_eqF rfl (by decide) ?_
        refine y_iconst rfl ?_
        refine y_goto rfl j_X8_digest_95 ?_
        refine y_i2l rfl ?_
        refine y_ladd rfl ?_
        refine y_lstore_n (ls' := [some _, some _, _, some _]) rfl rfl rfl ?_
        refine y_iinc (ls' := [some _, some _, _, some _]) rfl rfl rfl rfl ?_
        refine y_goto rfl j_X8_digest_69 ?_
        exact ih _ _ (by first | omega | (rw [yinc (by omega)]; omega)) (by first | omega | (rw [yinc (by omega)]; omega)) (by first | omega | (rw [yinc (by omega)]; omega))
      · refine y_ret1 ?_
        refine y_if_eqT rfl j_X8_digest_94 (by decide) ?_
        refine y_iconst rfl ?_
        refine y_i2l rfl ?_
        refine y_ladd rfl ?_
        refine y_lstore_n (ls' := [some _, some _, _, some _]) rfl rfl rfl ?_
        refine y_iinc (ls' := [some _, some _, _, some _]) rfl rfl rfl rfl ?_
        refine y_goto rfl j_X8_digest_69 ?_
        exact ih _ _ (by first | omega | (rw [yinc (by omega)]; omega)) (by first | omega | (rw [yinc (by omega)]; omega)) (by first | omega | (rw [yinc (by omega)]; omega))
theorem lp_digestA (hS : ySh n tg R) (hC : yCI I) (hQ : ∀ v, Q (.inl (some (.long v))) (n, tg, I, R) c s) : ∀ (m : Nat) (x1 : Int64) (x3 : Int32), (0 ≤ x3.toInt) → (x3.toInt ≤ 16) → 16 - x3.toInt < m → yW xm_X8_digest xc_X8_digest_6 [some (.ref 34), some (.long x1), none, some (.int x3)] [] (n, tg, I, R) c s Q := by
  intro m
  induction m with
  | zero => intro x1 x3 i0 i1 hm; exfalso; omega
  | succ m ih =>
    intro x1 x3 i0 i1 hm
    refine y_iload_n rfl rfl ?_
    refine y_bip rfl (by decide) ?_
    refine y_icmp_gt rfl j_X8_digest_31 (fun h_1 => ?_) (fun h_2 => ?_)
    · rw [yz_15] at h_1
      refine y_aload_n rfl rfl ?_
      refine y_lload_n rfl rfl ?_
      refine y_virt rfl rfl rfl rfl rfl (ySh.t hS rfl) (ySh.n hS rfl) ?_
      refine sp_addPeople hS hC (fun v_ => ?_)
      refine y_ret1 ?_
      refine y_lstore_n (ls' := [some _, some _, _, some _]) rfl rfl rfl ?_
      refine y_aload_n rfl rfl ?_
      refine y_lload_n rfl rfl ?_
      refine y_virt rfl rfl rfl rfl rfl (ySh.t hS rfl) (ySh.n hS rfl) ?_
      refine sp_addThings hS hC (fun v_ => ?_)
      refine y_ret1 ?_
      refine y_lstore_n (ls' := [some _, some _, _, some _]) rfl rfl rfl ?_
      refine y_aload_n rfl rfl ?_
      refine y_lload_n rfl rfl ?_
      refine y_virt rfl rfl rfl rfl rfl (ySh.t hS rfl) (ySh.n hS rfl) ?_
      refine sp_addSales hS hC (fun v_ => ?_)
      refine y_ret1 ?_
      refine y_lstore_n (ls' := [some _, some _, _, some _]) rfl rfl rfl ?_
      refine y_aload_n rfl rfl ?_
      refine y_lload_n rfl rfl ?_
      refine y_virt rfl rfl rfl rfl rfl (ySh.t hS rfl) (ySh.n hS rfl) ?_
      refine sp_addLeases hS hC (fun v_ => ?_)
      refine y_ret1 ?_
      refine y_lstore_n (ls' := [some _, some _, _, some _]) rfl rfl rfl ?_
      refine y_aload_n rfl rfl ?_
      refine y_lload_n rfl rfl ?_
      refine y_virt rfl rfl rfl rfl rfl (ySh.t hS rfl) (ySh.n hS rfl) ?_
      refine sp_addVentures hS hC (fun v_ => ?_)
      refine y_ret1 ?_
      refine y_lstore_n (ls' := [some _, some _, _, some _]) rfl rfl rfl ?_
      refine y_aload_n rfl rfl ?_
      refine y_lload_n rfl rfl ?_
      refine y_virt rfl rfl rfl rfl rfl (ySh.t hS rfl) (ySh.n hS rfl) ?_
      refine sp_addFirms hS hC (fun v_ => ?_)
      refine y_ret1 ?_
      refine y_lstore_n (ls' := [some _, some _, _, some _]) rfl rfl rfl ?_
      refine y_iconst rfl ?_
      refine y_istore_n (ls' := [some _, some _, _, some _]) rfl rfl rfl ?_
      exact lp_digestB hS hC hQ 100 _ _ (by decide) (by decide) (by decide)
    · rw [yz_15] at h_2
      refine y_lload_n rfl rfl ?_
      refine y_ldc2 rfl ?_
      refine y_lmul rfl ?_
      refine y_aload_n rfl rfl ?_
      refine y_iload_n rfl rfl ?_
      refine y_virt rfl rfl rfl rfl rfl (ySh.t hS rfl) (ySh.n hS rfl) ?_
      refine m_house hS hC (fun h_ => by exfalso; omega) (fun v_ => ?_)
      refine y_ret1 ?_
      refine y_i2l rfl ?_
      refine y_ladd rfl ?_
      refine y_lstore_n (ls' := [some _, some _, _, some _]) rfl rfl rfl ?_
      refine y_iinc (ls' := [some _, some _, _, some _]) rfl rfl rfl rfl ?_
      refine y_goto rfl j_X8_digest_6 ?_
      exact ih _ _ (by first | omega | (rw [yinc (by omega)]; omega)) (by first | omega | (rw [yinc (by omega)]; omega)) (by first | omega | (rw [yinc (by omega)]; omega))
theorem m_digest (hS : ySh n tg R) (hC : yCI I) (hQ : ∀ v, Q (.inl (some (.long v))) (n, tg, I, R) c s) : yC 155 [.ref 34] (n, tg, I, R) c s Q := by
  refine y_in (M := xm_X8_digest) (ls := [some _, _, _, _]) rfl rfl rfl ?_
  refine y_ldc2 rfl ?_
  refine y_lstore_n (ls' := [some _, some _, _, _]) rfl rfl rfl ?_
  refine y_iconst rfl ?_
  refine y_istore_n (ls' := [some _, some _, _, some _]) rfl rfl rfl ?_
  exact lp_digestA hS hC hQ 100 _ _ (by decide) (by decide) (by decide)
end YMET
