/-! THE CLASS, EXACTLY, as far as counts, the day and the benchmark go (by ex1c.py) -/
section YEC
variable {n : Nat} {tg : Nat → yT} {I : Nat → Nat → Int32} {R : Nat → Nat → Value} {c s : Nat} {Q : yQ}
theorem e_person (hS : ySh n tg R) (hC : yCI I) {x1 : Int32} (hE1 : ¬ (0 ≤ x1.toInt ∧ x1.toInt ≤ 9999) → Q (.inr "java/lang/IllegalArgumentException") (n, tg, I, R) (c + 1) (s + 6)) (hE2 : (0 ≤ x1.toInt ∧ x1.toInt ≤ 9999) ∧ (I 38 0).toInt = 8 → Q (.inr "java/lang/IllegalStateException") (n, tg, I, R) (c + 1) (s + 6)) (hQ : (0 ≤ x1.toInt ∧ x1.toInt ≤ 9999) ∧ (I 38 0).toInt < 8 → ∀ (v : Int32) (I1 : Nat → Nat → Int32), yCI I1 → yFt I I1 → (v.toInt = (I 38 0).toInt ∧ (I1 38 0).toInt = (I 38 0).toInt + 1) → Q (.inl (some (.int v))) (n, tg, I1, R) c s) : yC 122 [.ref 34, .int x1] (n, tg, I, R) c s Q := by
  have hF : yFt I I := yFt.rf
  refine y_in (M := xm_X8_person) (ls := [some _, some _]) rfl rfl rfl ?_
  refine y_iload_n rfl rfl ?_
  refine y_iconst rfl ?_
  refine y_sip rfl (by decide) ?_
  refine y_static rfl rfl rfl rfl rfl ?_
  refine y_in (M := xm_X8_isIn) (ls := [some _, some _, some _]) rfl rfl rfl ?_
  refine y_iload_n rfl rfl ?_
  refine y_iload_n rfl rfl ?_
  refine y_icmp_lt rfl j_X8_isIn_14 (fun h_1 => ?_) (fun h_2 => ?_)
  · rw [yz_0] at h_1
    refine y_iconst rfl ?_
    refine y_ireturn rfl rfl rfl ?_
    refine y_ret1 ?_
    refine y_if_neF rfl (by decide) ?_
    refine y_throw rfl rfl rfl ?_
    exact hE1 (by omega)
  · rw [yz_0] at h_2
    refine y_iload_n rfl rfl ?_
    refine y_iload_n rfl rfl ?_
    refine y_icmp_gt rfl j_X8_isIn_14 (fun h_3 => ?_) (fun h_4 => ?_)
    · rw [yz_9999] at h_3
      refine y_iconst rfl ?_
      refine y_ireturn rfl rfl rfl ?_
      refine y_ret1 ?_
      refine y_if_neF rfl (by decide) ?_
      refine y_throw rfl rfl rfl ?_
      exact hE1 (by omega)
    · rw [yz_9999] at h_4
      refine y_iconst rfl ?_
      refine y_goto rfl j_X8_isIn_15 ?_
      refine y_ireturn rfl rfl rfl ?_
      refine y_ret1 ?_
      refine y_if_neT rfl j_X8_person_21 (by decide) ?_
      refine y_aload_n rfl rfl ?_
      refine y_getR rfl (ySh.t hS rfl) (ySh.n hS rfl) rfl rfl (ySh.r hS rfl) ?_
      refine y_getI rfl (ySh.t hS rfl) (ySh.n hS rfl) rfl rfl ?_
      refine y_bip rfl (by decide) ?_
      refine y_icmp_lt rfl j_X8_person_43 (fun h_5 => ?_) (fun h_6 => ?_)
      · rw [yz_8] at h_5
        refine y_aload_n rfl rfl ?_
        refine y_getR rfl (ySh.t hS rfl) (ySh.n hS rfl) rfl rfl (ySh.r hS rfl) ?_
        refine y_iload_n rfl rfl ?_
        refine y_virt rfl rfl rfl rfl rfl (ySh.t hS rfl) (ySh.n hS rfl) ?_
        refine y_in (M := xm_X4_open) (ls := [some _, some _]) rfl rfl rfl ?_
        refine y_aload_n rfl rfl ?_
        refine y_getR rfl (ySh.t hS rfl) (ySh.n hS rfl) rfl rfl (ySh.r hS rfl) ?_
        refine y_aload_n rfl rfl ?_
        refine y_getI rfl (ySh.t hS rfl) (ySh.n hS rfl) rfl rfl ?_
        refine y_iload_n rfl rfl ?_
        refine y_iastore rfl (ySh.t hS rfl) (ySh.n hS rfl) (Nat.le_of_ble_eq_true rfl) (by omega) (by omega) ?_
        refine y_aload_n rfl rfl ?_
        refine y_dup rfl rfl ?_
        refine y_getIv (v := I 38 0) rfl (ySh.t hS rfl) (ySh.n hS rfl) rfl rfl rfl ?_
        refine y_dup_x1 rfl rfl rfl ?_
        refine y_iconst rfl ?_
        refine y_iadd rfl ?_
        refine y_putI rfl (ySh.t hS rfl) (ySh.n hS rfl) rfl (Nat.le_of_ble_eq_true rfl) rfl rfl ?_
        refine y_setC (yCI.inc38 hC (by show (I 38 0).toInt < 8; omega)) (fun hC => ?_)
        refine y_ireturn rfl rfl rfl ?_
        refine y_ret1 ?_
        refine y_ireturn rfl rfl rfl ?_
        exact hQ (by omega) _ _ hC (by repeat (first | exact hF | refine yFt.upd ?_ (by decide))) ⟨rfl, (congrArg Int32.toInt upd2_self).trans (yinc (by omega))⟩
      · rw [yz_8] at h_6
        refine y_throw rfl rfl rfl ?_
        exact hE2 (by omega)
theorem e_thing (hS : ySh n tg R) (hC : yCI I) {x1 x2 : Int32} (hE0 : ¬ (x2.toInt = -1 ∨ 0 ≤ x2.toInt ∧ x2.toInt < (I 38 0).toInt) → Q (.inr "java/lang/IndexOutOfBoundsException") (n, tg, I, R) (c + 1) (s + 6)) (hE1 : (x2.toInt = -1 ∨ 0 ≤ x2.toInt ∧ x2.toInt < (I 38 0).toInt) ∧ ¬ (1 ≤ x1.toInt ∧ x1.toInt ≤ 999) → Q (.inr "java/lang/IllegalArgumentException") (n, tg, I, R) (c + 1) (s + 6)) (hE2 : (x2.toInt = -1 ∨ 0 ≤ x2.toInt ∧ x2.toInt < (I 38 0).toInt) ∧ (1 ≤ x1.toInt ∧ x1.toInt ≤ 999) ∧ (I 40 0).toInt = 16 → Q (.inr "java/lang/IllegalStateException") (n, tg, I, R) (c + 1) (s + 6)) (hQ : (x2.toInt = -1 ∨ 0 ≤ x2.toInt ∧ x2.toInt < (I 38 0).toInt) ∧ (1 ≤ x1.toInt ∧ x1.toInt ≤ 999) ∧ (I 40 0).toInt < 16 → ∀ (v : Int32) (I1 : Nat → Nat → Int32), yCI I1 → yFt I I1 → (v.toInt = (I 40 0).toInt ∧ (I1 40 0).toInt = (I 40 0).toInt + 1) → Q (.inl (some (.int v))) (n, tg, I1, R) c s) : yC 123 [.ref 34, .int x1, .int x2] (n, tg, I, R) c s Q := by
  have hF : yFt I I := yFt.rf
  refine y_in (M := xm_X8_thing) (ls := [some _, some _, some _]) rfl rfl rfl ?_
  refine y_iload_n rfl rfl ?_
  refine y_iconst rfl ?_
  refine y_icmp_eq rfl j_X8_thing_26 (fun h_1 => ?_) (fun h_2 => ?_)
  · rw [yz_m1] at h_1
    refine y_iload_n rfl rfl ?_
    refine y_iconst rfl ?_
    refine y_sip rfl (by decide) ?_
    refine y_static rfl rfl rfl rfl rfl ?_
    refine y_in (M := xm_X8_isIn) (ls := [some _, some _, some _]) rfl rfl rfl ?_
    refine y_iload_n rfl rfl ?_
    refine y_iload_n rfl rfl ?_
    refine y_icmp_lt rfl j_X8_isIn_14 (fun h_3 => ?_) (fun h_4 => ?_)
    · rw [yz_1] at h_3
      refine y_iconst rfl ?_
      refine y_ireturn rfl rfl rfl ?_
      refine y_ret1 ?_
      refine y_if_neF rfl (by decide) ?_
      refine y_throw rfl rfl rfl ?_
      exact hE1 (by omega)
    · rw [yz_1] at h_4
      refine y_iload_n rfl rfl ?_
      refine y_iload_n rfl rfl ?_
      refine y_icmp_gt rfl j_X8_isIn_14 (fun h_5 => ?_) (fun h_6 => ?_)
      · rw [yz_999] at h_5
        refine y_iconst rfl ?_
        refine y_ireturn rfl rfl rfl ?_
        refine y_ret1 ?_
        refine y_if_neF rfl (by decide) ?_
        refine y_throw rfl rfl rfl ?_
        exact hE1 (by omega)
      · rw [yz_999] at h_6
        refine y_iconst rfl ?_
        refine y_goto rfl j_X8_isIn_15 ?_
        refine y_ireturn rfl rfl rfl ?_
        refine y_ret1 ?_
        refine y_if_neT rfl j_X8_thing_47 (by decide) ?_
        refine y_aload_n rfl rfl ?_
        refine y_getR rfl (ySh.t hS rfl) (ySh.n hS rfl) rfl rfl (ySh.r hS rfl) ?_
        refine y_getI rfl (ySh.t hS rfl) (ySh.n hS rfl) rfl rfl ?_
        refine y_bip rfl (by decide) ?_
        refine y_icmp_lt rfl j_X8_thing_69 (fun h_7 => ?_) (fun h_8 => ?_)
        · rw [yz_16] at h_7
          refine y_aload_n rfl rfl ?_
          refine y_getR rfl (ySh.t hS rfl) (ySh.n hS rfl) rfl rfl (ySh.r hS rfl) ?_
          refine y_iload_n rfl rfl ?_
          refine y_iload_n rfl rfl ?_
          refine y_iconst rfl ?_
          refine y_icmp_ne rfl j_X8_thing_84 (fun h_9 => ?_) (fun h_10 => ?_)
          · rw [yz_m1] at h_9
            refine y_iload_n rfl rfl ?_
            refine y_virt rfl rfl rfl rfl rfl (ySh.t hS rfl) (ySh.n hS rfl) ?_
            refine y_in (M := xm_X6_add) (ls := [some _, some _, some _]) rfl rfl rfl ?_
            refine y_aload_n rfl rfl ?_
            refine y_getR rfl (ySh.t hS rfl) (ySh.n hS rfl) rfl rfl (ySh.r hS rfl) ?_
            refine y_aload_n rfl rfl ?_
            refine y_getI rfl (ySh.t hS rfl) (ySh.n hS rfl) rfl rfl ?_
            refine y_iload_n rfl rfl ?_
            refine y_iastore rfl (ySh.t hS rfl) (ySh.n hS rfl) (Nat.le_of_ble_eq_true rfl) (by omega) (by omega) ?_
            refine y_aload_n rfl rfl ?_
            refine y_getR rfl (ySh.t hS rfl) (ySh.n hS rfl) rfl rfl (ySh.r hS rfl) ?_
            refine y_aload_n rfl rfl ?_
            refine y_getIv (v := I 40 0) rfl (ySh.t hS rfl) (ySh.n hS rfl) rfl rfl rfl ?_
            refine y_iload_n rfl rfl ?_
            refine y_iastore rfl (ySh.t hS rfl) (ySh.n hS rfl) (Nat.le_of_ble_eq_true rfl) (by omega) (by omega) ?_
            refine y_aload_n rfl rfl ?_
            refine y_getR rfl (ySh.t hS rfl) (ySh.n hS rfl) rfl rfl (ySh.r hS rfl) ?_
            refine y_aload_n rfl rfl ?_
            refine y_getIv (v := I 40 0) rfl (ySh.t hS rfl) (ySh.n hS rfl) rfl rfl rfl ?_
            refine y_iconst rfl ?_
            refine y_zastore rfl (ySh.t hS rfl) (ySh.n hS rfl) (Nat.le_of_ble_eq_true rfl) (by omega) (by omega) rfl ?_
            refine y_aload_n rfl rfl ?_
            refine y_getR rfl (ySh.t hS rfl) (ySh.n hS rfl) rfl rfl (ySh.r hS rfl) ?_
            refine y_aload_n rfl rfl ?_
            refine y_getIv (v := I 40 0) rfl (ySh.t hS rfl) (ySh.n hS rfl) rfl rfl rfl ?_
            refine y_iconst rfl ?_
            refine y_iastore rfl (ySh.t hS rfl) (ySh.n hS rfl) (Nat.le_of_ble_eq_true rfl) (by omega) (by omega) ?_
            refine y_aload_n rfl rfl ?_
            refine y_getR rfl (ySh.t hS rfl) (ySh.n hS rfl) rfl rfl (ySh.r hS rfl) ?_
            refine y_aload_n rfl rfl ?_
            refine y_getIv (v := I 40 0) rfl (ySh.t hS rfl) (ySh.n hS rfl) rfl rfl rfl ?_
            refine y_iconst rfl ?_
            refine y_iastore rfl (ySh.t hS rfl) (ySh.n hS rfl) (Nat.le_of_ble_eq_true rfl) (by omega) (by omega) ?_
            refine y_aload_n rfl rfl ?_
            refine y_dup rfl rfl ?_
            refine y_getIv (v := I 40 0) rfl (ySh.t hS rfl) (ySh.n hS rfl) rfl rfl rfl ?_
            refine y_dup_x1 rfl rfl rfl ?_
            refine y_iconst rfl ?_
            refine y_iadd rfl ?_
            refine y_putI rfl (ySh.t hS rfl) (ySh.n hS rfl) rfl (Nat.le_of_ble_eq_true rfl) rfl rfl ?_
            refine y_setC (yCI.inc40 hC (by show (I 40 0).toInt < 16; omega)) (fun hC => ?_)
            refine y_ireturn rfl rfl rfl ?_
            refine y_ret1 ?_
            refine y_ireturn rfl rfl rfl ?_
            exact hQ (by omega) _ _ hC (by repeat (first | exact hF | refine yFt.upd ?_ (by decide))) ⟨rfl, (congrArg Int32.toInt upd2_self).trans (yinc (by omega))⟩
          · rw [yz_m1] at h_10
            refine y_bip rfl (by decide) ?_
            refine y_goto rfl j_X8_thing_85 ?_
            refine y_virt rfl rfl rfl rfl rfl (ySh.t hS rfl) (ySh.n hS rfl) ?_
            refine y_in (M := xm_X6_add) (ls := [some _, some _, some _]) rfl rfl rfl ?_
            refine y_aload_n rfl rfl ?_
            refine y_getR rfl (ySh.t hS rfl) (ySh.n hS rfl) rfl rfl (ySh.r hS rfl) ?_
            refine y_aload_n rfl rfl ?_
            refine y_getI rfl (ySh.t hS rfl) (ySh.n hS rfl) rfl rfl ?_
            refine y_iload_n rfl rfl ?_
            refine y_iastore rfl (ySh.t hS rfl) (ySh.n hS rfl) (Nat.le_of_ble_eq_true rfl) (by omega) (by omega) ?_
            refine y_aload_n rfl rfl ?_
            refine y_getR rfl (ySh.t hS rfl) (ySh.n hS rfl) rfl rfl (ySh.r hS rfl) ?_
            refine y_aload_n rfl rfl ?_
            refine y_getIv (v := I 40 0) rfl (ySh.t hS rfl) (ySh.n hS rfl) rfl rfl rfl ?_
            refine y_iload_n rfl rfl ?_
            refine y_iastore rfl (ySh.t hS rfl) (ySh.n hS rfl) (Nat.le_of_ble_eq_true rfl) (by omega) (by omega) ?_
            refine y_aload_n rfl rfl ?_
            refine y_getR rfl (ySh.t hS rfl) (ySh.n hS rfl) rfl rfl (ySh.r hS rfl) ?_
            refine y_aload_n rfl rfl ?_
            refine y_getIv (v := I 40 0) rfl (ySh.t hS rfl) (ySh.n hS rfl) rfl rfl rfl ?_
            refine y_iconst rfl ?_
            refine y_zastore rfl (ySh.t hS rfl) (ySh.n hS rfl) (Nat.le_of_ble_eq_true rfl) (by omega) (by omega) rfl ?_
            refine y_aload_n rfl rfl ?_
            refine y_getR rfl (ySh.t hS rfl) (ySh.n hS rfl) rfl rfl (ySh.r hS rfl) ?_
            refine y_aload_n rfl rfl ?_
            refine y_getIv (v := I 40 0) rfl (ySh.t hS rfl) (ySh.n hS rfl) rfl rfl rfl ?_
            refine y_iconst rfl ?_
            refine y_iastore rfl (ySh.t hS rfl) (ySh.n hS rfl) (Nat.le_of_ble_eq_true rfl) (by omega) (by omega) ?_
            refine y_aload_n rfl rfl ?_
            refine y_getR rfl (ySh.t hS rfl) (ySh.n hS rfl) rfl rfl (ySh.r hS rfl) ?_
            refine y_aload_n rfl rfl ?_
            refine y_getIv (v := I 40 0) rfl (ySh.t hS rfl) (ySh.n hS rfl) rfl rfl rfl ?_
            refine y_iconst rfl ?_
            refine y_iastore rfl (ySh.t hS rfl) (ySh.n hS rfl) (Nat.le_of_ble_eq_true rfl) (by omega) (by omega) ?_
            refine y_aload_n rfl rfl ?_
            refine y_dup rfl rfl ?_
            refine y_getIv (v := I 40 0) rfl (ySh.t hS rfl) (ySh.n hS rfl) rfl rfl rfl ?_
            refine y_dup_x1 rfl rfl rfl ?_
            refine y_iconst rfl ?_
            refine y_iadd rfl ?_
            refine y_putI rfl (ySh.t hS rfl) (ySh.n hS rfl) rfl (Nat.le_of_ble_eq_true rfl) rfl rfl ?_
            refine y_setC (yCI.inc40 hC (by show (I 40 0).toInt < 16; omega)) (fun hC => ?_)
            refine y_ireturn rfl rfl rfl ?_
            refine y_ret1 ?_
            refine y_ireturn rfl rfl rfl ?_
            exact hQ (by omega) _ _ hC (by repeat (first | exact hF | refine yFt.upd ?_ (by decide))) ⟨rfl, (congrArg Int32.toInt upd2_self).trans (yinc (by omega))⟩
        · rw [yz_16] at h_8
          refine y_throw rfl rfl rfl ?_
          exact hE2 (by omega)
  · rw [yz_m1] at h_2
    refine y_aload_n rfl rfl ?_
    refine y_getR rfl (ySh.t hS rfl) (ySh.n hS rfl) rfl rfl (ySh.r hS rfl) ?_
    refine y_iload_n rfl rfl ?_
    refine y_virt rfl rfl rfl rfl rfl (ySh.t hS rfl) (ySh.n hS rfl) ?_
    refine y_in (M := xm_X4_has) (ls := [some _, some _]) rfl rfl rfl ?_
    refine y_iload_n rfl rfl ?_
    refine y_if_lt rfl j_X4_has_16 (fun h_11 => ?_) (fun h_12 => ?_)
    · refine y_iconst rfl ?_
      refine y_ireturn rfl rfl rfl ?_
      refine y_ret1 ?_
      refine y_if_neF rfl (by decide) ?_
      refine y_throw rfl rfl rfl ?_
      exact hE0 (by omega)
    · refine y_iload_n rfl rfl ?_
      refine y_aload_n rfl rfl ?_
      refine y_getI rfl (ySh.t hS rfl) (ySh.n hS rfl) rfl rfl ?_
      refine y_icmp_ge rfl j_X4_has_16 (fun h_13 => ?_) (fun h_14 => ?_)
      · refine y_iconst rfl ?_
        refine y_ireturn rfl rfl rfl ?_
        refine y_ret1 ?_
        refine y_if_neF rfl (by decide) ?_
        refine y_throw rfl rfl rfl ?_
        exact hE0 (by omega)
      · refine y_iconst rfl ?_
        refine y_goto rfl j_X4_has_17 ?_
        refine y_ireturn rfl rfl rfl ?_
        refine y_ret1 ?_
        refine y_if_neT rfl j_X8_thing_26 (by decide) ?_
        refine y_iload_n rfl rfl ?_
        refine y_iconst rfl ?_
        refine y_sip rfl (by decide) ?_
        refine y_static rfl rfl rfl rfl rfl ?_
        refine y_in (M := xm_X8_isIn) (ls := [some _, some _, some _]) rfl rfl rfl ?_
        refine y_iload_n rfl rfl ?_
        refine y_iload_n rfl rfl ?_
        refine y_icmp_lt rfl j_X8_isIn_14 (fun h_15 => ?_) (fun h_16 => ?_)
        · rw [yz_1] at h_15
          refine y_iconst rfl ?_
          refine y_ireturn rfl rfl rfl ?_
          refine y_ret1 ?_
          refine y_if_neF rfl (by decide) ?_
          refine y_throw rfl rfl rfl ?_
          exact hE1 (by omega)
        · rw [yz_1] at h_16
          refine y_iload_n rfl rfl ?_
          refine y_iload_n rfl rfl ?_
          refine y_icmp_gt rfl j_X8_isIn_14 (fun h_17 => ?_) (fun h_18 => ?_)
          · rw [yz_999] at h_17
            refine y_iconst rfl ?_
            refine y_ireturn rfl rfl rfl ?_
            refine y_ret1 ?_
            refine y_if_neF rfl (by decide) ?_
            refine y_throw rfl rfl rfl ?_
            exact hE1 (by omega)
          · rw [yz_999] at h_18
            refine y_iconst rfl ?_
            refine y_goto rfl j_X8_isIn_15 ?_
            refine y_ireturn rfl rfl rfl ?_
            refine y_ret1 ?_
            refine y_if_neT rfl j_X8_thing_47 (by decide) ?_
            refine y_aload_n rfl rfl ?_
            refine y_getR rfl (ySh.t hS rfl) (ySh.n hS rfl) rfl rfl (ySh.r hS rfl) ?_
            refine y_getI rfl (ySh.t hS rfl) (ySh.n hS rfl) rfl rfl ?_
            refine y_bip rfl (by decide) ?_
            refine y_icmp_lt rfl j_X8_thing_69 (fun h_19 => ?_) (fun h_20 => ?_)
            · rw [yz_16] at h_19
              refine y_aload_n rfl rfl ?_
              refine y_getR rfl (ySh.t hS rfl) (ySh.n hS rfl) rfl rfl (ySh.r hS rfl) ?_
              refine y_iload_n rfl rfl ?_
              refine y_iload_n rfl rfl ?_
              refine y_iconst rfl ?_
              refine y_icmp_ne rfl j_X8_thing_84 (fun h_21 => ?_) (fun h_22 => ?_)
              · rw [yz_m1] at h_21
                refine y_iload_n rfl rfl ?_
                refine y_virt rfl rfl rfl rfl rfl (ySh.t hS rfl) (ySh.n hS rfl) ?_
                refine y_in (M := xm_X6_add) (ls := [some _, some _, some _]) rfl rfl rfl ?_
                refine y_aload_n rfl rfl ?_
                refine y_getR rfl (ySh.t hS rfl) (ySh.n hS rfl) rfl rfl (ySh.r hS rfl) ?_
                refine y_aload_n rfl rfl ?_
                refine y_getI rfl (ySh.t hS rfl) (ySh.n hS rfl) rfl rfl ?_
                refine y_iload_n rfl rfl ?_
                refine y_iastore rfl (ySh.t hS rfl) (ySh.n hS rfl) (Nat.le_of_ble_eq_true rfl) (by omega) (by omega) ?_
                refine y_aload_n rfl rfl ?_
                refine y_getR rfl (ySh.t hS rfl) (ySh.n hS rfl) rfl rfl (ySh.r hS rfl) ?_
                refine y_aload_n rfl rfl ?_
                refine y_getIv (v := I 40 0) rfl (ySh.t hS rfl) (ySh.n hS rfl) rfl rfl rfl ?_
                refine y_iload_n rfl rfl ?_
                refine y_iastore rfl (ySh.t hS rfl) (ySh.n hS rfl) (Nat.le_of_ble_eq_true rfl) (by omega) (by omega) ?_
                refine y_aload_n rfl rfl ?_
                refine y_getR rfl (ySh.t hS rfl) (ySh.n hS rfl) rfl rfl (ySh.r hS rfl) ?_
                refine y_aload_n rfl rfl ?_
                refine y_getIv (v := I 40 0) rfl (ySh.t hS rfl) (ySh.n hS rfl) rfl rfl rfl ?_
                refine y_iconst rfl ?_
                refine y_zastore rfl (ySh.t hS rfl) (ySh.n hS rfl) (Nat.le_of_ble_eq_true rfl) (by omega) (by omega) rfl ?_
                refine y_aload_n rfl rfl ?_
                refine y_getR rfl (ySh.t hS rfl) (ySh.n hS rfl) rfl rfl (ySh.r hS rfl) ?_
                refine y_aload_n rfl rfl ?_
                refine y_getIv (v := I 40 0) rfl (ySh.t hS rfl) (ySh.n hS rfl) rfl rfl rfl ?_
                refine y_iconst rfl ?_
                refine y_iastore rfl (ySh.t hS rfl) (ySh.n hS rfl) (Nat.le_of_ble_eq_true rfl) (by omega) (by omega) ?_
                refine y_aload_n rfl rfl ?_
                refine y_getR rfl (ySh.t hS rfl) (ySh.n hS rfl) rfl rfl (ySh.r hS rfl) ?_
                refine y_aload_n rfl rfl ?_
                refine y_getIv (v := I 40 0) rfl (ySh.t hS rfl) (ySh.n hS rfl) rfl rfl rfl ?_
                refine y_iconst rfl ?_
                refine y_iastore rfl (ySh.t hS rfl) (ySh.n hS rfl) (Nat.le_of_ble_eq_true rfl) (by omega) (by omega) ?_
                refine y_aload_n rfl rfl ?_
                refine y_dup rfl rfl ?_
                refine y_getIv (v := I 40 0) rfl (ySh.t hS rfl) (ySh.n hS rfl) rfl rfl rfl ?_
                refine y_dup_x1 rfl rfl rfl ?_
                refine y_iconst rfl ?_
                refine y_iadd rfl ?_
                refine y_putI rfl (ySh.t hS rfl) (ySh.n hS rfl) rfl (Nat.le_of_ble_eq_true rfl) rfl rfl ?_
                refine y_setC (yCI.inc40 hC (by show (I 40 0).toInt < 16; omega)) (fun hC => ?_)
                refine y_ireturn rfl rfl rfl ?_
                refine y_ret1 ?_
                refine y_ireturn rfl rfl rfl ?_
                exact hQ (by omega) _ _ hC (by repeat (first | exact hF | refine yFt.upd ?_ (by decide))) ⟨rfl, (congrArg Int32.toInt upd2_self).trans (yinc (by omega))⟩
              · rw [yz_m1] at h_22
                refine y_bip rfl (by decide) ?_
                refine y_goto rfl j_X8_thing_85 ?_
                refine y_virt rfl rfl rfl rfl rfl (ySh.t hS rfl) (ySh.n hS rfl) ?_
                refine y_in (M := xm_X6_add) (ls := [some _, some _, some _]) rfl rfl rfl ?_
                refine y_aload_n rfl rfl ?_
                refine y_getR rfl (ySh.t hS rfl) (ySh.n hS rfl) rfl rfl (ySh.r hS rfl) ?_
                refine y_aload_n rfl rfl ?_
                refine y_getI rfl (ySh.t hS rfl) (ySh.n hS rfl) rfl rfl ?_
                refine y_iload_n rfl rfl ?_
                refine y_iastore rfl (ySh.t hS rfl) (ySh.n hS rfl) (Nat.le_of_ble_eq_true rfl) (by omega) (by omega) ?_
                refine y_aload_n rfl rfl ?_
                refine y_getR rfl (ySh.t hS rfl) (ySh.n hS rfl) rfl rfl (ySh.r hS rfl) ?_
                refine y_aload_n rfl rfl ?_
                refine y_getIv (v := I 40 0) rfl (ySh.t hS rfl) (ySh.n hS rfl) rfl rfl rfl ?_
                refine y_iload_n rfl rfl ?_
                refine y_iastore rfl (ySh.t hS rfl) (ySh.n hS rfl) (Nat.le_of_ble_eq_true rfl) (by omega) (by omega) ?_
                refine y_aload_n rfl rfl ?_
                refine y_getR rfl (ySh.t hS rfl) (ySh.n hS rfl) rfl rfl (ySh.r hS rfl) ?_
                refine y_aload_n rfl rfl ?_
                refine y_getIv (v := I 40 0) rfl (ySh.t hS rfl) (ySh.n hS rfl) rfl rfl rfl ?_
                refine y_iconst rfl ?_
                refine y_zastore rfl (ySh.t hS rfl) (ySh.n hS rfl) (Nat.le_of_ble_eq_true rfl) (by omega) (by omega) rfl ?_
                refine y_aload_n rfl rfl ?_
                refine y_getR rfl (ySh.t hS rfl) (ySh.n hS rfl) rfl rfl (ySh.r hS rfl) ?_
                refine y_aload_n rfl rfl ?_
                refine y_getIv (v := I 40 0) rfl (ySh.t hS rfl) (ySh.n hS rfl) rfl rfl rfl ?_
                refine y_iconst rfl ?_
                refine y_iastore rfl (ySh.t hS rfl) (ySh.n hS rfl) (Nat.le_of_ble_eq_true rfl) (by omega) (by omega) ?_
                refine y_aload_n rfl rfl ?_
                refine y_getR rfl (ySh.t hS rfl) (ySh.n hS rfl) rfl rfl (ySh.r hS rfl) ?_
                refine y_aload_n rfl rfl ?_
                refine y_getIv (v := I 40 0) rfl (ySh.t hS rfl) (ySh.n hS rfl) rfl rfl rfl ?_
                refine y_iconst rfl ?_
                refine y_iastore rfl (ySh.t hS rfl) (ySh.n hS rfl) (Nat.le_of_ble_eq_true rfl) (by omega) (by omega) ?_
                refine y_aload_n rfl rfl ?_
                refine y_dup rfl rfl ?_
                refine y_getIv (v := I 40 0) rfl (ySh.t hS rfl) (ySh.n hS rfl) rfl rfl rfl ?_
                refine y_dup_x1 rfl rfl rfl ?_
                refine y_iconst rfl ?_
                refine y_iadd rfl ?_
                refine y_putI rfl (ySh.t hS rfl) (ySh.n hS rfl) rfl (Nat.le_of_ble_eq_true rfl) rfl rfl ?_
                refine y_setC (yCI.inc40 hC (by show (I 40 0).toInt < 16; omega)) (fun hC => ?_)
                refine y_ireturn rfl rfl rfl ?_
                refine y_ret1 ?_
                refine y_ireturn rfl rfl rfl ?_
                exact hQ (by omega) _ _ hC (by repeat (first | exact hF | refine yFt.upd ?_ (by decide))) ⟨rfl, (congrArg Int32.toInt upd2_self).trans (yinc (by omega))⟩
            · rw [yz_16] at h_20
              refine y_throw rfl rfl rfl ?_
              exact hE2 (by omega)
theorem e_venture (hS : ySh n tg R) (hC : yCI I) (hE2 : (I 69 0).toInt = 6 → Q (.inr "java/lang/IllegalStateException") (n, tg, I, R) (c + 1) (s + 6)) (hQ : (I 69 0).toInt < 6 → ∀ (v : Int32) (I1 : Nat → Nat → Int32), yCI I1 → yFt I I1 → (v.toInt = (I 69 0).toInt ∧ (I1 69 0).toInt = (I 69 0).toInt + 1) → Q (.inl (some (.int v))) (n, tg, I1, R) c s) : yC 132 [.ref 34] (n, tg, I, R) c s Q := by
  have hF : yFt I I := yFt.rf
  refine y_in (M := xm_X8_venture) (ls := [some _]) rfl rfl rfl ?_
  refine y_aload_n rfl rfl ?_
  refine y_getR rfl (ySh.t hS rfl) (ySh.n hS rfl) rfl rfl (ySh.r hS rfl) ?_
  refine y_getI rfl (ySh.t hS rfl) (ySh.n hS rfl) rfl rfl ?_
  refine y_bip rfl (by decide) ?_
  refine y_icmp_lt rfl j_X8_venture_22 (fun h_1 => ?_) (fun h_2 => ?_)
  · rw [yz_6] at h_1
    refine y_aload_n rfl rfl ?_
    refine y_getR rfl (ySh.t hS rfl) (ySh.n hS rfl) rfl rfl (ySh.r hS rfl) ?_
    refine y_virt rfl rfl rfl rfl rfl (ySh.t hS rfl) (ySh.n hS rfl) ?_
    refine y_in (M := xm_X7_begin) (ls := [some _]) rfl rfl rfl ?_
    refine y_aload_n rfl rfl ?_
    refine y_dup rfl rfl ?_
    refine y_getI rfl (ySh.t hS rfl) (ySh.n hS rfl) rfl rfl ?_
    refine y_dup_x1 rfl rfl rfl ?_
    refine y_iconst rfl ?_
    refine y_iadd rfl ?_
    refine y_putI rfl (ySh.t hS rfl) (ySh.n hS rfl) rfl (Nat.le_of_ble_eq_true rfl) rfl rfl ?_
    refine y_setC (yCI.inc69 hC (by show (I 69 0).toInt < 6; omega)) (fun hC => ?_)
    refine y_ireturn rfl rfl rfl ?_
    refine y_ret1 ?_
    refine y_ireturn rfl rfl rfl ?_
    exact hQ (by omega) _ _ hC (by repeat (first | exact hF | refine yFt.upd ?_ (by decide))) ⟨rfl, (congrArg Int32.toInt upd2_self).trans (yinc (by omega))⟩
  · rw [yz_6] at h_2
    refine y_throw rfl rfl rfl ?_
    exact hE2 (by omega)
theorem lp_firmAddE {I0 : Nat → Nat → Int32} {N0 : Int} (hN0 : N0 < 10) (hS : ySh n tg R) {x1 x2 x3 x4 x5 x6 : Int32} (hv0 : 0 ≤ x6.toInt) (hv1 : x6.toInt ≤ 512) (hQ : ∀ (v : Int32) (I1 : Nat → Nat → Int32), yCI I1 → yFr I0 I1 → (v.toInt = N0 ∧ (I1 77 0).toInt = N0 + 1) → Q (.inl (some (.int v))) (n, tg, I1, R) c s) : ∀ (m : Nat) (x7 : Int32) (I : Nat → Nat → Int32), yCI I → yFr I0 I → ((I 77 0).toInt = N0) → (0 ≤ x7.toInt) → (x7.toInt ≤ x6.toInt) → x6.toInt - x7.toInt < m → yW xm_X1_add xc_X1_add_31 [some (.ref 77), some (.int x1), some (.int x2), some (.int x3), some (.int x4), some (.int x5), some (.int x6), some (.int x7)] [] (n, tg, I, R) c s Q := by
  intro m
  induction m with
  | zero => intro x7 I hC hF i0 i1 i2 hm; exfalso; omega
  | succ m ih =>
    intro x7 I hC hF i0 i1 i2 hm
    refine y_iload rfl rfl ?_
    refine y_iload rfl rfl ?_
    refine y_icmp_ge rfl j_X1_add_83 (fun h_1 => ?_) (fun h_2 => ?_)
    · refine y_iload rfl rfl ?_
      refine y_if_eq rfl j_X1_add_99 (fun h_3 => ?_) (fun h_4 => ?_)
      · refine y_aload_n rfl rfl ?_
        refine y_dup rfl rfl ?_
        refine y_getI rfl (ySh.t hS rfl) (ySh.n hS rfl) rfl rfl ?_
        refine y_dup_x1 rfl rfl rfl ?_
        refine y_iconst rfl ?_
        refine y_iadd rfl ?_
        refine y_putI rfl (ySh.t hS rfl) (ySh.n hS rfl) rfl (Nat.le_of_ble_eq_true rfl) rfl rfl ?_
        refine y_setC (yCI.inc77 hC (by show (I 77 0).toInt < 10; omega)) (fun hC => ?_)
        refine y_ireturn rfl rfl rfl ?_
        exact hQ _ _ hC (by repeat (first | exact hF | refine yFr.upd ?_ (by decide))) ⟨by assumption, (congrArg Int32.toInt upd2_self).trans ((yinc (by omega)).trans (by omega))⟩
      · refine y_aload_n rfl rfl ?_
        refine y_dup rfl rfl ?_
        refine y_getI rfl (ySh.t hS rfl) (ySh.n hS rfl) rfl rfl ?_
        refine y_iload rfl rfl ?_
        refine y_ior rfl ?_
        refine y_putI rfl (ySh.t hS rfl) (ySh.n hS rfl) rfl (Nat.le_of_ble_eq_true rfl) rfl rfl ?_
        refine y_aload_n rfl rfl ?_
        refine y_dup rfl rfl ?_
        refine y_getIv (v := I 77 0) rfl (ySh.t hS rfl) (ySh.n hS rfl) rfl rfl rfl ?_
        refine y_dup_x1 rfl rfl rfl ?_
        refine y_iconst rfl ?_
        refine y_iadd rfl ?_
        refine y_putI rfl (ySh.t hS rfl) (ySh.n hS rfl) rfl (Nat.le_of_ble_eq_true rfl) rfl rfl ?_
        refine y_setC (yCI.inc77 hC (by show (I 77 0).toInt < 10; omega)) (fun hC => ?_)
        refine y_ireturn rfl rfl rfl ?_
        exact hQ _ _ hC (by repeat (first | exact hF | refine yFr.upd ?_ (by decide))) ⟨by assumption, (congrArg Int32.toInt upd2_self).trans ((yinc (by omega)).trans (by omega))⟩
    · refine y_aload_n rfl rfl ?_
      refine y_getR rfl (ySh.t hS rfl) (ySh.n hS rfl) rfl rfl (ySh.r hS rfl) ?_
      refine y_iload rfl rfl ?_
      refine y_iload rfl rfl ?_
      refine y_ior rfl ?_
      refine y_aload_n rfl rfl ?_
      refine y_getR rfl (ySh.t hS rfl) (ySh.n hS rfl) rfl rfl (ySh.r hS rfl) ?_
      refine y_iload rfl rfl ?_
      refine y_iaload rfl (ySh.t hS rfl) (ySh.n hS rfl) (by omega) (by omega) ?_
      refine y_iload_n rfl rfl ?_
      refine y_iadd rfl ?_
      refine y_iastore rfl (ySh.t hS rfl) (ySh.n hS rfl) (Nat.le_of_ble_eq_true rfl) (yor (by omega) (by omega) (by omega) (by omega)).1 (by have := (yor (a := x7) (b := x6) (by omega) (by omega) (by omega) (by omega)).2; omega) ?_
      refine y_aload_n rfl rfl ?_
      refine y_getR rfl (ySh.t hS rfl) (ySh.n hS rfl) rfl rfl (ySh.r hS rfl) ?_
      refine y_iload rfl rfl ?_
      refine y_iload rfl rfl ?_
      refine y_ior rfl ?_
      refine y_aload_n rfl rfl ?_
      refine y_getR rfl (ySh.t hS rfl) (ySh.n hS rfl) rfl rfl (ySh.r hS rfl) ?_
      refine y_iload rfl rfl ?_
      refine y_iaload rfl (ySh.t hS rfl) (ySh.n hS rfl) (by omega) (by omega) ?_
      refine y_iload rfl rfl ?_
      refine y_iadd rfl ?_
      refine y_iastore rfl (ySh.t hS rfl) (ySh.n hS rfl) (Nat.le_of_ble_eq_true rfl) (yor (by omega) (by omega) (by omega) (by omega)).1 (by have := (yor (a := x7) (b := x6) (by omega) (by omega) (by omega) (by omega)).2; omega) ?_
      refine y_iinc (ls' := [some _, some _, some _, some _, some _, some _, some _, some _]) rfl rfl rfl rfl ?_
      refine y_goto rfl j_X1_add_31 ?_
      exact ih _ _ hC (by repeat (first | exact hF | refine yFr.upd ?_ (by decide))) (by assumption) (by first | omega | (rw [yinc (by omega)]; omega)) (by first | omega | (rw [yinc (by omega)]; omega)) (by first | omega | (rw [yinc (by omega)]; omega))
theorem sp_firmAddE (hS : ySh n tg R) (hC : yCI I) {x1 x2 x3 x4 x5 : Int32} (hv : (I 77 0).toInt < 10) (hQ : ∀ (v : Int32) (I1 : Nat → Nat → Int32), yCI I1 → yFr I I1 → (v.toInt = (I 77 0).toInt ∧ (I1 77 0).toInt = (I 77 0).toInt + 1) → Q (.inl (some (.int v))) (n, tg, I1, R) c s) : yC 43 [.ref 77, .int x1, .int x2, .int x3, .int x4, .int x5] (n, tg, I, R) c s Q := by
  have hF : yFr I I := yFr.rf
  refine y_in (M := xm_X1_add) (ls := [some _, some _, some _, some _, some _, some _, _, _]) rfl rfl rfl ?_
  refine y_aload_n rfl rfl ?_
  refine y_getR rfl (ySh.t hS rfl) (ySh.n hS rfl) rfl rfl (ySh.r hS rfl) ?_
  refine y_aload_n rfl rfl ?_
  refine y_getI rfl (ySh.t hS rfl) (ySh.n hS rfl) rfl rfl ?_
  refine y_iload_n rfl rfl ?_
  refine y_iastore rfl (ySh.t hS rfl) (ySh.n hS rfl) (Nat.le_of_ble_eq_true rfl) (by omega) (by omega) ?_
  refine y_aload_n rfl rfl ?_
  refine y_getR rfl (ySh.t hS rfl) (ySh.n hS rfl) rfl rfl (ySh.r hS rfl) ?_
  refine y_aload_n rfl rfl ?_
  refine y_getIv (v := I 77 0) rfl (ySh.t hS rfl) (ySh.n hS rfl) rfl rfl rfl ?_
  refine y_iload_n rfl rfl ?_
  refine y_iastore rfl (ySh.t hS rfl) (ySh.n hS rfl) (Nat.le_of_ble_eq_true rfl) (by omega) (by omega) ?_
  refine y_iconst rfl ?_
  refine y_aload_n rfl rfl ?_
  refine y_getIv (v := I 77 0) rfl (ySh.t hS rfl) (ySh.n hS rfl) rfl rfl rfl ?_
  refine y_ishl rfl ?_
  refine y_istore (ls' := [some _, some _, some _, some _, some _, some _, some _, _]) rfl rfl rfl ?_
  refine y_iconst rfl ?_
  refine y_istore (ls' := [some _, some _, some _, some _, some _, some _, some _, some _]) rfl rfl rfl ?_
  have hz := yshl (x := I 77 0) (by omega) (by omega)
  exact lp_firmAddE hv hS (by have := hz.1.1; exact Int.le_trans (by decide) this) (hz.2 (by omega)) hQ 100000 _ _ hC (by repeat (first | exact hF | refine yFr.upd ?_ (by decide))) rfl (by decide) (by rw [yz_0]; exact Int.le_trans (by decide) hz.1.1) (by rw [yz_0]; have := hz.1.2; exact Int.lt_of_le_of_lt (Int.sub_le_self _ (by decide)) (Int.lt_of_le_of_lt this (by decide)))
theorem e_firm (hS : ySh n tg R) (hC : yCI I) {x1 x2 x3 x4 x5 x6 : Int32} (hE1 : ¬ ((1 ≤ x1.toInt ∧ x1.toInt ≤ 999) ∧ (0 ≤ x2.toInt ∧ x2.toInt ≤ 999) ∧ (0 ≤ x3.toInt ∧ x3.toInt ≤ 999) ∧ (0 ≤ x4.toInt ∧ x4.toInt ≤ 999) ∧ (1 ≤ x5.toInt ∧ x5.toInt ≤ 99) ∧ (0 ≤ x6.toInt ∧ x6.toInt ≤ 99)) → Q (.inr "java/lang/IllegalArgumentException") (n, tg, I, R) (c + 1) (s + 6)) (hE2 : ((1 ≤ x1.toInt ∧ x1.toInt ≤ 999) ∧ (0 ≤ x2.toInt ∧ x2.toInt ≤ 999) ∧ (0 ≤ x3.toInt ∧ x3.toInt ≤ 999) ∧ (0 ≤ x4.toInt ∧ x4.toInt ≤ 999) ∧ (1 ≤ x5.toInt ∧ x5.toInt ≤ 99) ∧ (0 ≤ x6.toInt ∧ x6.toInt ≤ 99)) ∧ (I 77 0).toInt = 10 → Q (.inr "java/lang/IllegalStateException") (n, tg, I, R) (c + 1) (s + 6)) (hQ : ((1 ≤ x1.toInt ∧ x1.toInt ≤ 999) ∧ (0 ≤ x2.toInt ∧ x2.toInt ≤ 999) ∧ (0 ≤ x3.toInt ∧ x3.toInt ≤ 999) ∧ (0 ≤ x4.toInt ∧ x4.toInt ≤ 999) ∧ (1 ≤ x5.toInt ∧ x5.toInt ≤ 99) ∧ (0 ≤ x6.toInt ∧ x6.toInt ≤ 99)) ∧ (I 77 0).toInt < 10 → ∀ (v : Int32) (I1 : Nat → Nat → Int32), yCI I1 → yFt I I1 → (v.toInt = (I 77 0).toInt ∧ (I1 77 0).toInt = (I 77 0).toInt + 1) → Q (.inl (some (.int v))) (n, tg, I1, R) c s) : yC 138 [.ref 34, .int x1, .int x2, .int x3, .int x4, .int x5, .int x6] (n, tg, I, R) c s Q := by
  have hF : yFt I I := yFt.rf
  refine y_in (M := xm_X8_firm) (ls := [some _, some _, some _, some _, some _, some _, some _, _]) rfl rfl rfl ?_
  refine y_iload_n rfl rfl ?_
  refine y_iconst rfl ?_
  refine y_sip rfl (by decide) ?_
  refine y_static rfl rfl rfl rfl rfl ?_
  refine y_in (M := xm_X8_isIn) (ls := [some _, some _, some _]) rfl rfl rfl ?_
  refine y_iload_n rfl rfl ?_
  refine y_iload_n rfl rfl ?_
  refine y_icmp_lt rfl j_X8_isIn_14 (fun h_1 => ?_) (fun h_2 => ?_)
  · rw [yz_1] at h_1
    refine y_iconst rfl ?_
    refine y_ireturn rfl rfl rfl ?_
    refine y_ret1 ?_
    refine y_if_eqT rfl j_X8_firm_67 (by decide) ?_
    refine y_throw rfl rfl rfl ?_
    exact hE1 (by omega)
  · rw [yz_1] at h_2
    refine y_iload_n rfl rfl ?_
    refine y_iload_n rfl rfl ?_
    refine y_icmp_gt rfl j_X8_isIn_14 (fun h_3 => ?_) (fun h_4 => ?_)
    · rw [yz_999] at h_3
      refine y_iconst rfl ?_
      refine y_ireturn rfl rfl rfl ?_
      refine y_ret1 ?_
      refine y_if_eqT rfl j_X8_firm_67 (by decide) ?_
      refine y_throw rfl rfl rfl ?_
      exact hE1 (by omega)
    · rw [yz_999] at h_4
      refine y_iconst rfl ?_
      refine y_goto rfl j_X8_isIn_15 ?_
      refine y_ireturn rfl rfl rfl ?_
      refine y_ret1 ?_
      refine y_if_eqF rfl (by decide) ?_
      refine y_iload_n rfl rfl ?_
      refine y_iconst rfl ?_
      refine y_sip rfl (by decide) ?_
      refine y_static rfl rfl rfl rfl rfl ?_
      refine y_in (M := xm_X8_isIn) (ls := [some _, some _, some _]) rfl rfl rfl ?_
      refine y_iload_n rfl rfl ?_
      refine y_iload_n rfl rfl ?_
      refine y_icmp_lt rfl j_X8_isIn_14 (fun h_5 => ?_) (fun h_6 => ?_)
      · rw [yz_0] at h_5
        refine y_iconst rfl ?_
        refine y_ireturn rfl rfl rfl ?_
        refine y_ret1 ?_
        refine y_if_eqT rfl j_X8_firm_67 (by decide) ?_
        refine y_throw rfl rfl rfl ?_
        exact hE1 (by omega)
      · rw [yz_0] at h_6
        refine y_iload_n rfl rfl ?_
        refine y_iload_n rfl rfl ?_
        refine y_icmp_gt rfl j_X8_isIn_14 (fun h_7 => ?_) (fun h_8 => ?_)
        · rw [yz_999] at h_7
          refine y_iconst rfl ?_
          refine y_ireturn rfl rfl rfl ?_
          refine y_ret1 ?_
          refine y_if_eqT rfl j_X8_firm_67 (by decide) ?_
          refine y_throw rfl rfl rfl ?_
          exact hE1 (by omega)
        · rw [yz_999] at h_8
          refine y_iconst rfl ?_
          refine y_goto rfl j_X8_isIn_15 ?_
          refine y_ireturn rfl rfl rfl ?_
          refine y_ret1 ?_
          refine y_if_eqF rfl (by decide) ?_
          refine y_iload_n rfl rfl ?_
          refine y_iconst rfl ?_
          refine y_sip rfl (by decide) ?_
          refine y_static rfl rfl rfl rfl rfl ?_
          refine y_in (M := xm_X8_isIn) (ls := [some _, some _, some _]) rfl rfl rfl ?_
          refine y_iload_n rfl rfl ?_
          refine y_iload_n rfl rfl ?_
          refine y_icmp_lt rfl j_X8_isIn_14 (fun h_9 => ?_) (fun h_10 => ?_)
          · rw [yz_0] at h_9
            refine y_iconst rfl ?_
            refine y_ireturn rfl rfl rfl ?_
            refine y_ret1 ?_
            refine y_if_eqT rfl j_X8_firm_67 (by decide) ?_
            refine y_throw rfl rfl rfl ?_
            exact hE1 (by omega)
          · rw [yz_0] at h_10
            refine y_iload_n rfl rfl ?_
            refine y_iload_n rfl rfl ?_
            refine y_icmp_gt rfl j_X8_isIn_14 (fun h_11 => ?_) (fun h_12 => ?_)
            · rw [yz_999] at h_11
              refine y_iconst rfl ?_
              refine y_ireturn rfl rfl rfl ?_
              refine y_ret1 ?_
              refine y_if_eqT rfl j_X8_firm_67 (by decide) ?_
              refine y_throw rfl rfl rfl ?_
              exact hE1 (by omega)
            · rw [yz_999] at h_12
              refine y_iconst rfl ?_
              refine y_goto rfl j_X8_isIn_15 ?_
              refine y_ireturn rfl rfl rfl ?_
              refine y_ret1 ?_
              refine y_if_eqF rfl (by decide) ?_
              refine y_iload rfl rfl ?_
              refine y_iconst rfl ?_
              refine y_sip rfl (by decide) ?_
              refine y_static rfl rfl rfl rfl rfl ?_
              refine y_in (M := xm_X8_isIn) (ls := [some _, some _, some _]) rfl rfl rfl ?_
              refine y_iload_n rfl rfl ?_
              refine y_iload_n rfl rfl ?_
              refine y_icmp_lt rfl j_X8_isIn_14 (fun h_13 => ?_) (fun h_14 => ?_)
              · rw [yz_0] at h_13
                refine y_iconst rfl ?_
                refine y_ireturn rfl rfl rfl ?_
                refine y_ret1 ?_
                refine y_if_eqT rfl j_X8_firm_67 (by decide) ?_
                refine y_throw rfl rfl rfl ?_
                exact hE1 (by omega)
              · rw [yz_0] at h_14
                refine y_iload_n rfl rfl ?_
                refine y_iload_n rfl rfl ?_
                refine y_icmp_gt rfl j_X8_isIn_14 (fun h_15 => ?_) (fun h_16 => ?_)
                · rw [yz_999] at h_15
                  refine y_iconst rfl ?_
                  refine y_ireturn rfl rfl rfl ?_
                  refine y_ret1 ?_
                  refine y_if_eqT rfl j_X8_firm_67 (by decide) ?_
                  refine y_throw rfl rfl rfl ?_
                  exact hE1 (by omega)
                · rw [yz_999] at h_16
                  refine y_iconst rfl ?_
                  refine y_goto rfl j_X8_isIn_15 ?_
                  refine y_ireturn rfl rfl rfl ?_
                  refine y_ret1 ?_
                  refine y_if_eqF rfl (by decide) ?_
                  refine y_iload rfl rfl ?_
                  refine y_iconst rfl ?_
                  refine y_bip rfl (by decide) ?_
                  refine y_static rfl rfl rfl rfl rfl ?_
                  refine y_in (M := xm_X8_isIn) (ls := [some _, some _, some _]) rfl rfl rfl ?_
                  refine y_iload_n rfl rfl ?_
                  refine y_iload_n rfl rfl ?_
                  refine y_icmp_lt rfl j_X8_isIn_14 (fun h_17 => ?_) (fun h_18 => ?_)
                  · rw [yz_1] at h_17
                    refine y_iconst rfl ?_
                    refine y_ireturn rfl rfl rfl ?_
                    refine y_ret1 ?_
                    refine y_if_eqT rfl j_X8_firm_67 (by decide) ?_
                    refine y_throw rfl rfl rfl ?_
                    exact hE1 (by omega)
                  · rw [yz_1] at h_18
                    refine y_iload_n rfl rfl ?_
                    refine y_iload_n rfl rfl ?_
                    refine y_icmp_gt rfl j_X8_isIn_14 (fun h_19 => ?_) (fun h_20 => ?_)
                    · rw [yz_99] at h_19
                      refine y_iconst rfl ?_
                      refine y_ireturn rfl rfl rfl ?_
                      refine y_ret1 ?_
                      refine y_if_eqT rfl j_X8_firm_67 (by decide) ?_
                      refine y_throw rfl rfl rfl ?_
                      exact hE1 (by omega)
                    · rw [yz_99] at h_20
                      refine y_iconst rfl ?_
                      refine y_goto rfl j_X8_isIn_15 ?_
                      refine y_ireturn rfl rfl rfl ?_
                      refine y_ret1 ?_
                      refine y_if_eqF rfl (by decide) ?_
                      refine y_iload rfl rfl ?_
                      refine y_iconst rfl ?_
                      refine y_bip rfl (by decide) ?_
                      refine y_static rfl rfl rfl rfl rfl ?_
                      refine y_in (M := xm_X8_isIn) (ls := [some _, some _, some _]) rfl rfl rfl ?_
                      refine y_iload_n rfl rfl ?_
                      refine y_iload_n rfl rfl ?_
                      refine y_icmp_lt rfl j_X8_isIn_14 (fun h_21 => ?_) (fun h_22 => ?_)
                      · rw [yz_0] at h_21
                        refine y_iconst rfl ?_
                        refine y_ireturn rfl rfl rfl ?_
                        refine y_ret1 ?_
                        refine y_if_neF rfl (by decide) ?_
                        refine y_throw rfl rfl rfl ?_
                        exact hE1 (by omega)
                      · rw [yz_0] at h_22
                        refine y_iload_n rfl rfl ?_
                        refine y_iload_n rfl rfl ?_
                        refine y_icmp_gt rfl j_X8_isIn_14 (fun h_23 => ?_) (fun h_24 => ?_)
                        · rw [yz_99] at h_23
                          refine y_iconst rfl ?_
                          refine y_ireturn rfl rfl rfl ?_
                          refine y_ret1 ?_
                          refine y_if_neF rfl (by decide) ?_
                          refine y_throw rfl rfl rfl ?_
                          exact hE1 (by omega)
                        · rw [yz_99] at h_24
                          refine y_iconst rfl ?_
                          refine y_goto rfl j_X8_isIn_15 ?_
                          refine y_ireturn rfl rfl rfl ?_
                          refine y_ret1 ?_
                          refine y_if_neT rfl j_X8_firm_78 (by decide) ?_
                          refine y_aload_n rfl rfl ?_
                          refine y_getR rfl (ySh.t hS rfl) (ySh.n hS rfl) rfl rfl (ySh.r hS rfl) ?_
                          refine y_getI rfl (ySh.t hS rfl) (ySh.n hS rfl) rfl rfl ?_
                          refine y_bip rfl (by decide) ?_
                          refine y_icmp_lt rfl j_X8_firm_101 (fun h_25 => ?_) (fun h_26 => ?_)
                          · rw [yz_10] at h_25
                            refine y_bip rfl (by decide) ?_
                            refine y_iload_n rfl rfl ?_
                            refine y_imul rfl ?_
                            refine y_bip rfl (by decide) ?_
                            refine y_iload_n rfl rfl ?_
                            refine y_imul rfl ?_
                            refine y_icmp_ge rfl j_X8_firm_138 (fun h_27 => ?_) (fun h_28 => ?_)
                            · refine y_iconst rfl ?_
                              refine y_istore (ls' := [some _, some _, some _, some _, some _, some _, some _, some _]) rfl rfl rfl ?_
                              refine y_aload_n rfl rfl ?_
                              refine y_getR rfl (ySh.t hS rfl) (ySh.n hS rfl) rfl rfl (ySh.r hS rfl) ?_
                              refine y_iload_n rfl rfl ?_
                              refine y_iload rfl rfl ?_
                              refine y_iload rfl rfl ?_
                              refine y_iload rfl rfl ?_
                              refine y_iload rfl rfl ?_
                              refine y_virt rfl rfl rfl rfl rfl (ySh.t hS rfl) (ySh.n hS rfl) ?_
                              refine sp_firmAddE hS hC (by omega) (fun v_ I39 hC hF1 hE_ => ?_)
                              have hF : yFt I I39 := yFt.trans (by repeat (first | exact hF | refine yFt.upd ?_ (by decide))) hF1.t
                              refine y_ret1 ?_
                              refine y_ireturn rfl rfl rfl ?_
                              exact hQ (by omega) _ _ hC (by repeat (first | exact hF | refine yFt.upd ?_ (by decide))) hE_
                            · refine y_bip rfl (by decide) ?_
                              refine y_iload_n rfl rfl ?_
                              refine y_imul rfl ?_
                              refine y_bip rfl (by decide) ?_
                              refine y_iload_n rfl rfl ?_
                              refine y_imul rfl ?_
                              refine y_icmp_ge rfl j_X8_firm_138 (fun h_30 => ?_) (fun h_31 => ?_)
                              · refine y_iconst rfl ?_
                                refine y_istore (ls' := [some _, some _, some _, some _, some _, some _, some _, some _]) rfl rfl rfl ?_
                                refine y_aload_n rfl rfl ?_
                                refine y_getR rfl (ySh.t hS rfl) (ySh.n hS rfl) rfl rfl (ySh.r hS rfl) ?_
                                refine y_iload_n rfl rfl ?_
                                refine y_iload rfl rfl ?_
                                refine y_iload rfl rfl ?_
                                refine y_iload rfl rfl ?_
                                refine y_iload rfl rfl ?_
                                refine y_virt rfl rfl rfl rfl rfl (ySh.t hS rfl) (ySh.n hS rfl) ?_
                                refine sp_firmAddE hS hC (by omega) (fun v_ I42 hC hF1 hE_ => ?_)
                                have hF : yFt I I42 := yFt.trans (by repeat (first | exact hF | refine yFt.upd ?_ (by decide))) hF1.t
                                refine y_ret1 ?_
                                refine y_ireturn rfl rfl rfl ?_
                                exact hQ (by omega) _ _ hC (by repeat (first | exact hF | refine yFt.upd ?_ (by decide))) hE_
                              · refine y_bip rfl (by decide) ?_
                                refine y_iload rfl rfl ?_
                                refine y_imul rfl ?_
                                refine y_iconst rfl ?_
                                refine y_iload_n rfl rfl ?_
                                refine y_imul rfl ?_
                                refine y_icmp_gt rfl j_X8_firm_138 (fun h_33 => ?_) (fun h_34 => ?_)
                                · refine y_iconst rfl ?_
                                  refine y_istore (ls' := [some _, some _, some _, some _, some _, some _, some _, some _]) rfl rfl rfl ?_
                                  refine y_aload_n rfl rfl ?_
                                  refine y_getR rfl (ySh.t hS rfl) (ySh.n hS rfl) rfl rfl (ySh.r hS rfl) ?_
                                  refine y_iload_n rfl rfl ?_
                                  refine y_iload rfl rfl ?_
                                  refine y_iload rfl rfl ?_
                                  refine y_iload rfl rfl ?_
                                  refine y_iload rfl rfl ?_
                                  refine y_virt rfl rfl rfl rfl rfl (ySh.t hS rfl) (ySh.n hS rfl) ?_
                                  refine sp_firmAddE hS hC (by omega) (fun v_ I45 hC hF1 hE_ => ?_)
                                  have hF : yFt I I45 := yFt.trans (by repeat (first | exact hF | refine yFt.upd ?_ (by decide))) hF1.t
                                  refine y_ret1 ?_
                                  refine y_ireturn rfl rfl rfl ?_
                                  exact hQ (by omega) _ _ hC (by repeat (first | exact hF | refine yFt.upd ?_ (by decide))) hE_
                                · refine y_iconst rfl ?_
                                  refine y_goto rfl j_X8_firm_139 ?_
                                  refine y_istore (ls' := [some _, some _, some _, some _, some _, some _, some _, some _]) rfl rfl rfl ?_
                                  refine y_aload_n rfl rfl ?_
                                  refine y_getR rfl (ySh.t hS rfl) (ySh.n hS rfl) rfl rfl (ySh.r hS rfl) ?_
                                  refine y_iload_n rfl rfl ?_
                                  refine y_iload rfl rfl ?_
                                  refine y_iload rfl rfl ?_
                                  refine y_iload rfl rfl ?_
                                  refine y_iload rfl rfl ?_
                                  refine y_virt rfl rfl rfl rfl rfl (ySh.t hS rfl) (ySh.n hS rfl) ?_
                                  refine sp_firmAddE hS hC (by omega) (fun v_ I46 hC hF1 hE_ => ?_)
                                  have hF : yFt I I46 := yFt.trans (by repeat (first | exact hF | refine yFt.upd ?_ (by decide))) hF1.t
                                  refine y_ret1 ?_
                                  refine y_ireturn rfl rfl rfl ?_
                                  exact hQ (by omega) _ _ hC (by repeat (first | exact hF | refine yFt.upd ?_ (by decide))) hE_
                          · rw [yz_10] at h_26
                            refine y_throw rfl rfl rfl ?_
                            exact hE2 (by omega)
theorem e_benchmark (hS : ySh n tg R) (hC : yCI I) {x1 : Int32} (hE1 : ¬ (0 ≤ x1.toInt ∧ x1.toInt ≤ 99) → Q (.inr "java/lang/IllegalArgumentException") (n, tg, I, R) (c + 1) (s + 6)) (hQ : (0 ≤ x1.toInt ∧ x1.toInt ≤ 99) → ∀ (v : Int32) (I1 : Nat → Nat → Int32), yCI I1 → yFt I I1 → (v.toInt = (I 34 9).toInt ∧ (I1 34 9).toInt = x1.toInt) → Q (.inl (some (.int v))) (n, tg, I1, R) c s) : yC 129 [.ref 34, .int x1] (n, tg, I, R) c s Q := by
  have hF : yFt I I := yFt.rf
  refine y_in (M := xm_X8_benchmark) (ls := [some _, some _, _]) rfl rfl rfl ?_
  refine y_iload_n rfl rfl ?_
  refine y_iconst rfl ?_
  refine y_bip rfl (by decide) ?_
  refine y_static rfl rfl rfl rfl rfl ?_
  refine y_in (M := xm_X8_isIn) (ls := [some _, some _, some _]) rfl rfl rfl ?_
  refine y_iload_n rfl rfl ?_
  refine y_iload_n rfl rfl ?_
  refine y_icmp_lt rfl j_X8_isIn_14 (fun h_1 => ?_) (fun h_2 => ?_)
  · rw [yz_0] at h_1
    refine y_iconst rfl ?_
    refine y_ireturn rfl rfl rfl ?_
    refine y_ret1 ?_
    refine y_if_neF rfl (by decide) ?_
    refine y_throw rfl rfl rfl ?_
    exact hE1 (by omega)
  · rw [yz_0] at h_2
    refine y_iload_n rfl rfl ?_
    refine y_iload_n rfl rfl ?_
    refine y_icmp_gt rfl j_X8_isIn_14 (fun h_3 => ?_) (fun h_4 => ?_)
    · rw [yz_99] at h_3
      refine y_iconst rfl ?_
      refine y_ireturn rfl rfl rfl ?_
      refine y_ret1 ?_
      refine y_if_neF rfl (by decide) ?_
      refine y_throw rfl rfl rfl ?_
      exact hE1 (by omega)
    · rw [yz_99] at h_4
      refine y_iconst rfl ?_
      refine y_goto rfl j_X8_isIn_15 ?_
      refine y_ireturn rfl rfl rfl ?_
      refine y_ret1 ?_
      refine y_if_neT rfl j_X8_benchmark_20 (by decide) ?_
      refine y_aload_n rfl rfl ?_
      refine y_getI rfl (ySh.t hS rfl) (ySh.n hS rfl) rfl rfl ?_
      refine y_istore_n (ls' := [some _, some _, some _]) rfl rfl rfl ?_
      refine y_aload_n rfl rfl ?_
      refine y_iload_n rfl rfl ?_
      refine y_putI rfl (ySh.t hS rfl) (ySh.n hS rfl) rfl (Nat.le_of_ble_eq_true rfl) rfl rfl ?_
      refine y_iload_n rfl rfl ?_
      refine y_ireturn rfl rfl rfl ?_
      exact hQ (by omega) _ _ hC (by repeat (first | exact hF | refine yFt.upd ?_ (by decide))) ⟨rfl, congrArg Int32.toInt upd2_self⟩
theorem lp_passE {I0 : Nat → Nat → Int32} {T0 : Int} (hT0 : T0 ≤ 4000) (hS : ySh n tg R) {x1 : Int32} (hv0 : 1 ≤ x1.toInt) (hv1 : x1.toInt ≤ 400) (hQ : ∀ (v : Int32) (I1 : Nat → Nat → Int32), yCI I1 → yFt I0 I1 → (v.toInt = T0 ∧ (I1 34 8).toInt = T0) → Q (.inl (some (.int v))) (n, tg, I1, R) c s) : ∀ (m : Nat) (x2 : Int32) (I : Nat → Nat → Int32), yCI I → yFt I0 I → (0 ≤ x2.toInt) → (x2.toInt ≤ x1.toInt) → ((I 34 8).toInt + x1.toInt - x2.toInt = T0) → x1.toInt - x2.toInt < m → yW xm_X8_pass xc_X8_pass_47 [some (.ref 34), some (.int x1), some (.int x2)] [] (n, tg, I, R) c s Q := by
  intro m
  induction m with
  | zero => intro x2 I hC hF i0 i1 i2 hm; exfalso; omega
  | succ m ih =>
    intro x2 I hC hF i0 i1 i2 hm
    refine y_iload_n rfl rfl ?_
    refine y_iload_n rfl rfl ?_
    refine y_icmp_ge rfl j_X8_pass_108 (fun h_1 => ?_) (fun h_2 => ?_)
    · refine y_aload_n rfl rfl ?_
      refine y_getI rfl (ySh.t hS rfl) (ySh.n hS rfl) rfl rfl ?_
      refine y_ireturn rfl rfl rfl ?_
      exact hQ _ _ hC (by repeat (first | exact hF | refine yFt.upd ?_ (by decide))) ⟨by omega, by omega⟩
    · refine y_aload_n rfl rfl ?_
      refine y_getR rfl (ySh.t hS rfl) (ySh.n hS rfl) rfl rfl (ySh.r hS rfl) ?_
      refine y_aload_n rfl rfl ?_
      refine y_getI rfl (ySh.t hS rfl) (ySh.n hS rfl) rfl rfl ?_
      refine y_virt rfl rfl rfl rfl rfl (ySh.t hS rfl) (ySh.n hS rfl) ?_
      refine sp_endDay_X0 hS hC (by omega) (by omega) (fun I13 hC hF1 => ?_)
      have hF : yFt I0 I13 := yFt.trans (by repeat (first | exact hF | refine yFt.upd ?_ (by decide))) hF1.t
      have hd : (I13 34 8).toInt = (I 34 8).toInt := congrArg Int32.toInt (hF1 34 8 (Or.inl (by decide)))
      refine y_ret0 ?_
      refine y_aload_n rfl rfl ?_
      refine y_getR rfl (ySh.t hS rfl) (ySh.n hS rfl) rfl rfl (ySh.r hS rfl) ?_
      refine y_virt rfl rfl rfl rfl rfl (ySh.t hS rfl) (ySh.n hS rfl) ?_
      refine sp_endDay_X3 hS hC (fun I14 hC hF1 => ?_)
      have hF : yFt I0 I14 := yFt.trans (by repeat (first | exact hF | refine yFt.upd ?_ (by decide))) hF1.t
      have hd : (I14 34 8).toInt = (I13 34 8).toInt := congrArg Int32.toInt (hF1 34 8 (Or.inl (by decide)))
      refine y_ret0 ?_
      refine y_aload_n rfl rfl ?_
      refine y_dup rfl rfl ?_
      refine y_getI rfl (ySh.t hS rfl) (ySh.n hS rfl) rfl rfl ?_
      refine y_iconst rfl ?_
      refine y_iadd rfl ?_
      refine y_putI rfl (ySh.t hS rfl) (ySh.n hS rfl) rfl (Nat.le_of_ble_eq_true rfl) rfl rfl ?_
      refine y_setC (yCI.inc34 hC (by show (I14 34 8).toInt < 4000; omega)) (fun hC => ?_)
      refine y_aload_n rfl rfl ?_
      refine y_virt rfl rfl rfl rfl rfl (ySh.t hS rfl) (ySh.n hS rfl) ?_
      refine y_setCC (by exact hC) (fun hC => ?_)
      refine sp_collectRents_X8 hS hC (fun I15 hC hF1 => ?_)
      have hF : yFt I0 I15 := yFt.trans (by repeat (first | exact hF | refine yFt.upd ?_ (by decide))) hF1.t
      have hd : (I15 34 8).toInt = (I14 34 8).toInt + 1 := (congrArg Int32.toInt (hF1 34 8 (Or.inl (by decide)))).trans (yinc (by omega))
      refine y_ret0 ?_
      refine y_aload_n rfl rfl ?_
      refine y_getI rfl (ySh.t hS rfl) (ySh.n hS rfl) rfl rfl ?_
      refine y_sip rfl (by decide) ?_
      refine y_irem rfl (by decide) ?_
      refine y_if_ne rfl j_X8_pass_102 (fun h_6 => ?_) (fun h_7 => ?_)
      · refine y_iinc (ls' := [some _, some _, some _]) rfl rfl rfl rfl ?_
        refine y_goto rfl j_X8_pass_47 ?_
        exact ih _ _ hC (by repeat (first | exact hF | refine yFt.upd ?_ (by decide))) (by first | omega | (rw [yinc (by omega)]; omega)) (by first | omega | (rw [yinc (by omega)]; omega)) (by first | omega | (rw [yinc (by omega)]; omega)) (by first | omega | (rw [yinc (by omega)]; omega))
      · refine y_aload_n rfl rfl ?_
        refine y_getR rfl (ySh.t hS rfl) (ySh.n hS rfl) rfl rfl (ySh.r hS rfl) ?_
        refine y_virt rfl rfl rfl rfl rfl (ySh.t hS rfl) (ySh.n hS rfl) ?_
        refine sp_giveAlms_X4 hS hC (fun I18 hC hF1 => ?_)
        have hF : yFt I0 I18 := yFt.trans (by repeat (first | exact hF | refine yFt.upd ?_ (by decide))) hF1.t
        have hd : (I18 34 8).toInt = (I15 34 8).toInt := congrArg Int32.toInt (hF1 34 8 (Or.inl (by decide)))
        refine y_ret0 ?_
        refine y_iinc (ls' := [some _, some _, some _]) rfl rfl rfl rfl ?_
        refine y_goto rfl j_X8_pass_47 ?_
        exact ih _ _ hC (by repeat (first | exact hF | refine yFt.upd ?_ (by decide))) (by first | omega | (rw [yinc (by omega)]; omega)) (by first | omega | (rw [yinc (by omega)]; omega)) (by first | omega | (rw [yinc (by omega)]; omega)) (by first | omega | (rw [yinc (by omega)]; omega))
theorem e_pass (hS : ySh n tg R) (hC : yCI I) {x1 : Int32} (hE1 : ¬ (1 ≤ x1.toInt ∧ x1.toInt ≤ 400) → Q (.inr "java/lang/IllegalArgumentException") (n, tg, I, R) (c + 1) (s + 6)) (hE2 : (1 ≤ x1.toInt ∧ x1.toInt ≤ 400) ∧ 4000 < (I 34 8).toInt + x1.toInt → Q (.inr "java/lang/IllegalStateException") (n, tg, I, R) (c + 1) (s + 6)) (hQ : (1 ≤ x1.toInt ∧ x1.toInt ≤ 400) ∧ (I 34 8).toInt + x1.toInt ≤ 4000 → ∀ (v : Int32) (I1 : Nat → Nat → Int32), yCI I1 → yFt I I1 → (v.toInt = (I 34 8).toInt + x1.toInt ∧ (I1 34 8).toInt = (I 34 8).toInt + x1.toInt) → Q (.inl (some (.int v))) (n, tg, I1, R) c s) : yC 141 [.ref 34, .int x1] (n, tg, I, R) c s Q := by
  have hF : yFt I I := yFt.rf
  refine y_in (M := xm_X8_pass) (ls := [some _, some _, _]) rfl rfl rfl ?_
  refine y_iload_n rfl rfl ?_
  refine y_iconst rfl ?_
  refine y_sip rfl (by decide) ?_
  refine y_static rfl rfl rfl rfl rfl ?_
  refine y_in (M := xm_X8_isIn) (ls := [some _, some _, some _]) rfl rfl rfl ?_
  refine y_iload_n rfl rfl ?_
  refine y_iload_n rfl rfl ?_
  refine y_icmp_lt rfl j_X8_isIn_14 (fun h_1 => ?_) (fun h_2 => ?_)
  · rw [yz_1] at h_1
    refine y_iconst rfl ?_
    refine y_ireturn rfl rfl rfl ?_
    refine y_ret1 ?_
    refine y_if_neF rfl (by decide) ?_
    refine y_throw rfl rfl rfl ?_
    exact hE1 (by omega)
  · rw [yz_1] at h_2
    refine y_iload_n rfl rfl ?_
    refine y_iload_n rfl rfl ?_
    refine y_icmp_gt rfl j_X8_isIn_14 (fun h_3 => ?_) (fun h_4 => ?_)
    · rw [yz_400] at h_3
      refine y_iconst rfl ?_
      refine y_ireturn rfl rfl rfl ?_
      refine y_ret1 ?_
      refine y_if_neF rfl (by decide) ?_
      refine y_throw rfl rfl rfl ?_
      exact hE1 (by omega)
    · rw [yz_400] at h_4
      refine y_iconst rfl ?_
      refine y_goto rfl j_X8_isIn_15 ?_
      refine y_ireturn rfl rfl rfl ?_
      refine y_ret1 ?_
      refine y_if_neT rfl j_X8_pass_22 (by decide) ?_
      refine y_aload_n rfl rfl ?_
      refine y_getI rfl (ySh.t hS rfl) (ySh.n hS rfl) rfl rfl ?_
      refine y_iload_n rfl rfl ?_
      refine y_iadd rfl ?_
      refine y_sip rfl (by decide) ?_
      refine y_icmp_le rfl j_X8_pass_45 (fun h_5 => ?_) (fun h_6 => ?_)
      · rw [yz_4000] at h_5
        rw [yadd (by omega) (by omega)] at h_5
        refine y_iconst rfl ?_
        refine y_istore_n (ls' := [some _, some _, some _]) rfl rfl rfl ?_
        exact lp_passE (T0 := (I 34 8).toInt + x1.toInt) (by omega) hS (by omega) (by omega) (hQ (by omega)) 1000 _ _ hC (by repeat (first | exact hF | refine yFt.upd ?_ (by decide))) (by decide) (by rw [yz_0]; omega) (by rw [yz_0]; omega) (by rw [yz_0]; omega)
      · rw [yz_4000] at h_6
        rw [yadd (by omega) (by omega)] at h_6
        refine y_throw rfl rfl rfl ?_
        exact hE2 (by omega)
end YEC
