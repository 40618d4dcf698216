/-! THE CLASS'S METHODS THAT LEAVE THINGS, LEASES AND HOW MANY SALES THERE ARE ALONE (by gfr.py: rows of parts 18, 19, 41e, a wider frame) -/
/-- the cells of the class that the relation speaks of -/
def p4 (a : Nat) : Bool := (Nat.ble 40 a && Nat.ble a 60) || (Nat.beq a 62 || Nat.beq a 65)
def yFq (I I' : Nat → Nat → Int32) : Prop := ∀ a k, a < 35 ∨ 83 ≤ a ∨ a = 36 ∨ p4 a = true → I' a k = I a k
theorem yFq.rf {I : Nat → Nat → Int32} : yFq I I := fun _ _ _ => rfl
theorem yFq.trans {I I' I'' : Nat → Nat → Int32} (h : yFq I I') (h' : yFq I' I'') : yFq I I'' := fun a k ha => (h' a k ha).trans (h a k ha)
theorem yFq.upd {I I' : Nat → Nat → Int32} {a k : Nat} {x : Int32} (h : yFq I I') (ha : Nat.blt 34 a = true ∧ Nat.blt a 83 = true ∧ Nat.beq a 36 = false ∧ p4 a = false) : yFq I (upd2 I' a k x) := fun b j hb => by
  have h1 := blt_lt ha.1
  have h2 := blt_lt ha.2.1
  have h3 := Nat.ne_of_beq_eq_false ha.2.2.1
  have hne : b ≠ a := fun e => by
    subst e
    rcases hb with h | h | h | h
    · omega
    · omega
    · omega
    · rw [ha.2.2.2] at h; cases h
  rw [upd2_ne (.inl hne)]
  exact h b j hb
def yFu (I I' : Nat → Nat → Int32) : Prop := ∀ a k, a < 34 ∨ 83 ≤ a ∨ a = 36 ∨ p4 a = true → I' a k = I a k
theorem yFu.rf {I : Nat → Nat → Int32} : yFu I I := fun _ _ _ => rfl
theorem yFu.trans {I I' I'' : Nat → Nat → Int32} (h : yFu I I') (h' : yFu I' I'') : yFu I I'' := fun a k ha => (h' a k ha).trans (h a k ha)
theorem yFq.t {I I' : Nat → Nat → Int32} (h : yFq I I') : yFu I I' := fun a k ha => h a k (ha.imp (fun q => by omega) id)
theorem yFu.upd {I I' : Nat → Nat → Int32} {a k : Nat} {x : Int32} (h : yFu I I') (ha : Nat.blt 33 a = true ∧ Nat.blt a 83 = true ∧ Nat.beq a 36 = false ∧ p4 a = false) : yFu I (upd2 I' a k x) := fun b j hb => by
  have h1 := blt_lt ha.1
  have h2 := blt_lt ha.2.1
  have h3 := Nat.ne_of_beq_eq_false ha.2.2.1
  have hne : b ≠ a := fun e => by
    subst e
    rcases hb with h | h | h | h
    · omega
    · omega
    · omega
    · rw [ha.2.2.2] at h; cases h
  rw [upd2_ne (.inl hne)]
  exact h b j hb
theorem yFu.ft {I I' : Nat → Nat → Int32} (h : yFu I I') : yFt I I' := fun a k ha => h a k (ha.imp id (Or.imp id .inl))
section YFU
variable {n : Nat} {tg : Nat → yT} {I : Nat → Nat → Int32} {R : Nat → Nat → Value} {c s : Nat} {Q : yQ}
theorem lpu_endDay_X3 {I0 : Nat → Nat → Int32} (hS : ySh n tg R) (hQ : ∀ I1, yCI I1 → yFq I0 I1 → Q (.inl none) (n, tg, I1, R) c s) : ∀ (m : Nat) (x1 : Int32) (I : Nat → Nat → Int32), yCI I → yFq I0 I → 0 ≤ x1.toInt → x1.toInt ≤ 8 → 8 - x1.toInt < m → yW xm_X3_endDay xc_X3_endDay_2 [some (.ref 74), some (.int x1)] [] (n, tg, I, R) c s Q := by
  intro m
  induction m with
  | zero => intro x1 I hC hF h0 h1 h2; exfalso; omega
  | succ m ih =>
    intro x1 I hC hF h0 h1 h2
    refine y_iload_n rfl rfl ?_
    refine y_bip rfl (by decide) ?_
    refine y_icmp_ge rfl j_X3_endDay_29 (fun h_1 => ?_) (fun h_2 => ?_)
    · rw [yz_8] at h_1
      refine y_return rfl ?_
      exact hQ _ hC (by repeat (first | exact hF | refine yFq.upd ?_ (by decide)))
    · rw [yz_8] at h_2
      refine y_aload_n rfl rfl ?_
      refine y_getR rfl (ySh.t hS rfl) (ySh.n hS rfl) rfl rfl (ySh.r hS rfl) ?_
      refine y_iload_n rfl rfl ?_
      refine y_dup2 rfl rfl rfl ?_
      refine y_iaload rfl (ySh.t hS rfl) (ySh.n hS rfl) (by omega) (by omega) ?_
      refine y_aload_n rfl rfl ?_
      refine y_getR rfl (ySh.t hS rfl) (ySh.n hS rfl) rfl rfl (ySh.r hS rfl) ?_
      refine y_iload_n rfl rfl ?_
      refine y_iaload rfl (ySh.t hS rfl) (ySh.n hS rfl) (by omega) (by omega) ?_
      refine y_iadd rfl ?_
      refine y_iastore rfl (ySh.t hS rfl) (ySh.n hS rfl) (Nat.le_of_ble_eq_true rfl) (by omega) (by omega) ?_
      refine y_iinc (ls' := [some _, some _]) rfl rfl rfl rfl ?_
      refine y_goto rfl j_X3_endDay_2 ?_
      exact ih _ _ hC (by repeat (first | exact hF | refine yFq.upd ?_ (by decide))) (by first | omega | (rw [yinc (by omega)]; omega)) (by first | omega | (rw [yinc (by omega)]; omega)) (by first | omega | (rw [yinc (by omega)]; omega))
theorem spu_endDay_X3 (hS : ySh n tg R) (hC : yCI I) (hQ : ∀ I1, yCI I1 → yFq I I1 → Q (.inl none) (n, tg, I1, R) c s) : yC 60 [.ref 74] (n, tg, I, R) c s Q := by
  have hF : yFq I I := yFq.rf
  refine y_in (M := xm_X3_endDay) (ls := [some _, _]) rfl rfl rfl ?_
  refine y_iconst rfl ?_
  refine y_istore_n (ls' := [some _, some _]) rfl rfl rfl ?_
  exact lpu_endDay_X3 hS hQ 100000 _ _ hC (by repeat (first | exact hF | refine yFq.upd ?_ (by decide))) (by decide) (by rw [yz_0]; omega) (by rw [yz_0]; omega)
theorem lpu_giveAlms_X4 {I0 : Nat → Nat → Int32} (hS : ySh n tg R) (hQ : ∀ I1, yCI I1 → yFq I0 I1 → Q (.inl none) (n, tg, I1, R) c s) : ∀ (m : Nat) (x1 : Int32) (I : Nat → Nat → Int32), yCI I → yFq I0 I → (I 38 0).toInt = (I0 38 0).toInt → 0 ≤ x1.toInt → x1.toInt ≤ (I0 38 0).toInt → (I0 38 0).toInt - x1.toInt < m → yW xm_X4_giveAlms xc_X4_giveAlms_2 [some (.ref 38), some (.int x1)] [] (n, tg, I, R) c s Q := by
  intro m
  induction m with
  | zero => intro x1 I hC hF hb h0 h1 h2; exfalso; omega
  | succ m ih =>
    intro x1 I hC hF hb h0 h1 h2
    refine y_iload_n rfl rfl ?_
    refine y_aload_n rfl rfl ?_
    refine y_getI rfl (ySh.t hS rfl) (ySh.n hS rfl) rfl rfl ?_
    refine y_icmp_ge rfl j_X4_giveAlms_41 (fun h_1 => ?_) (fun h_2 => ?_)
    · refine y_return rfl ?_
      exact hQ _ hC (by repeat (first | exact hF | refine yFq.upd ?_ (by decide)))
    · refine y_aload_n rfl rfl ?_
      refine y_getR rfl (ySh.t hS rfl) (ySh.n hS rfl) rfl rfl (ySh.r hS rfl) ?_
      refine y_iload_n rfl rfl ?_
      refine y_iaload rfl (ySh.t hS rfl) (ySh.n hS rfl) (by omega) (by omega) ?_
      refine y_bip rfl (by decide) ?_
      refine y_icmp_lt rfl j_X4_giveAlms_35 (fun h_3 => ?_) (fun h_4 => ?_)
      · rw [yz_85] at h_3
        refine y_iinc (ls' := [some _, some _]) rfl rfl rfl rfl ?_
        refine y_goto rfl j_X4_giveAlms_2 ?_
        exact ih _ _ hC (by repeat (first | exact hF | refine yFq.upd ?_ (by decide))) hb (by first | omega | (rw [yinc (by omega)]; omega)) (by first | omega | (rw [yinc (by omega)]; omega)) (by first | omega | (rw [yinc (by omega)]; omega))
      · rw [yz_85] at h_4
        refine y_aload_n rfl rfl ?_
        refine y_iload_n rfl rfl ?_
        refine y_aload_n rfl rfl ?_
        refine y_getR rfl (ySh.t hS rfl) (ySh.n hS rfl) rfl rfl (ySh.r hS rfl) ?_
        refine y_iload_n rfl rfl ?_
        refine y_iaload rfl (ySh.t hS rfl) (ySh.n hS rfl) (by omega) (by omega) ?_
        refine y_bip rfl (by decide) ?_
        refine y_idiv rfl (by decide) ?_
        refine y_virt rfl rfl rfl rfl rfl (ySh.t hS rfl) (ySh.n hS rfl) ?_
        refine y_in (M := xm_X4_giveAway) (ls := [some _, some _, some _]) rfl rfl rfl ?_
        refine y_aload_n rfl rfl ?_
        refine y_iload_n rfl rfl ?_
        refine y_iload_n rfl rfl ?_
        refine y_ineg rfl ?_
        refine y_virt rfl rfl rfl rfl rfl (ySh.t hS rfl) (ySh.n hS rfl) ?_
        refine y_in (M := xm_X4_add) (ls := [some _, some _, some _]) rfl rfl rfl ?_
        refine y_iload_n rfl rfl ?_
        refine y_iconst rfl ?_
        refine y_bip rfl (by decide) ?_
        refine y_static rfl rfl rfl rfl rfl ?_
        refine y_in (M := xm_X8_isIn) (ls := [some _, some _, some _]) rfl rfl rfl ?_
        refine y_iload_n rfl rfl ?_
        refine y_iload_n rfl rfl ?_
        refine y_icmp_lt rfl j_X8_isIn_14 (fun h_5 => ?_) (fun h_6 => ?_)
        · rw [yz_0] at h_5
          refine y_iconst rfl ?_
          refine y_ireturn rfl rfl rfl ?_
          refine y_ret1 ?_
          refine y_if_eqT rfl j_X4_add_20 (by decide) ?_
          refine y_return rfl ?_
          refine y_ret0 ?_
          refine y_aload_n rfl rfl ?_
          refine y_dup rfl rfl ?_
          refine y_getI rfl (ySh.t hS rfl) (ySh.n hS rfl) rfl rfl ?_
          refine y_iload_n rfl rfl ?_
          refine y_iadd rfl ?_
          refine y_putI rfl (ySh.t hS rfl) (ySh.n hS rfl) rfl (Nat.le_of_ble_eq_true rfl) rfl rfl ?_
          refine y_return rfl ?_
          refine y_ret0 ?_
          refine y_iinc (ls' := [some _, some _]) rfl rfl rfl rfl ?_
          refine y_goto rfl j_X4_giveAlms_2 ?_
          exact ih _ _ hC (by repeat (first | exact hF | refine yFq.upd ?_ (by decide))) hb (by first | omega | (rw [yinc (by omega)]; omega)) (by first | omega | (rw [yinc (by omega)]; omega)) (by first | omega | (rw [yinc (by omega)]; omega))
        · rw [yz_0] at h_6
          refine y_iload_n rfl rfl ?_
          refine y_iload_n rfl rfl ?_
          refine y_icmp_gt rfl j_X8_isIn_14 (fun h_7 => ?_) (fun h_8 => ?_)
          · rw [yz_8] at h_7
            refine y_iconst rfl ?_
            refine y_ireturn rfl rfl rfl ?_
            refine y_ret1 ?_
            refine y_if_eqT rfl j_X4_add_20 (by decide) ?_
            refine y_return rfl ?_
            refine y_ret0 ?_
            refine y_aload_n rfl rfl ?_
            refine y_dup rfl rfl ?_
            refine y_getI rfl (ySh.t hS rfl) (ySh.n hS rfl) rfl rfl ?_
            refine y_iload_n rfl rfl ?_
            refine y_iadd rfl ?_
            refine y_putI rfl (ySh.t hS rfl) (ySh.n hS rfl) rfl (Nat.le_of_ble_eq_true rfl) rfl rfl ?_
            refine y_return rfl ?_
            refine y_ret0 ?_
            refine y_iinc (ls' := [some _, some _]) rfl rfl rfl rfl ?_
            refine y_goto rfl j_X4_giveAlms_2 ?_
            exact ih _ _ hC (by repeat (first | exact hF | refine yFq.upd ?_ (by decide))) hb (by first | omega | (rw [yinc (by omega)]; omega)) (by first | omega | (rw [yinc (by omega)]; omega)) (by first | omega | (rw [yinc (by omega)]; omega))
          · rw [yz_8] at h_8
            refine y_iconst rfl ?_
            refine y_goto rfl j_X8_isIn_15 ?_
            refine y_ireturn rfl rfl rfl ?_
            refine y_ret1 ?_
            refine y_if_eqF rfl (by decide) ?_
            refine y_aload_n rfl rfl ?_
            refine y_getR rfl (ySh.t hS rfl) (ySh.n hS rfl) rfl rfl (ySh.r hS rfl) ?_
            refine y_iload_n rfl rfl ?_
            refine y_dup2 rfl rfl rfl ?_
            refine y_iaload rfl (ySh.t hS rfl) (ySh.n hS rfl) (by omega) (by omega) ?_
            refine y_iload_n rfl rfl ?_
            refine y_iadd rfl ?_
            refine y_iastore rfl (ySh.t hS rfl) (ySh.n hS rfl) (Nat.le_of_ble_eq_true rfl) (by omega) (by omega) ?_
            refine y_return rfl ?_
            refine y_ret0 ?_
            refine y_aload_n rfl rfl ?_
            refine y_dup rfl rfl ?_
            refine y_getIv (v := I 38 1) rfl (ySh.t hS rfl) (ySh.n hS rfl) rfl rfl rfl ?_
            refine y_iload_n rfl rfl ?_
            refine y_iadd rfl ?_
            refine y_putI rfl (ySh.t hS rfl) (ySh.n hS rfl) rfl (Nat.le_of_ble_eq_true rfl) rfl rfl ?_
            refine y_return rfl ?_
            refine y_ret0 ?_
            refine y_iinc (ls' := [some _, some _]) rfl rfl rfl rfl ?_
            refine y_goto rfl j_X4_giveAlms_2 ?_
            exact ih _ _ hC (by repeat (first | exact hF | refine yFq.upd ?_ (by decide))) hb (by first | omega | (rw [yinc (by omega)]; omega)) (by first | omega | (rw [yinc (by omega)]; omega)) (by first | omega | (rw [yinc (by omega)]; omega))
theorem spu_giveAlms_X4 (hS : ySh n tg R) (hC : yCI I) (hQ : ∀ I1, yCI I1 → yFq I I1 → Q (.inl none) (n, tg, I1, R) c s) : yC 74 [.ref 38] (n, tg, I, R) c s Q := by
  have hF : yFq I I := yFq.rf
  refine y_in (M := xm_X4_giveAlms) (ls := [some _, _]) rfl rfl rfl ?_
  refine y_iconst rfl ?_
  refine y_istore_n (ls' := [some _, some _]) rfl rfl rfl ?_
  exact lpu_giveAlms_X4 hS hQ 100000 _ _ hC (by repeat (first | exact hF | refine yFq.upd ?_ (by decide))) rfl (by decide) (by rw [yz_0]; omega) (by rw [yz_0]; omega)
theorem lpu_endDay_X0 {I0 : Nat → Nat → Int32} (hS : ySh n tg R) {x1 : Int32} (hv0 : 0 ≤ x1.toInt) (hv1 : x1.toInt < 4001) (hQ : ∀ I1, yCI I1 → yFq I0 I1 → Q (.inl none) (n, tg, I1, R) c s) : ∀ (m : Nat) (x2 : Int32) (x3 : Int32) (I : Nat → Nat → Int32), yCI I → yFq I0 I → 0 ≤ x3.toInt → x3.toInt ≤ 5 → 5 - x3.toInt < m → yW xm_X0_endDay xc_X0_endDay_4 [some (.ref 35), some (.int x1), some (.int x2), some (.int x3)] [] (n, tg, I, R) c s Q := by
  intro m
  induction m with
  | zero => intro x2 x3 I hC hF h0 h1 h2; exfalso; omega
  | succ m ih =>
    intro x2 x3 I hC hF h0 h1 h2
    refine y_iload_n rfl rfl ?_
    refine y_iconst rfl ?_
    refine y_icmp_ge rfl j_X0_endDay_29 (fun h_1 => ?_) (fun h_2 => ?_)
    · rw [yz_5] at h_1
      refine y_aload_n rfl rfl ?_
      refine y_getR rfl (ySh.t hS rfl) (ySh.n hS rfl) rfl rfl (ySh.r hS rfl) ?_
      refine y_iload_n rfl rfl ?_
      refine y_iload_n rfl rfl ?_
      refine y_i2b rfl ?_
      refine y_bastore rfl (ySh.t hS rfl) (ySh.n hS rfl) (Nat.le_of_ble_eq_true rfl) (by omega) (by omega) (vp_nar_b _) ?_
      refine y_return rfl ?_
      exact hQ _ hC (by repeat (first | exact hF | refine yFq.upd ?_ (by decide)))
    · rw [yz_5] at h_2
      refine y_aload_n rfl rfl ?_
      refine y_iload_n rfl rfl ?_
      refine y_virt rfl rfl rfl rfl rfl (ySh.t hS rfl) (ySh.n hS rfl) ?_
      refine sp_isAllowedNow hS (by omega) (by omega) (fun h_3 => ?_) (fun h_4 => ?_)
      · refine y_ret1 ?_
        refine y_if_eqF rfl (by decide) ?_
        refine y_iload_n rfl rfl ?_
        refine y_iconst rfl ?_
        refine y_iload_n rfl rfl ?_
        refine y_ishl rfl ?_
        refine y_ior rfl ?_
        refine y_istore_n (ls' := [some _, some _, some _, some _]) rfl rfl rfl ?_
        refine y_iinc (ls' := [some _, some _, some _, some _]) rfl rfl rfl rfl ?_
        refine y_goto rfl j_X0_endDay_4 ?_
        exact ih _ _ _ hC (by repeat (first | exact hF | refine yFq.upd ?_ (by decide))) (by first | omega | (rw [yinc (by omega)]; omega)) (by first | omega | (rw [yinc (by omega)]; omega)) (by first | omega | (rw [yinc (by omega)]; omega))
      · refine y_ret1 ?_
        refine y_if_eqT rfl j_X0_endDay_23 (by decide) ?_
        refine y_iinc (ls' := [some _, some _, some _, some _]) rfl rfl rfl rfl ?_
        refine y_goto rfl j_X0_endDay_4 ?_
        exact ih _ _ _ hC (by repeat (first | exact hF | refine yFq.upd ?_ (by decide))) (by first | omega | (rw [yinc (by omega)]; omega)) (by first | omega | (rw [yinc (by omega)]; omega)) (by first | omega | (rw [yinc (by omega)]; omega))
theorem spu_endDay_X0 (hS : ySh n tg R) (hC : yCI I) {x1 : Int32} (hv0 : 0 ≤ x1.toInt) (hv1 : x1.toInt < 4001) (hQ : ∀ I1, yCI I1 → yFq I I1 → Q (.inl none) (n, tg, I1, R) c s) : yC 39 [.ref 35, .int x1] (n, tg, I, R) c s Q := by
  have hF : yFq I I := yFq.rf
  refine y_in (M := xm_X0_endDay) (ls := [some _, some _, _, _]) rfl rfl rfl ?_
  refine y_iconst rfl ?_
  refine y_istore_n (ls' := [some _, some _, some _, _]) rfl rfl rfl ?_
  refine y_iconst rfl ?_
  refine y_istore_n (ls' := [some _, some _, some _, some _]) rfl rfl rfl ?_
  exact lpu_endDay_X0 hS hv0 hv1 hQ 100000 _ _ _ hC (by repeat (first | exact hF | refine yFq.upd ?_ (by decide))) (by decide) (by rw [yz_0]; omega) (by rw [yz_0]; omega)
theorem lpu_payOut_X3 {I0 : Nat → Nat → Int32} (hS : ySh n tg R) {x1 : Int32} (hQ : ∀ v I1, yCI I1 → yFq I0 I1 → Q (.inl (some (.int v))) (n, tg, I1, R) c s) : ∀ (m : Nat) (x2 : Int64) (x4 : Int32) (x5 : Int32) (I : Nat → Nat → Int32), yCI I → yFq I0 I → 0 ≤ x5.toInt → x5.toInt ≤ 8 → 8 - x5.toInt < m → yW xm_X3_payOut xc_X3_payOut_11 [some (.ref 74), some (.int x1), some (.long x2), none, some (.int x4), some (.int x5), none] [] (n, tg, I, R) c s Q := by
  intro m
  induction m with
  | zero => intro x2 x4 x5 I hC hF h0 h1 h2; exfalso; omega
  | succ m ih =>
    intro x2 x4 x5 I hC hF h0 h1 h2
    refine y_iload rfl rfl ?_
    refine y_bip rfl (by decide) ?_
    refine y_icmp_ge rfl j_X3_payOut_61 (fun h_1 => ?_) (fun h_2 => ?_)
    · rw [yz_8] at h_1
      refine y_iload rfl rfl ?_
      refine y_ireturn rfl rfl rfl ?_
      exact hQ _ _ hC (by repeat (first | exact hF | refine yFq.upd ?_ (by decide)))
    · rw [yz_8] at h_2
      refine y_aload_n rfl rfl ?_
      refine y_iload rfl rfl ?_
      refine y_iload_n rfl rfl ?_
      refine y_lload_n rfl rfl ?_
      refine y_virt rfl rfl rfl rfl rfl (ySh.t hS rfl) (ySh.n hS rfl) ?_
      refine y_in (M := xm_X3_portionOf) (ls := [some _, some _, some _, some _, _]) rfl rfl rfl ?_
      refine y_iload_n rfl rfl ?_
      refine y_i2l rfl ?_
      refine y_aload_n rfl rfl ?_
      refine y_getR rfl (ySh.t hS rfl) (ySh.n hS rfl) rfl rfl (ySh.r hS rfl) ?_
      refine y_iload_n rfl rfl ?_
      refine y_iaload rfl (ySh.t hS rfl) (ySh.n hS rfl) (by omega) (by omega) ?_
      refine y_i2l rfl ?_
      refine y_lload_n rfl rfl ?_
      refine y_static rfl rfl rfl rfl rfl ?_
      refine sp_portion ?_
      refine y_ret1 ?_
      refine y_ldcI (v := (99999 : Int)) rfl rfl rfl (by decide) ?_
      refine y_aload_n rfl rfl ?_
      refine y_getR rfl (ySh.t hS rfl) (ySh.n hS rfl) rfl rfl (ySh.r hS rfl) ?_
      refine y_iload_n rfl rfl ?_
      refine y_iaload rfl (ySh.t hS rfl) (ySh.n hS rfl) (by omega) (by omega) ?_
      refine y_isub rfl ?_
      refine y_min rfl rfl ?_
      refine y_ireturn rfl rfl rfl ?_
      refine y_ret1 ?_
      refine y_istore (ls' := [some _, some _, some _, _, some _, some _, some _]) rfl rfl rfl ?_
      refine y_aload_n rfl rfl ?_
      refine y_getR rfl (ySh.t hS rfl) (ySh.n hS rfl) rfl rfl (ySh.r hS rfl) ?_
      refine y_iload rfl rfl ?_
      refine y_dup2 rfl rfl rfl ?_
      refine y_iaload rfl (ySh.t hS rfl) (ySh.n hS rfl) (by omega) (by omega) ?_
      refine y_iload rfl rfl ?_
      refine y_iadd rfl ?_
      refine y_iastore rfl (ySh.t hS rfl) (ySh.n hS rfl) (Nat.le_of_ble_eq_true rfl) (by omega) (by omega) ?_
      refine y_aload_n rfl rfl ?_
      refine y_getR rfl (ySh.t hS rfl) (ySh.n hS rfl) rfl rfl (ySh.r hS rfl) ?_
      refine y_iload rfl rfl ?_
      refine y_iconst rfl ?_
      refine y_iastore rfl (ySh.t hS rfl) (ySh.n hS rfl) (Nat.le_of_ble_eq_true rfl) (by omega) (by omega) ?_
      refine y_iload rfl rfl ?_
      refine y_iload rfl rfl ?_
      refine y_iadd rfl ?_
      refine y_istore (ls' := [some _, some _, some _, _, some _, some _, some _]) rfl rfl rfl ?_
      refine y_iinc (ls' := [some _, some _, some _, _, some _, some _, some _]) rfl rfl rfl rfl ?_
      refine y_goto rfl j_X3_payOut_11 ?_
      refine y_fgt (ls := [some _, some _, some _, none, some _, some _, none]) ⟨rfl, rfl, rfl, rfl, rfl, trivial⟩ ?_
      exact ih _ _ _ _ hC (by repeat (first | exact hF | refine yFq.upd ?_ (by decide))) (by first | omega | (rw [yinc (by omega)]; omega)) (by first | omega | (rw [yinc (by omega)]; omega)) (by first | omega | (rw [yinc (by omega)]; omega))
theorem spu_payOut_X3 (hS : ySh n tg R) (hC : yCI I) {x1 : Int32} (hQ : ∀ v I1, yCI I1 → yFq I I1 → Q (.inl (some (.int v))) (n, tg, I1, R) c s) : yC 65 [.ref 74, .int x1] (n, tg, I, R) c s Q := by
  have hF : yFq I I := yFq.rf
  refine y_in (M := xm_X3_payOut) (ls := [some _, some _, _, _, _, _, _]) rfl rfl rfl ?_
  refine y_aload_n rfl rfl ?_
  refine y_virt rfl rfl rfl rfl rfl (ySh.t hS rfl) (ySh.n hS rfl) ?_
  refine sp_weights_X3 hS hC (fun v_ => ?_)
  refine y_ret1 ?_
  refine y_lstore_n (ls' := [some _, some _, some _, _, _, _, _]) rfl rfl rfl ?_
  refine y_iconst rfl ?_
  refine y_istore (ls' := [some _, some _, some _, _, some _, _, _]) rfl rfl rfl ?_
  refine y_iconst rfl ?_
  refine y_istore (ls' := [some _, some _, some _, _, some _, some _, _]) rfl rfl rfl ?_
  exact lpu_payOut_X3 hS hQ 100000 _ _ _ _ hC (by repeat (first | exact hF | refine yFq.upd ?_ (by decide))) (by decide) (by rw [yz_0]; omega) (by rw [yz_0]; omega)
theorem lpu_bearLossB {I0 : Nat → Nat → Int32} (hS : ySh n tg R) {x1 x2 : Int32} (hv0 : 0 ≤ x1.toInt) (hv1 : x1.toInt < 6) (hQ : ∀ I1, yCI I1 → yFq I0 I1 → Q (.inl none) (n, tg, I1, R) c s) : ∀ (m : Nat) (x3 : Int32) (x4 : Int32) (x5 : Int32) (x6 : Int32) (I : Nat → Nat → Int32), yCI I → yFq I0 I → (0 ≤ x6.toInt) → (x6.toInt ≤ 9) → 9 - x6.toInt < m → yW xm_X7_bearLoss xc_X7_bearLoss_78 [some (.ref 69), some (.int x1), some (.int x2), some (.int x3), some (.int x4), some (.int x5), some (.int x6), none] [] (n, tg, I, R) c s Q := by
  intro m
  induction m with
  | zero => intro x3 x4 x5 x6 I hC hF i0 i1 hm; exfalso; omega
  | succ m ih =>
    intro x3 x4 x5 x6 I hC hF i0 i1 hm
    refine y_iload rfl rfl ?_
    refine y_bip rfl (by decide) ?_
    refine y_icmp_ge rfl j_X7_bearLoss_125 (fun h_1 => ?_) (fun h_2 => ?_)
    · rw [yz_9] at h_1
      refine y_return rfl ?_
      exact hQ _ hC (by repeat (first | exact hF | refine yFq.upd ?_ (by decide)))
    · rw [yz_9] at h_2
      refine y_iload rfl rfl ?_
      refine y_if_le rfl j_X7_bearLoss_119 (fun h_3 => ?_) (fun h_4 => ?_)
      · refine y_iinc (ls' := [some _, some _, some _, some _, some _, some _, some _, _]) rfl rfl rfl rfl ?_
        refine y_goto rfl j_X7_bearLoss_78 ?_
        exact ih _ _ _ _ _ hC (by repeat (first | exact hF | refine yFq.upd ?_ (by decide))) (by first | omega | (rw [yinc (by omega)]; omega)) (by first | omega | (rw [yinc (by omega)]; omega)) (by first | omega | (rw [yinc (by omega)]; omega))
      · refine y_aload_n rfl rfl ?_
        refine y_iload_n rfl rfl ?_
        refine y_iload rfl rfl ?_
        refine y_virt rfl rfl rfl rfl rfl (ySh.t hS rfl) (ySh.n hS rfl) ?_
        refine y_in (M := xm_X7_capitalOf) (ls := [some _, some _, some _]) rfl rfl rfl ?_
        refine y_aload_n rfl rfl ?_
        refine y_getR rfl (ySh.t hS rfl) (ySh.n hS rfl) rfl rfl (ySh.r hS rfl) ?_
        refine y_aload_n rfl rfl ?_
        refine y_iload_n rfl rfl ?_
        refine y_iload_n rfl rfl ?_
        refine y_virt rfl rfl rfl rfl rfl (ySh.t hS rfl) (ySh.n hS rfl) ?_
        refine sp_at (by omega) (by omega) (by omega) (by omega) (fun z_ hz5 => ?_)
        refine y_ret1 ?_
        refine y_iaload rfl (ySh.t hS rfl) (ySh.n hS rfl) (by omega) (by omega) ?_
        refine y_ireturn rfl rfl rfl ?_
        refine y_ret1 ?_
        refine y_if_le rfl j_X7_bearLoss_119 (fun h_6 => ?_) (fun h_7 => ?_)
        · refine y_iinc (ls' := [some _, some _, some _, some _, some _, some _, some _, _]) rfl rfl rfl rfl ?_
          refine y_goto rfl j_X7_bearLoss_78 ?_
          exact ih _ _ _ _ _ hC (by repeat (first | exact hF | refine yFq.upd ?_ (by decide))) (by first | omega | (rw [yinc (by omega)]; omega)) (by first | omega | (rw [yinc (by omega)]; omega)) (by first | omega | (rw [yinc (by omega)]; omega))
        · refine y_aload_n rfl rfl ?_
          refine y_getR rfl (ySh.t hS rfl) (ySh.n hS rfl) rfl rfl (ySh.r hS rfl) ?_
          refine y_aload_n rfl rfl ?_
          refine y_iload_n rfl rfl ?_
          refine y_iload rfl rfl ?_
          refine y_virt rfl rfl rfl rfl rfl (ySh.t hS rfl) (ySh.n hS rfl) ?_
          refine sp_at (by omega) (by omega) (by omega) (by omega) (fun z_ hz8 => ?_)
          refine y_ret1 ?_
          refine y_dup2 rfl rfl rfl ?_
          refine y_iaload rfl (ySh.t hS rfl) (ySh.n hS rfl) (by omega) (by omega) ?_
          refine y_iconst rfl ?_
          refine y_isub rfl ?_
          refine y_iastore rfl (ySh.t hS rfl) (ySh.n hS rfl) (Nat.le_of_ble_eq_true rfl) (by omega) (by omega) ?_
          refine y_iinc (ls' := [some _, some _, some _, some _, some _, some _, some _, _]) rfl rfl rfl rfl ?_
          refine y_iinc (ls' := [some _, some _, some _, some _, some _, some _, some _, _]) rfl rfl rfl rfl ?_
          refine y_goto rfl j_X7_bearLoss_78 ?_
          exact ih _ _ _ _ _ hC (by repeat (first | exact hF | refine yFq.upd ?_ (by decide))) (by first | omega | (rw [yinc (by omega)]; omega)) (by first | omega | (rw [yinc (by omega)]; omega)) (by first | omega | (rw [yinc (by omega)]; omega))
theorem lpu_bearLossA {I0 : Nat → Nat → Int32} (hS : ySh n tg R) {x1 x2 : Int32} (hv0 : 0 ≤ x1.toInt) (hv1 : x1.toInt < 6) (hQ : ∀ I1, yCI I1 → yFq I0 I1 → Q (.inl none) (n, tg, I1, R) c s) : ∀ (m : Nat) (x3 : Int32) (x4 : Int32) (x5 : Int32) (x6 : Int32) (I : Nat → Nat → Int32), yCI I → yFq I0 I → (0 ≤ x6.toInt) → (x6.toInt ≤ 9) → 9 - x6.toInt < m → yW xm_X7_bearLoss xc_X7_bearLoss_20 [some (.ref 69), some (.int x1), some (.int x2), some (.int x3), some (.int x4), some (.int x5), some (.int x6), none] [] (n, tg, I, R) c s Q := by
  intro m
  induction m with
  | zero => intro x3 x4 x5 x6 I hC hF i0 i1 hm; exfalso; omega
  | succ m ih =>
    intro x3 x4 x5 x6 I hC hF i0 i1 hm
    refine y_iload rfl rfl ?_
    refine y_bip rfl (by decide) ?_
    refine y_icmp_ge rfl j_X7_bearLoss_75 (fun h_1 => ?_) (fun h_2 => ?_)
    · rw [yz_9] at h_1
      refine y_iconst rfl ?_
      refine y_istore (ls' := [some _, some _, some _, some _, some _, some _, some _, _]) rfl rfl rfl ?_
      exact lpu_bearLossB hS hv0 hv1 hQ 100 _ _ _ _ _ hC (by repeat (first | exact hF | refine yFq.upd ?_ (by decide))) (by decide) (by decide) (by decide)
    · rw [yz_9] at h_2
      refine y_iload rfl rfl ?_
      refine y_i2l rfl ?_
      refine y_aload_n rfl rfl ?_
      refine y_iload_n rfl rfl ?_
      refine y_iload rfl rfl ?_
      refine y_virt rfl rfl rfl rfl rfl (ySh.t hS rfl) (ySh.n hS rfl) ?_
      refine y_in (M := xm_X7_capitalOf) (ls := [some _, some _, some _]) rfl rfl rfl ?_
      refine y_aload_n rfl rfl ?_
      refine y_getR rfl (ySh.t hS rfl) (ySh.n hS rfl) rfl rfl (ySh.r hS rfl) ?_
      refine y_aload_n rfl rfl ?_
      refine y_iload_n rfl rfl ?_
      refine y_iload_n rfl rfl ?_
      refine y_virt rfl rfl rfl rfl rfl (ySh.t hS rfl) (ySh.n hS rfl) ?_
      refine sp_at (by omega) (by omega) (by omega) (by omega) (fun z_ hz3 => ?_)
      refine y_ret1 ?_
      refine y_iaload rfl (ySh.t hS rfl) (ySh.n hS rfl) (by omega) (by omega) ?_
      refine y_ireturn rfl rfl rfl ?_
      refine y_ret1 ?_
      refine y_i2l rfl ?_
      refine y_iload_n rfl rfl ?_
      refine y_i2l rfl ?_
      refine y_static rfl rfl rfl rfl rfl ?_
      refine sp_portion ?_
      refine y_ret1 ?_
      refine y_istore (ls' := [some _, some _, some _, some _, some _, some _, some _, some _]) rfl rfl rfl ?_
      refine y_aload_n rfl rfl ?_
      refine y_getR rfl (ySh.t hS rfl) (ySh.n hS rfl) rfl rfl (ySh.r hS rfl) ?_
      refine y_aload_n rfl rfl ?_
      refine y_iload_n rfl rfl ?_
      refine y_iload rfl rfl ?_
      refine y_virt rfl rfl rfl rfl rfl (ySh.t hS rfl) (ySh.n hS rfl) ?_
      refine sp_at (by omega) (by omega) (by omega) (by omega) (fun z_ hz4 => ?_)
      refine y_ret1 ?_
      refine y_dup2 rfl rfl rfl ?_
      refine y_iaload rfl (ySh.t hS rfl) (ySh.n hS rfl) (by omega) (by omega) ?_
      refine y_iload rfl rfl ?_
      refine y_isub rfl ?_
      refine y_iastore rfl (ySh.t hS rfl) (ySh.n hS rfl) (Nat.le_of_ble_eq_true rfl) (by omega) (by omega) ?_
      refine y_iload rfl rfl ?_
      refine y_iload rfl rfl ?_
      refine y_isub rfl ?_
      refine y_istore (ls' := [some _, some _, some _, some _, some _, some _, some _, some _]) rfl rfl rfl ?_
      refine y_iinc (ls' := [some _, some _, some _, some _, some _, some _, some _, some _]) rfl rfl rfl rfl ?_
      refine y_goto rfl j_X7_bearLoss_20 ?_
      refine y_fgt (ls := [some _, some _, some _, some _, some _, some _, some _, none]) ⟨rfl, rfl, rfl, rfl, rfl, rfl, rfl, trivial⟩ ?_
      exact ih _ _ _ _ _ hC (by repeat (first | exact hF | refine yFq.upd ?_ (by decide))) (by first | omega | (rw [yinc (by omega)]; omega)) (by first | omega | (rw [yinc (by omega)]; omega)) (by first | omega | (rw [yinc (by omega)]; omega))
theorem spu_bearLoss (hS : ySh n tg R) (hC : yCI I) {x1 x2 : Int32} (hv0 : 0 ≤ x1.toInt) (hv1 : x1.toInt < 6) (hQ : ∀ I1, yCI I1 → yFq I I1 → Q (.inl none) (n, tg, I1, R) c s) : yC 115 [.ref 69, .int x1, .int x2] (n, tg, I, R) c s Q := by
  have hF : yFq I I := yFq.rf
  refine y_in (M := xm_X7_bearLoss) (ls := [some _, some _, some _, _, _, _, _, _]) rfl rfl rfl ?_
  refine y_aload_n rfl rfl ?_
  refine y_iload_n rfl rfl ?_
  refine y_virt rfl rfl rfl rfl rfl (ySh.t hS rfl) (ySh.n hS rfl) ?_
  refine sp_capitals_X7 hS hC (by omega) (by omega) (fun v_ => ?_)
  refine y_ret1 ?_
  refine y_istore_n (ls' := [some _, some _, some _, some _, _, _, _, _]) rfl rfl rfl ?_
  refine y_iload_n rfl rfl ?_
  refine y_iload_n rfl rfl ?_
  refine y_min rfl rfl ?_
  refine y_istore (ls' := [some _, some _, some _, some _, some _, _, _, _]) rfl rfl rfl ?_
  refine y_iload rfl rfl ?_
  refine y_istore (ls' := [some _, some _, some _, some _, some _, some _, _, _]) rfl rfl rfl ?_
  refine y_iconst rfl ?_
  refine y_istore (ls' := [some _, some _, some _, some _, some _, some _, some _, _]) rfl rfl rfl ?_
  exact lpu_bearLossA hS hv0 hv1 hQ 100 _ _ _ _ _ hC (by repeat (first | exact hF | refine yFq.upd ?_ (by decide))) (by decide) (by decide) (by decide)
theorem lpu_shareProfit_X8 {I0 : Nat → Nat → Int32} (hS : ySh n tg R) {x1 : Int32} {x2 : Int32} (hv0 : 0 ≤ x1.toInt) (hv1 : x1.toInt < 6) (hQ : ∀ I1, yCI I1 → yFq I0 I1 → Q (.inl none) (n, tg, I1, R) c s) : ∀ (m : Nat) (x3 : Int32) (x4 : Int32) (I : Nat → Nat → Int32), yCI I → yFq I0 I → 0 ≤ x4.toInt → x4.toInt ≤ 8 → 8 - x4.toInt < m → yW xm_X8_shareProfit xc_X8_shareProfit_5 [some (.ref 34), some (.int x1), some (.int x2), some (.int x3), some (.int x4), none] [] (n, tg, I, R) c s Q := by
  intro m
  induction m with
  | zero => intro x3 x4 I hC hF h0 h1 h2; exfalso; omega
  | succ m ih =>
    intro x3 x4 I hC hF h0 h1 h2
    refine y_iload rfl rfl ?_
    refine y_bip rfl (by decide) ?_
    refine y_icmp_ge rfl j_X8_shareProfit_53 (fun h_1 => ?_) (fun h_2 => ?_)
    · rw [yz_8] at h_1
      refine y_aload_n rfl rfl ?_
      refine y_iload_n rfl rfl ?_
      refine y_bip rfl (by decide) ?_
      refine y_iload_n rfl rfl ?_
      refine y_virt rfl rfl rfl rfl rfl (ySh.t hS rfl) (ySh.n hS rfl) ?_
      refine y_in (M := xm_X8_creditProfit) (ls := [some _, some _, some _, some _]) rfl rfl rfl ?_
      refine y_aload_n rfl rfl ?_
      refine y_getR rfl (ySh.t hS rfl) (ySh.n hS rfl) rfl rfl (ySh.r hS rfl) ?_
      refine y_iload_n rfl rfl ?_
      refine y_iload_n rfl rfl ?_
      refine y_iload_n rfl rfl ?_
      refine y_virt rfl rfl rfl rfl rfl (ySh.t hS rfl) (ySh.n hS rfl) ?_
      refine y_in (M := xm_X7_addGain) (ls := [some _, some _, some _, some _]) rfl rfl rfl ?_
      refine y_aload_n rfl rfl ?_
      refine y_getR rfl (ySh.t hS rfl) (ySh.n hS rfl) rfl rfl (ySh.r hS rfl) ?_
      refine y_aload_n rfl rfl ?_
      refine y_iload_n rfl rfl ?_
      refine y_iload_n rfl rfl ?_
      refine y_virt rfl rfl rfl rfl rfl (ySh.t hS rfl) (ySh.n hS rfl) ?_
      refine sp_at (by omega) (by omega) (by decide) (by decide) (fun z_ hz3 => ?_)
      rw [yz_8] at hz3
      refine y_ret1 ?_
      refine y_dup2 rfl rfl rfl ?_
      refine y_iaload rfl (ySh.t hS rfl) (ySh.n hS rfl) (by omega) (by omega) ?_
      refine y_iload_n rfl rfl ?_
      refine y_iadd rfl ?_
      refine y_iastore rfl (ySh.t hS rfl) (ySh.n hS rfl) (Nat.le_of_ble_eq_true rfl) (by omega) (by omega) ?_
      refine y_return rfl ?_
      refine y_ret0 ?_
      refine y_aload_n rfl rfl ?_
      refine y_getR rfl (ySh.t hS rfl) (ySh.n hS rfl) rfl rfl (ySh.r hS rfl) ?_
      refine y_iload_n rfl rfl ?_
      refine y_iload_n rfl rfl ?_
      refine y_virt rfl rfl rfl rfl rfl (ySh.t hS rfl) (ySh.n hS rfl) ?_
      refine y_in (M := xm_X4_add) (ls := [some _, some _, some _]) rfl rfl rfl ?_
      refine y_iload_n rfl rfl ?_
      refine y_iconst rfl ?_
      refine y_bip rfl (by decide) ?_
      refine y_static rfl rfl rfl rfl rfl ?_
      refine y_in (M := xm_X8_isIn) (ls := [some _, some _, some _]) rfl rfl rfl ?_
      refine y_iload_n rfl rfl ?_
      refine y_iload_n rfl rfl ?_
      refine y_icmp_ltF rfl (by decide) ?_
      refine y_iload_n rfl rfl ?_
      refine y_iload_n rfl rfl ?_
      refine y_icmp_gtF rfl (by decide) ?_
      refine y_iconst rfl ?_
      refine y_goto rfl j_X8_isIn_15 ?_
      refine y_ireturn rfl rfl rfl ?_
      refine y_ret1 ?_
      refine y_if_eqF rfl (by decide) ?_
      refine y_aload_n rfl rfl ?_
      refine y_getR rfl (ySh.t hS rfl) (ySh.n hS rfl) rfl rfl (ySh.r hS rfl) ?_
      refine y_iload_n rfl rfl ?_
      refine y_dup2 rfl rfl rfl ?_
      refine y_iaload rfl (ySh.t hS rfl) (ySh.n hS rfl) (by decide) (by decide) ?_
      refine y_iload_n rfl rfl ?_
      refine y_iadd rfl ?_
      refine y_iastore rfl (ySh.t hS rfl) (ySh.n hS rfl) (Nat.le_of_ble_eq_true rfl) (by decide) (by decide) ?_
      refine y_return rfl ?_
      refine y_ret0 ?_
      refine y_return rfl ?_
      refine y_ret0 ?_
      refine y_return rfl ?_
      exact hQ _ hC (by repeat (first | exact hF | refine yFq.upd ?_ (by decide)))
    · rw [yz_8] at h_2
      refine y_iload_n rfl rfl ?_
      refine y_i2l rfl ?_
      refine y_aload_n rfl rfl ?_
      refine y_getR rfl (ySh.t hS rfl) (ySh.n hS rfl) rfl rfl (ySh.r hS rfl) ?_
      refine y_iload_n rfl rfl ?_
      refine y_iload rfl rfl ?_
      refine y_virt rfl rfl rfl rfl rfl (ySh.t hS rfl) (ySh.n hS rfl) ?_
      refine y_in (M := xm_X7_shareOf) (ls := [some _, some _, some _]) rfl rfl rfl ?_
      refine y_aload_n rfl rfl ?_
      refine y_getR rfl (ySh.t hS rfl) (ySh.n hS rfl) rfl rfl (ySh.r hS rfl) ?_
      refine y_aload_n rfl rfl ?_
      refine y_iload_n rfl rfl ?_
      refine y_iload_n rfl rfl ?_
      refine y_virt rfl rfl rfl rfl rfl (ySh.t hS rfl) (ySh.n hS rfl) ?_
      refine sp_at (by omega) (by omega) (by omega) (by omega) (fun z_ hz4 => ?_)
      refine y_ret1 ?_
      refine y_iaload rfl (ySh.t hS rfl) (ySh.n hS rfl) (by omega) (by omega) ?_
      refine y_ireturn rfl rfl rfl ?_
      refine y_ret1 ?_
      refine y_i2l rfl ?_
      refine y_ldc2 rfl ?_
      refine y_static rfl rfl rfl rfl rfl ?_
      refine sp_portion ?_
      refine y_ret1 ?_
      refine y_istore (ls' := [some _, some _, some _, some _, some _, some _]) rfl rfl rfl ?_
      refine y_aload_n rfl rfl ?_
      refine y_iload_n rfl rfl ?_
      refine y_iload rfl rfl ?_
      refine y_iload rfl rfl ?_
      refine y_virt rfl rfl rfl rfl rfl (ySh.t hS rfl) (ySh.n hS rfl) ?_
      refine y_in (M := xm_X8_creditProfit) (ls := [some _, some _, some _, some _]) rfl rfl rfl ?_
      refine y_aload_n rfl rfl ?_
      refine y_getR rfl (ySh.t hS rfl) (ySh.n hS rfl) rfl rfl (ySh.r hS rfl) ?_
      refine y_iload_n rfl rfl ?_
      refine y_iload_n rfl rfl ?_
      refine y_iload_n rfl rfl ?_
      refine y_virt rfl rfl rfl rfl rfl (ySh.t hS rfl) (ySh.n hS rfl) ?_
      refine y_in (M := xm_X7_addGain) (ls := [some _, some _, some _, some _]) rfl rfl rfl ?_
      refine y_aload_n rfl rfl ?_
      refine y_getR rfl (ySh.t hS rfl) (ySh.n hS rfl) rfl rfl (ySh.r hS rfl) ?_
      refine y_aload_n rfl rfl ?_
      refine y_iload_n rfl rfl ?_
      refine y_iload_n rfl rfl ?_
      refine y_virt rfl rfl rfl rfl rfl (ySh.t hS rfl) (ySh.n hS rfl) ?_
      refine sp_at (by omega) (by omega) (by omega) (by omega) (fun z_ hz5 => ?_)
      refine y_ret1 ?_
      refine y_dup2 rfl rfl rfl ?_
      refine y_iaload rfl (ySh.t hS rfl) (ySh.n hS rfl) (by omega) (by omega) ?_
      refine y_iload_n rfl rfl ?_
      refine y_iadd rfl ?_
      refine y_iastore rfl (ySh.t hS rfl) (ySh.n hS rfl) (Nat.le_of_ble_eq_true rfl) (by omega) (by omega) ?_
      refine y_return rfl ?_
      refine y_ret0 ?_
      refine y_aload_n rfl rfl ?_
      refine y_getR rfl (ySh.t hS rfl) (ySh.n hS rfl) rfl rfl (ySh.r hS rfl) ?_
      refine y_iload_n rfl rfl ?_
      refine y_iload_n rfl rfl ?_
      refine y_virt rfl rfl rfl rfl rfl (ySh.t hS rfl) (ySh.n hS rfl) ?_
      refine y_in (M := xm_X4_add) (ls := [some _, some _, some _]) rfl rfl rfl ?_
      refine y_iload_n rfl rfl ?_
      refine y_iconst rfl ?_
      refine y_bip rfl (by decide) ?_
      refine y_static rfl rfl rfl rfl rfl ?_
      refine y_in (M := xm_X8_isIn) (ls := [some _, some _, some _]) rfl rfl rfl ?_
      refine y_iload_n rfl rfl ?_
      refine y_iload_n rfl rfl ?_
      refine y_icmp_lt rfl j_X8_isIn_14 (fun h_6 => ?_) (fun h_7 => ?_)
      · rw [yz_0] at h_6
        refine y_iconst rfl ?_
        refine y_ireturn rfl rfl rfl ?_
        refine y_ret1 ?_
        refine y_if_eqT rfl j_X4_add_20 (by decide) ?_
        refine y_return rfl ?_
        refine y_ret0 ?_
        refine y_return rfl ?_
        refine y_ret0 ?_
        refine y_iload_n rfl rfl ?_
        refine y_iload rfl rfl ?_
        refine y_isub rfl ?_
        refine y_istore_n (ls' := [some _, some _, some _, some _, some _, some _]) rfl rfl rfl ?_
        refine y_iinc (ls' := [some _, some _, some _, some _, some _, some _]) rfl rfl rfl rfl ?_
        refine y_goto rfl j_X8_shareProfit_5 ?_
        refine y_fgt (ls := [some _, some _, some _, some _, some _, none]) ⟨rfl, rfl, rfl, rfl, rfl, trivial⟩ ?_
        exact ih _ _ _ hC (by repeat (first | exact hF | refine yFq.upd ?_ (by decide))) (by first | omega | (rw [yinc (by omega)]; omega)) (by first | omega | (rw [yinc (by omega)]; omega)) (by first | omega | (rw [yinc (by omega)]; omega))
      · rw [yz_0] at h_7
        refine y_iload_n rfl rfl ?_
        refine y_iload_n rfl rfl ?_
        refine y_icmp_gt rfl j_X8_isIn_14 (fun h_8 => ?_) (fun h_9 => ?_)
        · rw [yz_8] at h_8
          refine y_iconst rfl ?_
          refine y_ireturn rfl rfl rfl ?_
          refine y_ret1 ?_
          refine y_if_eqT rfl j_X4_add_20 (by decide) ?_
          refine y_return rfl ?_
          refine y_ret0 ?_
          refine y_return rfl ?_
          refine y_ret0 ?_
          refine y_iload_n rfl rfl ?_
          refine y_iload rfl rfl ?_
          refine y_isub rfl ?_
          refine y_istore_n (ls' := [some _, some _, some _, some _, some _, some _]) rfl rfl rfl ?_
          refine y_iinc (ls' := [some _, some _, some _, some _, some _, some _]) rfl rfl rfl rfl ?_
          refine y_goto rfl j_X8_shareProfit_5 ?_
          refine y_fgt (ls := [some _, some _, some _, some _, some _, none]) ⟨rfl, rfl, rfl, rfl, rfl, trivial⟩ ?_
          exact ih _ _ _ hC (by repeat (first | exact hF | refine yFq.upd ?_ (by decide))) (by first | omega | (rw [yinc (by omega)]; omega)) (by first | omega | (rw [yinc (by omega)]; omega)) (by first | omega | (rw [yinc (by omega)]; omega))
        · rw [yz_8] at h_9
          refine y_iconst rfl ?_
          refine y_goto rfl j_X8_isIn_15 ?_
          refine y_ireturn rfl rfl rfl ?_
          refine y_ret1 ?_
          refine y_if_eqF rfl (by decide) ?_
          refine y_aload_n rfl rfl ?_
          refine y_getR rfl (ySh.t hS rfl) (ySh.n hS rfl) rfl rfl (ySh.r hS rfl) ?_
          refine y_iload_n rfl rfl ?_
          refine y_dup2 rfl rfl rfl ?_
          refine y_iaload rfl (ySh.t hS rfl) (ySh.n hS rfl) (by omega) (by omega) ?_
          refine y_iload_n rfl rfl ?_
          refine y_iadd rfl ?_
          refine y_iastore rfl (ySh.t hS rfl) (ySh.n hS rfl) (Nat.le_of_ble_eq_true rfl) (by omega) (by omega) ?_
          refine y_return rfl ?_
          refine y_ret0 ?_
          refine y_return rfl ?_
          refine y_ret0 ?_
          refine y_iload_n rfl rfl ?_
          refine y_iload rfl rfl ?_
          refine y_isub rfl ?_
          refine y_istore_n (ls' := [some _, some _, some _, some _, some _, some _]) rfl rfl rfl ?_
          refine y_iinc (ls' := [some _, some _, some _, some _, some _, some _]) rfl rfl rfl rfl ?_
          refine y_goto rfl j_X8_shareProfit_5 ?_
          refine y_fgt (ls := [some _, some _, some _, some _, some _, none]) ⟨rfl, rfl, rfl, rfl, rfl, trivial⟩ ?_
          exact ih _ _ _ hC (by repeat (first | exact hF | refine yFq.upd ?_ (by decide))) (by first | omega | (rw [yinc (by omega)]; omega)) (by first | omega | (rw [yinc (by omega)]; omega)) (by first | omega | (rw [yinc (by omega)]; omega))
theorem spu_shareProfit_X8 (hS : ySh n tg R) (hC : yCI I) {x1 : Int32} {x2 : Int32} (hv0 : 0 ≤ x1.toInt) (hv1 : x1.toInt < 6) (hQ : ∀ I1, yCI I1 → yFq I I1 → Q (.inl none) (n, tg, I1, R) c s) : yC 169 [.ref 34, .int x1, .int x2] (n, tg, I, R) c s Q := by
  have hF : yFq I I := yFq.rf
  refine y_in (M := xm_X8_shareProfit) (ls := [some _, some _, some _, _, _, _]) rfl rfl rfl ?_
  refine y_iload_n rfl rfl ?_
  refine y_istore_n (ls' := [some _, some _, some _, some _, _, _]) rfl rfl rfl ?_
  refine y_iconst rfl ?_
  refine y_istore (ls' := [some _, some _, some _, some _, some _, _]) rfl rfl rfl ?_
  exact lpu_shareProfit_X8 hS hv0 hv1 hQ 100000 _ _ _ hC (by repeat (first | exact hF | refine yFq.upd ?_ (by decide))) (by decide) (by rw [yz_0]; omega) (by rw [yz_0]; omega)
theorem lpu_collectRents_X8 {I0 : Nat → Nat → Int32} (hS : ySh n tg R) (hQ : ∀ I1, yCI I1 → yFq I0 I1 → Q (.inl none) (n, tg, I1, R) c s) : ∀ (m : Nat) (x1 : Int32) (I : Nat → Nat → Int32), yCI I → yFq I0 I → (I 59 0).toInt = (I0 59 0).toInt → 0 ≤ x1.toInt → x1.toInt ≤ (I0 59 0).toInt → (I0 59 0).toInt - x1.toInt < m → yW xm_X8_collectRents xc_X8_collectRents_2 [some (.ref 34), some (.int x1), none] [] (n, tg, I, R) c s Q := by
  intro m
  induction m with
  | zero => intro x1 I hC hF hb h0 h1 h2; exfalso; omega
  | succ m ih =>
    intro x1 I hC hF hb h0 h1 h2
    refine y_iload_n rfl rfl ?_
    refine y_aload_n rfl rfl ?_
    refine y_getR rfl (ySh.t hS rfl) (ySh.n hS rfl) rfl rfl (ySh.r hS rfl) ?_
    refine y_getI rfl (ySh.t hS rfl) (ySh.n hS rfl) rfl rfl ?_
    refine y_icmp_ge rfl j_X8_collectRents_66 (fun h_1 => ?_) (fun h_2 => ?_)
    · refine y_return rfl ?_
      exact hQ _ hC (by repeat (first | exact hF | refine yFq.upd ?_ (by decide)))
    · refine y_aload_n rfl rfl ?_
      refine y_getR rfl (ySh.t hS rfl) (ySh.n hS rfl) rfl rfl (ySh.r hS rfl) ?_
      refine y_iload_n rfl rfl ?_
      refine y_aload_n rfl rfl ?_
      refine y_getI rfl (ySh.t hS rfl) (ySh.n hS rfl) rfl rfl ?_
      refine y_virt rfl rfl rfl rfl rfl (ySh.t hS rfl) (ySh.n hS rfl) ?_
      refine y_in (M := xm_X2_isDue) (ls := [some _, some _, some _]) rfl rfl rfl ?_
      refine y_aload_n rfl rfl ?_
      refine y_getR rfl (ySh.t hS rfl) (ySh.n hS rfl) rfl rfl (ySh.r hS rfl) ?_
      refine y_iload_n rfl rfl ?_
      refine y_baload rfl (ySh.t hS rfl) rfl (ySh.n hS rfl) (by omega) (by omega) ?_
      refine y_if_ne rfl j_X2_isDue_23 (fun h_3 => ?_) (fun h_4 => ?_)
      · refine y_iconst rfl ?_
        refine y_ireturn rfl rfl rfl ?_
        refine y_ret1 ?_
        refine y_if_eqT rfl j_X8_collectRents_60 (by decide) ?_
        refine y_iinc (ls' := [some _, some _, _]) rfl rfl rfl rfl ?_
        refine y_goto rfl j_X8_collectRents_2 ?_
        exact ih _ _ hC (by repeat (first | exact hF | refine yFq.upd ?_ (by decide))) hb (by first | omega | (rw [yinc (by omega)]; omega)) (by first | omega | (rw [yinc (by omega)]; omega)) (by first | omega | (rw [yinc (by omega)]; omega))
      · refine y_aload_n rfl rfl ?_
        refine y_getR rfl (ySh.t hS rfl) (ySh.n hS rfl) rfl rfl (ySh.r hS rfl) ?_
        refine y_iload_n rfl rfl ?_
        refine y_iaload rfl (ySh.t hS rfl) (ySh.n hS rfl) (by omega) (by omega) ?_
        refine y_iload_n rfl rfl ?_
        refine y_icmp_ne rfl j_X2_isDue_23 (fun h_5 => ?_) (fun h_6 => ?_)
        · refine y_iconst rfl ?_
          refine y_ireturn rfl rfl rfl ?_
          refine y_ret1 ?_
          refine y_if_eqT rfl j_X8_collectRents_60 (by decide) ?_
          refine y_iinc (ls' := [some _, some _, _]) rfl rfl rfl rfl ?_
          refine y_goto rfl j_X8_collectRents_2 ?_
          exact ih _ _ hC (by repeat (first | exact hF | refine yFq.upd ?_ (by decide))) hb (by first | omega | (rw [yinc (by omega)]; omega)) (by first | omega | (rw [yinc (by omega)]; omega)) (by first | omega | (rw [yinc (by omega)]; omega))
        · refine y_iconst rfl ?_
          refine y_goto rfl j_X2_isDue_24 ?_
          refine y_ireturn rfl rfl rfl ?_
          refine y_ret1 ?_
          refine y_if_eqF rfl (by decide) ?_
          refine y_aload_n rfl rfl ?_
          refine y_getR rfl (ySh.t hS rfl) (ySh.n hS rfl) rfl rfl (ySh.r hS rfl) ?_
          refine y_iload_n rfl rfl ?_
          refine y_aload_n rfl rfl ?_
          refine y_getI rfl (ySh.t hS rfl) (ySh.n hS rfl) rfl rfl ?_
          refine y_virt rfl rfl rfl rfl rfl (ySh.t hS rfl) (ySh.n hS rfl) ?_
          refine y_in (M := xm_X2_collect) (ls := [some _, some _, some _, _, _]) rfl rfl rfl ?_
          refine y_iload_n rfl rfl ?_
          refine y_aload_n rfl rfl ?_
          refine y_getR rfl (ySh.t hS rfl) (ySh.n hS rfl) rfl rfl (ySh.r hS rfl) ?_
          refine y_iload_n rfl rfl ?_
          refine y_iaload rfl (ySh.t hS rfl) (ySh.n hS rfl) (by omega) (by omega) ?_
          refine y_max rfl rfl ?_
          refine y_aload_n rfl rfl ?_
          refine y_getR rfl (ySh.t hS rfl) (ySh.n hS rfl) rfl rfl (ySh.r hS rfl) ?_
          refine y_iload_n rfl rfl ?_
          refine y_iaload rfl (ySh.t hS rfl) (ySh.n hS rfl) (by omega) (by omega) ?_
          refine y_min rfl rfl ?_
          refine y_istore_n (ls' := [some _, some _, some _, some _, _]) rfl rfl rfl ?_
          refine y_aload_n rfl rfl ?_
          refine y_getR rfl (ySh.t hS rfl) (ySh.n hS rfl) rfl rfl (ySh.r hS rfl) ?_
          refine y_iload_n rfl rfl ?_
          refine y_iaload rfl (ySh.t hS rfl) (ySh.n hS rfl) (by omega) (by omega) ?_
          refine y_iload_n rfl rfl ?_
          refine y_imul rfl ?_
          refine y_sip rfl (by decide) ?_
          refine y_idiv rfl (by decide) ?_
          refine y_istore (ls' := [some _, some _, some _, some _, some _]) rfl rfl rfl ?_
          refine y_aload_n rfl rfl ?_
          refine y_getR rfl (ySh.t hS rfl) (ySh.n hS rfl) rfl rfl (ySh.r hS rfl) ?_
          refine y_iload_n rfl rfl ?_
          refine y_dup2 rfl rfl rfl ?_
          refine y_iaload rfl (ySh.t hS rfl) (ySh.n hS rfl) (by omega) (by omega) ?_
          refine y_bip rfl (by decide) ?_
          refine y_iadd rfl ?_
          refine y_iastore rfl (ySh.t hS rfl) (ySh.n hS rfl) (Nat.le_of_ble_eq_true rfl) (by omega) (by omega) ?_
          refine y_aload_n rfl rfl ?_
          refine y_getR rfl (ySh.t hS rfl) (ySh.n hS rfl) rfl rfl (ySh.r hS rfl) ?_
          refine y_iload_n rfl rfl ?_
          refine y_dup2 rfl rfl rfl ?_
          refine y_iaload rfl (ySh.t hS rfl) (ySh.n hS rfl) (by omega) (by omega) ?_
          refine y_iconst rfl ?_
          refine y_iadd rfl ?_
          refine y_iastore rfl (ySh.t hS rfl) (ySh.n hS rfl) (Nat.le_of_ble_eq_true rfl) (by omega) (by omega) ?_
          refine y_aload_n rfl rfl ?_
          refine y_getR rfl (ySh.t hS rfl) (ySh.n hS rfl) rfl rfl (ySh.r hS rfl) ?_
          refine y_iload_n rfl rfl ?_
          refine y_dup2 rfl rfl rfl ?_
          refine y_iaload rfl (ySh.t hS rfl) (ySh.n hS rfl) (by omega) (by omega) ?_
          refine y_iload rfl rfl ?_
          refine y_iadd rfl ?_
          refine y_iastore rfl (ySh.t hS rfl) (ySh.n hS rfl) (Nat.le_of_ble_eq_true rfl) (by omega) (by omega) ?_
          refine y_iload rfl rfl ?_
          refine y_ireturn rfl rfl rfl ?_
          refine y_ret1 ?_
          refine y_istore_n (ls' := [some _, some _, some _]) rfl rfl rfl ?_
          refine y_aload_n rfl rfl ?_
          refine y_getR rfl (ySh.t hS rfl) (ySh.n hS rfl) rfl rfl (ySh.r hS rfl) ?_
          refine y_aload_n rfl rfl ?_
          refine y_getR rfl (ySh.t hS rfl) (ySh.n hS rfl) rfl rfl (ySh.r hS rfl) ?_
          refine y_getR rfl (ySh.t hS rfl) (ySh.n hS rfl) rfl rfl (ySh.r hS rfl) ?_
          refine y_iload_n rfl rfl ?_
          refine y_iaload rfl (ySh.t hS rfl) (ySh.n hS rfl) (by omega) (by omega) ?_
          refine y_bip rfl (by decide) ?_
          refine y_iload_n rfl rfl ?_
          refine y_virt rfl rfl rfl rfl rfl (ySh.t hS rfl) (ySh.n hS rfl) ?_
          refine y_in (M := xm_X4_move) (ls := [some _, some _, some _, some _]) rfl rfl rfl ?_
          refine y_aload_n rfl rfl ?_
          refine y_iload_n rfl rfl ?_
          refine y_iload_n rfl rfl ?_
          refine y_ineg rfl ?_
          refine y_virt rfl rfl rfl rfl rfl (ySh.t hS rfl) (ySh.n hS rfl) ?_
          refine y_in (M := xm_X4_add) (ls := [some _, some _, some _]) rfl rfl rfl ?_
          refine y_iload_n rfl rfl ?_
          refine y_iconst rfl ?_
          refine y_bip rfl (by decide) ?_
          refine y_static rfl rfl rfl rfl rfl ?_
          refine y_in (M := xm_X8_isIn) (ls := [some _, some _, some _]) rfl rfl rfl ?_
          refine y_iload_n rfl rfl ?_
          refine y_iload_n rfl rfl ?_
          refine y_icmp_lt rfl j_X8_isIn_14 (fun h_7 => ?_) (fun h_8 => ?_)
          · rw [yz_0] at h_7
            refine y_iconst rfl ?_
            refine y_ireturn rfl rfl rfl ?_
            refine y_ret1 ?_
            refine y_if_eqT rfl j_X4_add_20 (by decide) ?_
            refine y_return rfl ?_
            refine y_ret0 ?_
            refine y_aload_n rfl rfl ?_
            refine y_iload_n rfl rfl ?_
            refine y_iload_n rfl rfl ?_
            refine y_virt rfl rfl rfl rfl rfl (ySh.t hS rfl) (ySh.n hS rfl) ?_
            refine y_in (M := xm_X4_add) (ls := [some _, some _, some _]) rfl rfl rfl ?_
            refine y_iload_n rfl rfl ?_
            refine y_iconst rfl ?_
            refine y_bip rfl (by decide) ?_
            refine y_static rfl rfl rfl rfl rfl ?_
            refine y_in (M := xm_X8_isIn) (ls := [some _, some _, some _]) rfl rfl rfl ?_
            refine y_iload_n rfl rfl ?_
            refine y_iload_n rfl rfl ?_
            refine y_icmp_ltF rfl (by decide) ?_
            refine y_iload_n rfl rfl ?_
            refine y_iload_n rfl rfl ?_
            refine y_icmp_gtF rfl (by decide) ?_
            refine y_iconst rfl ?_
            refine y_goto rfl j_X8_isIn_15 ?_
            refine y_ireturn rfl rfl rfl ?_
            refine y_ret1 ?_
            refine y_if_eqF rfl (by decide) ?_
            refine y_aload_n rfl rfl ?_
            refine y_getR rfl (ySh.t hS rfl) (ySh.n hS rfl) rfl rfl (ySh.r hS rfl) ?_
            refine y_iload_n rfl rfl ?_
            refine y_dup2 rfl rfl rfl ?_
            refine y_iaload rfl (ySh.t hS rfl) (ySh.n hS rfl) (by decide) (by decide) ?_
            refine y_iload_n rfl rfl ?_
            refine y_iadd rfl ?_
            refine y_iastore rfl (ySh.t hS rfl) (ySh.n hS rfl) (Nat.le_of_ble_eq_true rfl) (by decide) (by decide) ?_
            refine y_return rfl ?_
            refine y_ret0 ?_
            refine y_return rfl ?_
            refine y_ret0 ?_
            refine y_iinc (ls' := [some _, some _, some _]) rfl rfl rfl rfl ?_
            refine y_goto rfl j_X8_collectRents_2 ?_
            refine y_fgt (ls := [some _, some _, none]) ⟨rfl, rfl, trivial⟩ ?_
            exact ih _ _ hC (by repeat (first | exact hF | refine yFq.upd ?_ (by decide))) hb (by first | omega | (rw [yinc (by omega)]; omega)) (by first | omega | (rw [yinc (by omega)]; omega)) (by first | omega | (rw [yinc (by omega)]; omega))
          · rw [yz_0] at h_8
            refine y_iload_n rfl rfl ?_
            refine y_iload_n rfl rfl ?_
            refine y_icmp_gt rfl j_X8_isIn_14 (fun h_9 => ?_) (fun h_10 => ?_)
            · rw [yz_8] at h_9
              refine y_iconst rfl ?_
              refine y_ireturn rfl rfl rfl ?_
              refine y_ret1 ?_
              refine y_if_eqT rfl j_X4_add_20 (by decide) ?_
              refine y_return rfl ?_
              refine y_ret0 ?_
              refine y_aload_n rfl rfl ?_
              refine y_iload_n rfl rfl ?_
              refine y_iload_n rfl rfl ?_
              refine y_virt rfl rfl rfl rfl rfl (ySh.t hS rfl) (ySh.n hS rfl) ?_
              refine y_in (M := xm_X4_add) (ls := [some _, some _, some _]) rfl rfl rfl ?_
              refine y_iload_n rfl rfl ?_
              refine y_iconst rfl ?_
              refine y_bip rfl (by decide) ?_
              refine y_static rfl rfl rfl rfl rfl ?_
              refine y_in (M := xm_X8_isIn) (ls := [some _, some _, some _]) rfl rfl rfl ?_
              refine y_iload_n rfl rfl ?_
              refine y_iload_n rfl rfl ?_
              refine y_icmp_ltF rfl (by decide) ?_
              refine y_iload_n rfl rfl ?_
              refine y_iload_n rfl rfl ?_
              refine y_icmp_gtF rfl (by decide) ?_
              refine y_iconst rfl ?_
              refine y_goto rfl j_X8_isIn_15 ?_
              refine y_ireturn rfl rfl rfl ?_
              refine y_ret1 ?_
              refine y_if_eqF rfl (by decide) ?_
              refine y_aload_n rfl rfl ?_
              refine y_getR rfl (ySh.t hS rfl) (ySh.n hS rfl) rfl rfl (ySh.r hS rfl) ?_
              refine y_iload_n rfl rfl ?_
              refine y_dup2 rfl rfl rfl ?_
              refine y_iaload rfl (ySh.t hS rfl) (ySh.n hS rfl) (by decide) (by decide) ?_
              refine y_iload_n rfl rfl ?_
              refine y_iadd rfl ?_
              refine y_iastore rfl (ySh.t hS rfl) (ySh.n hS rfl) (Nat.le_of_ble_eq_true rfl) (by decide) (by decide) ?_
              refine y_return rfl ?_
              refine y_ret0 ?_
              refine y_return rfl ?_
              refine y_ret0 ?_
              refine y_iinc (ls' := [some _, some _, some _]) rfl rfl rfl rfl ?_
              refine y_goto rfl j_X8_collectRents_2 ?_
              refine y_fgt (ls := [some _, some _, none]) ⟨rfl, rfl, trivial⟩ ?_
              exact ih _ _ hC (by repeat (first | exact hF | refine yFq.upd ?_ (by decide))) hb (by first | omega | (rw [yinc (by omega)]; omega)) (by first | omega | (rw [yinc (by omega)]; omega)) (by first | omega | (rw [yinc (by omega)]; omega))
            · rw [yz_8] at h_10
              refine y_iconst rfl ?_
              refine y_goto rfl j_X8_isIn_15 ?_
              refine y_ireturn rfl rfl rfl ?_
              refine y_ret1 ?_
              refine y_if_eqF rfl (by decide) ?_
              refine y_aload_n rfl rfl ?_
              refine y_getR rfl (ySh.t hS rfl) (ySh.n hS rfl) rfl rfl (ySh.r hS rfl) ?_
              refine y_iload_n rfl rfl ?_
              refine y_dup2 rfl rfl rfl ?_
              refine y_iaload rfl (ySh.t hS rfl) (ySh.n hS rfl) (by omega) (by omega) ?_
              refine y_iload_n rfl rfl ?_
              refine y_iadd rfl ?_
              refine y_iastore rfl (ySh.t hS rfl) (ySh.n hS rfl) (Nat.le_of_ble_eq_true rfl) (by omega) (by omega) ?_
              refine y_return rfl ?_
              refine y_ret0 ?_
              refine y_aload_n rfl rfl ?_
              refine y_iload_n rfl rfl ?_
              refine y_iload_n rfl rfl ?_
              refine y_virt rfl rfl rfl rfl rfl (ySh.t hS rfl) (ySh.n hS rfl) ?_
              refine y_in (M := xm_X4_add) (ls := [some _, some _, some _]) rfl rfl rfl ?_
              refine y_iload_n rfl rfl ?_
              refine y_iconst rfl ?_
              refine y_bip rfl (by decide) ?_
              refine y_static rfl rfl rfl rfl rfl ?_
              refine y_in (M := xm_X8_isIn) (ls := [some _, some _, some _]) rfl rfl rfl ?_
              refine y_iload_n rfl rfl ?_
              refine y_iload_n rfl rfl ?_
              refine y_icmp_ltF rfl (by decide) ?_
              refine y_iload_n rfl rfl ?_
              refine y_iload_n rfl rfl ?_
              refine y_icmp_gtF rfl (by decide) ?_
              refine y_iconst rfl ?_
              refine y_goto rfl j_X8_isIn_15 ?_
              refine y_ireturn rfl rfl rfl ?_
              refine y_ret1 ?_
              refine y_if_eqF rfl (by decide) ?_
              refine y_aload_n rfl rfl ?_
              refine y_getR rfl (ySh.t hS rfl) (ySh.n hS rfl) rfl rfl (ySh.r hS rfl) ?_
              refine y_iload_n rfl rfl ?_
              refine y_dup2 rfl rfl rfl ?_
              refine y_iaload rfl (ySh.t hS rfl) (ySh.n hS rfl) (by decide) (by decide) ?_
              refine y_iload_n rfl rfl ?_
              refine y_iadd rfl ?_
              refine y_iastore rfl (ySh.t hS rfl) (ySh.n hS rfl) (Nat.le_of_ble_eq_true rfl) (by decide) (by decide) ?_
              refine y_return rfl ?_
              refine y_ret0 ?_
              refine y_return rfl ?_
              refine y_ret0 ?_
              refine y_iinc (ls' := [some _, some _, some _]) rfl rfl rfl rfl ?_
              refine y_goto rfl j_X8_collectRents_2 ?_
              refine y_fgt (ls := [some _, some _, none]) ⟨rfl, rfl, trivial⟩ ?_
              exact ih _ _ hC (by repeat (first | exact hF | refine yFq.upd ?_ (by decide))) hb (by first | omega | (rw [yinc (by omega)]; omega)) (by first | omega | (rw [yinc (by omega)]; omega)) (by first | omega | (rw [yinc (by omega)]; omega))
theorem spu_collectRents_X8 (hS : ySh n tg R) (hC : yCI I) (hQ : ∀ I1, yCI I1 → yFq I I1 → Q (.inl none) (n, tg, I1, R) c s) : yC 171 [.ref 34] (n, tg, I, R) c s Q := by
  have hF : yFq I I := yFq.rf
  refine y_in (M := xm_X8_collectRents) (ls := [some _, _, _]) rfl rfl rfl ?_
  refine y_iconst rfl ?_
  refine y_istore_n (ls' := [some _, some _, _]) rfl rfl rfl ?_
  exact lpu_collectRents_X8 hS hQ 100000 _ _ hC (by repeat (first | exact hF | refine yFq.upd ?_ (by decide))) rfl (by decide) (by rw [yz_0]; omega) (by rw [yz_0]; omega)
theorem spu_add_X4 (hS : ySh n tg R) (hC : yCI I) {x1 x2 : Int32} (hQ : ∀ I1, yCI I1 → yFq I I1 → Q (.inl none) (n, tg, I1, R) c s) : yC 71 [.ref 38, .int x1, .int x2] (n, tg, I, R) c s Q := by
  have hF : yFq I I := yFq.rf
  refine y_in (M := xm_X4_add) (ls := [some _, some _, some _]) rfl rfl rfl ?_
  refine y_iload_n rfl rfl ?_
  refine y_iconst rfl ?_
  refine y_bip rfl (by decide) ?_
  refine y_static rfl rfl rfl rfl rfl ?_
  refine y_in (M := xm_X8_isIn) (ls := [some _, some _, some _]) rfl rfl rfl ?_
  refine y_iload_n rfl rfl ?_
  refine y_iload_n rfl rfl ?_
  refine y_icmp_lt rfl j_X8_isIn_14 (fun h_1 => ?_) (fun h_2 => ?_)
  · rw [yz_0] at h_1
    refine y_iconst rfl ?_
    refine y_ireturn rfl rfl rfl ?_
    refine y_ret1 ?_
    refine y_if_eqT rfl j_X4_add_20 (by decide) ?_
    refine y_return rfl ?_
    exact hQ _ hC (by repeat (first | exact hF | refine yFq.upd ?_ (by decide)))
  · rw [yz_0] at h_2
    refine y_iload_n rfl rfl ?_
    refine y_iload_n rfl rfl ?_
    refine y_icmp_gt rfl j_X8_isIn_14 (fun h_3 => ?_) (fun h_4 => ?_)
    · rw [yz_8] at h_3
      refine y_iconst rfl ?_
      refine y_ireturn rfl rfl rfl ?_
      refine y_ret1 ?_
      refine y_if_eqT rfl j_X4_add_20 (by decide) ?_
      refine y_return rfl ?_
      exact hQ _ hC (by repeat (first | exact hF | refine yFq.upd ?_ (by decide)))
    · rw [yz_8] at h_4
      refine y_iconst rfl ?_
      refine y_goto rfl j_X8_isIn_15 ?_
      refine y_ireturn rfl rfl rfl ?_
      refine y_ret1 ?_
      refine y_if_eqF rfl (by decide) ?_
      refine y_aload_n rfl rfl ?_
      refine y_getR rfl (ySh.t hS rfl) (ySh.n hS rfl) rfl rfl (ySh.r hS rfl) ?_
      refine y_iload_n rfl rfl ?_
      refine y_dup2 rfl rfl rfl ?_
      refine y_iaload rfl (ySh.t hS rfl) (ySh.n hS rfl) (by omega) (by omega) ?_
      refine y_iload_n rfl rfl ?_
      refine y_iadd rfl ?_
      refine y_iastore rfl (ySh.t hS rfl) (ySh.n hS rfl) (Nat.le_of_ble_eq_true rfl) (by omega) (by omega) ?_
      refine y_return rfl ?_
      exact hQ _ hC (by repeat (first | exact hF | refine yFq.upd ?_ (by decide)))
theorem mu_join (hS : ySh n tg R) (hC : yCI I) {x1 x2 x3 x4 : Int32} (hE0 : Q (.inr "java/lang/IndexOutOfBoundsException") (n, tg, I, R) (c + 1) (s + 6)) (hE1 : Q (.inr "java/lang/IllegalArgumentException") (n, tg, I, R) (c + 1) (s + 6)) (hE2 : Q (.inr "java/lang/IllegalStateException") (n, tg, I, R) (c + 1) (s + 6)) (hQ : ∀ v I1, yCI I1 → yFu I I1 → Q (.inl (some (.int v))) (n, tg, I1, R) c s) : yC 133 [.ref 34, .int x1, .int x2, .int x3, .int x4] (n, tg, I, R) c s Q := by
  have hF : yFu I I := yFu.rf
  refine y_in (M := xm_X8_join) (ls := [some _, some _, some _, some _, some _, _]) rfl rfl rfl ?_
  refine y_aload_n rfl rfl ?_
  refine y_getR rfl (ySh.t hS rfl) (ySh.n hS rfl) rfl rfl (ySh.r hS rfl) ?_
  refine y_iload_n rfl rfl ?_
  refine y_virt rfl rfl rfl rfl rfl (ySh.t hS rfl) (ySh.n hS rfl) ?_
  refine y_in (M := xm_X7_has) (ls := [some _, some _]) rfl rfl rfl ?_
  refine y_iload_n rfl rfl ?_
  refine y_if_lt rfl j_X7_has_16 (fun h_1 => ?_) (fun h_2 => ?_)
  · refine y_iconst rfl ?_
    refine y_ireturn rfl rfl rfl ?_
    refine y_ret1 ?_
    refine y_if_eqT rfl j_X8_join_19 (by decide) ?_
    refine y_throw rfl rfl rfl ?_
    exact hE0
  · refine y_iload_n rfl rfl ?_
    refine y_aload_n rfl rfl ?_
    refine y_getI rfl (ySh.t hS rfl) (ySh.n hS rfl) rfl rfl ?_
    refine y_icmp_ge rfl j_X7_has_16 (fun h_3 => ?_) (fun h_4 => ?_)
    · refine y_iconst rfl ?_
      refine y_ireturn rfl rfl rfl ?_
      refine y_ret1 ?_
      refine y_if_eqT rfl j_X8_join_19 (by decide) ?_
      refine y_throw rfl rfl rfl ?_
      exact hE0
    · refine y_iconst rfl ?_
      refine y_goto rfl j_X7_has_17 ?_
      refine y_ireturn rfl rfl rfl ?_
      refine y_ret1 ?_
      refine y_if_eqF rfl (by decide) ?_
      refine y_aload_n rfl rfl ?_
      refine y_iload_n rfl rfl ?_
      refine y_virt rfl rfl rfl rfl rfl (ySh.t hS rfl) (ySh.n hS rfl) ?_
      refine y_in (M := xm_X8_isParty) (ls := [some _, some _]) rfl rfl rfl ?_
      refine y_iload_n rfl rfl ?_
      refine y_iconst rfl ?_
      refine y_icmp_eq rfl j_X8_isParty_16 (fun h_5 => ?_) (fun h_6 => ?_)
      · rw [yz_m1] at h_5
        refine y_iconst rfl ?_
        refine y_goto rfl j_X8_isParty_21 ?_
        refine y_ireturn rfl rfl rfl ?_
        refine y_ret1 ?_
        refine y_if_neT rfl j_X8_join_30 (by decide) ?_
        refine y_iload_n rfl rfl ?_
        refine y_iconst rfl ?_
        refine y_sip rfl (by decide) ?_
        refine y_static rfl rfl rfl rfl rfl ?_
        refine y_in (M := xm_X8_isIn) (ls := [some _, some _, some _]) rfl rfl rfl ?_
        refine y_iload_n rfl rfl ?_
        refine y_iload_n rfl rfl ?_
        refine y_icmp_lt rfl j_X8_isIn_14 (fun h_7 => ?_) (fun h_8 => ?_)
        · rw [yz_1] at h_7
          refine y_iconst rfl ?_
          refine y_ireturn rfl rfl rfl ?_
          refine y_ret1 ?_
          refine y_if_eqT rfl j_X8_join_52 (by decide) ?_
          refine y_throw rfl rfl rfl ?_
          exact hE1
        · rw [yz_1] at h_8
          refine y_iload_n rfl rfl ?_
          refine y_iload_n rfl rfl ?_
          refine y_icmp_gt rfl j_X8_isIn_14 (fun h_9 => ?_) (fun h_10 => ?_)
          · rw [yz_999] at h_9
            refine y_iconst rfl ?_
            refine y_ireturn rfl rfl rfl ?_
            refine y_ret1 ?_
            refine y_if_eqT rfl j_X8_join_52 (by decide) ?_
            refine y_throw rfl rfl rfl ?_
            exact hE1
          · rw [yz_999] at h_10
            refine y_iconst rfl ?_
            refine y_goto rfl j_X8_isIn_15 ?_
            refine y_ireturn rfl rfl rfl ?_
            refine y_ret1 ?_
            refine y_if_eqF rfl (by decide) ?_
            refine y_iload rfl rfl ?_
            refine y_iconst rfl ?_
            refine y_bip rfl (by decide) ?_
            refine y_static rfl rfl rfl rfl rfl ?_
            refine y_in (M := xm_X8_isIn) (ls := [some _, some _, some _]) rfl rfl rfl ?_
            refine y_iload_n rfl rfl ?_
            refine y_iload_n rfl rfl ?_
            refine y_icmp_lt rfl j_X8_isIn_14 (fun h_11 => ?_) (fun h_12 => ?_)
            · rw [yz_0] at h_11
              refine y_iconst rfl ?_
              refine y_ireturn rfl rfl rfl ?_
              refine y_ret1 ?_
              refine y_if_neF rfl (by decide) ?_
              refine y_throw rfl rfl rfl ?_
              exact hE1
            · rw [yz_0] at h_12
              refine y_iload_n rfl rfl ?_
              refine y_iload_n rfl rfl ?_
              refine y_icmp_gt rfl j_X8_isIn_14 (fun h_13 => ?_) (fun h_14 => ?_)
              · rw [yz_100] at h_13
                refine y_iconst rfl ?_
                refine y_ireturn rfl rfl rfl ?_
                refine y_ret1 ?_
                refine y_if_neF rfl (by decide) ?_
                refine y_throw rfl rfl rfl ?_
                exact hE1
              · rw [yz_100] at h_14
                refine y_iconst rfl ?_
                refine y_goto rfl j_X8_isIn_15 ?_
                refine y_ireturn rfl rfl rfl ?_
                refine y_ret1 ?_
                refine y_if_neT rfl j_X8_join_63 (by decide) ?_
                refine y_iload_n rfl rfl ?_
                refine y_static rfl rfl rfl rfl rfl ?_
                refine y_in (M := xm_X8_placeOf) (ls := [some _]) rfl rfl rfl ?_
                refine y_iload_n rfl rfl ?_
                refine y_iconst rfl ?_
                refine y_icmp_ne rfl j_X8_placeOf_10 (fun h_15 => ?_) (fun h_16 => ?_)
                · rw [yz_m1] at h_15
                  refine y_iload_n rfl rfl ?_
                  refine y_ireturn rfl rfl rfl ?_
                  refine y_ret1 ?_
                  refine y_istore (ls' := [some _, some _, some _, some _, some _, some _]) rfl rfl rfl ?_
                  refine y_aload_n rfl rfl ?_
                  refine y_getR rfl (ySh.t hS rfl) (ySh.n hS rfl) rfl rfl (ySh.r hS rfl) ?_
                  refine y_iload_n rfl rfl ?_
                  refine y_iload rfl rfl ?_
                  refine y_virt rfl rfl rfl rfl rfl (ySh.t hS rfl) (ySh.n hS rfl) ?_
                  refine y_in (M := xm_X7_isPartner) (ls := [some _, some _, some _]) rfl rfl rfl ?_
                  refine y_aload_n rfl rfl ?_
                  refine y_getR rfl (ySh.t hS rfl) (ySh.n hS rfl) rfl rfl (ySh.r hS rfl) ?_
                  refine y_aload_n rfl rfl ?_
                  refine y_iload_n rfl rfl ?_
                  refine y_iload_n rfl rfl ?_
                  refine y_virt rfl rfl rfl rfl rfl (ySh.t hS rfl) (ySh.n hS rfl) ?_
                  refine sp_at (by omega) (by omega) (by omega) (by omega) (fun z_ hz17 => ?_)
                  refine y_ret1 ?_
                  refine y_baload rfl (ySh.t hS rfl) rfl (ySh.n hS rfl) (by omega) (by omega) ?_
                  refine y_ireturn rfl rfl (xfit_z (hC.p _)) ?_
                  refine y_ret1 ?_
                  refine y_if_ne rfl j_X8_join_112 (fun h_18 => ?_) (fun h_19 => ?_)
                  · refine y_throw rfl rfl rfl ?_
                    exact hE2
                  · refine y_aload_n rfl rfl ?_
                    refine y_getR rfl (ySh.t hS rfl) (ySh.n hS rfl) rfl rfl (ySh.r hS rfl) ?_
                    refine y_getR rfl (ySh.t hS rfl) (ySh.n hS rfl) rfl rfl (ySh.r hS rfl) ?_
                    refine y_iload rfl rfl ?_
                    refine y_iaload rfl (ySh.t hS rfl) (ySh.n hS rfl) (by omega) (by omega) ?_
                    refine y_iload_n rfl rfl ?_
                    refine y_icmp_lt rfl j_X8_join_112 (fun h_20 => ?_) (fun h_21 => ?_)
                    · refine y_throw rfl rfl rfl ?_
                      exact hE2
                    · refine y_aload_n rfl rfl ?_
                      refine y_getR rfl (ySh.t hS rfl) (ySh.n hS rfl) rfl rfl (ySh.r hS rfl) ?_
                      refine y_iload_n rfl rfl ?_
                      refine y_virt rfl rfl rfl rfl rfl (ySh.t hS rfl) (ySh.n hS rfl) ?_
                      refine sp_shares_X7 hS hC (by omega) (by omega) (fun v_ => ?_)
                      refine y_ret1 ?_
                      refine y_iload rfl rfl ?_
                      refine y_iadd rfl ?_
                      refine y_bip rfl (by decide) ?_
                      refine y_icmp_le rfl j_X8_join_123 (fun h_22 => ?_) (fun h_23 => ?_)
                      · rw [yz_100] at h_22
                        refine y_aload_n rfl rfl ?_
                        refine y_getR rfl (ySh.t hS rfl) (ySh.n hS rfl) rfl rfl (ySh.r hS rfl) ?_
                        refine y_iload rfl rfl ?_
                        refine y_iload_n rfl rfl ?_
                        refine y_ineg rfl ?_
                        refine y_virt rfl rfl rfl rfl rfl (ySh.t hS rfl) (ySh.n hS rfl) ?_
                        refine spu_add_X4 hS hC (fun I34 hC hF1 => ?_)
                        have hF : yFu I I34 := yFu.trans (by repeat (first | exact hF | refine yFu.upd ?_ (by decide))) hF1.t
                        have hd : (I34 34 8).toInt = (I 34 8).toInt := congrArg Int32.toInt (hF1 34 8 (Or.inl (by decide)))
                        refine y_ret0 ?_
                        refine y_aload_n rfl rfl ?_
                        refine y_getR rfl (ySh.t hS rfl) (ySh.n hS rfl) rfl rfl (ySh.r hS rfl) ?_
                        refine y_iload_n rfl rfl ?_
                        refine y_iload rfl rfl ?_
                        refine y_iload_n rfl rfl ?_
                        refine y_iload rfl rfl ?_
                        refine y_virt rfl rfl rfl rfl rfl (ySh.t hS rfl) (ySh.n hS rfl) ?_
                        refine y_in (M := xm_X7_admit) (ls := [some _, some _, some _, some _, some _, _]) rfl rfl rfl ?_
                        refine y_aload_n rfl rfl ?_
                        refine y_iload_n rfl rfl ?_
                        refine y_iload_n rfl rfl ?_
                        refine y_virt rfl rfl rfl rfl rfl (ySh.t hS rfl) (ySh.n hS rfl) ?_
                        refine sp_at (by omega) (by omega) (by omega) (by omega) (fun z_ hz25 => ?_)
                        refine y_ret1 ?_
                        refine y_istore (ls' := [some _, some _, some _, some _, some _, some _]) rfl rfl rfl ?_
                        refine y_aload_n rfl rfl ?_
                        refine y_getR rfl (ySh.t hS rfl) (ySh.n hS rfl) rfl rfl (ySh.r hS rfl) ?_
                        refine y_iload rfl rfl ?_
                        refine y_iconst rfl ?_
                        refine y_zastore rfl (ySh.t hS rfl) (ySh.n hS rfl) (Nat.le_of_ble_eq_true rfl) (by omega) (by omega) rfl ?_
                        refine y_setC (yCI.par hC (.inr (by decide))) (fun hC => ?_)
                        refine y_aload_n rfl rfl ?_
                        refine y_getR rfl (ySh.t hS rfl) (ySh.n hS rfl) rfl rfl (ySh.r hS rfl) ?_
                        refine y_iload rfl rfl ?_
                        refine y_iload_n rfl rfl ?_
                        refine y_iastore rfl (ySh.t hS rfl) (ySh.n hS rfl) (Nat.le_of_ble_eq_true rfl) (by omega) (by omega) ?_
                        refine y_aload_n rfl rfl ?_
                        refine y_getR rfl (ySh.t hS rfl) (ySh.n hS rfl) rfl rfl (ySh.r hS rfl) ?_
                        refine y_iload rfl rfl ?_
                        refine y_iload rfl rfl ?_
                        refine y_iastore rfl (ySh.t hS rfl) (ySh.n hS rfl) (Nat.le_of_ble_eq_true rfl) (by omega) (by omega) ?_
                        refine y_return rfl ?_
                        refine y_ret0 ?_
                        refine y_aload_n rfl rfl ?_
                        refine y_getR rfl (ySh.t hS rfl) (ySh.n hS rfl) rfl rfl (ySh.r hS rfl) ?_
                        refine y_iload_n rfl rfl ?_
                        refine y_virt rfl rfl rfl rfl rfl (ySh.t hS rfl) (ySh.n hS rfl) ?_
                        refine y_setCC (by exact hC) (fun hC => ?_)
                        refine sp_shares_X7 hS hC (by omega) (by omega) (fun v_ => ?_)
                        refine y_ret1 ?_
                        refine y_ireturn rfl rfl rfl ?_
                        exact hQ _ _ hC (by repeat (first | exact hF | refine yFu.upd ?_ (by decide)))
                      · rw [yz_100] at h_23
                        refine y_throw rfl rfl rfl ?_
                        exact hE2
                · rw [yz_m1] at h_16
                  refine y_bip rfl (by decide) ?_
                  refine y_goto rfl j_X8_placeOf_11 ?_
                  refine y_ireturn rfl rfl rfl ?_
                  refine y_ret1 ?_
                  refine y_istore (ls' := [some _, some _, some _, some _, some _, some _]) rfl rfl rfl ?_
                  refine y_aload_n rfl rfl ?_
                  refine y_getR rfl (ySh.t hS rfl) (ySh.n hS rfl) rfl rfl (ySh.r hS rfl) ?_
                  refine y_iload_n rfl rfl ?_
                  refine y_iload rfl rfl ?_
                  refine y_virt rfl rfl rfl rfl rfl (ySh.t hS rfl) (ySh.n hS rfl) ?_
                  refine y_in (M := xm_X7_isPartner) (ls := [some _, some _, some _]) rfl rfl rfl ?_
                  refine y_aload_n rfl rfl ?_
                  refine y_getR rfl (ySh.t hS rfl) (ySh.n hS rfl) rfl rfl (ySh.r hS rfl) ?_
                  refine y_aload_n rfl rfl ?_
                  refine y_iload_n rfl rfl ?_
                  refine y_iload_n rfl rfl ?_
                  refine y_virt rfl rfl rfl rfl rfl (ySh.t hS rfl) (ySh.n hS rfl) ?_
                  refine sp_at (by omega) (by omega) (by decide) (by decide) (fun z_ hz26 => ?_)
                  rw [yz_8] at hz26
                  refine y_ret1 ?_
                  refine y_baload rfl (ySh.t hS rfl) rfl (ySh.n hS rfl) (by omega) (by omega) ?_
                  refine y_ireturn rfl rfl (xfit_z (hC.p _)) ?_
                  refine y_ret1 ?_
                  refine y_if_ne rfl j_X8_join_112 (fun h_27 => ?_) (fun h_28 => ?_)
                  · refine y_throw rfl rfl rfl ?_
                    exact hE2
                  · refine y_aload_n rfl rfl ?_
                    refine y_getR rfl (ySh.t hS rfl) (ySh.n hS rfl) rfl rfl (ySh.r hS rfl) ?_
                    refine y_getR rfl (ySh.t hS rfl) (ySh.n hS rfl) rfl rfl (ySh.r hS rfl) ?_
                    refine y_iload rfl rfl ?_
                    refine y_iaload rfl (ySh.t hS rfl) (ySh.n hS rfl) (by decide) (by decide) ?_
                    refine y_iload_n rfl rfl ?_
                    refine y_icmp_lt rfl j_X8_join_112 (fun h_29 => ?_) (fun h_30 => ?_)
                    · refine y_throw rfl rfl rfl ?_
                      exact hE2
                    · refine y_aload_n rfl rfl ?_
                      refine y_getR rfl (ySh.t hS rfl) (ySh.n hS rfl) rfl rfl (ySh.r hS rfl) ?_
                      refine y_iload_n rfl rfl ?_
                      refine y_virt rfl rfl rfl rfl rfl (ySh.t hS rfl) (ySh.n hS rfl) ?_
                      refine sp_shares_X7 hS hC (by omega) (by omega) (fun v_ => ?_)
                      refine y_ret1 ?_
                      refine y_iload rfl rfl ?_
                      refine y_iadd rfl ?_
                      refine y_bip rfl (by decide) ?_
                      refine y_icmp_le rfl j_X8_join_123 (fun h_31 => ?_) (fun h_32 => ?_)
                      · rw [yz_100] at h_31
                        refine y_aload_n rfl rfl ?_
                        refine y_getR rfl (ySh.t hS rfl) (ySh.n hS rfl) rfl rfl (ySh.r hS rfl) ?_
                        refine y_iload rfl rfl ?_
                        refine y_iload_n rfl rfl ?_
                        refine y_ineg rfl ?_
                        refine y_virt rfl rfl rfl rfl rfl (ySh.t hS rfl) (ySh.n hS rfl) ?_
                        refine spu_add_X4 hS hC (fun I43 hC hF1 => ?_)
                        have hF : yFu I I43 := yFu.trans (by repeat (first | exact hF | refine yFu.upd ?_ (by decide))) hF1.t
                        have hd : (I43 34 8).toInt = (I 34 8).toInt := congrArg Int32.toInt (hF1 34 8 (Or.inl (by decide)))
                        refine y_ret0 ?_
                        refine y_aload_n rfl rfl ?_
                        refine y_getR rfl (ySh.t hS rfl) (ySh.n hS rfl) rfl rfl (ySh.r hS rfl) ?_
                        refine y_iload_n rfl rfl ?_
                        refine y_iload rfl rfl ?_
                        refine y_iload_n rfl rfl ?_
                        refine y_iload rfl rfl ?_
                        refine y_virt rfl rfl rfl rfl rfl (ySh.t hS rfl) (ySh.n hS rfl) ?_
                        refine y_in (M := xm_X7_admit) (ls := [some _, some _, some _, some _, some _, _]) rfl rfl rfl ?_
                        refine y_aload_n rfl rfl ?_
                        refine y_iload_n rfl rfl ?_
                        refine y_iload_n rfl rfl ?_
                        refine y_virt rfl rfl rfl rfl rfl (ySh.t hS rfl) (ySh.n hS rfl) ?_
                        refine sp_at (by omega) (by omega) (by decide) (by decide) (fun z_ hz34 => ?_)
                        rw [yz_8] at hz34
                        refine y_ret1 ?_
                        refine y_istore (ls' := [some _, some _, some _, some _, some _, some _]) rfl rfl rfl ?_
                        refine y_aload_n rfl rfl ?_
                        refine y_getR rfl (ySh.t hS rfl) (ySh.n hS rfl) rfl rfl (ySh.r hS rfl) ?_
                        refine y_iload rfl rfl ?_
                        refine y_iconst rfl ?_
                        refine y_zastore rfl (ySh.t hS rfl) (ySh.n hS rfl) (Nat.le_of_ble_eq_true rfl) (by omega) (by omega) rfl ?_
                        refine y_setC (yCI.par hC (.inr (by decide))) (fun hC => ?_)
                        refine y_aload_n rfl rfl ?_
                        refine y_getR rfl (ySh.t hS rfl) (ySh.n hS rfl) rfl rfl (ySh.r hS rfl) ?_
                        refine y_iload rfl rfl ?_
                        refine y_iload_n rfl rfl ?_
                        refine y_iastore rfl (ySh.t hS rfl) (ySh.n hS rfl) (Nat.le_of_ble_eq_true rfl) (by omega) (by omega) ?_
                        refine y_aload_n rfl rfl ?_
                        refine y_getR rfl (ySh.t hS rfl) (ySh.n hS rfl) rfl rfl (ySh.r hS rfl) ?_
                        refine y_iload rfl rfl ?_
                        refine y_iload rfl rfl ?_
                        refine y_iastore rfl (ySh.t hS rfl) (ySh.n hS rfl) (Nat.le_of_ble_eq_true rfl) (by omega) (by omega) ?_
                        refine y_return rfl ?_
                        refine y_ret0 ?_
                        refine y_aload_n rfl rfl ?_
                        refine y_getR rfl (ySh.t hS rfl) (ySh.n hS rfl) rfl rfl (ySh.r hS rfl) ?_
                        refine y_iload_n rfl rfl ?_
                        refine y_virt rfl rfl rfl rfl rfl (ySh.t hS rfl) (ySh.n hS rfl) ?_
                        refine y_setCC (by exact hC) (fun hC => ?_)
                        refine sp_shares_X7 hS hC (by omega) (by omega) (fun v_ => ?_)
                        refine y_ret1 ?_
                        refine y_ireturn rfl rfl rfl ?_
                        exact hQ _ _ hC (by repeat (first | exact hF | refine yFu.upd ?_ (by decide)))
                      · rw [yz_100] at h_32
                        refine y_throw rfl rfl rfl ?_
                        exact hE2
      · rw [yz_m1] at h_6
        refine y_aload_n rfl rfl ?_
        refine y_getR rfl (ySh.t hS rfl) (ySh.n hS rfl) rfl rfl (ySh.r hS rfl) ?_
        refine y_iload_n rfl rfl ?_
        refine y_virt rfl rfl rfl rfl rfl (ySh.t hS rfl) (ySh.n hS rfl) ?_
        refine y_in (M := xm_X4_has) (ls := [some _, some _]) rfl rfl rfl ?_
        refine y_iload_n rfl rfl ?_
        refine y_if_lt rfl j_X4_has_16 (fun h_35 => ?_) (fun h_36 => ?_)
        · refine y_iconst rfl ?_
          refine y_ireturn rfl rfl rfl ?_
          refine y_ret1 ?_
          refine y_if_eqT rfl j_X8_isParty_20 (by decide) ?_
          refine y_iconst rfl ?_
          refine y_ireturn rfl rfl rfl ?_
          refine y_ret1 ?_
          refine y_if_neF rfl (by decide) ?_
          refine y_throw rfl rfl rfl ?_
          exact hE0
        · refine y_iload_n rfl rfl ?_
          refine y_aload_n rfl rfl ?_
          refine y_getI rfl (ySh.t hS rfl) (ySh.n hS rfl) rfl rfl ?_
          refine y_icmp_ge rfl j_X4_has_16 (fun h_37 => ?_) (fun h_38 => ?_)
          · refine y_iconst rfl ?_
            refine y_ireturn rfl rfl rfl ?_
            refine y_ret1 ?_
            refine y_if_eqT rfl j_X8_isParty_20 (by decide) ?_
            refine y_iconst rfl ?_
            refine y_ireturn rfl rfl rfl ?_
            refine y_ret1 ?_
            refine y_if_neF rfl (by decide) ?_
            refine y_throw rfl rfl rfl ?_
            exact hE0
          · refine y_iconst rfl ?_
            refine y_goto rfl j_X4_has_17 ?_
            refine y_ireturn rfl rfl rfl ?_
            refine y_ret1 ?_
            refine y_if_eqF rfl (by decide) ?_
            refine y_iconst rfl ?_
            refine y_goto rfl j_X8_isParty_21 ?_
            refine y_ireturn rfl rfl rfl ?_
            refine y_ret1 ?_
            refine y_if_neT rfl j_X8_join_30 (by decide) ?_
            refine y_iload_n rfl rfl ?_
            refine y_iconst rfl ?_
            refine y_sip rfl (by decide) ?_
            refine y_static rfl rfl rfl rfl rfl ?_
            refine y_in (M := xm_X8_isIn) (ls := [some _, some _, some _]) rfl rfl rfl ?_
            refine y_iload_n rfl rfl ?_
            refine y_iload_n rfl rfl ?_
            refine y_icmp_lt rfl j_X8_isIn_14 (fun h_39 => ?_) (fun h_40 => ?_)
            · rw [yz_1] at h_39
              refine y_iconst rfl ?_
              refine y_ireturn rfl rfl rfl ?_
              refine y_ret1 ?_
              refine y_if_eqT rfl j_X8_join_52 (by decide) ?_
              refine y_throw rfl rfl rfl ?_
              exact hE1
            · rw [yz_1] at h_40
              refine y_iload_n rfl rfl ?_
              refine y_iload_n rfl rfl ?_
              refine y_icmp_gt rfl j_X8_isIn_14 (fun h_41 => ?_) (fun h_42 => ?_)
              · rw [yz_999] at h_41
                refine y_iconst rfl ?_
                refine y_ireturn rfl rfl rfl ?_
                refine y_ret1 ?_
                refine y_if_eqT rfl j_X8_join_52 (by decide) ?_
                refine y_throw rfl rfl rfl ?_
                exact hE1
              · rw [yz_999] at h_42
                refine y_iconst rfl ?_
                refine y_goto rfl j_X8_isIn_15 ?_
                refine y_ireturn rfl rfl rfl ?_
                refine y_ret1 ?_
                refine y_if_eqF rfl (by decide) ?_
                refine y_iload rfl rfl ?_
                refine y_iconst rfl ?_
                refine y_bip rfl (by decide) ?_
                refine y_static rfl rfl rfl rfl rfl ?_
                refine y_in (M := xm_X8_isIn) (ls := [some _, some _, some _]) rfl rfl rfl ?_
                refine y_iload_n rfl rfl ?_
                refine y_iload_n rfl rfl ?_
                refine y_icmp_lt rfl j_X8_isIn_14 (fun h_43 => ?_) (fun h_44 => ?_)
                · rw [yz_0] at h_43
                  refine y_iconst rfl ?_
                  refine y_ireturn rfl rfl rfl ?_
                  refine y_ret1 ?_
                  refine y_if_neF rfl (by decide) ?_
                  refine y_throw rfl rfl rfl ?_
                  exact hE1
                · rw [yz_0] at h_44
                  refine y_iload_n rfl rfl ?_
                  refine y_iload_n rfl rfl ?_
                  refine y_icmp_gt rfl j_X8_isIn_14 (fun h_45 => ?_) (fun h_46 => ?_)
                  · rw [yz_100] at h_45
                    refine y_iconst rfl ?_
                    refine y_ireturn rfl rfl rfl ?_
                    refine y_ret1 ?_
                    refine y_if_neF rfl (by decide) ?_
                    refine y_throw rfl rfl rfl ?_
                    exact hE1
                  · rw [yz_100] at h_46
                    refine y_iconst rfl ?_
                    refine y_goto rfl j_X8_isIn_15 ?_
                    refine y_ireturn rfl rfl rfl ?_
                    refine y_ret1 ?_
                    refine y_if_neT rfl j_X8_join_63 (by decide) ?_
                    refine y_iload_n rfl rfl ?_
                    refine y_static rfl rfl rfl rfl rfl ?_
                    refine y_in (M := xm_X8_placeOf) (ls := [some _]) rfl rfl rfl ?_
                    refine y_iload_n rfl rfl ?_
                    refine y_iconst rfl ?_
                    refine y_icmp_ne rfl j_X8_placeOf_10 (fun h_47 => ?_) (fun h_48 => ?_)
                    · rw [yz_m1] at h_47
                      refine y_iload_n rfl rfl ?_
                      refine y_ireturn rfl rfl rfl ?_
                      refine y_ret1 ?_
                      refine y_istore (ls' := [some _, some _, some _, some _, some _, some _]) rfl rfl rfl ?_
                      refine y_aload_n rfl rfl ?_
                      refine y_getR rfl (ySh.t hS rfl) (ySh.n hS rfl) rfl rfl (ySh.r hS rfl) ?_
                      refine y_iload_n rfl rfl ?_
                      refine y_iload rfl rfl ?_
                      refine y_virt rfl rfl rfl rfl rfl (ySh.t hS rfl) (ySh.n hS rfl) ?_
                      refine y_in (M := xm_X7_isPartner) (ls := [some _, some _, some _]) rfl rfl rfl ?_
                      refine y_aload_n rfl rfl ?_
                      refine y_getR rfl (ySh.t hS rfl) (ySh.n hS rfl) rfl rfl (ySh.r hS rfl) ?_
                      refine y_aload_n rfl rfl ?_
                      refine y_iload_n rfl rfl ?_
                      refine y_iload_n rfl rfl ?_
                      refine y_virt rfl rfl rfl rfl rfl (ySh.t hS rfl) (ySh.n hS rfl) ?_
                      refine sp_at (by omega) (by omega) (by omega) (by omega) (fun z_ hz49 => ?_)
                      refine y_ret1 ?_
                      refine y_baload rfl (ySh.t hS rfl) rfl (ySh.n hS rfl) (by omega) (by omega) ?_
                      refine y_ireturn rfl rfl (xfit_z (hC.p _)) ?_
                      refine y_ret1 ?_
                      refine y_if_ne rfl j_X8_join_112 (fun h_50 => ?_) (fun h_51 => ?_)
                      · refine y_throw rfl rfl rfl ?_
                        exact hE2
                      · refine y_aload_n rfl rfl ?_
                        refine y_getR rfl (ySh.t hS rfl) (ySh.n hS rfl) rfl rfl (ySh.r hS rfl) ?_
                        refine y_getR rfl (ySh.t hS rfl) (ySh.n hS rfl) rfl rfl (ySh.r hS rfl) ?_
                        refine y_iload rfl rfl ?_
                        refine y_iaload rfl (ySh.t hS rfl) (ySh.n hS rfl) (by omega) (by omega) ?_
                        refine y_iload_n rfl rfl ?_
                        refine y_icmp_lt rfl j_X8_join_112 (fun h_52 => ?_) (fun h_53 => ?_)
                        · refine y_throw rfl rfl rfl ?_
                          exact hE2
                        · refine y_aload_n rfl rfl ?_
                          refine y_getR rfl (ySh.t hS rfl) (ySh.n hS rfl) rfl rfl (ySh.r hS rfl) ?_
                          refine y_iload_n rfl rfl ?_
                          refine y_virt rfl rfl rfl rfl rfl (ySh.t hS rfl) (ySh.n hS rfl) ?_
                          refine sp_shares_X7 hS hC (by omega) (by omega) (fun v_ => ?_)
                          refine y_ret1 ?_
                          refine y_iload rfl rfl ?_
                          refine y_iadd rfl ?_
                          refine y_bip rfl (by decide) ?_
                          refine y_icmp_le rfl j_X8_join_123 (fun h_54 => ?_) (fun h_55 => ?_)
                          · rw [yz_100] at h_54
                            refine y_aload_n rfl rfl ?_
                            refine y_getR rfl (ySh.t hS rfl) (ySh.n hS rfl) rfl rfl (ySh.r hS rfl) ?_
                            refine y_iload rfl rfl ?_
                            refine y_iload_n rfl rfl ?_
                            refine y_ineg rfl ?_
                            refine y_virt rfl rfl rfl rfl rfl (ySh.t hS rfl) (ySh.n hS rfl) ?_
                            refine spu_add_X4 hS hC (fun I66 hC hF1 => ?_)
                            have hF : yFu I I66 := yFu.trans (by repeat (first | exact hF | refine yFu.upd ?_ (by decide))) hF1.t
                            have hd : (I66 34 8).toInt = (I 34 8).toInt := congrArg Int32.toInt (hF1 34 8 (Or.inl (by decide)))
                            refine y_ret0 ?_
                            refine y_aload_n rfl rfl ?_
                            refine y_getR rfl (ySh.t hS rfl) (ySh.n hS rfl) rfl rfl (ySh.r hS rfl) ?_
                            refine y_iload_n rfl rfl ?_
                            refine y_iload rfl rfl ?_
                            refine y_iload_n rfl rfl ?_
                            refine y_iload rfl rfl ?_
                            refine y_virt rfl rfl rfl rfl rfl (ySh.t hS rfl) (ySh.n hS rfl) ?_
                            refine y_in (M := xm_X7_admit) (ls := [some _, some _, some _, some _, some _, _]) rfl rfl rfl ?_
                            refine y_aload_n rfl rfl ?_
                            refine y_iload_n rfl rfl ?_
                            refine y_iload_n rfl rfl ?_
                            refine y_virt rfl rfl rfl rfl rfl (ySh.t hS rfl) (ySh.n hS rfl) ?_
                            refine sp_at (by omega) (by omega) (by omega) (by omega) (fun z_ hz57 => ?_)
                            refine y_ret1 ?_
                            refine y_istore (ls' := [some _, some _, some _, some _, some _, some _]) rfl rfl rfl ?_
                            refine y_aload_n rfl rfl ?_
                            refine y_getR rfl (ySh.t hS rfl) (ySh.n hS rfl) rfl rfl (ySh.r hS rfl) ?_
                            refine y_iload rfl rfl ?_
                            refine y_iconst rfl ?_
                            refine y_zastore rfl (ySh.t hS rfl) (ySh.n hS rfl) (Nat.le_of_ble_eq_true rfl) (by omega) (by omega) rfl ?_
                            refine y_setC (yCI.par hC (.inr (by decide))) (fun hC => ?_)
                            refine y_aload_n rfl rfl ?_
                            refine y_getR rfl (ySh.t hS rfl) (ySh.n hS rfl) rfl rfl (ySh.r hS rfl) ?_
                            refine y_iload rfl rfl ?_
                            refine y_iload_n rfl rfl ?_
                            refine y_iastore rfl (ySh.t hS rfl) (ySh.n hS rfl) (Nat.le_of_ble_eq_true rfl) (by omega) (by omega) ?_
                            refine y_aload_n rfl rfl ?_
                            refine y_getR rfl (ySh.t hS rfl) (ySh.n hS rfl) rfl rfl (ySh.r hS rfl) ?_
                            refine y_iload rfl rfl ?_
                            refine y_iload rfl rfl ?_
                            refine y_iastore rfl (ySh.t hS rfl) (ySh.n hS rfl) (Nat.le_of_ble_eq_true rfl) (by omega) (by omega) ?_
                            refine y_return rfl ?_
                            refine y_ret0 ?_
                            refine y_aload_n rfl rfl ?_
                            refine y_getR rfl (ySh.t hS rfl) (ySh.n hS rfl) rfl rfl (ySh.r hS rfl) ?_
                            refine y_iload_n rfl rfl ?_
                            refine y_virt rfl rfl rfl rfl rfl (ySh.t hS rfl) (ySh.n hS rfl) ?_
                            refine y_setCC (by exact hC) (fun hC => ?_)
                            refine sp_shares_X7 hS hC (by omega) (by omega) (fun v_ => ?_)
                            refine y_ret1 ?_
                            refine y_ireturn rfl rfl rfl ?_
                            exact hQ _ _ hC (by repeat (first | exact hF | refine yFu.upd ?_ (by decide)))
                          · rw [yz_100] at h_55
                            refine y_throw rfl rfl rfl ?_
                            exact hE2
                    · rw [yz_m1] at h_48
                      refine y_bip rfl (by decide) ?_
                      refine y_goto rfl j_X8_placeOf_11 ?_
                      refine y_ireturn rfl rfl rfl ?_
                      refine y_ret1 ?_
                      refine y_istore (ls' := [some _, some _, some _, some _, some _, some _]) rfl rfl rfl ?_
                      refine y_aload_n rfl rfl ?_
                      refine y_getR rfl (ySh.t hS rfl) (ySh.n hS rfl) rfl rfl (ySh.r hS rfl) ?_
                      refine y_iload_n rfl rfl ?_
                      refine y_iload rfl rfl ?_
                      refine y_virt rfl rfl rfl rfl rfl (ySh.t hS rfl) (ySh.n hS rfl) ?_
                      refine y_in (M := xm_X7_isPartner) (ls := [some _, some _, some _]) rfl rfl rfl ?_
                      refine y_aload_n rfl rfl ?_
                      refine y_getR rfl (ySh.t hS rfl) (ySh.n hS rfl) rfl rfl (ySh.r hS rfl) ?_
                      refine y_aload_n rfl rfl ?_
                      refine y_iload_n rfl rfl ?_
                      refine y_iload_n rfl rfl ?_
                      refine y_virt rfl rfl rfl rfl rfl (ySh.t hS rfl) (ySh.n hS rfl) ?_
                      refine sp_at (by omega) (by omega) (by decide) (by decide) (fun z_ hz58 => ?_)
                      rw [yz_8] at hz58
                      refine y_ret1 ?_
                      refine y_baload rfl (ySh.t hS rfl) rfl (ySh.n hS rfl) (by omega) (by omega) ?_
                      refine y_ireturn rfl rfl (xfit_z (hC.p _)) ?_
                      refine y_ret1 ?_
                      refine y_if_ne rfl j_X8_join_112 (fun h_59 => ?_) (fun h_60 => ?_)
                      · refine y_throw rfl rfl rfl ?_
                        exact hE2
                      · refine y_aload_n rfl rfl ?_
                        refine y_getR rfl (ySh.t hS rfl) (ySh.n hS rfl) rfl rfl (ySh.r hS rfl) ?_
                        refine y_getR rfl (ySh.t hS rfl) (ySh.n hS rfl) rfl rfl (ySh.r hS rfl) ?_
                        refine y_iload rfl rfl ?_
                        refine y_iaload rfl (ySh.t hS rfl) (ySh.n hS rfl) (by decide) (by decide) ?_
                        refine y_iload_n rfl rfl ?_
                        refine y_icmp_lt rfl j_X8_join_112 (fun h_61 => ?_) (fun h_62 => ?_)
                        · refine y_throw rfl rfl rfl ?_
                          exact hE2
                        · refine y_aload_n rfl rfl ?_
                          refine y_getR rfl (ySh.t hS rfl) (ySh.n hS rfl) rfl rfl (ySh.r hS rfl) ?_
                          refine y_iload_n rfl rfl ?_
                          refine y_virt rfl rfl rfl rfl rfl (ySh.t hS rfl) (ySh.n hS rfl) ?_
                          refine sp_shares_X7 hS hC (by omega) (by omega) (fun v_ => ?_)
                          refine y_ret1 ?_
                          refine y_iload rfl rfl ?_
                          refine y_iadd rfl ?_
                          refine y_bip rfl (by decide) ?_
                          refine y_icmp_le rfl j_X8_join_123 (fun h_63 => ?_) (fun h_64 => ?_)
                          · rw [yz_100] at h_63
                            refine y_aload_n rfl rfl ?_
                            refine y_getR rfl (ySh.t hS rfl) (ySh.n hS rfl) rfl rfl (ySh.r hS rfl) ?_
                            refine y_iload rfl rfl ?_
                            refine y_iload_n rfl rfl ?_
                            refine y_ineg rfl ?_
                            refine y_virt rfl rfl rfl rfl rfl (ySh.t hS rfl) (ySh.n hS rfl) ?_
                            refine spu_add_X4 hS hC (fun I75 hC hF1 => ?_)
                            have hF : yFu I I75 := yFu.trans (by repeat (first | exact hF | refine yFu.upd ?_ (by decide))) hF1.t
                            have hd : (I75 34 8).toInt = (I 34 8).toInt := congrArg Int32.toInt (hF1 34 8 (Or.inl (by decide)))
                            refine y_ret0 ?_
                            refine y_aload_n rfl rfl ?_
                            refine y_getR rfl (ySh.t hS rfl) (ySh.n hS rfl) rfl rfl (ySh.r hS rfl) ?_
                            refine y_iload_n rfl rfl ?_
                            refine y_iload rfl rfl ?_
                            refine y_iload_n rfl rfl ?_
                            refine y_iload rfl rfl ?_
                            refine y_virt rfl rfl rfl rfl rfl (ySh.t hS rfl) (ySh.n hS rfl) ?_
                            refine y_in (M := xm_X7_admit) (ls := [some _, some _, some _, some _, some _, _]) rfl rfl rfl ?_
                            refine y_aload_n rfl rfl ?_
                            refine y_iload_n rfl rfl ?_
                            refine y_iload_n rfl rfl ?_
                            refine y_virt rfl rfl rfl rfl rfl (ySh.t hS rfl) (ySh.n hS rfl) ?_
                            refine sp_at (by omega) (by omega) (by decide) (by decide) (fun z_ hz66 => ?_)
                            rw [yz_8] at hz66
                            refine y_ret1 ?_
                            refine y_istore (ls' := [some _, some _, some _, some _, some _, some _]) rfl rfl rfl ?_
                            refine y_aload_n rfl rfl ?_
                            refine y_getR rfl (ySh.t hS rfl) (ySh.n hS rfl) rfl rfl (ySh.r hS rfl) ?_
                            refine y_iload rfl rfl ?_
                            refine y_iconst rfl ?_
                            refine y_zastore rfl (ySh.t hS rfl) (ySh.n hS rfl) (Nat.le_of_ble_eq_true rfl) (by omega) (by omega) rfl ?_
                            refine y_setC (yCI.par hC (.inr (by decide))) (fun hC => ?_)
                            refine y_aload_n rfl rfl ?_
                            refine y_getR rfl (ySh.t hS rfl) (ySh.n hS rfl) rfl rfl (ySh.r hS rfl) ?_
                            refine y_iload rfl rfl ?_
                            refine y_iload_n rfl rfl ?_
                            refine y_iastore rfl (ySh.t hS rfl) (ySh.n hS rfl) (Nat.le_of_ble_eq_true rfl) (by omega) (by omega) ?_
                            refine y_aload_n rfl rfl ?_
                            refine y_getR rfl (ySh.t hS rfl) (ySh.n hS rfl) rfl rfl (ySh.r hS rfl) ?_
                            refine y_iload rfl rfl ?_
                            refine y_iload rfl rfl ?_
                            refine y_iastore rfl (ySh.t hS rfl) (ySh.n hS rfl) (Nat.le_of_ble_eq_true rfl) (by omega) (by omega) ?_
                            refine y_return rfl ?_
                            refine y_ret0 ?_
                            refine y_aload_n rfl rfl ?_
                            refine y_getR rfl (ySh.t hS rfl) (ySh.n hS rfl) rfl rfl (ySh.r hS rfl) ?_
                            refine y_iload_n rfl rfl ?_
                            refine y_virt rfl rfl rfl rfl rfl (ySh.t hS rfl) (ySh.n hS rfl) ?_
                            refine y_setCC (by exact hC) (fun hC => ?_)
                            refine sp_shares_X7 hS hC (by omega) (by omega) (fun v_ => ?_)
                            refine y_ret1 ?_
                            refine y_ireturn rfl rfl rfl ?_
                            exact hQ _ _ hC (by repeat (first | exact hF | refine yFu.upd ?_ (by decide)))
                          · rw [yz_100] at h_64
                            refine y_throw rfl rfl rfl ?_
                            exact hE2
theorem mu_result (hS : ySh n tg R) (hC : yCI I) {x1 x2 x3 : Int32} (hE0 : Q (.inr "java/lang/IndexOutOfBoundsException") (n, tg, I, R) (c + 1) (s + 6)) (hE1 : Q (.inr "java/lang/IllegalArgumentException") (n, tg, I, R) (c + 1) (s + 6)) (hE2 : Q (.inr "java/lang/IllegalStateException") (n, tg, I, R) (c + 1) (s + 6)) (hQ : ∀ v I1, yCI I1 → yFu I I1 → Q (.inl (some (.int v))) (n, tg, I1, R) c s) : yC 134 [.ref 34, .int x1, .int x2, .int x3] (n, tg, I, R) c s Q := by
  have hF : yFu I I := yFu.rf
  refine y_in (M := xm_X8_result) (ls := [some _, some _, some _, some _]) rfl rfl rfl ?_
  refine y_aload_n rfl rfl ?_
  refine y_getR rfl (ySh.t hS rfl) (ySh.n hS rfl) rfl rfl (ySh.r hS rfl) ?_
  refine y_iload_n rfl rfl ?_
  refine y_virt rfl rfl rfl rfl rfl (ySh.t hS rfl) (ySh.n hS rfl) ?_
  refine y_in (M := xm_X7_has) (ls := [some _, some _]) rfl rfl rfl ?_
  refine y_iload_n rfl rfl ?_
  refine y_if_lt rfl j_X7_has_16 (fun h_1 => ?_) (fun h_2 => ?_)
  · refine y_iconst rfl ?_
    refine y_ireturn rfl rfl rfl ?_
    refine y_ret1 ?_
    refine y_if_eqT rfl j_X8_result_25 (by decide) ?_
    refine y_throw rfl rfl rfl ?_
    exact hE0
  · refine y_iload_n rfl rfl ?_
    refine y_aload_n rfl rfl ?_
    refine y_getI rfl (ySh.t hS rfl) (ySh.n hS rfl) rfl rfl ?_
    refine y_icmp_ge rfl j_X7_has_16 (fun h_3 => ?_) (fun h_4 => ?_)
    · refine y_iconst rfl ?_
      refine y_ireturn rfl rfl rfl ?_
      refine y_ret1 ?_
      refine y_if_eqT rfl j_X8_result_25 (by decide) ?_
      refine y_throw rfl rfl rfl ?_
      exact hE0
    · refine y_iconst rfl ?_
      refine y_goto rfl j_X7_has_17 ?_
      refine y_ireturn rfl rfl rfl ?_
      refine y_ret1 ?_
      refine y_if_eqF rfl (by decide) ?_
      refine y_iload_n rfl rfl ?_
      refine y_bip rfl (by decide) ?_
      refine y_icmp_eq rfl j_X8_result_36 (fun h_5 => ?_) (fun h_6 => ?_)
      · rw [yz_m2] at h_5
        refine y_iload_n rfl rfl ?_
        refine y_sip rfl (by decide) ?_
        refine y_sip rfl (by decide) ?_
        refine y_static rfl rfl rfl rfl rfl ?_
        refine y_in (M := xm_X8_isIn) (ls := [some _, some _, some _]) rfl rfl rfl ?_
        refine y_iload_n rfl rfl ?_
        refine y_iload_n rfl rfl ?_
        refine y_icmp_lt rfl j_X8_isIn_14 (fun h_7 => ?_) (fun h_8 => ?_)
        · rw [yz_m999] at h_7
          refine y_iconst rfl ?_
          refine y_ireturn rfl rfl rfl ?_
          refine y_ret1 ?_
          refine y_if_neF rfl (by decide) ?_
          refine y_throw rfl rfl rfl ?_
          exact hE1
        · rw [yz_m999] at h_8
          refine y_iload_n rfl rfl ?_
          refine y_iload_n rfl rfl ?_
          refine y_icmp_gt rfl j_X8_isIn_14 (fun h_9 => ?_) (fun h_10 => ?_)
          · rw [yz_999] at h_9
            refine y_iconst rfl ?_
            refine y_ireturn rfl rfl rfl ?_
            refine y_ret1 ?_
            refine y_if_neF rfl (by decide) ?_
            refine y_throw rfl rfl rfl ?_
            exact hE1
          · rw [yz_999] at h_10
            refine y_iconst rfl ?_
            refine y_goto rfl j_X8_isIn_15 ?_
            refine y_ireturn rfl rfl rfl ?_
            refine y_ret1 ?_
            refine y_if_neT rfl j_X8_result_60 (by decide) ?_
            refine y_iload_n rfl rfl ?_
            refine y_bip rfl (by decide) ?_
            refine y_icmp_eq rfl j_X8_result_92 (fun h_11 => ?_) (fun h_12 => ?_)
            · rw [yz_m2] at h_11
              refine y_iload_n rfl rfl ?_
              refine y_if_lt rfl j_X8_result_105 (fun h_13 => ?_) (fun h_14 => ?_)
              · refine y_iload_n rfl rfl ?_
                refine y_bip rfl (by decide) ?_
                refine y_icmp_ne rfl j_X8_result_124 (fun h_15 => ?_) (fun h_16 => ?_)
                · rw [yz_m2] at h_15
                  refine y_aload_n rfl rfl ?_
                  refine y_getR rfl (ySh.t hS rfl) (ySh.n hS rfl) rfl rfl (ySh.r hS rfl) ?_
                  refine y_iload_n rfl rfl ?_
                  refine y_static rfl rfl rfl rfl rfl ?_
                  refine y_in (M := xm_X8_placeOf) (ls := [some _]) rfl rfl rfl ?_
                  refine y_iload_n rfl rfl ?_
                  refine y_iconst rfl ?_
                  refine y_icmp_ne rfl j_X8_placeOf_10 (fun h_17 => ?_) (fun h_18 => ?_)
                  · rw [yz_m1] at h_17
                    refine y_iload_n rfl rfl ?_
                    refine y_ireturn rfl rfl rfl ?_
                    refine y_ret1 ?_
                    refine y_iload_n rfl rfl ?_
                    refine y_virt rfl rfl rfl rfl rfl (ySh.t hS rfl) (ySh.n hS rfl) ?_
                    refine spu_add_X4 hS hC (fun I29 hC hF1 => ?_)
                    have hF : yFu I I29 := yFu.trans (by repeat (first | exact hF | refine yFu.upd ?_ (by decide))) hF1.t
                    have hd : (I29 34 8).toInt = (I 34 8).toInt := congrArg Int32.toInt (hF1 34 8 (Or.inl (by decide)))
                    refine y_ret0 ?_
                    refine y_aload_n rfl rfl ?_
                    refine y_getR rfl (ySh.t hS rfl) (ySh.n hS rfl) rfl rfl (ySh.r hS rfl) ?_
                    refine y_iload_n rfl rfl ?_
                    refine y_virt rfl rfl rfl rfl rfl (ySh.t hS rfl) (ySh.n hS rfl) ?_
                    refine sp_capitals_X7 hS hC (by omega) (by omega) (fun v_ => ?_)
                    refine y_ret1 ?_
                    refine y_ireturn rfl rfl rfl ?_
                    exact hQ _ _ hC (by repeat (first | exact hF | refine yFu.upd ?_ (by decide)))
                  · rw [yz_m1] at h_18
                    refine y_bip rfl (by decide) ?_
                    refine y_goto rfl j_X8_placeOf_11 ?_
                    refine y_ireturn rfl rfl rfl ?_
                    refine y_ret1 ?_
                    refine y_iload_n rfl rfl ?_
                    refine y_virt rfl rfl rfl rfl rfl (ySh.t hS rfl) (ySh.n hS rfl) ?_
                    refine spu_add_X4 hS hC (fun I30 hC hF1 => ?_)
                    have hF : yFu I I30 := yFu.trans (by repeat (first | exact hF | refine yFu.upd ?_ (by decide))) hF1.t
                    have hd : (I30 34 8).toInt = (I 34 8).toInt := congrArg Int32.toInt (hF1 34 8 (Or.inl (by decide)))
                    refine y_ret0 ?_
                    refine y_aload_n rfl rfl ?_
                    refine y_getR rfl (ySh.t hS rfl) (ySh.n hS rfl) rfl rfl (ySh.r hS rfl) ?_
                    refine y_iload_n rfl rfl ?_
                    refine y_virt rfl rfl rfl rfl rfl (ySh.t hS rfl) (ySh.n hS rfl) ?_
                    refine sp_capitals_X7 hS hC (by omega) (by omega) (fun v_ => ?_)
                    refine y_ret1 ?_
                    refine y_ireturn rfl rfl rfl ?_
                    exact hQ _ _ hC (by repeat (first | exact hF | refine yFu.upd ?_ (by decide)))
                · rw [yz_m2] at h_16
                  refine y_aload_n rfl rfl ?_
                  refine y_getR rfl (ySh.t hS rfl) (ySh.n hS rfl) rfl rfl (ySh.r hS rfl) ?_
                  refine y_iload_n rfl rfl ?_
                  refine y_iload_n rfl rfl ?_
                  refine y_ineg rfl ?_
                  refine y_virt rfl rfl rfl rfl rfl (ySh.t hS rfl) (ySh.n hS rfl) ?_
                  refine spu_bearLoss hS hC (by omega) (by omega) (fun I31 hC hF1 => ?_)
                  have hF : yFu I I31 := yFu.trans (by repeat (first | exact hF | refine yFu.upd ?_ (by decide))) hF1.t
                  have hd : (I31 34 8).toInt = (I 34 8).toInt := congrArg Int32.toInt (hF1 34 8 (Or.inl (by decide)))
                  refine y_ret0 ?_
                  refine y_goto rfl j_X8_result_136 ?_
                  refine y_aload_n rfl rfl ?_
                  refine y_getR rfl (ySh.t hS rfl) (ySh.n hS rfl) rfl rfl (ySh.r hS rfl) ?_
                  refine y_iload_n rfl rfl ?_
                  refine y_virt rfl rfl rfl rfl rfl (ySh.t hS rfl) (ySh.n hS rfl) ?_
                  refine sp_capitals_X7 hS hC (by omega) (by omega) (fun v_ => ?_)
                  refine y_ret1 ?_
                  refine y_ireturn rfl rfl rfl ?_
                  exact hQ _ _ hC (by repeat (first | exact hF | refine yFu.upd ?_ (by decide)))
              · refine y_aload_n rfl rfl ?_
                refine y_iload_n rfl rfl ?_
                refine y_iload_n rfl rfl ?_
                refine y_virt rfl rfl rfl rfl rfl (ySh.t hS rfl) (ySh.n hS rfl) ?_
                refine spu_shareProfit_X8 hS hC (by omega) (by omega) (fun I32 hC hF1 => ?_)
                have hF : yFu I I32 := yFu.trans (by repeat (first | exact hF | refine yFu.upd ?_ (by decide))) hF1.t
                have hd : (I32 34 8).toInt = (I 34 8).toInt := congrArg Int32.toInt (hF1 34 8 (Or.inl (by decide)))
                refine y_ret0 ?_
                refine y_goto rfl j_X8_result_136 ?_
                refine y_aload_n rfl rfl ?_
                refine y_getR rfl (ySh.t hS rfl) (ySh.n hS rfl) rfl rfl (ySh.r hS rfl) ?_
                refine y_iload_n rfl rfl ?_
                refine y_virt rfl rfl rfl rfl rfl (ySh.t hS rfl) (ySh.n hS rfl) ?_
                refine sp_capitals_X7 hS hC (by omega) (by omega) (fun v_ => ?_)
                refine y_ret1 ?_
                refine y_ireturn rfl rfl rfl ?_
                exact hQ _ _ hC (by repeat (first | exact hF | refine yFu.upd ?_ (by decide)))
            · rw [yz_m2] at h_12
              refine y_aload_n rfl rfl ?_
              refine y_getR rfl (ySh.t hS rfl) (ySh.n hS rfl) rfl rfl (ySh.r hS rfl) ?_
              refine y_iload_n rfl rfl ?_
              refine y_iload_n rfl rfl ?_
              refine y_static rfl rfl rfl rfl rfl ?_
              refine y_in (M := xm_X8_placeOf) (ls := [some _]) rfl rfl rfl ?_
              refine y_iload_n rfl rfl ?_
              refine y_iconst rfl ?_
              refine y_icmp_ne rfl j_X8_placeOf_10 (fun h_23 => ?_) (fun h_24 => ?_)
              · rw [yz_m1] at h_23
                refine y_iload_n rfl rfl ?_
                refine y_ireturn rfl rfl rfl ?_
                refine y_ret1 ?_
                refine y_virt rfl rfl rfl rfl rfl (ySh.t hS rfl) (ySh.n hS rfl) ?_
                refine y_in (M := xm_X7_isPartner) (ls := [some _, some _, some _]) rfl rfl rfl ?_
                refine y_aload_n rfl rfl ?_
                refine y_getR rfl (ySh.t hS rfl) (ySh.n hS rfl) rfl rfl (ySh.r hS rfl) ?_
                refine y_aload_n rfl rfl ?_
                refine y_iload_n rfl rfl ?_
                refine y_iload_n rfl rfl ?_
                refine y_virt rfl rfl rfl rfl rfl (ySh.t hS rfl) (ySh.n hS rfl) ?_
                refine sp_at (by omega) (by omega) (by omega) (by omega) (fun z_ hz25 => ?_)
                refine y_ret1 ?_
                refine y_baload rfl (ySh.t hS rfl) rfl (ySh.n hS rfl) (by omega) (by omega) ?_
                refine y_ireturn rfl rfl (xfit_z (hC.p _)) ?_
                refine y_ret1 ?_
                refine y_if_ne rfl j_X8_result_92 (fun h_26 => ?_) (fun h_27 => ?_)
                · refine y_iload_n rfl rfl ?_
                  refine y_if_lt rfl j_X8_result_105 (fun h_28 => ?_) (fun h_29 => ?_)
                  · refine y_iload_n rfl rfl ?_
                    refine y_bip rfl (by decide) ?_
                    refine y_icmp_ne rfl j_X8_result_124 (fun h_30 => ?_) (fun h_31 => ?_)
                    · rw [yz_m2] at h_30
                      refine y_aload_n rfl rfl ?_
                      refine y_getR rfl (ySh.t hS rfl) (ySh.n hS rfl) rfl rfl (ySh.r hS rfl) ?_
                      refine y_iload_n rfl rfl ?_
                      refine y_static rfl rfl rfl rfl rfl ?_
                      refine y_in (M := xm_X8_placeOf) (ls := [some _]) rfl rfl rfl ?_
                      refine y_iload_n rfl rfl ?_
                      refine y_iconst rfl ?_
                      refine y_icmp_ne rfl j_X8_placeOf_10 (fun h_32 => ?_) (fun h_33 => ?_)
                      · rw [yz_m1] at h_32
                        refine y_iload_n rfl rfl ?_
                        refine y_ireturn rfl rfl rfl ?_
                        refine y_ret1 ?_
                        refine y_iload_n rfl rfl ?_
                        refine y_virt rfl rfl rfl rfl rfl (ySh.t hS rfl) (ySh.n hS rfl) ?_
                        refine spu_add_X4 hS hC (fun I44 hC hF1 => ?_)
                        have hF : yFu I I44 := yFu.trans (by repeat (first | exact hF | refine yFu.upd ?_ (by decide))) hF1.t
                        have hd : (I44 34 8).toInt = (I 34 8).toInt := congrArg Int32.toInt (hF1 34 8 (Or.inl (by decide)))
                        refine y_ret0 ?_
                        refine y_aload_n rfl rfl ?_
                        refine y_getR rfl (ySh.t hS rfl) (ySh.n hS rfl) rfl rfl (ySh.r hS rfl) ?_
                        refine y_iload_n rfl rfl ?_
                        refine y_virt rfl rfl rfl rfl rfl (ySh.t hS rfl) (ySh.n hS rfl) ?_
                        refine sp_capitals_X7 hS hC (by omega) (by omega) (fun v_ => ?_)
                        refine y_ret1 ?_
                        refine y_ireturn rfl rfl rfl ?_
                        exact hQ _ _ hC (by repeat (first | exact hF | refine yFu.upd ?_ (by decide)))
                      · rw [yz_m1] at h_33
                        refine y_bip rfl (by decide) ?_
                        refine y_goto rfl j_X8_placeOf_11 ?_
                        refine y_ireturn rfl rfl rfl ?_
                        refine y_ret1 ?_
                        refine y_iload_n rfl rfl ?_
                        refine y_virt rfl rfl rfl rfl rfl (ySh.t hS rfl) (ySh.n hS rfl) ?_
                        refine spu_add_X4 hS hC (fun I45 hC hF1 => ?_)
                        have hF : yFu I I45 := yFu.trans (by repeat (first | exact hF | refine yFu.upd ?_ (by decide))) hF1.t
                        have hd : (I45 34 8).toInt = (I 34 8).toInt := congrArg Int32.toInt (hF1 34 8 (Or.inl (by decide)))
                        refine y_ret0 ?_
                        refine y_aload_n rfl rfl ?_
                        refine y_getR rfl (ySh.t hS rfl) (ySh.n hS rfl) rfl rfl (ySh.r hS rfl) ?_
                        refine y_iload_n rfl rfl ?_
                        refine y_virt rfl rfl rfl rfl rfl (ySh.t hS rfl) (ySh.n hS rfl) ?_
                        refine sp_capitals_X7 hS hC (by omega) (by omega) (fun v_ => ?_)
                        refine y_ret1 ?_
                        refine y_ireturn rfl rfl rfl ?_
                        exact hQ _ _ hC (by repeat (first | exact hF | refine yFu.upd ?_ (by decide)))
                    · rw [yz_m2] at h_31
                      refine y_aload_n rfl rfl ?_
                      refine y_getR rfl (ySh.t hS rfl) (ySh.n hS rfl) rfl rfl (ySh.r hS rfl) ?_
                      refine y_iload_n rfl rfl ?_
                      refine y_iload_n rfl rfl ?_
                      refine y_ineg rfl ?_
                      refine y_virt rfl rfl rfl rfl rfl (ySh.t hS rfl) (ySh.n hS rfl) ?_
                      refine spu_bearLoss hS hC (by omega) (by omega) (fun I46 hC hF1 => ?_)
                      have hF : yFu I I46 := yFu.trans (by repeat (first | exact hF | refine yFu.upd ?_ (by decide))) hF1.t
                      have hd : (I46 34 8).toInt = (I 34 8).toInt := congrArg Int32.toInt (hF1 34 8 (Or.inl (by decide)))
                      refine y_ret0 ?_
                      refine y_goto rfl j_X8_result_136 ?_
                      refine y_aload_n rfl rfl ?_
                      refine y_getR rfl (ySh.t hS rfl) (ySh.n hS rfl) rfl rfl (ySh.r hS rfl) ?_
                      refine y_iload_n rfl rfl ?_
                      refine y_virt rfl rfl rfl rfl rfl (ySh.t hS rfl) (ySh.n hS rfl) ?_
                      refine sp_capitals_X7 hS hC (by omega) (by omega) (fun v_ => ?_)
                      refine y_ret1 ?_
                      refine y_ireturn rfl rfl rfl ?_
                      exact hQ _ _ hC (by repeat (first | exact hF | refine yFu.upd ?_ (by decide)))
                  · refine y_aload_n rfl rfl ?_
                    refine y_iload_n rfl rfl ?_
                    refine y_iload_n rfl rfl ?_
                    refine y_virt rfl rfl rfl rfl rfl (ySh.t hS rfl) (ySh.n hS rfl) ?_
                    refine spu_shareProfit_X8 hS hC (by omega) (by omega) (fun I47 hC hF1 => ?_)
                    have hF : yFu I I47 := yFu.trans (by repeat (first | exact hF | refine yFu.upd ?_ (by decide))) hF1.t
                    have hd : (I47 34 8).toInt = (I 34 8).toInt := congrArg Int32.toInt (hF1 34 8 (Or.inl (by decide)))
                    refine y_ret0 ?_
                    refine y_goto rfl j_X8_result_136 ?_
                    refine y_aload_n rfl rfl ?_
                    refine y_getR rfl (ySh.t hS rfl) (ySh.n hS rfl) rfl rfl (ySh.r hS rfl) ?_
                    refine y_iload_n rfl rfl ?_
                    refine y_virt rfl rfl rfl rfl rfl (ySh.t hS rfl) (ySh.n hS rfl) ?_
                    refine sp_capitals_X7 hS hC (by omega) (by omega) (fun v_ => ?_)
                    refine y_ret1 ?_
                    refine y_ireturn rfl rfl rfl ?_
                    exact hQ _ _ hC (by repeat (first | exact hF | refine yFu.upd ?_ (by decide)))
                · refine y_throw rfl rfl rfl ?_
                  exact hE2
              · rw [yz_m1] at h_24
                refine y_bip rfl (by decide) ?_
                refine y_goto rfl j_X8_placeOf_11 ?_
                refine y_ireturn rfl rfl rfl ?_
                refine y_ret1 ?_
                refine y_virt rfl rfl rfl rfl rfl (ySh.t hS rfl) (ySh.n hS rfl) ?_
                refine y_in (M := xm_X7_isPartner) (ls := [some _, some _, some _]) rfl rfl rfl ?_
                refine y_aload_n rfl rfl ?_
                refine y_getR rfl (ySh.t hS rfl) (ySh.n hS rfl) rfl rfl (ySh.r hS rfl) ?_
                refine y_aload_n rfl rfl ?_
                refine y_iload_n rfl rfl ?_
                refine y_iload_n rfl rfl ?_
                refine y_virt rfl rfl rfl rfl rfl (ySh.t hS rfl) (ySh.n hS rfl) ?_
                refine sp_at (by omega) (by omega) (by decide) (by decide) (fun z_ hz38 => ?_)
                rw [yz_8] at hz38
                refine y_ret1 ?_
                refine y_baload rfl (ySh.t hS rfl) rfl (ySh.n hS rfl) (by omega) (by omega) ?_
                refine y_ireturn rfl rfl (xfit_z (hC.p _)) ?_
                refine y_ret1 ?_
                refine y_if_ne rfl j_X8_result_92 (fun h_39 => ?_) (fun h_40 => ?_)
                · refine y_iload_n rfl rfl ?_
                  refine y_if_lt rfl j_X8_result_105 (fun h_41 => ?_) (fun h_42 => ?_)
                  · refine y_iload_n rfl rfl ?_
                    refine y_bip rfl (by decide) ?_
                    refine y_icmp_ne rfl j_X8_result_124 (fun h_43 => ?_) (fun h_44 => ?_)
                    · rw [yz_m2] at h_43
                      refine y_aload_n rfl rfl ?_
                      refine y_getR rfl (ySh.t hS rfl) (ySh.n hS rfl) rfl rfl (ySh.r hS rfl) ?_
                      refine y_iload_n rfl rfl ?_
                      refine y_static rfl rfl rfl rfl rfl ?_
                      refine y_in (M := xm_X8_placeOf) (ls := [some _]) rfl rfl rfl ?_
                      refine y_iload_n rfl rfl ?_
                      refine y_iconst rfl ?_
                      refine y_icmp_ne rfl j_X8_placeOf_10 (fun h_45 => ?_) (fun h_46 => ?_)
                      · rw [yz_m1] at h_45
                        refine y_iload_n rfl rfl ?_
                        refine y_ireturn rfl rfl rfl ?_
                        refine y_ret1 ?_
                        refine y_iload_n rfl rfl ?_
                        refine y_virt rfl rfl rfl rfl rfl (ySh.t hS rfl) (ySh.n hS rfl) ?_
                        refine spu_add_X4 hS hC (fun I57 hC hF1 => ?_)
                        have hF : yFu I I57 := yFu.trans (by repeat (first | exact hF | refine yFu.upd ?_ (by decide))) hF1.t
                        have hd : (I57 34 8).toInt = (I 34 8).toInt := congrArg Int32.toInt (hF1 34 8 (Or.inl (by decide)))
                        refine y_ret0 ?_
                        refine y_aload_n rfl rfl ?_
                        refine y_getR rfl (ySh.t hS rfl) (ySh.n hS rfl) rfl rfl (ySh.r hS rfl) ?_
                        refine y_iload_n rfl rfl ?_
                        refine y_virt rfl rfl rfl rfl rfl (ySh.t hS rfl) (ySh.n hS rfl) ?_
                        refine sp_capitals_X7 hS hC (by omega) (by omega) (fun v_ => ?_)
                        refine y_ret1 ?_
                        refine y_ireturn rfl rfl rfl ?_
                        exact hQ _ _ hC (by repeat (first | exact hF | refine yFu.upd ?_ (by decide)))
                      · rw [yz_m1] at h_46
                        refine y_bip rfl (by decide) ?_
                        refine y_goto rfl j_X8_placeOf_11 ?_
                        refine y_ireturn rfl rfl rfl ?_
                        refine y_ret1 ?_
                        refine y_iload_n rfl rfl ?_
                        refine y_virt rfl rfl rfl rfl rfl (ySh.t hS rfl) (ySh.n hS rfl) ?_
                        refine spu_add_X4 hS hC (fun I58 hC hF1 => ?_)
                        have hF : yFu I I58 := yFu.trans (by repeat (first | exact hF | refine yFu.upd ?_ (by decide))) hF1.t
                        have hd : (I58 34 8).toInt = (I 34 8).toInt := congrArg Int32.toInt (hF1 34 8 (Or.inl (by decide)))
                        refine y_ret0 ?_
                        refine y_aload_n rfl rfl ?_
                        refine y_getR rfl (ySh.t hS rfl) (ySh.n hS rfl) rfl rfl (ySh.r hS rfl) ?_
                        refine y_iload_n rfl rfl ?_
                        refine y_virt rfl rfl rfl rfl rfl (ySh.t hS rfl) (ySh.n hS rfl) ?_
                        refine sp_capitals_X7 hS hC (by omega) (by omega) (fun v_ => ?_)
                        refine y_ret1 ?_
                        refine y_ireturn rfl rfl rfl ?_
                        exact hQ _ _ hC (by repeat (first | exact hF | refine yFu.upd ?_ (by decide)))
                    · rw [yz_m2] at h_44
                      refine y_aload_n rfl rfl ?_
                      refine y_getR rfl (ySh.t hS rfl) (ySh.n hS rfl) rfl rfl (ySh.r hS rfl) ?_
                      refine y_iload_n rfl rfl ?_
                      refine y_iload_n rfl rfl ?_
                      refine y_ineg rfl ?_
                      refine y_virt rfl rfl rfl rfl rfl (ySh.t hS rfl) (ySh.n hS rfl) ?_
                      refine spu_bearLoss hS hC (by omega) (by omega) (fun I59 hC hF1 => ?_)
                      have hF : yFu I I59 := yFu.trans (by repeat (first | exact hF | refine yFu.upd ?_ (by decide))) hF1.t
                      have hd : (I59 34 8).toInt = (I 34 8).toInt := congrArg Int32.toInt (hF1 34 8 (Or.inl (by decide)))
                      refine y_ret0 ?_
                      refine y_goto rfl j_X8_result_136 ?_
                      refine y_aload_n rfl rfl ?_
                      refine y_getR rfl (ySh.t hS rfl) (ySh.n hS rfl) rfl rfl (ySh.r hS rfl) ?_
                      refine y_iload_n rfl rfl ?_
                      refine y_virt rfl rfl rfl rfl rfl (ySh.t hS rfl) (ySh.n hS rfl) ?_
                      refine sp_capitals_X7 hS hC (by omega) (by omega) (fun v_ => ?_)
                      refine y_ret1 ?_
                      refine y_ireturn rfl rfl rfl ?_
                      exact hQ _ _ hC (by repeat (first | exact hF | refine yFu.upd ?_ (by decide)))
                  · refine y_aload_n rfl rfl ?_
                    refine y_iload_n rfl rfl ?_
                    refine y_iload_n rfl rfl ?_
                    refine y_virt rfl rfl rfl rfl rfl (ySh.t hS rfl) (ySh.n hS rfl) ?_
                    refine spu_shareProfit_X8 hS hC (by omega) (by omega) (fun I60 hC hF1 => ?_)
                    have hF : yFu I I60 := yFu.trans (by repeat (first | exact hF | refine yFu.upd ?_ (by decide))) hF1.t
                    have hd : (I60 34 8).toInt = (I 34 8).toInt := congrArg Int32.toInt (hF1 34 8 (Or.inl (by decide)))
                    refine y_ret0 ?_
                    refine y_goto rfl j_X8_result_136 ?_
                    refine y_aload_n rfl rfl ?_
                    refine y_getR rfl (ySh.t hS rfl) (ySh.n hS rfl) rfl rfl (ySh.r hS rfl) ?_
                    refine y_iload_n rfl rfl ?_
                    refine y_virt rfl rfl rfl rfl rfl (ySh.t hS rfl) (ySh.n hS rfl) ?_
                    refine sp_capitals_X7 hS hC (by omega) (by omega) (fun v_ => ?_)
                    refine y_ret1 ?_
                    refine y_ireturn rfl rfl rfl ?_
                    exact hQ _ _ hC (by repeat (first | exact hF | refine yFu.upd ?_ (by decide)))
                · refine y_throw rfl rfl rfl ?_
                  exact hE2
      · rw [yz_m2] at h_6
        refine y_aload_n rfl rfl ?_
        refine y_iload_n rfl rfl ?_
        refine y_virt rfl rfl rfl rfl rfl (ySh.t hS rfl) (ySh.n hS rfl) ?_
        refine y_in (M := xm_X8_isParty) (ls := [some _, some _]) rfl rfl rfl ?_
        refine y_iload_n rfl rfl ?_
        refine y_iconst rfl ?_
        refine y_icmp_eq rfl j_X8_isParty_16 (fun h_51 => ?_) (fun h_52 => ?_)
        · rw [yz_m1] at h_51
          refine y_iconst rfl ?_
          refine y_goto rfl j_X8_isParty_21 ?_
          refine y_ireturn rfl rfl rfl ?_
          refine y_ret1 ?_
          refine y_if_neT rfl j_X8_result_36 (by decide) ?_
          refine y_iload_n rfl rfl ?_
          refine y_sip rfl (by decide) ?_
          refine y_sip rfl (by decide) ?_
          refine y_static rfl rfl rfl rfl rfl ?_
          refine y_in (M := xm_X8_isIn) (ls := [some _, some _, some _]) rfl rfl rfl ?_
          refine y_iload_n rfl rfl ?_
          refine y_iload_n rfl rfl ?_
          refine y_icmp_lt rfl j_X8_isIn_14 (fun h_53 => ?_) (fun h_54 => ?_)
          · rw [yz_m999] at h_53
            refine y_iconst rfl ?_
            refine y_ireturn rfl rfl rfl ?_
            refine y_ret1 ?_
            refine y_if_neF rfl (by decide) ?_
            refine y_throw rfl rfl rfl ?_
            exact hE1
          · rw [yz_m999] at h_54
            refine y_iload_n rfl rfl ?_
            refine y_iload_n rfl rfl ?_
            refine y_icmp_gt rfl j_X8_isIn_14 (fun h_55 => ?_) (fun h_56 => ?_)
            · rw [yz_999] at h_55
              refine y_iconst rfl ?_
              refine y_ireturn rfl rfl rfl ?_
              refine y_ret1 ?_
              refine y_if_neF rfl (by decide) ?_
              refine y_throw rfl rfl rfl ?_
              exact hE1
            · rw [yz_999] at h_56
              refine y_iconst rfl ?_
              refine y_goto rfl j_X8_isIn_15 ?_
              refine y_ireturn rfl rfl rfl ?_
              refine y_ret1 ?_
              refine y_if_neT rfl j_X8_result_60 (by decide) ?_
              refine y_iload_n rfl rfl ?_
              refine y_bip rfl (by decide) ?_
              refine y_icmp_eq rfl j_X8_result_92 (fun h_57 => ?_) (fun h_58 => ?_)
              · rw [yz_m2] at h_57
                refine y_iload_n rfl rfl ?_
                refine y_if_lt rfl j_X8_result_105 (fun h_59 => ?_) (fun h_60 => ?_)
                · refine y_iload_n rfl rfl ?_
                  refine y_bip rfl (by decide) ?_
                  refine y_icmp_ne rfl j_X8_result_124 (fun h_61 => ?_) (fun h_62 => ?_)
                  · rw [yz_m2] at h_61
                    refine y_aload_n rfl rfl ?_
                    refine y_getR rfl (ySh.t hS rfl) (ySh.n hS rfl) rfl rfl (ySh.r hS rfl) ?_
                    refine y_iload_n rfl rfl ?_
                    refine y_static rfl rfl rfl rfl rfl ?_
                    refine y_in (M := xm_X8_placeOf) (ls := [some _]) rfl rfl rfl ?_
                    refine y_iload_n rfl rfl ?_
                    refine y_iconst rfl ?_
                    refine y_icmp_ne rfl j_X8_placeOf_10 (fun h_63 => ?_) (fun h_64 => ?_)
                    · rw [yz_m1] at h_63
                      refine y_iload_n rfl rfl ?_
                      refine y_ireturn rfl rfl rfl ?_
                      refine y_ret1 ?_
                      refine y_iload_n rfl rfl ?_
                      refine y_virt rfl rfl rfl rfl rfl (ySh.t hS rfl) (ySh.n hS rfl) ?_
                      refine spu_add_X4 hS hC (fun I75 hC hF1 => ?_)
                      have hF : yFu I I75 := yFu.trans (by repeat (first | exact hF | refine yFu.upd ?_ (by decide))) hF1.t
                      have hd : (I75 34 8).toInt = (I 34 8).toInt := congrArg Int32.toInt (hF1 34 8 (Or.inl (by decide)))
                      refine y_ret0 ?_
                      refine y_aload_n rfl rfl ?_
                      refine y_getR rfl (ySh.t hS rfl) (ySh.n hS rfl) rfl rfl (ySh.r hS rfl) ?_
                      refine y_iload_n rfl rfl ?_
                      refine y_virt rfl rfl rfl rfl rfl (ySh.t hS rfl) (ySh.n hS rfl) ?_
                      refine sp_capitals_X7 hS hC (by omega) (by omega) (fun v_ => ?_)
                      refine y_ret1 ?_
                      refine y_ireturn rfl rfl rfl ?_
                      exact hQ _ _ hC (by repeat (first | exact hF | refine yFu.upd ?_ (by decide)))
                    · rw [yz_m1] at h_64
                      refine y_bip rfl (by decide) ?_
                      refine y_goto rfl j_X8_placeOf_11 ?_
                      refine y_ireturn rfl rfl rfl ?_
                      refine y_ret1 ?_
                      refine y_iload_n rfl rfl ?_
                      refine y_virt rfl rfl rfl rfl rfl (ySh.t hS rfl) (ySh.n hS rfl) ?_
                      refine spu_add_X4 hS hC (fun I76 hC hF1 => ?_)
                      have hF : yFu I I76 := yFu.trans (by repeat (first | exact hF | refine yFu.upd ?_ (by decide))) hF1.t
                      have hd : (I76 34 8).toInt = (I 34 8).toInt := congrArg Int32.toInt (hF1 34 8 (Or.inl (by decide)))
                      refine y_ret0 ?_
                      refine y_aload_n rfl rfl ?_
                      refine y_getR rfl (ySh.t hS rfl) (ySh.n hS rfl) rfl rfl (ySh.r hS rfl) ?_
                      refine y_iload_n rfl rfl ?_
                      refine y_virt rfl rfl rfl rfl rfl (ySh.t hS rfl) (ySh.n hS rfl) ?_
                      refine sp_capitals_X7 hS hC (by omega) (by omega) (fun v_ => ?_)
                      refine y_ret1 ?_
                      refine y_ireturn rfl rfl rfl ?_
                      exact hQ _ _ hC (by repeat (first | exact hF | refine yFu.upd ?_ (by decide)))
                  · rw [yz_m2] at h_62
                    refine y_aload_n rfl rfl ?_
                    refine y_getR rfl (ySh.t hS rfl) (ySh.n hS rfl) rfl rfl (ySh.r hS rfl) ?_
                    refine y_iload_n rfl rfl ?_
                    refine y_iload_n rfl rfl ?_
                    refine y_ineg rfl ?_
                    refine y_virt rfl rfl rfl rfl rfl (ySh.t hS rfl) (ySh.n hS rfl) ?_
                    refine spu_bearLoss hS hC (by omega) (by omega) (fun I77 hC hF1 => ?_)
                    have hF : yFu I I77 := yFu.trans (by repeat (first | exact hF | refine yFu.upd ?_ (by decide))) hF1.t
                    have hd : (I77 34 8).toInt = (I 34 8).toInt := congrArg Int32.toInt (hF1 34 8 (Or.inl (by decide)))
                    refine y_ret0 ?_
                    refine y_goto rfl j_X8_result_136 ?_
                    refine y_aload_n rfl rfl ?_
                    refine y_getR rfl (ySh.t hS rfl) (ySh.n hS rfl) rfl rfl (ySh.r hS rfl) ?_
                    refine y_iload_n rfl rfl ?_
                    refine y_virt rfl rfl rfl rfl rfl (ySh.t hS rfl) (ySh.n hS rfl) ?_
                    refine sp_capitals_X7 hS hC (by omega) (by omega) (fun v_ => ?_)
                    refine y_ret1 ?_
                    refine y_ireturn rfl rfl rfl ?_
                    exact hQ _ _ hC (by repeat (first | exact hF | refine yFu.upd ?_ (by decide)))
                · refine y_aload_n rfl rfl ?_
                  refine y_iload_n rfl rfl ?_
                  refine y_iload_n rfl rfl ?_
                  refine y_virt rfl rfl rfl rfl rfl (ySh.t hS rfl) (ySh.n hS rfl) ?_
                  refine spu_shareProfit_X8 hS hC (by omega) (by omega) (fun I78 hC hF1 => ?_)
                  have hF : yFu I I78 := yFu.trans (by repeat (first | exact hF | refine yFu.upd ?_ (by decide))) hF1.t
                  have hd : (I78 34 8).toInt = (I 34 8).toInt := congrArg Int32.toInt (hF1 34 8 (Or.inl (by decide)))
                  refine y_ret0 ?_
                  refine y_goto rfl j_X8_result_136 ?_
                  refine y_aload_n rfl rfl ?_
                  refine y_getR rfl (ySh.t hS rfl) (ySh.n hS rfl) rfl rfl (ySh.r hS rfl) ?_
                  refine y_iload_n rfl rfl ?_
                  refine y_virt rfl rfl rfl rfl rfl (ySh.t hS rfl) (ySh.n hS rfl) ?_
                  refine sp_capitals_X7 hS hC (by omega) (by omega) (fun v_ => ?_)
                  refine y_ret1 ?_
                  refine y_ireturn rfl rfl rfl ?_
                  exact hQ _ _ hC (by repeat (first | exact hF | refine yFu.upd ?_ (by decide)))
              · rw [yz_m2] at h_58
                refine y_aload_n rfl rfl ?_
                refine y_getR rfl (ySh.t hS rfl) (ySh.n hS rfl) rfl rfl (ySh.r hS rfl) ?_
                refine y_iload_n rfl rfl ?_
                refine y_iload_n rfl rfl ?_
                refine y_static rfl rfl rfl rfl rfl ?_
                refine y_in (M := xm_X8_placeOf) (ls := [some _]) rfl rfl rfl ?_
                refine y_iload_n rfl rfl ?_
                refine y_iconst rfl ?_
                refine y_icmp_ne rfl j_X8_placeOf_10 (fun h_69 => ?_) (fun h_70 => ?_)
                · rw [yz_m1] at h_69
                  refine y_iload_n rfl rfl ?_
                  refine y_ireturn rfl rfl rfl ?_
                  refine y_ret1 ?_
                  refine y_virt rfl rfl rfl rfl rfl (ySh.t hS rfl) (ySh.n hS rfl) ?_
                  refine y_in (M := xm_X7_isPartner) (ls := [some _, some _, some _]) rfl rfl rfl ?_
                  refine y_aload_n rfl rfl ?_
                  refine y_getR rfl (ySh.t hS rfl) (ySh.n hS rfl) rfl rfl (ySh.r hS rfl) ?_
                  refine y_aload_n rfl rfl ?_
                  refine y_iload_n rfl rfl ?_
                  refine y_iload_n rfl rfl ?_
                  refine y_virt rfl rfl rfl rfl rfl (ySh.t hS rfl) (ySh.n hS rfl) ?_
                  refine sp_at (by omega) (by omega) (by omega) (by omega) (fun z_ hz71 => ?_)
                  refine y_ret1 ?_
                  refine y_baload rfl (ySh.t hS rfl) rfl (ySh.n hS rfl) (by omega) (by omega) ?_
                  refine y_ireturn rfl rfl (xfit_z (hC.p _)) ?_
                  refine y_ret1 ?_
                  refine y_if_ne rfl j_X8_result_92 (fun h_72 => ?_) (fun h_73 => ?_)
                  · refine y_iload_n rfl rfl ?_
                    refine y_if_lt rfl j_X8_result_105 (fun h_74 => ?_) (fun h_75 => ?_)
                    · refine y_iload_n rfl rfl ?_
                      refine y_bip rfl (by decide) ?_
                      refine y_icmp_ne rfl j_X8_result_124 (fun h_76 => ?_) (fun h_77 => ?_)
                      · rw [yz_m2] at h_76
                        refine y_aload_n rfl rfl ?_
                        refine y_getR rfl (ySh.t hS rfl) (ySh.n hS rfl) rfl rfl (ySh.r hS rfl) ?_
                        refine y_iload_n rfl rfl ?_
                        refine y_static rfl rfl rfl rfl rfl ?_
                        refine y_in (M := xm_X8_placeOf) (ls := [some _]) rfl rfl rfl ?_
                        refine y_iload_n rfl rfl ?_
                        refine y_iconst rfl ?_
                        refine y_icmp_ne rfl j_X8_placeOf_10 (fun h_78 => ?_) (fun h_79 => ?_)
                        · rw [yz_m1] at h_78
                          refine y_iload_n rfl rfl ?_
                          refine y_ireturn rfl rfl rfl ?_
                          refine y_ret1 ?_
                          refine y_iload_n rfl rfl ?_
                          refine y_virt rfl rfl rfl rfl rfl (ySh.t hS rfl) (ySh.n hS rfl) ?_
                          refine spu_add_X4 hS hC (fun I90 hC hF1 => ?_)
                          have hF : yFu I I90 := yFu.trans (by repeat (first | exact hF | refine yFu.upd ?_ (by decide))) hF1.t
                          have hd : (I90 34 8).toInt = (I 34 8).toInt := congrArg Int32.toInt (hF1 34 8 (Or.inl (by decide)))
                          refine y_ret0 ?_
                          refine y_aload_n rfl rfl ?_
                          refine y_getR rfl (ySh.t hS rfl) (ySh.n hS rfl) rfl rfl (ySh.r hS rfl) ?_
                          refine y_iload_n rfl rfl ?_
                          refine y_virt rfl rfl rfl rfl rfl (ySh.t hS rfl) (ySh.n hS rfl) ?_
                          refine sp_capitals_X7 hS hC (by omega) (by omega) (fun v_ => ?_)
                          refine y_ret1 ?_
                          refine y_ireturn rfl rfl rfl ?_
                          exact hQ _ _ hC (by repeat (first | exact hF | refine yFu.upd ?_ (by decide)))
                        · rw [yz_m1] at h_79
                          refine y_bip rfl (by decide) ?_
                          refine y_goto rfl j_X8_placeOf_11 ?_
                          refine y_ireturn rfl rfl rfl ?_
                          refine y_ret1 ?_
                          refine y_iload_n rfl rfl ?_
                          refine y_virt rfl rfl rfl rfl rfl (ySh.t hS rfl) (ySh.n hS rfl) ?_
                          refine spu_add_X4 hS hC (fun I91 hC hF1 => ?_)
                          have hF : yFu I I91 := yFu.trans (by repeat (first | exact hF | refine yFu.upd ?_ (by decide))) hF1.t
                          have hd : (I91 34 8).toInt = (I 34 8).toInt := congrArg Int32.toInt (hF1 34 8 (Or.inl (by decide)))
                          refine y_ret0 ?_
                          refine y_aload_n rfl rfl ?_
                          refine y_getR rfl (ySh.t hS rfl) (ySh.n hS rfl) rfl rfl (ySh.r hS rfl) ?_
                          refine y_iload_n rfl rfl ?_
                          refine y_virt rfl rfl rfl rfl rfl (ySh.t hS rfl) (ySh.n hS rfl) ?_
                          refine sp_capitals_X7 hS hC (by omega) (by omega) (fun v_ => ?_)
                          refine y_ret1 ?_
                          refine y_ireturn rfl rfl rfl ?_
                          exact hQ _ _ hC (by repeat (first | exact hF | refine yFu.upd ?_ (by decide)))
                      · rw [yz_m2] at h_77
                        refine y_aload_n rfl rfl ?_
                        refine y_getR rfl (ySh.t hS rfl) (ySh.n hS rfl) rfl rfl (ySh.r hS rfl) ?_
                        refine y_iload_n rfl rfl ?_
                        refine y_iload_n rfl rfl ?_
                        refine y_ineg rfl ?_
                        refine y_virt rfl rfl rfl rfl rfl (ySh.t hS rfl) (ySh.n hS rfl) ?_
                        refine spu_bearLoss hS hC (by omega) (by omega) (fun I92 hC hF1 => ?_)
                        have hF : yFu I I92 := yFu.trans (by repeat (first | exact hF | refine yFu.upd ?_ (by decide))) hF1.t
                        have hd : (I92 34 8).toInt = (I 34 8).toInt := congrArg Int32.toInt (hF1 34 8 (Or.inl (by decide)))
                        refine y_ret0 ?_
                        refine y_goto rfl j_X8_result_136 ?_
                        refine y_aload_n rfl rfl ?_
                        refine y_getR rfl (ySh.t hS rfl) (ySh.n hS rfl) rfl rfl (ySh.r hS rfl) ?_
                        refine y_iload_n rfl rfl ?_
                        refine y_virt rfl rfl rfl rfl rfl (ySh.t hS rfl) (ySh.n hS rfl) ?_
                        refine sp_capitals_X7 hS hC (by omega) (by omega) (fun v_ => ?_)
                        refine y_ret1 ?_
                        refine y_ireturn rfl rfl rfl ?_
                        exact hQ _ _ hC (by repeat (first | exact hF | refine yFu.upd ?_ (by decide)))
                    · refine y_aload_n rfl rfl ?_
                      refine y_iload_n rfl rfl ?_
                      refine y_iload_n rfl rfl ?_
                      refine y_virt rfl rfl rfl rfl rfl (ySh.t hS rfl) (ySh.n hS rfl) ?_
                      refine spu_shareProfit_X8 hS hC (by omega) (by omega) (fun I93 hC hF1 => ?_)
                      have hF : yFu I I93 := yFu.trans (by repeat (first | exact hF | refine yFu.upd ?_ (by decide))) hF1.t
                      have hd : (I93 34 8).toInt = (I 34 8).toInt := congrArg Int32.toInt (hF1 34 8 (Or.inl (by decide)))
                      refine y_ret0 ?_
                      refine y_goto rfl j_X8_result_136 ?_
                      refine y_aload_n rfl rfl ?_
                      refine y_getR rfl (ySh.t hS rfl) (ySh.n hS rfl) rfl rfl (ySh.r hS rfl) ?_
                      refine y_iload_n rfl rfl ?_
                      refine y_virt rfl rfl rfl rfl rfl (ySh.t hS rfl) (ySh.n hS rfl) ?_
                      refine sp_capitals_X7 hS hC (by omega) (by omega) (fun v_ => ?_)
                      refine y_ret1 ?_
                      refine y_ireturn rfl rfl rfl ?_
                      exact hQ _ _ hC (by repeat (first | exact hF | refine yFu.upd ?_ (by decide)))
                  · refine y_throw rfl rfl rfl ?_
                    exact hE2
                · rw [yz_m1] at h_70
                  refine y_bip rfl (by decide) ?_
                  refine y_goto rfl j_X8_placeOf_11 ?_
                  refine y_ireturn rfl rfl rfl ?_
                  refine y_ret1 ?_
                  refine y_virt rfl rfl rfl rfl rfl (ySh.t hS rfl) (ySh.n hS rfl) ?_
                  refine y_in (M := xm_X7_isPartner) (ls := [some _, some _, some _]) rfl rfl rfl ?_
                  refine y_aload_n rfl rfl ?_
                  refine y_getR rfl (ySh.t hS rfl) (ySh.n hS rfl) rfl rfl (ySh.r hS rfl) ?_
                  refine y_aload_n rfl rfl ?_
                  refine y_iload_n rfl rfl ?_
                  refine y_iload_n rfl rfl ?_
                  refine y_virt rfl rfl rfl rfl rfl (ySh.t hS rfl) (ySh.n hS rfl) ?_
                  refine sp_at (by omega) (by omega) (by decide) (by decide) (fun z_ hz84 => ?_)
                  rw [yz_8] at hz84
                  refine y_ret1 ?_
                  refine y_baload rfl (ySh.t hS rfl) rfl (ySh.n hS rfl) (by omega) (by omega) ?_
                  refine y_ireturn rfl rfl (xfit_z (hC.p _)) ?_
                  refine y_ret1 ?_
                  refine y_if_ne rfl j_X8_result_92 (fun h_85 => ?_) (fun h_86 => ?_)
                  · refine y_iload_n rfl rfl ?_
                    refine y_if_lt rfl j_X8_result_105 (fun h_87 => ?_) (fun h_88 => ?_)
                    · refine y_iload_n rfl rfl ?_
                      refine y_bip rfl (by decide) ?_
                      refine y_icmp_ne rfl j_X8_result_124 (fun h_89 => ?_) (fun h_90 => ?_)
                      · rw [yz_m2] at h_89
                        refine y_aload_n rfl rfl ?_
                        refine y_getR rfl (ySh.t hS rfl) (ySh.n hS rfl) rfl rfl (ySh.r hS rfl) ?_
                        refine y_iload_n rfl rfl ?_
                        refine y_static rfl rfl rfl rfl rfl ?_
                        refine y_in (M := xm_X8_placeOf) (ls := [some _]) rfl rfl rfl ?_
                        refine y_iload_n rfl rfl ?_
                        refine y_iconst rfl ?_
                        refine y_icmp_ne rfl j_X8_placeOf_10 (fun h_91 => ?_) (fun h_92 => ?_)
                        · rw [yz_m1] at h_91
                          refine y_iload_n rfl rfl ?_
                          refine y_ireturn rfl rfl rfl ?_
                          refine y_ret1 ?_
                          refine y_iload_n rfl rfl ?_
                          refine y_virt rfl rfl rfl rfl rfl (ySh.t hS rfl) (ySh.n hS rfl) ?_
                          refine spu_add_X4 hS hC (fun I103 hC hF1 => ?_)
                          have hF : yFu I I103 := yFu.trans (by repeat (first | exact hF | refine yFu.upd ?_ (by decide))) hF1.t
                          have hd : (I103 34 8).toInt = (I 34 8).toInt := congrArg Int32.toInt (hF1 34 8 (Or.inl (by decide)))
                          refine y_ret0 ?_
                          refine y_aload_n rfl rfl ?_
                          refine y_getR rfl (ySh.t hS rfl) (ySh.n hS rfl) rfl rfl (ySh.r hS rfl) ?_
                          refine y_iload_n rfl rfl ?_
                          refine y_virt rfl rfl rfl rfl rfl (ySh.t hS rfl) (ySh.n hS rfl) ?_
                          refine sp_capitals_X7 hS hC (by omega) (by omega) (fun v_ => ?_)
                          refine y_ret1 ?_
                          refine y_ireturn rfl rfl rfl ?_
                          exact hQ _ _ hC (by repeat (first | exact hF | refine yFu.upd ?_ (by decide)))
                        · rw [yz_m1] at h_92
                          refine y_bip rfl (by decide) ?_
                          refine y_goto rfl j_X8_placeOf_11 ?_
                          refine y_ireturn rfl rfl rfl ?_
                          refine y_ret1 ?_
                          refine y_iload_n rfl rfl ?_
                          refine y_virt rfl rfl rfl rfl rfl (ySh.t hS rfl) (ySh.n hS rfl) ?_
                          refine spu_add_X4 hS hC (fun I104 hC hF1 => ?_)
                          have hF : yFu I I104 := yFu.trans (by repeat (first | exact hF | refine yFu.upd ?_ (by decide))) hF1.t
                          have hd : (I104 34 8).toInt = (I 34 8).toInt := congrArg Int32.toInt (hF1 34 8 (Or.inl (by decide)))
                          refine y_ret0 ?_
                          refine y_aload_n rfl rfl ?_
                          refine y_getR rfl (ySh.t hS rfl) (ySh.n hS rfl) rfl rfl (ySh.r hS rfl) ?_
                          refine y_iload_n rfl rfl ?_
                          refine y_virt rfl rfl rfl rfl rfl (ySh.t hS rfl) (ySh.n hS rfl) ?_
                          refine sp_capitals_X7 hS hC (by omega) (by omega) (fun v_ => ?_)
                          refine y_ret1 ?_
                          refine y_ireturn rfl rfl rfl ?_
                          exact hQ _ _ hC (by repeat (first | exact hF | refine yFu.upd ?_ (by decide)))
                      · rw [yz_m2] at h_90
                        refine y_aload_n rfl rfl ?_
                        refine y_getR rfl (ySh.t hS rfl) (ySh.n hS rfl) rfl rfl (ySh.r hS rfl) ?_
                        refine y_iload_n rfl rfl ?_
                        refine y_iload_n rfl rfl ?_
                        refine y_ineg rfl ?_
                        refine y_virt rfl rfl rfl rfl rfl (ySh.t hS rfl) (ySh.n hS rfl) ?_
                        refine spu_bearLoss hS hC (by omega) (by omega) (fun I105 hC hF1 => ?_)
                        have hF : yFu I I105 := yFu.trans (by repeat (first | exact hF | refine yFu.upd ?_ (by decide))) hF1.t
                        have hd : (I105 34 8).toInt = (I 34 8).toInt := congrArg Int32.toInt (hF1 34 8 (Or.inl (by decide)))
                        refine y_ret0 ?_
                        refine y_goto rfl j_X8_result_136 ?_
                        refine y_aload_n rfl rfl ?_
                        refine y_getR rfl (ySh.t hS rfl) (ySh.n hS rfl) rfl rfl (ySh.r hS rfl) ?_
                        refine y_iload_n rfl rfl ?_
                        refine y_virt rfl rfl rfl rfl rfl (ySh.t hS rfl) (ySh.n hS rfl) ?_
                        refine sp_capitals_X7 hS hC (by omega) (by omega) (fun v_ => ?_)
                        refine y_ret1 ?_
                        refine y_ireturn rfl rfl rfl ?_
                        exact hQ _ _ hC (by repeat (first | exact hF | refine yFu.upd ?_ (by decide)))
                    · refine y_aload_n rfl rfl ?_
                      refine y_iload_n rfl rfl ?_
                      refine y_iload_n rfl rfl ?_
                      refine y_virt rfl rfl rfl rfl rfl (ySh.t hS rfl) (ySh.n hS rfl) ?_
                      refine spu_shareProfit_X8 hS hC (by omega) (by omega) (fun I106 hC hF1 => ?_)
                      have hF : yFu I I106 := yFu.trans (by repeat (first | exact hF | refine yFu.upd ?_ (by decide))) hF1.t
                      have hd : (I106 34 8).toInt = (I 34 8).toInt := congrArg Int32.toInt (hF1 34 8 (Or.inl (by decide)))
                      refine y_ret0 ?_
                      refine y_goto rfl j_X8_result_136 ?_
                      refine y_aload_n rfl rfl ?_
                      refine y_getR rfl (ySh.t hS rfl) (ySh.n hS rfl) rfl rfl (ySh.r hS rfl) ?_
                      refine y_iload_n rfl rfl ?_
                      refine y_virt rfl rfl rfl rfl rfl (ySh.t hS rfl) (ySh.n hS rfl) ?_
                      refine sp_capitals_X7 hS hC (by omega) (by omega) (fun v_ => ?_)
                      refine y_ret1 ?_
                      refine y_ireturn rfl rfl rfl ?_
                      exact hQ _ _ hC (by repeat (first | exact hF | refine yFu.upd ?_ (by decide)))
                  · refine y_throw rfl rfl rfl ?_
                    exact hE2
        · rw [yz_m1] at h_52
          refine y_aload_n rfl rfl ?_
          refine y_getR rfl (ySh.t hS rfl) (ySh.n hS rfl) rfl rfl (ySh.r hS rfl) ?_
          refine y_iload_n rfl rfl ?_
          refine y_virt rfl rfl rfl rfl rfl (ySh.t hS rfl) (ySh.n hS rfl) ?_
          refine y_in (M := xm_X4_has) (ls := [some _, some _]) rfl rfl rfl ?_
          refine y_iload_n rfl rfl ?_
          refine y_if_lt rfl j_X4_has_16 (fun h_97 => ?_) (fun h_98 => ?_)
          · refine y_iconst rfl ?_
            refine y_ireturn rfl rfl rfl ?_
            refine y_ret1 ?_
            refine y_if_eqT rfl j_X8_isParty_20 (by decide) ?_
            refine y_iconst rfl ?_
            refine y_ireturn rfl rfl rfl ?_
            refine y_ret1 ?_
            refine y_if_neF rfl (by decide) ?_
            refine y_throw rfl rfl rfl ?_
            exact hE0
          · refine y_iload_n rfl rfl ?_
            refine y_aload_n rfl rfl ?_
            refine y_getI rfl (ySh.t hS rfl) (ySh.n hS rfl) rfl rfl ?_
            refine y_icmp_ge rfl j_X4_has_16 (fun h_99 => ?_) (fun h_100 => ?_)
            · refine y_iconst rfl ?_
              refine y_ireturn rfl rfl rfl ?_
              refine y_ret1 ?_
              refine y_if_eqT rfl j_X8_isParty_20 (by decide) ?_
              refine y_iconst rfl ?_
              refine y_ireturn rfl rfl rfl ?_
              refine y_ret1 ?_
              refine y_if_neF rfl (by decide) ?_
              refine y_throw rfl rfl rfl ?_
              exact hE0
            · refine y_iconst rfl ?_
              refine y_goto rfl j_X4_has_17 ?_
              refine y_ireturn rfl rfl rfl ?_
              refine y_ret1 ?_
              refine y_if_eqF rfl (by decide) ?_
              refine y_iconst rfl ?_
              refine y_goto rfl j_X8_isParty_21 ?_
              refine y_ireturn rfl rfl rfl ?_
              refine y_ret1 ?_
              refine y_if_neT rfl j_X8_result_36 (by decide) ?_
              refine y_iload_n rfl rfl ?_
              refine y_sip rfl (by decide) ?_
              refine y_sip rfl (by decide) ?_
              refine y_static rfl rfl rfl rfl rfl ?_
              refine y_in (M := xm_X8_isIn) (ls := [some _, some _, some _]) rfl rfl rfl ?_
              refine y_iload_n rfl rfl ?_
              refine y_iload_n rfl rfl ?_
              refine y_icmp_lt rfl j_X8_isIn_14 (fun h_101 => ?_) (fun h_102 => ?_)
              · rw [yz_m999] at h_101
                refine y_iconst rfl ?_
                refine y_ireturn rfl rfl rfl ?_
                refine y_ret1 ?_
                refine y_if_neF rfl (by decide) ?_
                refine y_throw rfl rfl rfl ?_
                exact hE1
              · rw [yz_m999] at h_102
                refine y_iload_n rfl rfl ?_
                refine y_iload_n rfl rfl ?_
                refine y_icmp_gt rfl j_X8_isIn_14 (fun h_103 => ?_) (fun h_104 => ?_)
                · rw [yz_999] at h_103
                  refine y_iconst rfl ?_
                  refine y_ireturn rfl rfl rfl ?_
                  refine y_ret1 ?_
                  refine y_if_neF rfl (by decide) ?_
                  refine y_throw rfl rfl rfl ?_
                  exact hE1
                · rw [yz_999] at h_104
                  refine y_iconst rfl ?_
                  refine y_goto rfl j_X8_isIn_15 ?_
                  refine y_ireturn rfl rfl rfl ?_
                  refine y_ret1 ?_
                  refine y_if_neT rfl j_X8_result_60 (by decide) ?_
                  refine y_iload_n rfl rfl ?_
                  refine y_bip rfl (by decide) ?_
                  refine y_icmp_eq rfl j_X8_result_92 (fun h_105 => ?_) (fun h_106 => ?_)
                  · rw [yz_m2] at h_105
                    refine y_iload_n rfl rfl ?_
                    refine y_if_lt rfl j_X8_result_105 (fun h_107 => ?_) (fun h_108 => ?_)
                    · refine y_iload_n rfl rfl ?_
                      refine y_bip rfl (by decide) ?_
                      refine y_icmp_ne rfl j_X8_result_124 (fun h_109 => ?_) (fun h_110 => ?_)
                      · rw [yz_m2] at h_109
                        refine y_aload_n rfl rfl ?_
                        refine y_getR rfl (ySh.t hS rfl) (ySh.n hS rfl) rfl rfl (ySh.r hS rfl) ?_
                        refine y_iload_n rfl rfl ?_
                        refine y_static rfl rfl rfl rfl rfl ?_
                        refine y_in (M := xm_X8_placeOf) (ls := [some _]) rfl rfl rfl ?_
                        refine y_iload_n rfl rfl ?_
                        refine y_iconst rfl ?_
                        refine y_icmp_ne rfl j_X8_placeOf_10 (fun h_111 => ?_) (fun h_112 => ?_)
                        · rw [yz_m1] at h_111
                          refine y_iload_n rfl rfl ?_
                          refine y_ireturn rfl rfl rfl ?_
                          refine y_ret1 ?_
                          refine y_iload_n rfl rfl ?_
                          refine y_virt rfl rfl rfl rfl rfl (ySh.t hS rfl) (ySh.n hS rfl) ?_
                          refine spu_add_X4 hS hC (fun I123 hC hF1 => ?_)
                          have hF : yFu I I123 := yFu.trans (by repeat (first | exact hF | refine yFu.upd ?_ (by decide))) hF1.t
                          have hd : (I123 34 8).toInt = (I 34 8).toInt := congrArg Int32.toInt (hF1 34 8 (Or.inl (by decide)))
                          refine y_ret0 ?_
                          refine y_aload_n rfl rfl ?_
                          refine y_getR rfl (ySh.t hS rfl) (ySh.n hS rfl) rfl rfl (ySh.r hS rfl) ?_
                          refine y_iload_n rfl rfl ?_
                          refine y_virt rfl rfl rfl rfl rfl (ySh.t hS rfl) (ySh.n hS rfl) ?_
                          refine sp_capitals_X7 hS hC (by omega) (by omega) (fun v_ => ?_)
                          refine y_ret1 ?_
                          refine y_ireturn rfl rfl rfl ?_
                          exact hQ _ _ hC (by repeat (first | exact hF | refine yFu.upd ?_ (by decide)))
                        · rw [yz_m1] at h_112
                          refine y_bip rfl (by decide) ?_
                          refine y_goto rfl j_X8_placeOf_11 ?_
                          refine y_ireturn rfl rfl rfl ?_
                          refine y_ret1 ?_
                          refine y_iload_n rfl rfl ?_
                          refine y_virt rfl rfl rfl rfl rfl (ySh.t hS rfl) (ySh.n hS rfl) ?_
                          refine spu_add_X4 hS hC (fun I124 hC hF1 => ?_)
                          have hF : yFu I I124 := yFu.trans (by repeat (first | exact hF | refine yFu.upd ?_ (by decide))) hF1.t
                          have hd : (I124 34 8).toInt = (I 34 8).toInt := congrArg Int32.toInt (hF1 34 8 (Or.inl (by decide)))
                          refine y_ret0 ?_
                          refine y_aload_n rfl rfl ?_
                          refine y_getR rfl (ySh.t hS rfl) (ySh.n hS rfl) rfl rfl (ySh.r hS rfl) ?_
                          refine y_iload_n rfl rfl ?_
                          refine y_virt rfl rfl rfl rfl rfl (ySh.t hS rfl) (ySh.n hS rfl) ?_
                          refine sp_capitals_X7 hS hC (by omega) (by omega) (fun v_ => ?_)
                          refine y_ret1 ?_
                          refine y_ireturn rfl rfl rfl ?_
                          exact hQ _ _ hC (by repeat (first | exact hF | refine yFu.upd ?_ (by decide)))
                      · rw [yz_m2] at h_110
                        refine y_aload_n rfl rfl ?_
                        refine y_getR rfl (ySh.t hS rfl) (ySh.n hS rfl) rfl rfl (ySh.r hS rfl) ?_
                        refine y_iload_n rfl rfl ?_
                        refine y_iload_n rfl rfl ?_
                        refine y_ineg rfl ?_
                        refine y_virt rfl rfl rfl rfl rfl (ySh.t hS rfl) (ySh.n hS rfl) ?_
                        refine spu_bearLoss hS hC (by omega) (by omega) (fun I125 hC hF1 => ?_)
                        have hF : yFu I I125 := yFu.trans (by repeat (first | exact hF | refine yFu.upd ?_ (by decide))) hF1.t
                        have hd : (I125 34 8).toInt = (I 34 8).toInt := congrArg Int32.toInt (hF1 34 8 (Or.inl (by decide)))
                        refine y_ret0 ?_
                        refine y_goto rfl j_X8_result_136 ?_
                        refine y_aload_n rfl rfl ?_
                        refine y_getR rfl (ySh.t hS rfl) (ySh.n hS rfl) rfl rfl (ySh.r hS rfl) ?_
                        refine y_iload_n rfl rfl ?_
                        refine y_virt rfl rfl rfl rfl rfl (ySh.t hS rfl) (ySh.n hS rfl) ?_
                        refine sp_capitals_X7 hS hC (by omega) (by omega) (fun v_ => ?_)
                        refine y_ret1 ?_
                        refine y_ireturn rfl rfl rfl ?_
                        exact hQ _ _ hC (by repeat (first | exact hF | refine yFu.upd ?_ (by decide)))
                    · refine y_aload_n rfl rfl ?_
                      refine y_iload_n rfl rfl ?_
                      refine y_iload_n rfl rfl ?_
                      refine y_virt rfl rfl rfl rfl rfl (ySh.t hS rfl) (ySh.n hS rfl) ?_
                      refine spu_shareProfit_X8 hS hC (by omega) (by omega) (fun I126 hC hF1 => ?_)
                      have hF : yFu I I126 := yFu.trans (by repeat (first | exact hF | refine yFu.upd ?_ (by decide))) hF1.t
                      have hd : (I126 34 8).toInt = (I 34 8).toInt := congrArg Int32.toInt (hF1 34 8 (Or.inl (by decide)))
                      refine y_ret0 ?_
                      refine y_goto rfl j_X8_result_136 ?_
                      refine y_aload_n rfl rfl ?_
                      refine y_getR rfl (ySh.t hS rfl) (ySh.n hS rfl) rfl rfl (ySh.r hS rfl) ?_
                      refine y_iload_n rfl rfl ?_
                      refine y_virt rfl rfl rfl rfl rfl (ySh.t hS rfl) (ySh.n hS rfl) ?_
                      refine sp_capitals_X7 hS hC (by omega) (by omega) (fun v_ => ?_)
                      refine y_ret1 ?_
                      refine y_ireturn rfl rfl rfl ?_
                      exact hQ _ _ hC (by repeat (first | exact hF | refine yFu.upd ?_ (by decide)))
                  · rw [yz_m2] at h_106
                    refine y_aload_n rfl rfl ?_
                    refine y_getR rfl (ySh.t hS rfl) (ySh.n hS rfl) rfl rfl (ySh.r hS rfl) ?_
                    refine y_iload_n rfl rfl ?_
                    refine y_iload_n rfl rfl ?_
                    refine y_static rfl rfl rfl rfl rfl ?_
                    refine y_in (M := xm_X8_placeOf) (ls := [some _]) rfl rfl rfl ?_
                    refine y_iload_n rfl rfl ?_
                    refine y_iconst rfl ?_
                    refine y_icmp_ne rfl j_X8_placeOf_10 (fun h_117 => ?_) (fun h_118 => ?_)
                    · rw [yz_m1] at h_117
                      refine y_iload_n rfl rfl ?_
                      refine y_ireturn rfl rfl rfl ?_
                      refine y_ret1 ?_
                      refine y_virt rfl rfl rfl rfl rfl (ySh.t hS rfl) (ySh.n hS rfl) ?_
                      refine y_in (M := xm_X7_isPartner) (ls := [some _, some _, some _]) rfl rfl rfl ?_
                      refine y_aload_n rfl rfl ?_
                      refine y_getR rfl (ySh.t hS rfl) (ySh.n hS rfl) rfl rfl (ySh.r hS rfl) ?_
                      refine y_aload_n rfl rfl ?_
                      refine y_iload_n rfl rfl ?_
                      refine y_iload_n rfl rfl ?_
                      refine y_virt rfl rfl rfl rfl rfl (ySh.t hS rfl) (ySh.n hS rfl) ?_
                      refine sp_at (by omega) (by omega) (by omega) (by omega) (fun z_ hz119 => ?_)
                      refine y_ret1 ?_
                      refine y_baload rfl (ySh.t hS rfl) rfl (ySh.n hS rfl) (by omega) (by omega) ?_
                      refine y_ireturn rfl rfl (xfit_z (hC.p _)) ?_
                      refine y_ret1 ?_
                      refine y_if_ne rfl j_X8_result_92 (fun h_120 => ?_) (fun h_121 => ?_)
                      · refine y_iload_n rfl rfl ?_
                        refine y_if_lt rfl j_X8_result_105 (fun h_122 => ?_) (fun h_123 => ?_)
                        · refine y_iload_n rfl rfl ?_
                          refine y_bip rfl (by decide) ?_
                          refine y_icmp_ne rfl j_X8_result_124 (fun h_124 => ?_) (fun h_125 => ?_)
                          · rw [yz_m2] at h_124
                            refine y_aload_n rfl rfl ?_
                            refine y_getR rfl (ySh.t hS rfl) (ySh.n hS rfl) rfl rfl (ySh.r hS rfl) ?_
                            refine y_iload_n rfl rfl ?_
                            refine y_static rfl rfl rfl rfl rfl ?_
                            refine y_in (M := xm_X8_placeOf) (ls := [some _]) rfl rfl rfl ?_
                            refine y_iload_n rfl rfl ?_
                            refine y_iconst rfl ?_
                            refine y_icmp_ne rfl j_X8_placeOf_10 (fun h_126 => ?_) (fun h_127 => ?_)
                            · rw [yz_m1] at h_126
                              refine y_iload_n rfl rfl ?_
                              refine y_ireturn rfl rfl rfl ?_
                              refine y_ret1 ?_
                              refine y_iload_n rfl rfl ?_
                              refine y_virt rfl rfl rfl rfl rfl (ySh.t hS rfl) (ySh.n hS rfl) ?_
                              refine spu_add_X4 hS hC (fun I138 hC hF1 => ?_)
                              have hF : yFu I I138 := yFu.trans (by repeat (first | exact hF | refine yFu.upd ?_ (by decide))) hF1.t
                              have hd : (I138 34 8).toInt = (I 34 8).toInt := congrArg Int32.toInt (hF1 34 8 (Or.inl (by decide)))
                              refine y_ret0 ?_
                              refine y_aload_n rfl rfl ?_
                              refine y_getR rfl (ySh.t hS rfl) (ySh.n hS rfl) rfl rfl (ySh.r hS rfl) ?_
                              refine y_iload_n rfl rfl ?_
                              refine y_virt rfl rfl rfl rfl rfl (ySh.t hS rfl) (ySh.n hS rfl) ?_
                              refine sp_capitals_X7 hS hC (by omega) (by omega) (fun v_ => ?_)
                              refine y_ret1 ?_
                              refine y_ireturn rfl rfl rfl ?_
                              exact hQ _ _ hC (by repeat (first | exact hF | refine yFu.upd ?_ (by decide)))
                            · rw [yz_m1] at h_127
                              refine y_bip rfl (by decide) ?_
                              refine y_goto rfl j_X8_placeOf_11 ?_
                              refine y_ireturn rfl rfl rfl ?_
                              refine y_ret1 ?_
                              refine y_iload_n rfl rfl ?_
                              refine y_virt rfl rfl rfl rfl rfl (ySh.t hS rfl) (ySh.n hS rfl) ?_
                              refine spu_add_X4 hS hC (fun I139 hC hF1 => ?_)
                              have hF : yFu I I139 := yFu.trans (by repeat (first | exact hF | refine yFu.upd ?_ (by decide))) hF1.t
                              have hd : (I139 34 8).toInt = (I 34 8).toInt := congrArg Int32.toInt (hF1 34 8 (Or.inl (by decide)))
                              refine y_ret0 ?_
                              refine y_aload_n rfl rfl ?_
                              refine y_getR rfl (ySh.t hS rfl) (ySh.n hS rfl) rfl rfl (ySh.r hS rfl) ?_
                              refine y_iload_n rfl rfl ?_
                              refine y_virt rfl rfl rfl rfl rfl (ySh.t hS rfl) (ySh.n hS rfl) ?_
                              refine sp_capitals_X7 hS hC (by omega) (by omega) (fun v_ => ?_)
                              refine y_ret1 ?_
                              refine y_ireturn rfl rfl rfl ?_
                              exact hQ _ _ hC (by repeat (first | exact hF | refine yFu.upd ?_ (by decide)))
                          · rw [yz_m2] at h_125
                            refine y_aload_n rfl rfl ?_
                            refine y_getR rfl (ySh.t hS rfl) (ySh.n hS rfl) rfl rfl (ySh.r hS rfl) ?_
                            refine y_iload_n rfl rfl ?_
                            refine y_iload_n rfl rfl ?_
                            refine y_ineg rfl ?_
                            refine y_virt rfl rfl rfl rfl rfl (ySh.t hS rfl) (ySh.n hS rfl) ?_
                            refine spu_bearLoss hS hC (by omega) (by omega) (fun I140 hC hF1 => ?_)
                            have hF : yFu I I140 := yFu.trans (by repeat (first | exact hF | refine yFu.upd ?_ (by decide))) hF1.t
                            have hd : (I140 34 8).toInt = (I 34 8).toInt := congrArg Int32.toInt (hF1 34 8 (Or.inl (by decide)))
                            refine y_ret0 ?_
                            refine y_goto rfl j_X8_result_136 ?_
                            refine y_aload_n rfl rfl ?_
                            refine y_getR rfl (ySh.t hS rfl) (ySh.n hS rfl) rfl rfl (ySh.r hS rfl) ?_
                            refine y_iload_n rfl rfl ?_
                            refine y_virt rfl rfl rfl rfl rfl (ySh.t hS rfl) (ySh.n hS rfl) ?_
                            refine sp_capitals_X7 hS hC (by omega) (by omega) (fun v_ => ?_)
                            refine y_ret1 ?_
                            refine y_ireturn rfl rfl rfl ?_
                            exact hQ _ _ hC (by repeat (first | exact hF | refine yFu.upd ?_ (by decide)))
                        · refine y_aload_n rfl rfl ?_
                          refine y_iload_n rfl rfl ?_
                          refine y_iload_n rfl rfl ?_
                          refine y_virt rfl rfl rfl rfl rfl (ySh.t hS rfl) (ySh.n hS rfl) ?_
                          refine spu_shareProfit_X8 hS hC (by omega) (by omega) (fun I141 hC hF1 => ?_)
                          have hF : yFu I I141 := yFu.trans (by repeat (first | exact hF | refine yFu.upd ?_ (by decide))) hF1.t
                          have hd : (I141 34 8).toInt = (I 34 8).toInt := congrArg Int32.toInt (hF1 34 8 (Or.inl (by decide)))
                          refine y_ret0 ?_
                          refine y_goto rfl j_X8_result_136 ?_
                          refine y_aload_n rfl rfl ?_
                          refine y_getR rfl (ySh.t hS rfl) (ySh.n hS rfl) rfl rfl (ySh.r hS rfl) ?_
                          refine y_iload_n rfl rfl ?_
                          refine y_virt rfl rfl rfl rfl rfl (ySh.t hS rfl) (ySh.n hS rfl) ?_
                          refine sp_capitals_X7 hS hC (by omega) (by omega) (fun v_ => ?_)
                          refine y_ret1 ?_
                          refine y_ireturn rfl rfl rfl ?_
                          exact hQ _ _ hC (by repeat (first | exact hF | refine yFu.upd ?_ (by decide)))
                      · refine y_throw rfl rfl rfl ?_
                        exact hE2
                    · rw [yz_m1] at h_118
                      refine y_bip rfl (by decide) ?_
                      refine y_goto rfl j_X8_placeOf_11 ?_
                      refine y_ireturn rfl rfl rfl ?_
                      refine y_ret1 ?_
                      refine y_virt rfl rfl rfl rfl rfl (ySh.t hS rfl) (ySh.n hS rfl) ?_
                      refine y_in (M := xm_X7_isPartner) (ls := [some _, some _, some _]) rfl rfl rfl ?_
                      refine y_aload_n rfl rfl ?_
                      refine y_getR rfl (ySh.t hS rfl) (ySh.n hS rfl) rfl rfl (ySh.r hS rfl) ?_
                      refine y_aload_n rfl rfl ?_
                      refine y_iload_n rfl rfl ?_
                      refine y_iload_n rfl rfl ?_
                      refine y_virt rfl rfl rfl rfl rfl (ySh.t hS rfl) (ySh.n hS rfl) ?_
                      refine sp_at (by omega) (by omega) (by decide) (by decide) (fun z_ hz132 => ?_)
                      rw [yz_8] at hz132
                      refine y_ret1 ?_
                      refine y_baload rfl (ySh.t hS rfl) rfl (ySh.n hS rfl) (by omega) (by omega) ?_
                      refine y_ireturn rfl rfl (xfit_z (hC.p _)) ?_
                      refine y_ret1 ?_
                      refine y_if_ne rfl j_X8_result_92 (fun h_133 => ?_) (fun h_134 => ?_)
                      · refine y_iload_n rfl rfl ?_
                        refine y_if_lt rfl j_X8_result_105 (fun h_135 => ?_) (fun h_136 => ?_)
                        · refine y_iload_n rfl rfl ?_
                          refine y_bip rfl (by decide) ?_
                          refine y_icmp_ne rfl j_X8_result_124 (fun h_137 => ?_) (fun h_138 => ?_)
                          · rw [yz_m2] at h_137
                            refine y_aload_n rfl rfl ?_
                            refine y_getR rfl (ySh.t hS rfl) (ySh.n hS rfl) rfl rfl (ySh.r hS rfl) ?_
                            refine y_iload_n rfl rfl ?_
                            refine y_static rfl rfl rfl rfl rfl ?_
                            refine y_in (M := xm_X8_placeOf) (ls := [some _]) rfl rfl rfl ?_
                            refine y_iload_n rfl rfl ?_
                            refine y_iconst rfl ?_
                            refine y_icmp_ne rfl j_X8_placeOf_10 (fun h_139 => ?_) (fun h_140 => ?_)
                            · rw [yz_m1] at h_139
                              refine y_iload_n rfl rfl ?_
                              refine y_ireturn rfl rfl rfl ?_
                              refine y_ret1 ?_
                              refine y_iload_n rfl rfl ?_
                              refine y_virt rfl rfl rfl rfl rfl (ySh.t hS rfl) (ySh.n hS rfl) ?_
                              refine spu_add_X4 hS hC (fun I151 hC hF1 => ?_)
                              have hF : yFu I I151 := yFu.trans (by repeat (first | exact hF | refine yFu.upd ?_ (by decide))) hF1.t
                              have hd : (I151 34 8).toInt = (I 34 8).toInt := congrArg Int32.toInt (hF1 34 8 (Or.inl (by decide)))
                              refine y_ret0 ?_
                              refine y_aload_n rfl rfl ?_
                              refine y_getR rfl (ySh.t hS rfl) (ySh.n hS rfl) rfl rfl (ySh.r hS rfl) ?_
                              refine y_iload_n rfl rfl ?_
                              refine y_virt rfl rfl rfl rfl rfl (ySh.t hS rfl) (ySh.n hS rfl) ?_
                              refine sp_capitals_X7 hS hC (by omega) (by omega) (fun v_ => ?_)
                              refine y_ret1 ?_
                              refine y_ireturn rfl rfl rfl ?_
                              exact hQ _ _ hC (by repeat (first | exact hF | refine yFu.upd ?_ (by decide)))
                            · rw [yz_m1] at h_140
                              refine y_bip rfl (by decide) ?_
                              refine y_goto rfl j_X8_placeOf_11 ?_
                              refine y_ireturn rfl rfl rfl ?_
                              refine y_ret1 ?_
                              refine y_iload_n rfl rfl ?_
                              refine y_virt rfl rfl rfl rfl rfl (ySh.t hS rfl) (ySh.n hS rfl) ?_
                              refine spu_add_X4 hS hC (fun I152 hC hF1 => ?_)
                              have hF : yFu I I152 := yFu.trans (by repeat (first | exact hF | refine yFu.upd ?_ (by decide))) hF1.t
                              have hd : (I152 34 8).toInt = (I 34 8).toInt := congrArg Int32.toInt (hF1 34 8 (Or.inl (by decide)))
                              refine y_ret0 ?_
                              refine y_aload_n rfl rfl ?_
                              refine y_getR rfl (ySh.t hS rfl) (ySh.n hS rfl) rfl rfl (ySh.r hS rfl) ?_
                              refine y_iload_n rfl rfl ?_
                              refine y_virt rfl rfl rfl rfl rfl (ySh.t hS rfl) (ySh.n hS rfl) ?_
                              refine sp_capitals_X7 hS hC (by omega) (by omega) (fun v_ => ?_)
                              refine y_ret1 ?_
                              refine y_ireturn rfl rfl rfl ?_
                              exact hQ _ _ hC (by repeat (first | exact hF | refine yFu.upd ?_ (by decide)))
                          · rw [yz_m2] at h_138
                            refine y_aload_n rfl rfl ?_
                            refine y_getR rfl (ySh.t hS rfl) (ySh.n hS rfl) rfl rfl (ySh.r hS rfl) ?_
                            refine y_iload_n rfl rfl ?_
                            refine y_iload_n rfl rfl ?_
                            refine y_ineg rfl ?_
                            refine y_virt rfl rfl rfl rfl rfl (ySh.t hS rfl) (ySh.n hS rfl) ?_
                            refine spu_bearLoss hS hC (by omega) (by omega) (fun I153 hC hF1 => ?_)
                            have hF : yFu I I153 := yFu.trans (by repeat (first | exact hF | refine yFu.upd ?_ (by decide))) hF1.t
                            have hd : (I153 34 8).toInt = (I 34 8).toInt := congrArg Int32.toInt (hF1 34 8 (Or.inl (by decide)))
                            refine y_ret0 ?_
                            refine y_goto rfl j_X8_result_136 ?_
                            refine y_aload_n rfl rfl ?_
                            refine y_getR rfl (ySh.t hS rfl) (ySh.n hS rfl) rfl rfl (ySh.r hS rfl) ?_
                            refine y_iload_n rfl rfl ?_
                            refine y_virt rfl rfl rfl rfl rfl (ySh.t hS rfl) (ySh.n hS rfl) ?_
                            refine sp_capitals_X7 hS hC (by omega) (by omega) (fun v_ => ?_)
                            refine y_ret1 ?_
                            refine y_ireturn rfl rfl rfl ?_
                            exact hQ _ _ hC (by repeat (first | exact hF | refine yFu.upd ?_ (by decide)))
                        · refine y_aload_n rfl rfl ?_
                          refine y_iload_n rfl rfl ?_
                          refine y_iload_n rfl rfl ?_
                          refine y_virt rfl rfl rfl rfl rfl (ySh.t hS rfl) (ySh.n hS rfl) ?_
                          refine spu_shareProfit_X8 hS hC (by omega) (by omega) (fun I154 hC hF1 => ?_)
                          have hF : yFu I I154 := yFu.trans (by repeat (first | exact hF | refine yFu.upd ?_ (by decide))) hF1.t
                          have hd : (I154 34 8).toInt = (I 34 8).toInt := congrArg Int32.toInt (hF1 34 8 (Or.inl (by decide)))
                          refine y_ret0 ?_
                          refine y_goto rfl j_X8_result_136 ?_
                          refine y_aload_n rfl rfl ?_
                          refine y_getR rfl (ySh.t hS rfl) (ySh.n hS rfl) rfl rfl (ySh.r hS rfl) ?_
                          refine y_iload_n rfl rfl ?_
                          refine y_virt rfl rfl rfl rfl rfl (ySh.t hS rfl) (ySh.n hS rfl) ?_
                          refine sp_capitals_X7 hS hC (by omega) (by omega) (fun v_ => ?_)
                          refine y_ret1 ?_
                          refine y_ireturn rfl rfl rfl ?_
                          exact hQ _ _ hC (by repeat (first | exact hF | refine yFu.upd ?_ (by decide)))
                      · refine y_throw rfl rfl rfl ?_
                        exact hE2
theorem mu_buyOut (hS : ySh n tg R) (hC : yCI I) {x1 x2 x3 x4 : Int32} (hE0 : Q (.inr "java/lang/IndexOutOfBoundsException") (n, tg, I, R) (c + 1) (s + 6)) (hE1 : Q (.inr "java/lang/IllegalArgumentException") (n, tg, I, R) (c + 1) (s + 6)) (hE2 : Q (.inr "java/lang/IllegalStateException") (n, tg, I, R) (c + 1) (s + 6)) (hQ : ∀ v I1, yCI I1 → yFu I I1 → Q (.inl (some (.int v))) (n, tg, I1, R) c s) : yC 135 [.ref 34, .int x1, .int x2, .int x3, .int x4] (n, tg, I, R) c s Q := by
  have hF : yFu I I := yFu.rf
  refine y_in (M := xm_X8_buyOut) (ls := [some _, some _, some _, some _, some _, _, _]) rfl rfl rfl ?_
  refine y_aload_n rfl rfl ?_
  refine y_getR rfl (ySh.t hS rfl) (ySh.n hS rfl) rfl rfl (ySh.r hS rfl) ?_
  refine y_iload_n rfl rfl ?_
  refine y_virt rfl rfl rfl rfl rfl (ySh.t hS rfl) (ySh.n hS rfl) ?_
  refine y_in (M := xm_X7_has) (ls := [some _, some _]) rfl rfl rfl ?_
  refine y_iload_n rfl rfl ?_
  refine y_if_lt rfl j_X7_has_16 (fun h_1 => ?_) (fun h_2 => ?_)
  · refine y_iconst rfl ?_
    refine y_ireturn rfl rfl rfl ?_
    refine y_ret1 ?_
    refine y_if_eqT rfl j_X8_buyOut_27 (by decide) ?_
    refine y_throw rfl rfl rfl ?_
    exact hE0
  · refine y_iload_n rfl rfl ?_
    refine y_aload_n rfl rfl ?_
    refine y_getI rfl (ySh.t hS rfl) (ySh.n hS rfl) rfl rfl ?_
    refine y_icmp_ge rfl j_X7_has_16 (fun h_3 => ?_) (fun h_4 => ?_)
    · refine y_iconst rfl ?_
      refine y_ireturn rfl rfl rfl ?_
      refine y_ret1 ?_
      refine y_if_eqT rfl j_X8_buyOut_27 (by decide) ?_
      refine y_throw rfl rfl rfl ?_
      exact hE0
    · refine y_iconst rfl ?_
      refine y_goto rfl j_X7_has_17 ?_
      refine y_ireturn rfl rfl rfl ?_
      refine y_ret1 ?_
      refine y_if_eqF rfl (by decide) ?_
      refine y_aload_n rfl rfl ?_
      refine y_iload_n rfl rfl ?_
      refine y_virt rfl rfl rfl rfl rfl (ySh.t hS rfl) (ySh.n hS rfl) ?_
      refine y_in (M := xm_X8_isParty) (ls := [some _, some _]) rfl rfl rfl ?_
      refine y_iload_n rfl rfl ?_
      refine y_iconst rfl ?_
      refine y_icmp_eq rfl j_X8_isParty_16 (fun h_5 => ?_) (fun h_6 => ?_)
      · rw [yz_m1] at h_5
        refine y_iconst rfl ?_
        refine y_goto rfl j_X8_isParty_21 ?_
        refine y_ireturn rfl rfl rfl ?_
        refine y_ret1 ?_
        refine y_if_eqF rfl (by decide) ?_
        refine y_aload_n rfl rfl ?_
        refine y_iload_n rfl rfl ?_
        refine y_virt rfl rfl rfl rfl rfl (ySh.t hS rfl) (ySh.n hS rfl) ?_
        refine y_in (M := xm_X8_isParty) (ls := [some _, some _]) rfl rfl rfl ?_
        refine y_iload_n rfl rfl ?_
        refine y_iconst rfl ?_
        refine y_icmp_eq rfl j_X8_isParty_16 (fun h_7 => ?_) (fun h_8 => ?_)
        · rw [yz_m1] at h_7
          refine y_iconst rfl ?_
          refine y_goto rfl j_X8_isParty_21 ?_
          refine y_ireturn rfl rfl rfl ?_
          refine y_ret1 ?_
          refine y_if_neT rfl j_X8_buyOut_38 (by decide) ?_
          refine y_iload_n rfl rfl ?_
          refine y_iload_n rfl rfl ?_
          refine y_icmp_eq rfl j_X8_buyOut_55 (fun h_9 => ?_) (fun h_10 => ?_)
          · refine y_throw rfl rfl rfl ?_
            exact hE1
          · refine y_iload rfl rfl ?_
            refine y_iconst rfl ?_
            refine y_sip rfl (by decide) ?_
            refine y_static rfl rfl rfl rfl rfl ?_
            refine y_in (M := xm_X8_isIn) (ls := [some _, some _, some _]) rfl rfl rfl ?_
            refine y_iload_n rfl rfl ?_
            refine y_iload_n rfl rfl ?_
            refine y_icmp_lt rfl j_X8_isIn_14 (fun h_11 => ?_) (fun h_12 => ?_)
            · rw [yz_1] at h_11
              refine y_iconst rfl ?_
              refine y_ireturn rfl rfl rfl ?_
              refine y_ret1 ?_
              refine y_if_neF rfl (by decide) ?_
              refine y_throw rfl rfl rfl ?_
              exact hE1
            · rw [yz_1] at h_12
              refine y_iload_n rfl rfl ?_
              refine y_iload_n rfl rfl ?_
              refine y_icmp_gt rfl j_X8_isIn_14 (fun h_13 => ?_) (fun h_14 => ?_)
              · rw [yz_999] at h_13
                refine y_iconst rfl ?_
                refine y_ireturn rfl rfl rfl ?_
                refine y_ret1 ?_
                refine y_if_neF rfl (by decide) ?_
                refine y_throw rfl rfl rfl ?_
                exact hE1
              · rw [yz_999] at h_14
                refine y_iconst rfl ?_
                refine y_goto rfl j_X8_isIn_15 ?_
                refine y_ireturn rfl rfl rfl ?_
                refine y_ret1 ?_
                refine y_if_neT rfl j_X8_buyOut_66 (by decide) ?_
                refine y_iload_n rfl rfl ?_
                refine y_static rfl rfl rfl rfl rfl ?_
                refine y_in (M := xm_X8_placeOf) (ls := [some _]) rfl rfl rfl ?_
                refine y_iload_n rfl rfl ?_
                refine y_iconst rfl ?_
                refine y_icmp_ne rfl j_X8_placeOf_10 (fun h_15 => ?_) (fun h_16 => ?_)
                · rw [yz_m1] at h_15
                  refine y_iload_n rfl rfl ?_
                  refine y_ireturn rfl rfl rfl ?_
                  refine y_ret1 ?_
                  refine y_istore (ls' := [some _, some _, some _, some _, some _, some _, _]) rfl rfl rfl ?_
                  refine y_iload_n rfl rfl ?_
                  refine y_static rfl rfl rfl rfl rfl ?_
                  refine y_in (M := xm_X8_placeOf) (ls := [some _]) rfl rfl rfl ?_
                  refine y_iload_n rfl rfl ?_
                  refine y_iconst rfl ?_
                  refine y_icmp_ne rfl j_X8_placeOf_10 (fun h_17 => ?_) (fun h_18 => ?_)
                  · rw [yz_m1] at h_17
                    refine y_iload_n rfl rfl ?_
                    refine y_ireturn rfl rfl rfl ?_
                    refine y_ret1 ?_
                    refine y_istore (ls' := [some _, some _, some _, some _, some _, some _, some _]) rfl rfl rfl ?_
                    refine y_aload_n rfl rfl ?_
                    refine y_getR rfl (ySh.t hS rfl) (ySh.n hS rfl) rfl rfl (ySh.r hS rfl) ?_
                    refine y_iload_n rfl rfl ?_
                    refine y_iload rfl rfl ?_
                    refine y_virt rfl rfl rfl rfl rfl (ySh.t hS rfl) (ySh.n hS rfl) ?_
                    refine y_in (M := xm_X7_isPartner) (ls := [some _, some _, some _]) rfl rfl rfl ?_
                    refine y_aload_n rfl rfl ?_
                    refine y_getR rfl (ySh.t hS rfl) (ySh.n hS rfl) rfl rfl (ySh.r hS rfl) ?_
                    refine y_aload_n rfl rfl ?_
                    refine y_iload_n rfl rfl ?_
                    refine y_iload_n rfl rfl ?_
                    refine y_virt rfl rfl rfl rfl rfl (ySh.t hS rfl) (ySh.n hS rfl) ?_
                    refine sp_at (by omega) (by omega) (by omega) (by omega) (fun z_ hz19 => ?_)
                    refine y_ret1 ?_
                    refine y_baload rfl (ySh.t hS rfl) rfl (ySh.n hS rfl) (by omega) (by omega) ?_
                    refine y_ireturn rfl rfl (xfit_z (hC.p _)) ?_
                    refine y_ret1 ?_
                    refine y_if_eq rfl j_X8_buyOut_134 (fun h_20 => ?_) (fun h_21 => ?_)
                    · refine y_throw rfl rfl rfl ?_
                      exact hE2
                    · refine y_aload_n rfl rfl ?_
                      refine y_getR rfl (ySh.t hS rfl) (ySh.n hS rfl) rfl rfl (ySh.r hS rfl) ?_
                      refine y_iload_n rfl rfl ?_
                      refine y_iload rfl rfl ?_
                      refine y_virt rfl rfl rfl rfl rfl (ySh.t hS rfl) (ySh.n hS rfl) ?_
                      refine y_in (M := xm_X7_isPartner) (ls := [some _, some _, some _]) rfl rfl rfl ?_
                      refine y_aload_n rfl rfl ?_
                      refine y_getR rfl (ySh.t hS rfl) (ySh.n hS rfl) rfl rfl (ySh.r hS rfl) ?_
                      refine y_aload_n rfl rfl ?_
                      refine y_iload_n rfl rfl ?_
                      refine y_iload_n rfl rfl ?_
                      refine y_virt rfl rfl rfl rfl rfl (ySh.t hS rfl) (ySh.n hS rfl) ?_
                      refine sp_at (by omega) (by omega) (by omega) (by omega) (fun z_ hz22 => ?_)
                      refine y_ret1 ?_
                      refine y_baload rfl (ySh.t hS rfl) rfl (ySh.n hS rfl) (by omega) (by omega) ?_
                      refine y_ireturn rfl rfl (xfit_z (hC.p _)) ?_
                      refine y_ret1 ?_
                      refine y_if_eq rfl j_X8_buyOut_134 (fun h_23 => ?_) (fun h_24 => ?_)
                      · refine y_throw rfl rfl rfl ?_
                        exact hE2
                      · refine y_aload_n rfl rfl ?_
                        refine y_getR rfl (ySh.t hS rfl) (ySh.n hS rfl) rfl rfl (ySh.r hS rfl) ?_
                        refine y_iload_n rfl rfl ?_
                        refine y_iload rfl rfl ?_
                        refine y_virt rfl rfl rfl rfl rfl (ySh.t hS rfl) (ySh.n hS rfl) ?_
                        refine y_in (M := xm_X7_capitalOf) (ls := [some _, some _, some _]) rfl rfl rfl ?_
                        refine y_aload_n rfl rfl ?_
                        refine y_getR rfl (ySh.t hS rfl) (ySh.n hS rfl) rfl rfl (ySh.r hS rfl) ?_
                        refine y_aload_n rfl rfl ?_
                        refine y_iload_n rfl rfl ?_
                        refine y_iload_n rfl rfl ?_
                        refine y_virt rfl rfl rfl rfl rfl (ySh.t hS rfl) (ySh.n hS rfl) ?_
                        refine sp_at (by omega) (by omega) (by omega) (by omega) (fun z_ hz25 => ?_)
                        refine y_ret1 ?_
                        refine y_iaload rfl (ySh.t hS rfl) (ySh.n hS rfl) (by omega) (by omega) ?_
                        refine y_ireturn rfl rfl rfl ?_
                        refine y_ret1 ?_
                        refine y_iload rfl rfl ?_
                        refine y_icmp_lt rfl j_X8_buyOut_134 (fun h_26 => ?_) (fun h_27 => ?_)
                        · refine y_throw rfl rfl rfl ?_
                          exact hE2
                        · refine y_aload_n rfl rfl ?_
                          refine y_getR rfl (ySh.t hS rfl) (ySh.n hS rfl) rfl rfl (ySh.r hS rfl) ?_
                          refine y_getR rfl (ySh.t hS rfl) (ySh.n hS rfl) rfl rfl (ySh.r hS rfl) ?_
                          refine y_iload rfl rfl ?_
                          refine y_iaload rfl (ySh.t hS rfl) (ySh.n hS rfl) (by omega) (by omega) ?_
                          refine y_iload rfl rfl ?_
                          refine y_icmp_ge rfl j_X8_buyOut_145 (fun h_28 => ?_) (fun h_29 => ?_)
                          · refine y_aload_n rfl rfl ?_
                            refine y_getR rfl (ySh.t hS rfl) (ySh.n hS rfl) rfl rfl (ySh.r hS rfl) ?_
                            refine y_iload rfl rfl ?_
                            refine y_iload rfl rfl ?_
                            refine y_iload rfl rfl ?_
                            refine y_virt rfl rfl rfl rfl rfl (ySh.t hS rfl) (ySh.n hS rfl) ?_
                            refine y_in (M := xm_X4_move) (ls := [some _, some _, some _, some _]) rfl rfl rfl ?_
                            refine y_aload_n rfl rfl ?_
                            refine y_iload_n rfl rfl ?_
                            refine y_iload_n rfl rfl ?_
                            refine y_ineg rfl ?_
                            refine y_virt rfl rfl rfl rfl rfl (ySh.t hS rfl) (ySh.n hS rfl) ?_
                            refine spu_add_X4 hS hC (fun I40 hC hF1 => ?_)
                            have hF : yFu I I40 := yFu.trans (by repeat (first | exact hF | refine yFu.upd ?_ (by decide))) hF1.t
                            have hd : (I40 34 8).toInt = (I 34 8).toInt := congrArg Int32.toInt (hF1 34 8 (Or.inl (by decide)))
                            refine y_ret0 ?_
                            refine y_aload_n rfl rfl ?_
                            refine y_iload_n rfl rfl ?_
                            refine y_iload_n rfl rfl ?_
                            refine y_virt rfl rfl rfl rfl rfl (ySh.t hS rfl) (ySh.n hS rfl) ?_
                            refine spu_add_X4 hS hC (fun I41 hC hF1 => ?_)
                            have hF : yFu I I41 := yFu.trans (by repeat (first | exact hF | refine yFu.upd ?_ (by decide))) hF1.t
                            have hd : (I41 34 8).toInt = (I40 34 8).toInt := congrArg Int32.toInt (hF1 34 8 (Or.inl (by decide)))
                            refine y_ret0 ?_
                            refine y_return rfl ?_
                            refine y_ret0 ?_
                            refine y_aload_n rfl rfl ?_
                            refine y_getR rfl (ySh.t hS rfl) (ySh.n hS rfl) rfl rfl (ySh.r hS rfl) ?_
                            refine y_iload_n rfl rfl ?_
                            refine y_iload rfl rfl ?_
                            refine y_iload rfl rfl ?_
                            refine y_iload rfl rfl ?_
                            refine y_virt rfl rfl rfl rfl rfl (ySh.t hS rfl) (ySh.n hS rfl) ?_
                            refine y_in (M := xm_X7_moveCapital) (ls := [some _, some _, some _, some _, some _]) rfl rfl rfl ?_
                            refine y_aload_n rfl rfl ?_
                            refine y_getR rfl (ySh.t hS rfl) (ySh.n hS rfl) rfl rfl (ySh.r hS rfl) ?_
                            refine y_aload_n rfl rfl ?_
                            refine y_iload_n rfl rfl ?_
                            refine y_iload_n rfl rfl ?_
                            refine y_virt rfl rfl rfl rfl rfl (ySh.t hS rfl) (ySh.n hS rfl) ?_
                            refine sp_at (by omega) (by omega) (by omega) (by omega) (fun z_ hz32 => ?_)
                            refine y_ret1 ?_
                            refine y_dup2 rfl rfl rfl ?_
                            refine y_iaload rfl (ySh.t hS rfl) (ySh.n hS rfl) (by omega) (by omega) ?_
                            refine y_iload rfl rfl ?_
                            refine y_isub rfl ?_
                            refine y_iastore rfl (ySh.t hS rfl) (ySh.n hS rfl) (Nat.le_of_ble_eq_true rfl) (by omega) (by omega) ?_
                            refine y_aload_n rfl rfl ?_
                            refine y_getR rfl (ySh.t hS rfl) (ySh.n hS rfl) rfl rfl (ySh.r hS rfl) ?_
                            refine y_aload_n rfl rfl ?_
                            refine y_iload_n rfl rfl ?_
                            refine y_iload_n rfl rfl ?_
                            refine y_virt rfl rfl rfl rfl rfl (ySh.t hS rfl) (ySh.n hS rfl) ?_
                            refine sp_at (by omega) (by omega) (by omega) (by omega) (fun z_ hz33 => ?_)
                            refine y_ret1 ?_
                            refine y_dup2 rfl rfl rfl ?_
                            refine y_iaload rfl (ySh.t hS rfl) (ySh.n hS rfl) (by omega) (by omega) ?_
                            refine y_iload rfl rfl ?_
                            refine y_iadd rfl ?_
                            refine y_iastore rfl (ySh.t hS rfl) (ySh.n hS rfl) (Nat.le_of_ble_eq_true rfl) (by omega) (by omega) ?_
                            refine y_return rfl ?_
                            refine y_ret0 ?_
                            refine y_aload_n rfl rfl ?_
                            refine y_getR rfl (ySh.t hS rfl) (ySh.n hS rfl) rfl rfl (ySh.r hS rfl) ?_
                            refine y_iload_n rfl rfl ?_
                            refine y_iload rfl rfl ?_
                            refine y_virt rfl rfl rfl rfl rfl (ySh.t hS rfl) (ySh.n hS rfl) ?_
                            refine y_in (M := xm_X7_capitalOf) (ls := [some _, some _, some _]) rfl rfl rfl ?_
                            refine y_aload_n rfl rfl ?_
                            refine y_getR rfl (ySh.t hS rfl) (ySh.n hS rfl) rfl rfl (ySh.r hS rfl) ?_
                            refine y_aload_n rfl rfl ?_
                            refine y_iload_n rfl rfl ?_
                            refine y_iload_n rfl rfl ?_
                            refine y_virt rfl rfl rfl rfl rfl (ySh.t hS rfl) (ySh.n hS rfl) ?_
                            refine sp_at (by omega) (by omega) (by omega) (by omega) (fun z_ hz34 => ?_)
                            refine y_ret1 ?_
                            refine y_iaload rfl (ySh.t hS rfl) (ySh.n hS rfl) (by omega) (by omega) ?_
                            refine y_ireturn rfl rfl rfl ?_
                            refine y_ret1 ?_
                            refine y_ireturn rfl rfl rfl ?_
                            exact hQ _ _ hC (by repeat (first | exact hF | refine yFu.upd ?_ (by decide)))
                          · refine y_throw rfl rfl rfl ?_
                            exact hE2
                  · rw [yz_m1] at h_18
                    refine y_bip rfl (by decide) ?_
                    refine y_goto rfl j_X8_placeOf_11 ?_
                    refine y_ireturn rfl rfl rfl ?_
                    refine y_ret1 ?_
                    refine y_istore (ls' := [some _, some _, some _, some _, some _, some _, some _]) rfl rfl rfl ?_
                    refine y_aload_n rfl rfl ?_
                    refine y_getR rfl (ySh.t hS rfl) (ySh.n hS rfl) rfl rfl (ySh.r hS rfl) ?_
                    refine y_iload_n rfl rfl ?_
                    refine y_iload rfl rfl ?_
                    refine y_virt rfl rfl rfl rfl rfl (ySh.t hS rfl) (ySh.n hS rfl) ?_
                    refine y_in (M := xm_X7_isPartner) (ls := [some _, some _, some _]) rfl rfl rfl ?_
                    refine y_aload_n rfl rfl ?_
                    refine y_getR rfl (ySh.t hS rfl) (ySh.n hS rfl) rfl rfl (ySh.r hS rfl) ?_
                    refine y_aload_n rfl rfl ?_
                    refine y_iload_n rfl rfl ?_
                    refine y_iload_n rfl rfl ?_
                    refine y_virt rfl rfl rfl rfl rfl (ySh.t hS rfl) (ySh.n hS rfl) ?_
                    refine sp_at (by omega) (by omega) (by omega) (by omega) (fun z_ hz35 => ?_)
                    refine y_ret1 ?_
                    refine y_baload rfl (ySh.t hS rfl) rfl (ySh.n hS rfl) (by omega) (by omega) ?_
                    refine y_ireturn rfl rfl (xfit_z (hC.p _)) ?_
                    refine y_ret1 ?_
                    refine y_if_eq rfl j_X8_buyOut_134 (fun h_36 => ?_) (fun h_37 => ?_)
                    · refine y_throw rfl rfl rfl ?_
                      exact hE2
                    · refine y_aload_n rfl rfl ?_
                      refine y_getR rfl (ySh.t hS rfl) (ySh.n hS rfl) rfl rfl (ySh.r hS rfl) ?_
                      refine y_iload_n rfl rfl ?_
                      refine y_iload rfl rfl ?_
                      refine y_virt rfl rfl rfl rfl rfl (ySh.t hS rfl) (ySh.n hS rfl) ?_
                      refine y_in (M := xm_X7_isPartner) (ls := [some _, some _, some _]) rfl rfl rfl ?_
                      refine y_aload_n rfl rfl ?_
                      refine y_getR rfl (ySh.t hS rfl) (ySh.n hS rfl) rfl rfl (ySh.r hS rfl) ?_
                      refine y_aload_n rfl rfl ?_
                      refine y_iload_n rfl rfl ?_
                      refine y_iload_n rfl rfl ?_
                      refine y_virt rfl rfl rfl rfl rfl (ySh.t hS rfl) (ySh.n hS rfl) ?_
                      refine sp_at (by omega) (by omega) (by decide) (by decide) (fun z_ hz38 => ?_)
                      rw [yz_8] at hz38
                      refine y_ret1 ?_
                      refine y_baload rfl (ySh.t hS rfl) rfl (ySh.n hS rfl) (by omega) (by omega) ?_
                      refine y_ireturn rfl rfl (xfit_z (hC.p _)) ?_
                      refine y_ret1 ?_
                      refine y_if_eq rfl j_X8_buyOut_134 (fun h_39 => ?_) (fun h_40 => ?_)
                      · refine y_throw rfl rfl rfl ?_
                        exact hE2
                      · refine y_aload_n rfl rfl ?_
                        refine y_getR rfl (ySh.t hS rfl) (ySh.n hS rfl) rfl rfl (ySh.r hS rfl) ?_
                        refine y_iload_n rfl rfl ?_
                        refine y_iload rfl rfl ?_
                        refine y_virt rfl rfl rfl rfl rfl (ySh.t hS rfl) (ySh.n hS rfl) ?_
                        refine y_in (M := xm_X7_capitalOf) (ls := [some _, some _, some _]) rfl rfl rfl ?_
                        refine y_aload_n rfl rfl ?_
                        refine y_getR rfl (ySh.t hS rfl) (ySh.n hS rfl) rfl rfl (ySh.r hS rfl) ?_
                        refine y_aload_n rfl rfl ?_
                        refine y_iload_n rfl rfl ?_
                        refine y_iload_n rfl rfl ?_
                        refine y_virt rfl rfl rfl rfl rfl (ySh.t hS rfl) (ySh.n hS rfl) ?_
                        refine sp_at (by omega) (by omega) (by omega) (by omega) (fun z_ hz41 => ?_)
                        refine y_ret1 ?_
                        refine y_iaload rfl (ySh.t hS rfl) (ySh.n hS rfl) (by omega) (by omega) ?_
                        refine y_ireturn rfl rfl rfl ?_
                        refine y_ret1 ?_
                        refine y_iload rfl rfl ?_
                        refine y_icmp_lt rfl j_X8_buyOut_134 (fun h_42 => ?_) (fun h_43 => ?_)
                        · refine y_throw rfl rfl rfl ?_
                          exact hE2
                        · refine y_aload_n rfl rfl ?_
                          refine y_getR rfl (ySh.t hS rfl) (ySh.n hS rfl) rfl rfl (ySh.r hS rfl) ?_
                          refine y_getR rfl (ySh.t hS rfl) (ySh.n hS rfl) rfl rfl (ySh.r hS rfl) ?_
                          refine y_iload rfl rfl ?_
                          refine y_iaload rfl (ySh.t hS rfl) (ySh.n hS rfl) (by decide) (by decide) ?_
                          refine y_iload rfl rfl ?_
                          refine y_icmp_ge rfl j_X8_buyOut_145 (fun h_44 => ?_) (fun h_45 => ?_)
                          · refine y_aload_n rfl rfl ?_
                            refine y_getR rfl (ySh.t hS rfl) (ySh.n hS rfl) rfl rfl (ySh.r hS rfl) ?_
                            refine y_iload rfl rfl ?_
                            refine y_iload rfl rfl ?_
                            refine y_iload rfl rfl ?_
                            refine y_virt rfl rfl rfl rfl rfl (ySh.t hS rfl) (ySh.n hS rfl) ?_
                            refine y_in (M := xm_X4_move) (ls := [some _, some _, some _, some _]) rfl rfl rfl ?_
                            refine y_aload_n rfl rfl ?_
                            refine y_iload_n rfl rfl ?_
                            refine y_iload_n rfl rfl ?_
                            refine y_ineg rfl ?_
                            refine y_virt rfl rfl rfl rfl rfl (ySh.t hS rfl) (ySh.n hS rfl) ?_
                            refine spu_add_X4 hS hC (fun I56 hC hF1 => ?_)
                            have hF : yFu I I56 := yFu.trans (by repeat (first | exact hF | refine yFu.upd ?_ (by decide))) hF1.t
                            have hd : (I56 34 8).toInt = (I 34 8).toInt := congrArg Int32.toInt (hF1 34 8 (Or.inl (by decide)))
                            refine y_ret0 ?_
                            refine y_aload_n rfl rfl ?_
                            refine y_iload_n rfl rfl ?_
                            refine y_iload_n rfl rfl ?_
                            refine y_virt rfl rfl rfl rfl rfl (ySh.t hS rfl) (ySh.n hS rfl) ?_
                            refine spu_add_X4 hS hC (fun I57 hC hF1 => ?_)
                            have hF : yFu I I57 := yFu.trans (by repeat (first | exact hF | refine yFu.upd ?_ (by decide))) hF1.t
                            have hd : (I57 34 8).toInt = (I56 34 8).toInt := congrArg Int32.toInt (hF1 34 8 (Or.inl (by decide)))
                            refine y_ret0 ?_
                            refine y_return rfl ?_
                            refine y_ret0 ?_
                            refine y_aload_n rfl rfl ?_
                            refine y_getR rfl (ySh.t hS rfl) (ySh.n hS rfl) rfl rfl (ySh.r hS rfl) ?_
                            refine y_iload_n rfl rfl ?_
                            refine y_iload rfl rfl ?_
                            refine y_iload rfl rfl ?_
                            refine y_iload rfl rfl ?_
                            refine y_virt rfl rfl rfl rfl rfl (ySh.t hS rfl) (ySh.n hS rfl) ?_
                            refine y_in (M := xm_X7_moveCapital) (ls := [some _, some _, some _, some _, some _]) rfl rfl rfl ?_
                            refine y_aload_n rfl rfl ?_
                            refine y_getR rfl (ySh.t hS rfl) (ySh.n hS rfl) rfl rfl (ySh.r hS rfl) ?_
                            refine y_aload_n rfl rfl ?_
                            refine y_iload_n rfl rfl ?_
                            refine y_iload_n rfl rfl ?_
                            refine y_virt rfl rfl rfl rfl rfl (ySh.t hS rfl) (ySh.n hS rfl) ?_
                            refine sp_at (by omega) (by omega) (by omega) (by omega) (fun z_ hz48 => ?_)
                            refine y_ret1 ?_
                            refine y_dup2 rfl rfl rfl ?_
                            refine y_iaload rfl (ySh.t hS rfl) (ySh.n hS rfl) (by omega) (by omega) ?_
                            refine y_iload rfl rfl ?_
                            refine y_isub rfl ?_
                            refine y_iastore rfl (ySh.t hS rfl) (ySh.n hS rfl) (Nat.le_of_ble_eq_true rfl) (by omega) (by omega) ?_
                            refine y_aload_n rfl rfl ?_
                            refine y_getR rfl (ySh.t hS rfl) (ySh.n hS rfl) rfl rfl (ySh.r hS rfl) ?_
                            refine y_aload_n rfl rfl ?_
                            refine y_iload_n rfl rfl ?_
                            refine y_iload_n rfl rfl ?_
                            refine y_virt rfl rfl rfl rfl rfl (ySh.t hS rfl) (ySh.n hS rfl) ?_
                            refine sp_at (by omega) (by omega) (by decide) (by decide) (fun z_ hz49 => ?_)
                            rw [yz_8] at hz49
                            refine y_ret1 ?_
                            refine y_dup2 rfl rfl rfl ?_
                            refine y_iaload rfl (ySh.t hS rfl) (ySh.n hS rfl) (by omega) (by omega) ?_
                            refine y_iload rfl rfl ?_
                            refine y_iadd rfl ?_
                            refine y_iastore rfl (ySh.t hS rfl) (ySh.n hS rfl) (Nat.le_of_ble_eq_true rfl) (by omega) (by omega) ?_
                            refine y_return rfl ?_
                            refine y_ret0 ?_
                            refine y_aload_n rfl rfl ?_
                            refine y_getR rfl (ySh.t hS rfl) (ySh.n hS rfl) rfl rfl (ySh.r hS rfl) ?_
                            refine y_iload_n rfl rfl ?_
                            refine y_iload rfl rfl ?_
                            refine y_virt rfl rfl rfl rfl rfl (ySh.t hS rfl) (ySh.n hS rfl) ?_
                            refine y_in (M := xm_X7_capitalOf) (ls := [some _, some _, some _]) rfl rfl rfl ?_
                            refine y_aload_n rfl rfl ?_
                            refine y_getR rfl (ySh.t hS rfl) (ySh.n hS rfl) rfl rfl (ySh.r hS rfl) ?_
                            refine y_aload_n rfl rfl ?_
                            refine y_iload_n rfl rfl ?_
                            refine y_iload_n rfl rfl ?_
                            refine y_virt rfl rfl rfl rfl rfl (ySh.t hS rfl) (ySh.n hS rfl) ?_
                            refine sp_at (by omega) (by omega) (by omega) (by omega) (fun z_ hz50 => ?_)
                            refine y_ret1 ?_
                            refine y_iaload rfl (ySh.t hS rfl) (ySh.n hS rfl) (by omega) (by omega) ?_
                            refine y_ireturn rfl rfl rfl ?_
                            refine y_ret1 ?_
                            refine y_ireturn rfl rfl rfl ?_
                            exact hQ _ _ hC (by repeat (first | exact hF | refine yFu.upd ?_ (by decide)))
                          · refine y_throw rfl rfl rfl ?_
                            exact hE2
                · rw [yz_m1] at h_16
                  refine y_bip rfl (by decide) ?_
                  refine y_goto rfl j_X8_placeOf_11 ?_
                  refine y_ireturn rfl rfl rfl ?_
                  refine y_ret1 ?_
                  refine y_istore (ls' := [some _, some _, some _, some _, some _, some _, _]) rfl rfl rfl ?_
                  refine y_iload_n rfl rfl ?_
                  refine y_static rfl rfl rfl rfl rfl ?_
                  refine y_in (M := xm_X8_placeOf) (ls := [some _]) rfl rfl rfl ?_
                  refine y_iload_n rfl rfl ?_
                  refine y_iconst rfl ?_
                  refine y_icmp_ne rfl j_X8_placeOf_10 (fun h_51 => ?_) (fun h_52 => ?_)
                  · rw [yz_m1] at h_51
                    refine y_iload_n rfl rfl ?_
                    refine y_ireturn rfl rfl rfl ?_
                    refine y_ret1 ?_
                    refine y_istore (ls' := [some _, some _, some _, some _, some _, some _, some _]) rfl rfl rfl ?_
                    refine y_aload_n rfl rfl ?_
                    refine y_getR rfl (ySh.t hS rfl) (ySh.n hS rfl) rfl rfl (ySh.r hS rfl) ?_
                    refine y_iload_n rfl rfl ?_
                    refine y_iload rfl rfl ?_
                    refine y_virt rfl rfl rfl rfl rfl (ySh.t hS rfl) (ySh.n hS rfl) ?_
                    refine y_in (M := xm_X7_isPartner) (ls := [some _, some _, some _]) rfl rfl rfl ?_
                    refine y_aload_n rfl rfl ?_
                    refine y_getR rfl (ySh.t hS rfl) (ySh.n hS rfl) rfl rfl (ySh.r hS rfl) ?_
                    refine y_aload_n rfl rfl ?_
                    refine y_iload_n rfl rfl ?_
                    refine y_iload_n rfl rfl ?_
                    refine y_virt rfl rfl rfl rfl rfl (ySh.t hS rfl) (ySh.n hS rfl) ?_
                    refine sp_at (by omega) (by omega) (by decide) (by decide) (fun z_ hz53 => ?_)
                    rw [yz_8] at hz53
                    refine y_ret1 ?_
                    refine y_baload rfl (ySh.t hS rfl) rfl (ySh.n hS rfl) (by omega) (by omega) ?_
                    refine y_ireturn rfl rfl (xfit_z (hC.p _)) ?_
                    refine y_ret1 ?_
                    refine y_if_eq rfl j_X8_buyOut_134 (fun h_54 => ?_) (fun h_55 => ?_)
                    · refine y_throw rfl rfl rfl ?_
                      exact hE2
                    · refine y_aload_n rfl rfl ?_
                      refine y_getR rfl (ySh.t hS rfl) (ySh.n hS rfl) rfl rfl (ySh.r hS rfl) ?_
                      refine y_iload_n rfl rfl ?_
                      refine y_iload rfl rfl ?_
                      refine y_virt rfl rfl rfl rfl rfl (ySh.t hS rfl) (ySh.n hS rfl) ?_
                      refine y_in (M := xm_X7_isPartner) (ls := [some _, some _, some _]) rfl rfl rfl ?_
                      refine y_aload_n rfl rfl ?_
                      refine y_getR rfl (ySh.t hS rfl) (ySh.n hS rfl) rfl rfl (ySh.r hS rfl) ?_
                      refine y_aload_n rfl rfl ?_
                      refine y_iload_n rfl rfl ?_
                      refine y_iload_n rfl rfl ?_
                      refine y_virt rfl rfl rfl rfl rfl (ySh.t hS rfl) (ySh.n hS rfl) ?_
                      refine sp_at (by omega) (by omega) (by omega) (by omega) (fun z_ hz56 => ?_)
                      refine y_ret1 ?_
                      refine y_baload rfl (ySh.t hS rfl) rfl (ySh.n hS rfl) (by omega) (by omega) ?_
                      refine y_ireturn rfl rfl (xfit_z (hC.p _)) ?_
                      refine y_ret1 ?_
                      refine y_if_eq rfl j_X8_buyOut_134 (fun h_57 => ?_) (fun h_58 => ?_)
                      · refine y_throw rfl rfl rfl ?_
                        exact hE2
                      · refine y_aload_n rfl rfl ?_
                        refine y_getR rfl (ySh.t hS rfl) (ySh.n hS rfl) rfl rfl (ySh.r hS rfl) ?_
                        refine y_iload_n rfl rfl ?_
                        refine y_iload rfl rfl ?_
                        refine y_virt rfl rfl rfl rfl rfl (ySh.t hS rfl) (ySh.n hS rfl) ?_
                        refine y_in (M := xm_X7_capitalOf) (ls := [some _, some _, some _]) rfl rfl rfl ?_
                        refine y_aload_n rfl rfl ?_
                        refine y_getR rfl (ySh.t hS rfl) (ySh.n hS rfl) rfl rfl (ySh.r hS rfl) ?_
                        refine y_aload_n rfl rfl ?_
                        refine y_iload_n rfl rfl ?_
                        refine y_iload_n rfl rfl ?_
                        refine y_virt rfl rfl rfl rfl rfl (ySh.t hS rfl) (ySh.n hS rfl) ?_
                        refine sp_at (by omega) (by omega) (by decide) (by decide) (fun z_ hz59 => ?_)
                        rw [yz_8] at hz59
                        refine y_ret1 ?_
                        refine y_iaload rfl (ySh.t hS rfl) (ySh.n hS rfl) (by omega) (by omega) ?_
                        refine y_ireturn rfl rfl rfl ?_
                        refine y_ret1 ?_
                        refine y_iload rfl rfl ?_
                        refine y_icmp_lt rfl j_X8_buyOut_134 (fun h_60 => ?_) (fun h_61 => ?_)
                        · refine y_throw rfl rfl rfl ?_
                          exact hE2
                        · refine y_aload_n rfl rfl ?_
                          refine y_getR rfl (ySh.t hS rfl) (ySh.n hS rfl) rfl rfl (ySh.r hS rfl) ?_
                          refine y_getR rfl (ySh.t hS rfl) (ySh.n hS rfl) rfl rfl (ySh.r hS rfl) ?_
                          refine y_iload rfl rfl ?_
                          refine y_iaload rfl (ySh.t hS rfl) (ySh.n hS rfl) (by omega) (by omega) ?_
                          refine y_iload rfl rfl ?_
                          refine y_icmp_ge rfl j_X8_buyOut_145 (fun h_62 => ?_) (fun h_63 => ?_)
                          · refine y_aload_n rfl rfl ?_
                            refine y_getR rfl (ySh.t hS rfl) (ySh.n hS rfl) rfl rfl (ySh.r hS rfl) ?_
                            refine y_iload rfl rfl ?_
                            refine y_iload rfl rfl ?_
                            refine y_iload rfl rfl ?_
                            refine y_virt rfl rfl rfl rfl rfl (ySh.t hS rfl) (ySh.n hS rfl) ?_
                            refine y_in (M := xm_X4_move) (ls := [some _, some _, some _, some _]) rfl rfl rfl ?_
                            refine y_aload_n rfl rfl ?_
                            refine y_iload_n rfl rfl ?_
                            refine y_iload_n rfl rfl ?_
                            refine y_ineg rfl ?_
                            refine y_virt rfl rfl rfl rfl rfl (ySh.t hS rfl) (ySh.n hS rfl) ?_
                            refine spu_add_X4 hS hC (fun I74 hC hF1 => ?_)
                            have hF : yFu I I74 := yFu.trans (by repeat (first | exact hF | refine yFu.upd ?_ (by decide))) hF1.t
                            have hd : (I74 34 8).toInt = (I 34 8).toInt := congrArg Int32.toInt (hF1 34 8 (Or.inl (by decide)))
                            refine y_ret0 ?_
                            refine y_aload_n rfl rfl ?_
                            refine y_iload_n rfl rfl ?_
                            refine y_iload_n rfl rfl ?_
                            refine y_virt rfl rfl rfl rfl rfl (ySh.t hS rfl) (ySh.n hS rfl) ?_
                            refine spu_add_X4 hS hC (fun I75 hC hF1 => ?_)
                            have hF : yFu I I75 := yFu.trans (by repeat (first | exact hF | refine yFu.upd ?_ (by decide))) hF1.t
                            have hd : (I75 34 8).toInt = (I74 34 8).toInt := congrArg Int32.toInt (hF1 34 8 (Or.inl (by decide)))
                            refine y_ret0 ?_
                            refine y_return rfl ?_
                            refine y_ret0 ?_
                            refine y_aload_n rfl rfl ?_
                            refine y_getR rfl (ySh.t hS rfl) (ySh.n hS rfl) rfl rfl (ySh.r hS rfl) ?_
                            refine y_iload_n rfl rfl ?_
                            refine y_iload rfl rfl ?_
                            refine y_iload rfl rfl ?_
                            refine y_iload rfl rfl ?_
                            refine y_virt rfl rfl rfl rfl rfl (ySh.t hS rfl) (ySh.n hS rfl) ?_
                            refine y_in (M := xm_X7_moveCapital) (ls := [some _, some _, some _, some _, some _]) rfl rfl rfl ?_
                            refine y_aload_n rfl rfl ?_
                            refine y_getR rfl (ySh.t hS rfl) (ySh.n hS rfl) rfl rfl (ySh.r hS rfl) ?_
                            refine y_aload_n rfl rfl ?_
                            refine y_iload_n rfl rfl ?_
                            refine y_iload_n rfl rfl ?_
                            refine y_virt rfl rfl rfl rfl rfl (ySh.t hS rfl) (ySh.n hS rfl) ?_
                            refine sp_at (by omega) (by omega) (by decide) (by decide) (fun z_ hz66 => ?_)
                            rw [yz_8] at hz66
                            refine y_ret1 ?_
                            refine y_dup2 rfl rfl rfl ?_
                            refine y_iaload rfl (ySh.t hS rfl) (ySh.n hS rfl) (by omega) (by omega) ?_
                            refine y_iload rfl rfl ?_
                            refine y_isub rfl ?_
                            refine y_iastore rfl (ySh.t hS rfl) (ySh.n hS rfl) (Nat.le_of_ble_eq_true rfl) (by omega) (by omega) ?_
                            refine y_aload_n rfl rfl ?_
                            refine y_getR rfl (ySh.t hS rfl) (ySh.n hS rfl) rfl rfl (ySh.r hS rfl) ?_
                            refine y_aload_n rfl rfl ?_
                            refine y_iload_n rfl rfl ?_
                            refine y_iload_n rfl rfl ?_
                            refine y_virt rfl rfl rfl rfl rfl (ySh.t hS rfl) (ySh.n hS rfl) ?_
                            refine sp_at (by omega) (by omega) (by omega) (by omega) (fun z_ hz67 => ?_)
                            refine y_ret1 ?_
                            refine y_dup2 rfl rfl rfl ?_
                            refine y_iaload rfl (ySh.t hS rfl) (ySh.n hS rfl) (by omega) (by omega) ?_
                            refine y_iload rfl rfl ?_
                            refine y_iadd rfl ?_
                            refine y_iastore rfl (ySh.t hS rfl) (ySh.n hS rfl) (Nat.le_of_ble_eq_true rfl) (by omega) (by omega) ?_
                            refine y_return rfl ?_
                            refine y_ret0 ?_
                            refine y_aload_n rfl rfl ?_
                            refine y_getR rfl (ySh.t hS rfl) (ySh.n hS rfl) rfl rfl (ySh.r hS rfl) ?_
                            refine y_iload_n rfl rfl ?_
                            refine y_iload rfl rfl ?_
                            refine y_virt rfl rfl rfl rfl rfl (ySh.t hS rfl) (ySh.n hS rfl) ?_
                            refine y_in (M := xm_X7_capitalOf) (ls := [some _, some _, some _]) rfl rfl rfl ?_
                            refine y_aload_n rfl rfl ?_
                            refine y_getR rfl (ySh.t hS rfl) (ySh.n hS rfl) rfl rfl (ySh.r hS rfl) ?_
                            refine y_aload_n rfl rfl ?_
                            refine y_iload_n rfl rfl ?_
                            refine y_iload_n rfl rfl ?_
                            refine y_virt rfl rfl rfl rfl rfl (ySh.t hS rfl) (ySh.n hS rfl) ?_
                            refine sp_at (by omega) (by omega) (by decide) (by decide) (fun z_ hz68 => ?_)
                            rw [yz_8] at hz68
                            refine y_ret1 ?_
                            refine y_iaload rfl (ySh.t hS rfl) (ySh.n hS rfl) (by omega) (by omega) ?_
                            refine y_ireturn rfl rfl rfl ?_
                            refine y_ret1 ?_
                            refine y_ireturn rfl rfl rfl ?_
                            exact hQ _ _ hC (by repeat (first | exact hF | refine yFu.upd ?_ (by decide)))
                          · refine y_throw rfl rfl rfl ?_
                            exact hE2
                  · rw [yz_m1] at h_52
                    refine y_bip rfl (by decide) ?_
                    refine y_goto rfl j_X8_placeOf_11 ?_
                    refine y_ireturn rfl rfl rfl ?_
                    refine y_ret1 ?_
                    refine y_istore (ls' := [some _, some _, some _, some _, some _, some _, some _]) rfl rfl rfl ?_
                    refine y_aload_n rfl rfl ?_
                    refine y_getR rfl (ySh.t hS rfl) (ySh.n hS rfl) rfl rfl (ySh.r hS rfl) ?_
                    refine y_iload_n rfl rfl ?_
                    refine y_iload rfl rfl ?_
                    refine y_virt rfl rfl rfl rfl rfl (ySh.t hS rfl) (ySh.n hS rfl) ?_
                    refine y_in (M := xm_X7_isPartner) (ls := [some _, some _, some _]) rfl rfl rfl ?_
                    refine y_aload_n rfl rfl ?_
                    refine y_getR rfl (ySh.t hS rfl) (ySh.n hS rfl) rfl rfl (ySh.r hS rfl) ?_
                    refine y_aload_n rfl rfl ?_
                    refine y_iload_n rfl rfl ?_
                    refine y_iload_n rfl rfl ?_
                    refine y_virt rfl rfl rfl rfl rfl (ySh.t hS rfl) (ySh.n hS rfl) ?_
                    refine sp_at (by omega) (by omega) (by decide) (by decide) (fun z_ hz69 => ?_)
                    rw [yz_8] at hz69
                    refine y_ret1 ?_
                    refine y_baload rfl (ySh.t hS rfl) rfl (ySh.n hS rfl) (by omega) (by omega) ?_
                    refine y_ireturn rfl rfl (xfit_z (hC.p _)) ?_
                    refine y_ret1 ?_
                    refine y_if_eq rfl j_X8_buyOut_134 (fun h_70 => ?_) (fun h_71 => ?_)
                    · refine y_throw rfl rfl rfl ?_
                      exact hE2
                    · refine y_aload_n rfl rfl ?_
                      refine y_getR rfl (ySh.t hS rfl) (ySh.n hS rfl) rfl rfl (ySh.r hS rfl) ?_
                      refine y_iload_n rfl rfl ?_
                      refine y_iload rfl rfl ?_
                      refine y_virt rfl rfl rfl rfl rfl (ySh.t hS rfl) (ySh.n hS rfl) ?_
                      refine y_in (M := xm_X7_isPartner) (ls := [some _, some _, some _]) rfl rfl rfl ?_
                      refine y_aload_n rfl rfl ?_
                      refine y_getR rfl (ySh.t hS rfl) (ySh.n hS rfl) rfl rfl (ySh.r hS rfl) ?_
                      refine y_aload_n rfl rfl ?_
                      refine y_iload_n rfl rfl ?_
                      refine y_iload_n rfl rfl ?_
                      refine y_virt rfl rfl rfl rfl rfl (ySh.t hS rfl) (ySh.n hS rfl) ?_
                      refine sp_at (by omega) (by omega) (by decide) (by decide) (fun z_ hz72 => ?_)
                      rw [yz_8] at hz72
                      refine y_ret1 ?_
                      refine y_baload rfl (ySh.t hS rfl) rfl (ySh.n hS rfl) (by omega) (by omega) ?_
                      refine y_ireturn rfl rfl (xfit_z (hC.p _)) ?_
                      refine y_ret1 ?_
                      refine y_if_eq rfl j_X8_buyOut_134 (fun h_73 => ?_) (fun h_74 => ?_)
                      · refine y_throw rfl rfl rfl ?_
                        exact hE2
                      · refine y_aload_n rfl rfl ?_
                        refine y_getR rfl (ySh.t hS rfl) (ySh.n hS rfl) rfl rfl (ySh.r hS rfl) ?_
                        refine y_iload_n rfl rfl ?_
                        refine y_iload rfl rfl ?_
                        refine y_virt rfl rfl rfl rfl rfl (ySh.t hS rfl) (ySh.n hS rfl) ?_
                        refine y_in (M := xm_X7_capitalOf) (ls := [some _, some _, some _]) rfl rfl rfl ?_
                        refine y_aload_n rfl rfl ?_
                        refine y_getR rfl (ySh.t hS rfl) (ySh.n hS rfl) rfl rfl (ySh.r hS rfl) ?_
                        refine y_aload_n rfl rfl ?_
                        refine y_iload_n rfl rfl ?_
                        refine y_iload_n rfl rfl ?_
                        refine y_virt rfl rfl rfl rfl rfl (ySh.t hS rfl) (ySh.n hS rfl) ?_
                        refine sp_at (by omega) (by omega) (by decide) (by decide) (fun z_ hz75 => ?_)
                        rw [yz_8] at hz75
                        refine y_ret1 ?_
                        refine y_iaload rfl (ySh.t hS rfl) (ySh.n hS rfl) (by omega) (by omega) ?_
                        refine y_ireturn rfl rfl rfl ?_
                        refine y_ret1 ?_
                        refine y_iload rfl rfl ?_
                        refine y_icmp_lt rfl j_X8_buyOut_134 (fun h_76 => ?_) (fun h_77 => ?_)
                        · refine y_throw rfl rfl rfl ?_
                          exact hE2
                        · refine y_aload_n rfl rfl ?_
                          refine y_getR rfl (ySh.t hS rfl) (ySh.n hS rfl) rfl rfl (ySh.r hS rfl) ?_
                          refine y_getR rfl (ySh.t hS rfl) (ySh.n hS rfl) rfl rfl (ySh.r hS rfl) ?_
                          refine y_iload rfl rfl ?_
                          refine y_iaload rfl (ySh.t hS rfl) (ySh.n hS rfl) (by decide) (by decide) ?_
                          refine y_iload rfl rfl ?_
                          refine y_icmp_ge rfl j_X8_buyOut_145 (fun h_78 => ?_) (fun h_79 => ?_)
                          · refine y_aload_n rfl rfl ?_
                            refine y_getR rfl (ySh.t hS rfl) (ySh.n hS rfl) rfl rfl (ySh.r hS rfl) ?_
                            refine y_iload rfl rfl ?_
                            refine y_iload rfl rfl ?_
                            refine y_iload rfl rfl ?_
                            refine y_virt rfl rfl rfl rfl rfl (ySh.t hS rfl) (ySh.n hS rfl) ?_
                            refine y_in (M := xm_X4_move) (ls := [some _, some _, some _, some _]) rfl rfl rfl ?_
                            refine y_aload_n rfl rfl ?_
                            refine y_iload_n rfl rfl ?_
                            refine y_iload_n rfl rfl ?_
                            refine y_ineg rfl ?_
                            refine y_virt rfl rfl rfl rfl rfl (ySh.t hS rfl) (ySh.n hS rfl) ?_
                            refine spu_add_X4 hS hC (fun I90 hC hF1 => ?_)
                            have hF : yFu I I90 := yFu.trans (by repeat (first | exact hF | refine yFu.upd ?_ (by decide))) hF1.t
                            have hd : (I90 34 8).toInt = (I 34 8).toInt := congrArg Int32.toInt (hF1 34 8 (Or.inl (by decide)))
                            refine y_ret0 ?_
                            refine y_aload_n rfl rfl ?_
                            refine y_iload_n rfl rfl ?_
                            refine y_iload_n rfl rfl ?_
                            refine y_virt rfl rfl rfl rfl rfl (ySh.t hS rfl) (ySh.n hS rfl) ?_
                            refine spu_add_X4 hS hC (fun I91 hC hF1 => ?_)
                            have hF : yFu I I91 := yFu.trans (by repeat (first | exact hF | refine yFu.upd ?_ (by decide))) hF1.t
                            have hd : (I91 34 8).toInt = (I90 34 8).toInt := congrArg Int32.toInt (hF1 34 8 (Or.inl (by decide)))
                            refine y_ret0 ?_
                            refine y_return rfl ?_
                            refine y_ret0 ?_
                            refine y_aload_n rfl rfl ?_
                            refine y_getR rfl (ySh.t hS rfl) (ySh.n hS rfl) rfl rfl (ySh.r hS rfl) ?_
                            refine y_iload_n rfl rfl ?_
                            refine y_iload rfl rfl ?_
                            refine y_iload rfl rfl ?_
                            refine y_iload rfl rfl ?_
                            refine y_virt rfl rfl rfl rfl rfl (ySh.t hS rfl) (ySh.n hS rfl) ?_
                            refine y_in (M := xm_X7_moveCapital) (ls := [some _, some _, some _, some _, some _]) rfl rfl rfl ?_
                            refine y_aload_n rfl rfl ?_
                            refine y_getR rfl (ySh.t hS rfl) (ySh.n hS rfl) rfl rfl (ySh.r hS rfl) ?_
                            refine y_aload_n rfl rfl ?_
                            refine y_iload_n rfl rfl ?_
                            refine y_iload_n rfl rfl ?_
                            refine y_virt rfl rfl rfl rfl rfl (ySh.t hS rfl) (ySh.n hS rfl) ?_
                            refine sp_at (by omega) (by omega) (by decide) (by decide) (fun z_ hz82 => ?_)
                            rw [yz_8] at hz82
                            refine y_ret1 ?_
                            refine y_dup2 rfl rfl rfl ?_
                            refine y_iaload rfl (ySh.t hS rfl) (ySh.n hS rfl) (by omega) (by omega) ?_
                            refine y_iload rfl rfl ?_
                            refine y_isub rfl ?_
                            refine y_iastore rfl (ySh.t hS rfl) (ySh.n hS rfl) (Nat.le_of_ble_eq_true rfl) (by omega) (by omega) ?_
                            refine y_aload_n rfl rfl ?_
                            refine y_getR rfl (ySh.t hS rfl) (ySh.n hS rfl) rfl rfl (ySh.r hS rfl) ?_
                            refine y_aload_n rfl rfl ?_
                            refine y_iload_n rfl rfl ?_
                            refine y_iload_n rfl rfl ?_
                            refine y_virt rfl rfl rfl rfl rfl (ySh.t hS rfl) (ySh.n hS rfl) ?_
                            refine sp_at (by omega) (by omega) (by decide) (by decide) (fun z_ hz83 => ?_)
                            rw [yz_8] at hz83
                            refine y_ret1 ?_
                            refine y_dup2 rfl rfl rfl ?_
                            refine y_iaload rfl (ySh.t hS rfl) (ySh.n hS rfl) (by omega) (by omega) ?_
                            refine y_iload rfl rfl ?_
                            refine y_iadd rfl ?_
                            refine y_iastore rfl (ySh.t hS rfl) (ySh.n hS rfl) (Nat.le_of_ble_eq_true rfl) (by omega) (by omega) ?_
                            refine y_return rfl ?_
                            refine y_ret0 ?_
                            refine y_aload_n rfl rfl ?_
                            refine y_getR rfl (ySh.t hS rfl) (ySh.n hS rfl) rfl rfl (ySh.r hS rfl) ?_
                            refine y_iload_n rfl rfl ?_
                            refine y_iload rfl rfl ?_
                            refine y_virt rfl rfl rfl rfl rfl (ySh.t hS rfl) (ySh.n hS rfl) ?_
                            refine y_in (M := xm_X7_capitalOf) (ls := [some _, some _, some _]) rfl rfl rfl ?_
                            refine y_aload_n rfl rfl ?_
                            refine y_getR rfl (ySh.t hS rfl) (ySh.n hS rfl) rfl rfl (ySh.r hS rfl) ?_
                            refine y_aload_n rfl rfl ?_
                            refine y_iload_n rfl rfl ?_
                            refine y_iload_n rfl rfl ?_
                            refine y_virt rfl rfl rfl rfl rfl (ySh.t hS rfl) (ySh.n hS rfl) ?_
                            refine sp_at (by omega) (by omega) (by decide) (by decide) (fun z_ hz84 => ?_)
                            rw [yz_8] at hz84
                            refine y_ret1 ?_
                            refine y_iaload rfl (ySh.t hS rfl) (ySh.n hS rfl) (by omega) (by omega) ?_
                            refine y_ireturn rfl rfl rfl ?_
                            refine y_ret1 ?_
                            refine y_ireturn rfl rfl rfl ?_
                            exact hQ _ _ hC (by repeat (first | exact hF | refine yFu.upd ?_ (by decide)))
                          · refine y_throw rfl rfl rfl ?_
                            exact hE2
        · rw [yz_m1] at h_8
          refine y_aload_n rfl rfl ?_
          refine y_getR rfl (ySh.t hS rfl) (ySh.n hS rfl) rfl rfl (ySh.r hS rfl) ?_
          refine y_iload_n rfl rfl ?_
          refine y_virt rfl rfl rfl rfl rfl (ySh.t hS rfl) (ySh.n hS rfl) ?_
          refine y_in (M := xm_X4_has) (ls := [some _, some _]) rfl rfl rfl ?_
          refine y_iload_n rfl rfl ?_
          refine y_if_lt rfl j_X4_has_16 (fun h_85 => ?_) (fun h_86 => ?_)
          · refine y_iconst rfl ?_
            refine y_ireturn rfl rfl rfl ?_
            refine y_ret1 ?_
            refine y_if_eqT rfl j_X8_isParty_20 (by decide) ?_
            refine y_iconst rfl ?_
            refine y_ireturn rfl rfl rfl ?_
            refine y_ret1 ?_
            refine y_if_neF rfl (by decide) ?_
            refine y_throw rfl rfl rfl ?_
            exact hE0
          · refine y_iload_n rfl rfl ?_
            refine y_aload_n rfl rfl ?_
            refine y_getI rfl (ySh.t hS rfl) (ySh.n hS rfl) rfl rfl ?_
            refine y_icmp_ge rfl j_X4_has_16 (fun h_87 => ?_) (fun h_88 => ?_)
            · refine y_iconst rfl ?_
              refine y_ireturn rfl rfl rfl ?_
              refine y_ret1 ?_
              refine y_if_eqT rfl j_X8_isParty_20 (by decide) ?_
              refine y_iconst rfl ?_
              refine y_ireturn rfl rfl rfl ?_
              refine y_ret1 ?_
              refine y_if_neF rfl (by decide) ?_
              refine y_throw rfl rfl rfl ?_
              exact hE0
            · refine y_iconst rfl ?_
              refine y_goto rfl j_X4_has_17 ?_
              refine y_ireturn rfl rfl rfl ?_
              refine y_ret1 ?_
              refine y_if_eqF rfl (by decide) ?_
              refine y_iconst rfl ?_
              refine y_goto rfl j_X8_isParty_21 ?_
              refine y_ireturn rfl rfl rfl ?_
              refine y_ret1 ?_
              refine y_if_neT rfl j_X8_buyOut_38 (by decide) ?_
              refine y_iload_n rfl rfl ?_
              refine y_iload_n rfl rfl ?_
              refine y_icmp_eq rfl j_X8_buyOut_55 (fun h_89 => ?_) (fun h_90 => ?_)
              · refine y_throw rfl rfl rfl ?_
                exact hE1
              · refine y_iload rfl rfl ?_
                refine y_iconst rfl ?_
                refine y_sip rfl (by decide) ?_
                refine y_static rfl rfl rfl rfl rfl ?_
                refine y_in (M := xm_X8_isIn) (ls := [some _, some _, some _]) rfl rfl rfl ?_
                refine y_iload_n rfl rfl ?_
                refine y_iload_n rfl rfl ?_
                refine y_icmp_lt rfl j_X8_isIn_14 (fun h_91 => ?_) (fun h_92 => ?_)
                · rw [yz_1] at h_91
                  refine y_iconst rfl ?_
                  refine y_ireturn rfl rfl rfl ?_
                  refine y_ret1 ?_
                  refine y_if_neF rfl (by decide) ?_
                  refine y_throw rfl rfl rfl ?_
                  exact hE1
                · rw [yz_1] at h_92
                  refine y_iload_n rfl rfl ?_
                  refine y_iload_n rfl rfl ?_
                  refine y_icmp_gt rfl j_X8_isIn_14 (fun h_93 => ?_) (fun h_94 => ?_)
                  · rw [yz_999] at h_93
                    refine y_iconst rfl ?_
                    refine y_ireturn rfl rfl rfl ?_
                    refine y_ret1 ?_
                    refine y_if_neF rfl (by decide) ?_
                    refine y_throw rfl rfl rfl ?_
                    exact hE1
                  · rw [yz_999] at h_94
                    refine y_iconst rfl ?_
                    refine y_goto rfl j_X8_isIn_15 ?_
                    refine y_ireturn rfl rfl rfl ?_
                    refine y_ret1 ?_
                    refine y_if_neT rfl j_X8_buyOut_66 (by decide) ?_
                    refine y_iload_n rfl rfl ?_
                    refine y_static rfl rfl rfl rfl rfl ?_
                    refine y_in (M := xm_X8_placeOf) (ls := [some _]) rfl rfl rfl ?_
                    refine y_iload_n rfl rfl ?_
                    refine y_iconst rfl ?_
                    refine y_icmp_ne rfl j_X8_placeOf_10 (fun h_95 => ?_) (fun h_96 => ?_)
                    · rw [yz_m1] at h_95
                      refine y_iload_n rfl rfl ?_
                      refine y_ireturn rfl rfl rfl ?_
                      refine y_ret1 ?_
                      refine y_istore (ls' := [some _, some _, some _, some _, some _, some _, _]) rfl rfl rfl ?_
                      refine y_iload_n rfl rfl ?_
                      refine y_static rfl rfl rfl rfl rfl ?_
                      refine y_in (M := xm_X8_placeOf) (ls := [some _]) rfl rfl rfl ?_
                      refine y_iload_n rfl rfl ?_
                      refine y_iconst rfl ?_
                      refine y_icmp_ne rfl j_X8_placeOf_10 (fun h_97 => ?_) (fun h_98 => ?_)
                      · rw [yz_m1] at h_97
                        refine y_iload_n rfl rfl ?_
                        refine y_ireturn rfl rfl rfl ?_
                        refine y_ret1 ?_
                        refine y_istore (ls' := [some _, some _, some _, some _, some _, some _, some _]) rfl rfl rfl ?_
                        refine y_aload_n rfl rfl ?_
                        refine y_getR rfl (ySh.t hS rfl) (ySh.n hS rfl) rfl rfl (ySh.r hS rfl) ?_
                        refine y_iload_n rfl rfl ?_
                        refine y_iload rfl rfl ?_
                        refine y_virt rfl rfl rfl rfl rfl (ySh.t hS rfl) (ySh.n hS rfl) ?_
                        refine y_in (M := xm_X7_isPartner) (ls := [some _, some _, some _]) rfl rfl rfl ?_
                        refine y_aload_n rfl rfl ?_
                        refine y_getR rfl (ySh.t hS rfl) (ySh.n hS rfl) rfl rfl (ySh.r hS rfl) ?_
                        refine y_aload_n rfl rfl ?_
                        refine y_iload_n rfl rfl ?_
                        refine y_iload_n rfl rfl ?_
                        refine y_virt rfl rfl rfl rfl rfl (ySh.t hS rfl) (ySh.n hS rfl) ?_
                        refine sp_at (by omega) (by omega) (by omega) (by omega) (fun z_ hz99 => ?_)
                        refine y_ret1 ?_
                        refine y_baload rfl (ySh.t hS rfl) rfl (ySh.n hS rfl) (by omega) (by omega) ?_
                        refine y_ireturn rfl rfl (xfit_z (hC.p _)) ?_
                        refine y_ret1 ?_
                        refine y_if_eq rfl j_X8_buyOut_134 (fun h_100 => ?_) (fun h_101 => ?_)
                        · refine y_throw rfl rfl rfl ?_
                          exact hE2
                        · refine y_aload_n rfl rfl ?_
                          refine y_getR rfl (ySh.t hS rfl) (ySh.n hS rfl) rfl rfl (ySh.r hS rfl) ?_
                          refine y_iload_n rfl rfl ?_
                          refine y_iload rfl rfl ?_
                          refine y_virt rfl rfl rfl rfl rfl (ySh.t hS rfl) (ySh.n hS rfl) ?_
                          refine y_in (M := xm_X7_isPartner) (ls := [some _, some _, some _]) rfl rfl rfl ?_
                          refine y_aload_n rfl rfl ?_
                          refine y_getR rfl (ySh.t hS rfl) (ySh.n hS rfl) rfl rfl (ySh.r hS rfl) ?_
                          refine y_aload_n rfl rfl ?_
                          refine y_iload_n rfl rfl ?_
                          refine y_iload_n rfl rfl ?_
                          refine y_virt rfl rfl rfl rfl rfl (ySh.t hS rfl) (ySh.n hS rfl) ?_
                          refine sp_at (by omega) (by omega) (by omega) (by omega) (fun z_ hz102 => ?_)
                          refine y_ret1 ?_
                          refine y_baload rfl (ySh.t hS rfl) rfl (ySh.n hS rfl) (by omega) (by omega) ?_
                          refine y_ireturn rfl rfl (xfit_z (hC.p _)) ?_
                          refine y_ret1 ?_
                          refine y_if_eq rfl j_X8_buyOut_134 (fun h_103 => ?_) (fun h_104 => ?_)
                          · refine y_throw rfl rfl rfl ?_
                            exact hE2
                          · refine y_aload_n rfl rfl ?_
                            refine y_getR rfl (ySh.t hS rfl) (ySh.n hS rfl) rfl rfl (ySh.r hS rfl) ?_
                            refine y_iload_n rfl rfl ?_
                            refine y_iload rfl rfl ?_
                            refine y_virt rfl rfl rfl rfl rfl (ySh.t hS rfl) (ySh.n hS rfl) ?_
                            refine y_in (M := xm_X7_capitalOf) (ls := [some _, some _, some _]) rfl rfl rfl ?_
                            refine y_aload_n rfl rfl ?_
                            refine y_getR rfl (ySh.t hS rfl) (ySh.n hS rfl) rfl rfl (ySh.r hS rfl) ?_
                            refine y_aload_n rfl rfl ?_
                            refine y_iload_n rfl rfl ?_
                            refine y_iload_n rfl rfl ?_
                            refine y_virt rfl rfl rfl rfl rfl (ySh.t hS rfl) (ySh.n hS rfl) ?_
                            refine sp_at (by omega) (by omega) (by omega) (by omega) (fun z_ hz105 => ?_)
                            refine y_ret1 ?_
                            refine y_iaload rfl (ySh.t hS rfl) (ySh.n hS rfl) (by omega) (by omega) ?_
                            refine y_ireturn rfl rfl rfl ?_
                            refine y_ret1 ?_
                            refine y_iload rfl rfl ?_
                            refine y_icmp_lt rfl j_X8_buyOut_134 (fun h_106 => ?_) (fun h_107 => ?_)
                            · refine y_throw rfl rfl rfl ?_
                              exact hE2
                            · refine y_aload_n rfl rfl ?_
                              refine y_getR rfl (ySh.t hS rfl) (ySh.n hS rfl) rfl rfl (ySh.r hS rfl) ?_
                              refine y_getR rfl (ySh.t hS rfl) (ySh.n hS rfl) rfl rfl (ySh.r hS rfl) ?_
                              refine y_iload rfl rfl ?_
                              refine y_iaload rfl (ySh.t hS rfl) (ySh.n hS rfl) (by omega) (by omega) ?_
                              refine y_iload rfl rfl ?_
                              refine y_icmp_ge rfl j_X8_buyOut_145 (fun h_108 => ?_) (fun h_109 => ?_)
                              · refine y_aload_n rfl rfl ?_
                                refine y_getR rfl (ySh.t hS rfl) (ySh.n hS rfl) rfl rfl (ySh.r hS rfl) ?_
                                refine y_iload rfl rfl ?_
                                refine y_iload rfl rfl ?_
                                refine y_iload rfl rfl ?_
                                refine y_virt rfl rfl rfl rfl rfl (ySh.t hS rfl) (ySh.n hS rfl) ?_
                                refine y_in (M := xm_X4_move) (ls := [some _, some _, some _, some _]) rfl rfl rfl ?_
                                refine y_aload_n rfl rfl ?_
                                refine y_iload_n rfl rfl ?_
                                refine y_iload_n rfl rfl ?_
                                refine y_ineg rfl ?_
                                refine y_virt rfl rfl rfl rfl rfl (ySh.t hS rfl) (ySh.n hS rfl) ?_
                                refine spu_add_X4 hS hC (fun I120 hC hF1 => ?_)
                                have hF : yFu I I120 := yFu.trans (by repeat (first | exact hF | refine yFu.upd ?_ (by decide))) hF1.t
                                have hd : (I120 34 8).toInt = (I 34 8).toInt := congrArg Int32.toInt (hF1 34 8 (Or.inl (by decide)))
                                refine y_ret0 ?_
                                refine y_aload_n rfl rfl ?_
                                refine y_iload_n rfl rfl ?_
                                refine y_iload_n rfl rfl ?_
                                refine y_virt rfl rfl rfl rfl rfl (ySh.t hS rfl) (ySh.n hS rfl) ?_
                                refine spu_add_X4 hS hC (fun I121 hC hF1 => ?_)
                                have hF : yFu I I121 := yFu.trans (by repeat (first | exact hF | refine yFu.upd ?_ (by decide))) hF1.t
                                have hd : (I121 34 8).toInt = (I120 34 8).toInt := congrArg Int32.toInt (hF1 34 8 (Or.inl (by decide)))
                                refine y_ret0 ?_
                                refine y_return rfl ?_
                                refine y_ret0 ?_
                                refine y_aload_n rfl rfl ?_
                                refine y_getR rfl (ySh.t hS rfl) (ySh.n hS rfl) rfl rfl (ySh.r hS rfl) ?_
                                refine y_iload_n rfl rfl ?_
                                refine y_iload rfl rfl ?_
                                refine y_iload rfl rfl ?_
                                refine y_iload rfl rfl ?_
                                refine y_virt rfl rfl rfl rfl rfl (ySh.t hS rfl) (ySh.n hS rfl) ?_
                                refine y_in (M := xm_X7_moveCapital) (ls := [some _, some _, some _, some _, some _]) rfl rfl rfl ?_
                                refine y_aload_n rfl rfl ?_
                                refine y_getR rfl (ySh.t hS rfl) (ySh.n hS rfl) rfl rfl (ySh.r hS rfl) ?_
                                refine y_aload_n rfl rfl ?_
                                refine y_iload_n rfl rfl ?_
                                refine y_iload_n rfl rfl ?_
                                refine y_virt rfl rfl rfl rfl rfl (ySh.t hS rfl) (ySh.n hS rfl) ?_
                                refine sp_at (by omega) (by omega) (by omega) (by omega) (fun z_ hz112 => ?_)
                                refine y_ret1 ?_
                                refine y_dup2 rfl rfl rfl ?_
                                refine y_iaload rfl (ySh.t hS rfl) (ySh.n hS rfl) (by omega) (by omega) ?_
                                refine y_iload rfl rfl ?_
                                refine y_isub rfl ?_
                                refine y_iastore rfl (ySh.t hS rfl) (ySh.n hS rfl) (Nat.le_of_ble_eq_true rfl) (by omega) (by omega) ?_
                                refine y_aload_n rfl rfl ?_
                                refine y_getR rfl (ySh.t hS rfl) (ySh.n hS rfl) rfl rfl (ySh.r hS rfl) ?_
                                refine y_aload_n rfl rfl ?_
                                refine y_iload_n rfl rfl ?_
                                refine y_iload_n rfl rfl ?_
                                refine y_virt rfl rfl rfl rfl rfl (ySh.t hS rfl) (ySh.n hS rfl) ?_
                                refine sp_at (by omega) (by omega) (by omega) (by omega) (fun z_ hz113 => ?_)
                                refine y_ret1 ?_
                                refine y_dup2 rfl rfl rfl ?_
                                refine y_iaload rfl (ySh.t hS rfl) (ySh.n hS rfl) (by omega) (by omega) ?_
                                refine y_iload rfl rfl ?_
                                refine y_iadd rfl ?_
                                refine y_iastore rfl (ySh.t hS rfl) (ySh.n hS rfl) (Nat.le_of_ble_eq_true rfl) (by omega) (by omega) ?_
                                refine y_return rfl ?_
                                refine y_ret0 ?_
                                refine y_aload_n rfl rfl ?_
                                refine y_getR rfl (ySh.t hS rfl) (ySh.n hS rfl) rfl rfl (ySh.r hS rfl) ?_
                                refine y_iload_n rfl rfl ?_
                                refine y_iload rfl rfl ?_
                                refine y_virt rfl rfl rfl rfl rfl (ySh.t hS rfl) (ySh.n hS rfl) ?_
                                refine y_in (M := xm_X7_capitalOf) (ls := [some _, some _, some _]) rfl rfl rfl ?_
                                refine y_aload_n rfl rfl ?_
                                refine y_getR rfl (ySh.t hS rfl) (ySh.n hS rfl) rfl rfl (ySh.r hS rfl) ?_
                                refine y_aload_n rfl rfl ?_
                                refine y_iload_n rfl rfl ?_
                                refine y_iload_n rfl rfl ?_
                                refine y_virt rfl rfl rfl rfl rfl (ySh.t hS rfl) (ySh.n hS rfl) ?_
                                refine sp_at (by omega) (by omega) (by omega) (by omega) (fun z_ hz114 => ?_)
                                refine y_ret1 ?_
                                refine y_iaload rfl (ySh.t hS rfl) (ySh.n hS rfl) (by omega) (by omega) ?_
                                refine y_ireturn rfl rfl rfl ?_
                                refine y_ret1 ?_
                                refine y_ireturn rfl rfl rfl ?_
                                exact hQ _ _ hC (by repeat (first | exact hF | refine yFu.upd ?_ (by decide)))
                              · refine y_throw rfl rfl rfl ?_
                                exact hE2
                      · rw [yz_m1] at h_98
                        refine y_bip rfl (by decide) ?_
                        refine y_goto rfl j_X8_placeOf_11 ?_
                        refine y_ireturn rfl rfl rfl ?_
                        refine y_ret1 ?_
                        refine y_istore (ls' := [some _, some _, some _, some _, some _, some _, some _]) rfl rfl rfl ?_
                        refine y_aload_n rfl rfl ?_
                        refine y_getR rfl (ySh.t hS rfl) (ySh.n hS rfl) rfl rfl (ySh.r hS rfl) ?_
                        refine y_iload_n rfl rfl ?_
                        refine y_iload rfl rfl ?_
                        refine y_virt rfl rfl rfl rfl rfl (ySh.t hS rfl) (ySh.n hS rfl) ?_
                        refine y_in (M := xm_X7_isPartner) (ls := [some _, some _, some _]) rfl rfl rfl ?_
                        refine y_aload_n rfl rfl ?_
                        refine y_getR rfl (ySh.t hS rfl) (ySh.n hS rfl) rfl rfl (ySh.r hS rfl) ?_
                        refine y_aload_n rfl rfl ?_
                        refine y_iload_n rfl rfl ?_
                        refine y_iload_n rfl rfl ?_
                        refine y_virt rfl rfl rfl rfl rfl (ySh.t hS rfl) (ySh.n hS rfl) ?_
                        refine sp_at (by omega) (by omega) (by omega) (by omega) (fun z_ hz115 => ?_)
                        refine y_ret1 ?_
                        refine y_baload rfl (ySh.t hS rfl) rfl (ySh.n hS rfl) (by omega) (by omega) ?_
                        refine y_ireturn rfl rfl (xfit_z (hC.p _)) ?_
                        refine y_ret1 ?_
                        refine y_if_eq rfl j_X8_buyOut_134 (fun h_116 => ?_) (fun h_117 => ?_)
                        · refine y_throw rfl rfl rfl ?_
                          exact hE2
                        · refine y_aload_n rfl rfl ?_
                          refine y_getR rfl (ySh.t hS rfl) (ySh.n hS rfl) rfl rfl (ySh.r hS rfl) ?_
                          refine y_iload_n rfl rfl ?_
                          refine y_iload rfl rfl ?_
                          refine y_virt rfl rfl rfl rfl rfl (ySh.t hS rfl) (ySh.n hS rfl) ?_
                          refine y_in (M := xm_X7_isPartner) (ls := [some _, some _, some _]) rfl rfl rfl ?_
                          refine y_aload_n rfl rfl ?_
                          refine y_getR rfl (ySh.t hS rfl) (ySh.n hS rfl) rfl rfl (ySh.r hS rfl) ?_
                          refine y_aload_n rfl rfl ?_
                          refine y_iload_n rfl rfl ?_
                          refine y_iload_n rfl rfl ?_
                          refine y_virt rfl rfl rfl rfl rfl (ySh.t hS rfl) (ySh.n hS rfl) ?_
                          refine sp_at (by omega) (by omega) (by decide) (by decide) (fun z_ hz118 => ?_)
                          rw [yz_8] at hz118
                          refine y_ret1 ?_
                          refine y_baload rfl (ySh.t hS rfl) rfl (ySh.n hS rfl) (by omega) (by omega) ?_
                          refine y_ireturn rfl rfl (xfit_z (hC.p _)) ?_
                          refine y_ret1 ?_
                          refine y_if_eq rfl j_X8_buyOut_134 (fun h_119 => ?_) (fun h_120 => ?_)
                          · refine y_throw rfl rfl rfl ?_
                            exact hE2
                          · refine y_aload_n rfl rfl ?_
                            refine y_getR rfl (ySh.t hS rfl) (ySh.n hS rfl) rfl rfl (ySh.r hS rfl) ?_
                            refine y_iload_n rfl rfl ?_
                            refine y_iload rfl rfl ?_
                            refine y_virt rfl rfl rfl rfl rfl (ySh.t hS rfl) (ySh.n hS rfl) ?_
                            refine y_in (M := xm_X7_capitalOf) (ls := [some _, some _, some _]) rfl rfl rfl ?_
                            refine y_aload_n rfl rfl ?_
                            refine y_getR rfl (ySh.t hS rfl) (ySh.n hS rfl) rfl rfl (ySh.r hS rfl) ?_
                            refine y_aload_n rfl rfl ?_
                            refine y_iload_n rfl rfl ?_
                            refine y_iload_n rfl rfl ?_
                            refine y_virt rfl rfl rfl rfl rfl (ySh.t hS rfl) (ySh.n hS rfl) ?_
                            refine sp_at (by omega) (by omega) (by omega) (by omega) (fun z_ hz121 => ?_)
                            refine y_ret1 ?_
                            refine y_iaload rfl (ySh.t hS rfl) (ySh.n hS rfl) (by omega) (by omega) ?_
                            refine y_ireturn rfl rfl rfl ?_
                            refine y_ret1 ?_
                            refine y_iload rfl rfl ?_
                            refine y_icmp_lt rfl j_X8_buyOut_134 (fun h_122 => ?_) (fun h_123 => ?_)
                            · refine y_throw rfl rfl rfl ?_
                              exact hE2
                            · refine y_aload_n rfl rfl ?_
                              refine y_getR rfl (ySh.t hS rfl) (ySh.n hS rfl) rfl rfl (ySh.r hS rfl) ?_
                              refine y_getR rfl (ySh.t hS rfl) (ySh.n hS rfl) rfl rfl (ySh.r hS rfl) ?_
                              refine y_iload rfl rfl ?_
                              refine y_iaload rfl (ySh.t hS rfl) (ySh.n hS rfl) (by decide) (by decide) ?_
                              refine y_iload rfl rfl ?_
                              refine y_icmp_ge rfl j_X8_buyOut_145 (fun h_124 => ?_) (fun h_125 => ?_)
                              · refine y_aload_n rfl rfl ?_
                                refine y_getR rfl (ySh.t hS rfl) (ySh.n hS rfl) rfl rfl (ySh.r hS rfl) ?_
                                refine y_iload rfl rfl ?_
                                refine y_iload rfl rfl ?_
                                refine y_iload rfl rfl ?_
                                refine y_virt rfl rfl rfl rfl rfl (ySh.t hS rfl) (ySh.n hS rfl) ?_
                                refine y_in (M := xm_X4_move) (ls := [some _, some _, some _, some _]) rfl rfl rfl ?_
                                refine y_aload_n rfl rfl ?_
                                refine y_iload_n rfl rfl ?_
                                refine y_iload_n rfl rfl ?_
                                refine y_ineg rfl ?_
                                refine y_virt rfl rfl rfl rfl rfl (ySh.t hS rfl) (ySh.n hS rfl) ?_
                                refine spu_add_X4 hS hC (fun I136 hC hF1 => ?_)
                                have hF : yFu I I136 := yFu.trans (by repeat (first | exact hF | refine yFu.upd ?_ (by decide))) hF1.t
                                have hd : (I136 34 8).toInt = (I 34 8).toInt := congrArg Int32.toInt (hF1 34 8 (Or.inl (by decide)))
                                refine y_ret0 ?_
                                refine y_aload_n rfl rfl ?_
                                refine y_iload_n rfl rfl ?_
                                refine y_iload_n rfl rfl ?_
                                refine y_virt rfl rfl rfl rfl rfl (ySh.t hS rfl) (ySh.n hS rfl) ?_
                                refine spu_add_X4 hS hC (fun I137 hC hF1 => ?_)
                                have hF : yFu I I137 := yFu.trans (by repeat (first | exact hF | refine yFu.upd ?_ (by decide))) hF1.t
                                have hd : (I137 34 8).toInt = (I136 34 8).toInt := congrArg Int32.toInt (hF1 34 8 (Or.inl (by decide)))
                                refine y_ret0 ?_
                                refine y_return rfl ?_
                                refine y_ret0 ?_
                                refine y_aload_n rfl rfl ?_
                                refine y_getR rfl (ySh.t hS rfl) (ySh.n hS rfl) rfl rfl (ySh.r hS rfl) ?_
                                refine y_iload_n rfl rfl ?_
                                refine y_iload rfl rfl ?_
                                refine y_iload rfl rfl ?_
                                refine y_iload rfl rfl ?_
                                refine y_virt rfl rfl rfl rfl rfl (ySh.t hS rfl) (ySh.n hS rfl) ?_
                                refine y_in (M := xm_X7_moveCapital) (ls := [some _, some _, some _, some _, some _]) rfl rfl rfl ?_
                                refine y_aload_n rfl rfl ?_
                                refine y_getR rfl (ySh.t hS rfl) (ySh.n hS rfl) rfl rfl (ySh.r hS rfl) ?_
                                refine y_aload_n rfl rfl ?_
                                refine y_iload_n rfl rfl ?_
                                refine y_iload_n rfl rfl ?_
                                refine y_virt rfl rfl rfl rfl rfl (ySh.t hS rfl) (ySh.n hS rfl) ?_
                                refine sp_at (by omega) (by omega) (by omega) (by omega) (fun z_ hz128 => ?_)
                                refine y_ret1 ?_
                                refine y_dup2 rfl rfl rfl ?_
                                refine y_iaload rfl (ySh.t hS rfl) (ySh.n hS rfl) (by omega) (by omega) ?_
                                refine y_iload rfl rfl ?_
                                refine y_isub rfl ?_
                                refine y_iastore rfl (ySh.t hS rfl) (ySh.n hS rfl) (Nat.le_of_ble_eq_true rfl) (by omega) (by omega) ?_
                                refine y_aload_n rfl rfl ?_
                                refine y_getR rfl (ySh.t hS rfl) (ySh.n hS rfl) rfl rfl (ySh.r hS rfl) ?_
                                refine y_aload_n rfl rfl ?_
                                refine y_iload_n rfl rfl ?_
                                refine y_iload_n rfl rfl ?_
                                refine y_virt rfl rfl rfl rfl rfl (ySh.t hS rfl) (ySh.n hS rfl) ?_
                                refine sp_at (by omega) (by omega) (by decide) (by decide) (fun z_ hz129 => ?_)
                                rw [yz_8] at hz129
                                refine y_ret1 ?_
                                refine y_dup2 rfl rfl rfl ?_
                                refine y_iaload rfl (ySh.t hS rfl) (ySh.n hS rfl) (by omega) (by omega) ?_
                                refine y_iload rfl rfl ?_
                                refine y_iadd rfl ?_
                                refine y_iastore rfl (ySh.t hS rfl) (ySh.n hS rfl) (Nat.le_of_ble_eq_true rfl) (by omega) (by omega) ?_
                                refine y_return rfl ?_
                                refine y_ret0 ?_
                                refine y_aload_n rfl rfl ?_
                                refine y_getR rfl (ySh.t hS rfl) (ySh.n hS rfl) rfl rfl (ySh.r hS rfl) ?_
                                refine y_iload_n rfl rfl ?_
                                refine y_iload rfl rfl ?_
                                refine y_virt rfl rfl rfl rfl rfl (ySh.t hS rfl) (ySh.n hS rfl) ?_
                                refine y_in (M := xm_X7_capitalOf) (ls := [some _, some _, some _]) rfl rfl rfl ?_
                                refine y_aload_n rfl rfl ?_
                                refine y_getR rfl (ySh.t hS rfl) (ySh.n hS rfl) rfl rfl (ySh.r hS rfl) ?_
                                refine y_aload_n rfl rfl ?_
                                refine y_iload_n rfl rfl ?_
                                refine y_iload_n rfl rfl ?_
                                refine y_virt rfl rfl rfl rfl rfl (ySh.t hS rfl) (ySh.n hS rfl) ?_
                                refine sp_at (by omega) (by omega) (by omega) (by omega) (fun z_ hz130 => ?_)
                                refine y_ret1 ?_
                                refine y_iaload rfl (ySh.t hS rfl) (ySh.n hS rfl) (by omega) (by omega) ?_
                                refine y_ireturn rfl rfl rfl ?_
                                refine y_ret1 ?_
                                refine y_ireturn rfl rfl rfl ?_
                                exact hQ _ _ hC (by repeat (first | exact hF | refine yFu.upd ?_ (by decide)))
                              · refine y_throw rfl rfl rfl ?_
                                exact hE2
                    · rw [yz_m1] at h_96
                      refine y_bip rfl (by decide) ?_
                      refine y_goto rfl j_X8_placeOf_11 ?_
                      refine y_ireturn rfl rfl rfl ?_
                      refine y_ret1 ?_
                      refine y_istore (ls' := [some _, some _, some _, some _, some _, some _, _]) rfl rfl rfl ?_
                      refine y_iload_n rfl rfl ?_
                      refine y_static rfl rfl rfl rfl rfl ?_
                      refine y_in (M := xm_X8_placeOf) (ls := [some _]) rfl rfl rfl ?_
                      refine y_iload_n rfl rfl ?_
                      refine y_iconst rfl ?_
                      refine y_icmp_ne rfl j_X8_placeOf_10 (fun h_131 => ?_) (fun h_132 => ?_)
                      · rw [yz_m1] at h_131
                        refine y_iload_n rfl rfl ?_
                        refine y_ireturn rfl rfl rfl ?_
                        refine y_ret1 ?_
                        refine y_istore (ls' := [some _, some _, some _, some _, some _, some _, some _]) rfl rfl rfl ?_
                        refine y_aload_n rfl rfl ?_
                        refine y_getR rfl (ySh.t hS rfl) (ySh.n hS rfl) rfl rfl (ySh.r hS rfl) ?_
                        refine y_iload_n rfl rfl ?_
                        refine y_iload rfl rfl ?_
                        refine y_virt rfl rfl rfl rfl rfl (ySh.t hS rfl) (ySh.n hS rfl) ?_
                        refine y_in (M := xm_X7_isPartner) (ls := [some _, some _, some _]) rfl rfl rfl ?_
                        refine y_aload_n rfl rfl ?_
                        refine y_getR rfl (ySh.t hS rfl) (ySh.n hS rfl) rfl rfl (ySh.r hS rfl) ?_
                        refine y_aload_n rfl rfl ?_
                        refine y_iload_n rfl rfl ?_
                        refine y_iload_n rfl rfl ?_
                        refine y_virt rfl rfl rfl rfl rfl (ySh.t hS rfl) (ySh.n hS rfl) ?_
                        refine sp_at (by omega) (by omega) (by decide) (by decide) (fun z_ hz133 => ?_)
                        rw [yz_8] at hz133
                        refine y_ret1 ?_
                        refine y_baload rfl (ySh.t hS rfl) rfl (ySh.n hS rfl) (by omega) (by omega) ?_
                        refine y_ireturn rfl rfl (xfit_z (hC.p _)) ?_
                        refine y_ret1 ?_
                        refine y_if_eq rfl j_X8_buyOut_134 (fun h_134 => ?_) (fun h_135 => ?_)
                        · refine y_throw rfl rfl rfl ?_
                          exact hE2
                        · refine y_aload_n rfl rfl ?_
                          refine y_getR rfl (ySh.t hS rfl) (ySh.n hS rfl) rfl rfl (ySh.r hS rfl) ?_
                          refine y_iload_n rfl rfl ?_
                          refine y_iload rfl rfl ?_
                          refine y_virt rfl rfl rfl rfl rfl (ySh.t hS rfl) (ySh.n hS rfl) ?_
                          refine y_in (M := xm_X7_isPartner) (ls := [some _, some _, some _]) rfl rfl rfl ?_
                          refine y_aload_n rfl rfl ?_
                          refine y_getR rfl (ySh.t hS rfl) (ySh.n hS rfl) rfl rfl (ySh.r hS rfl) ?_
                          refine y_aload_n rfl rfl ?_
                          refine y_iload_n rfl rfl ?_
                          refine y_iload_n rfl rfl ?_
                          refine y_virt rfl rfl rfl rfl rfl (ySh.t hS rfl) (ySh.n hS rfl) ?_
                          refine sp_at (by omega) (by omega) (by omega) (by omega) (fun z_ hz136 => ?_)
                          refine y_ret1 ?_
                          refine y_baload rfl (ySh.t hS rfl) rfl (ySh.n hS rfl) (by omega) (by omega) ?_
                          refine y_ireturn rfl rfl (xfit_z (hC.p _)) ?_
                          refine y_ret1 ?_
                          refine y_if_eq rfl j_X8_buyOut_134 (fun h_137 => ?_) (fun h_138 => ?_)
                          · refine y_throw rfl rfl rfl ?_
                            exact hE2
                          · refine y_aload_n rfl rfl ?_
                            refine y_getR rfl (ySh.t hS rfl) (ySh.n hS rfl) rfl rfl (ySh.r hS rfl) ?_
                            refine y_iload_n rfl rfl ?_
                            refine y_iload rfl rfl ?_
                            refine y_virt rfl rfl rfl rfl rfl (ySh.t hS rfl) (ySh.n hS rfl) ?_
                            refine y_in (M := xm_X7_capitalOf) (ls := [some _, some _, some _]) rfl rfl rfl ?_
                            refine y_aload_n rfl rfl ?_
                            refine y_getR rfl (ySh.t hS rfl) (ySh.n hS rfl) rfl rfl (ySh.r hS rfl) ?_
                            refine y_aload_n rfl rfl ?_
                            refine y_iload_n rfl rfl ?_
                            refine y_iload_n rfl rfl ?_
                            refine y_virt rfl rfl rfl rfl rfl (ySh.t hS rfl) (ySh.n hS rfl) ?_
                            refine sp_at (by omega) (by omega) (by decide) (by decide) (fun z_ hz139 => ?_)
                            rw [yz_8] at hz139
                            refine y_ret1 ?_
                            refine y_iaload rfl (ySh.t hS rfl) (ySh.n hS rfl) (by omega) (by omega) ?_
                            refine y_ireturn rfl rfl rfl ?_
                            refine y_ret1 ?_
                            refine y_iload rfl rfl ?_
                            refine y_icmp_lt rfl j_X8_buyOut_134 (fun h_140 => ?_) (fun h_141 => ?_)
                            · refine y_throw rfl rfl rfl ?_
                              exact hE2
                            · refine y_aload_n rfl rfl ?_
                              refine y_getR rfl (ySh.t hS rfl) (ySh.n hS rfl) rfl rfl (ySh.r hS rfl) ?_
                              refine y_getR rfl (ySh.t hS rfl) (ySh.n hS rfl) rfl rfl (ySh.r hS rfl) ?_
                              refine y_iload rfl rfl ?_
                              refine y_iaload rfl (ySh.t hS rfl) (ySh.n hS rfl) (by omega) (by omega) ?_
                              refine y_iload rfl rfl ?_
                              refine y_icmp_ge rfl j_X8_buyOut_145 (fun h_142 => ?_) (fun h_143 => ?_)
                              · refine y_aload_n rfl rfl ?_
                                refine y_getR rfl (ySh.t hS rfl) (ySh.n hS rfl) rfl rfl (ySh.r hS rfl) ?_
                                refine y_iload rfl rfl ?_
                                refine y_iload rfl rfl ?_
                                refine y_iload rfl rfl ?_
                                refine y_virt rfl rfl rfl rfl rfl (ySh.t hS rfl) (ySh.n hS rfl) ?_
                                refine y_in (M := xm_X4_move) (ls := [some _, some _, some _, some _]) rfl rfl rfl ?_
                                refine y_aload_n rfl rfl ?_
                                refine y_iload_n rfl rfl ?_
                                refine y_iload_n rfl rfl ?_
                                refine y_ineg rfl ?_
                                refine y_virt rfl rfl rfl rfl rfl (ySh.t hS rfl) (ySh.n hS rfl) ?_
                                refine spu_add_X4 hS hC (fun I154 hC hF1 => ?_)
                                have hF : yFu I I154 := yFu.trans (by repeat (first | exact hF | refine yFu.upd ?_ (by decide))) hF1.t
                                have hd : (I154 34 8).toInt = (I 34 8).toInt := congrArg Int32.toInt (hF1 34 8 (Or.inl (by decide)))
                                refine y_ret0 ?_
                                refine y_aload_n rfl rfl ?_
                                refine y_iload_n rfl rfl ?_
                                refine y_iload_n rfl rfl ?_
                                refine y_virt rfl rfl rfl rfl rfl (ySh.t hS rfl) (ySh.n hS rfl) ?_
                                refine spu_add_X4 hS hC (fun I155 hC hF1 => ?_)
                                have hF : yFu I I155 := yFu.trans (by repeat (first | exact hF | refine yFu.upd ?_ (by decide))) hF1.t
                                have hd : (I155 34 8).toInt = (I154 34 8).toInt := congrArg Int32.toInt (hF1 34 8 (Or.inl (by decide)))
                                refine y_ret0 ?_
                                refine y_return rfl ?_
                                refine y_ret0 ?_
                                refine y_aload_n rfl rfl ?_
                                refine y_getR rfl (ySh.t hS rfl) (ySh.n hS rfl) rfl rfl (ySh.r hS rfl) ?_
                                refine y_iload_n rfl rfl ?_
                                refine y_iload rfl rfl ?_
                                refine y_iload rfl rfl ?_
                                refine y_iload rfl rfl ?_
                                refine y_virt rfl rfl rfl rfl rfl (ySh.t hS rfl) (ySh.n hS rfl) ?_
                                refine y_in (M := xm_X7_moveCapital) (ls := [some _, some _, some _, some _, some _]) rfl rfl rfl ?_
                                refine y_aload_n rfl rfl ?_
                                refine y_getR rfl (ySh.t hS rfl) (ySh.n hS rfl) rfl rfl (ySh.r hS rfl) ?_
                                refine y_aload_n rfl rfl ?_
                                refine y_iload_n rfl rfl ?_
                                refine y_iload_n rfl rfl ?_
                                refine y_virt rfl rfl rfl rfl rfl (ySh.t hS rfl) (ySh.n hS rfl) ?_
                                refine sp_at (by omega) (by omega) (by decide) (by decide) (fun z_ hz146 => ?_)
                                rw [yz_8] at hz146
                                refine y_ret1 ?_
                                refine y_dup2 rfl rfl rfl ?_
                                refine y_iaload rfl (ySh.t hS rfl) (ySh.n hS rfl) (by omega) (by omega) ?_
                                refine y_iload rfl rfl ?_
                                refine y_isub rfl ?_
                                refine y_iastore rfl (ySh.t hS rfl) (ySh.n hS rfl) (Nat.le_of_ble_eq_true rfl) (by omega) (by omega) ?_
                                refine y_aload_n rfl rfl ?_
                                refine y_getR rfl (ySh.t hS rfl) (ySh.n hS rfl) rfl rfl (ySh.r hS rfl) ?_
                                refine y_aload_n rfl rfl ?_
                                refine y_iload_n rfl rfl ?_
                                refine y_iload_n rfl rfl ?_
                                refine y_virt rfl rfl rfl rfl rfl (ySh.t hS rfl) (ySh.n hS rfl) ?_
                                refine sp_at (by omega) (by omega) (by omega) (by omega) (fun z_ hz147 => ?_)
                                refine y_ret1 ?_
                                refine y_dup2 rfl rfl rfl ?_
                                refine y_iaload rfl (ySh.t hS rfl) (ySh.n hS rfl) (by omega) (by omega) ?_
                                refine y_iload rfl rfl ?_
                                refine y_iadd rfl ?_
                                refine y_iastore rfl (ySh.t hS rfl) (ySh.n hS rfl) (Nat.le_of_ble_eq_true rfl) (by omega) (by omega) ?_
                                refine y_return rfl ?_
                                refine y_ret0 ?_
                                refine y_aload_n rfl rfl ?_
                                refine y_getR rfl (ySh.t hS rfl) (ySh.n hS rfl) rfl rfl (ySh.r hS rfl) ?_
                                refine y_iload_n rfl rfl ?_
                                refine y_iload rfl rfl ?_
                                refine y_virt rfl rfl rfl rfl rfl (ySh.t hS rfl) (ySh.n hS rfl) ?_
                                refine y_in (M := xm_X7_capitalOf) (ls := [some _, some _, some _]) rfl rfl rfl ?_
                                refine y_aload_n rfl rfl ?_
                                refine y_getR rfl (ySh.t hS rfl) (ySh.n hS rfl) rfl rfl (ySh.r hS rfl) ?_
                                refine y_aload_n rfl rfl ?_
                                refine y_iload_n rfl rfl ?_
                                refine y_iload_n rfl rfl ?_
                                refine y_virt rfl rfl rfl rfl rfl (ySh.t hS rfl) (ySh.n hS rfl) ?_
                                refine sp_at (by omega) (by omega) (by decide) (by decide) (fun z_ hz148 => ?_)
                                rw [yz_8] at hz148
                                refine y_ret1 ?_
                                refine y_iaload rfl (ySh.t hS rfl) (ySh.n hS rfl) (by omega) (by omega) ?_
                                refine y_ireturn rfl rfl rfl ?_
                                refine y_ret1 ?_
                                refine y_ireturn rfl rfl rfl ?_
                                exact hQ _ _ hC (by repeat (first | exact hF | refine yFu.upd ?_ (by decide)))
                              · refine y_throw rfl rfl rfl ?_
                                exact hE2
                      · rw [yz_m1] at h_132
                        refine y_bip rfl (by decide) ?_
                        refine y_goto rfl j_X8_placeOf_11 ?_
                        refine y_ireturn rfl rfl rfl ?_
                        refine y_ret1 ?_
                        refine y_istore (ls' := [some _, some _, some _, some _, some _, some _, some _]) rfl rfl rfl ?_
                        refine y_aload_n rfl rfl ?_
                        refine y_getR rfl (ySh.t hS rfl) (ySh.n hS rfl) rfl rfl (ySh.r hS rfl) ?_
                        refine y_iload_n rfl rfl ?_
                        refine y_iload rfl rfl ?_
                        refine y_virt rfl rfl rfl rfl rfl (ySh.t hS rfl) (ySh.n hS rfl) ?_
                        refine y_in (M := xm_X7_isPartner) (ls := [some _, some _, some _]) rfl rfl rfl ?_
                        refine y_aload_n rfl rfl ?_
                        refine y_getR rfl (ySh.t hS rfl) (ySh.n hS rfl) rfl rfl (ySh.r hS rfl) ?_
                        refine y_aload_n rfl rfl ?_
                        refine y_iload_n rfl rfl ?_
                        refine y_iload_n rfl rfl ?_
                        refine y_virt rfl rfl rfl rfl rfl (ySh.t hS rfl) (ySh.n hS rfl) ?_
                        refine sp_at (by omega) (by omega) (by decide) (by decide) (fun z_ hz149 => ?_)
                        rw [yz_8] at hz149
                        refine y_ret1 ?_
                        refine y_baload rfl (ySh.t hS rfl) rfl (ySh.n hS rfl) (by omega) (by omega) ?_
                        refine y_ireturn rfl rfl (xfit_z (hC.p _)) ?_
                        refine y_ret1 ?_
                        refine y_if_eq rfl j_X8_buyOut_134 (fun h_150 => ?_) (fun h_151 => ?_)
                        · refine y_throw rfl rfl rfl ?_
                          exact hE2
                        · refine y_aload_n rfl rfl ?_
                          refine y_getR rfl (ySh.t hS rfl) (ySh.n hS rfl) rfl rfl (ySh.r hS rfl) ?_
                          refine y_iload_n rfl rfl ?_
                          refine y_iload rfl rfl ?_
                          refine y_virt rfl rfl rfl rfl rfl (ySh.t hS rfl) (ySh.n hS rfl) ?_
                          refine y_in (M := xm_X7_isPartner) (ls := [some _, some _, some _]) rfl rfl rfl ?_
                          refine y_aload_n rfl rfl ?_
                          refine y_getR rfl (ySh.t hS rfl) (ySh.n hS rfl) rfl rfl (ySh.r hS rfl) ?_
                          refine y_aload_n rfl rfl ?_
                          refine y_iload_n rfl rfl ?_
                          refine y_iload_n rfl rfl ?_
                          refine y_virt rfl rfl rfl rfl rfl (ySh.t hS rfl) (ySh.n hS rfl) ?_
                          refine sp_at (by omega) (by omega) (by decide) (by decide) (fun z_ hz152 => ?_)
                          rw [yz_8] at hz152
                          refine y_ret1 ?_
                          refine y_baload rfl (ySh.t hS rfl) rfl (ySh.n hS rfl) (by omega) (by omega) ?_
                          refine y_ireturn rfl rfl (xfit_z (hC.p _)) ?_
                          refine y_ret1 ?_
                          refine y_if_eq rfl j_X8_buyOut_134 (fun h_153 => ?_) (fun h_154 => ?_)
                          · refine y_throw rfl rfl rfl ?_
                            exact hE2
                          · refine y_aload_n rfl rfl ?_
                            refine y_getR rfl (ySh.t hS rfl) (ySh.n hS rfl) rfl rfl (ySh.r hS rfl) ?_
                            refine y_iload_n rfl rfl ?_
                            refine y_iload rfl rfl ?_
                            refine y_virt rfl rfl rfl rfl rfl (ySh.t hS rfl) (ySh.n hS rfl) ?_
                            refine y_in (M := xm_X7_capitalOf) (ls := [some _, some _, some _]) rfl rfl rfl ?_
                            refine y_aload_n rfl rfl ?_
                            refine y_getR rfl (ySh.t hS rfl) (ySh.n hS rfl) rfl rfl (ySh.r hS rfl) ?_
                            refine y_aload_n rfl rfl ?_
                            refine y_iload_n rfl rfl ?_
                            refine y_iload_n rfl rfl ?_
                            refine y_virt rfl rfl rfl rfl rfl (ySh.t hS rfl) (ySh.n hS rfl) ?_
                            refine sp_at (by omega) (by omega) (by decide) (by decide) (fun z_ hz155 => ?_)
                            rw [yz_8] at hz155
                            refine y_ret1 ?_
                            refine y_iaload rfl (ySh.t hS rfl) (ySh.n hS rfl) (by omega) (by omega) ?_
                            refine y_ireturn rfl rfl rfl ?_
                            refine y_ret1 ?_
                            refine y_iload rfl rfl ?_
                            refine y_icmp_lt rfl j_X8_buyOut_134 (fun h_156 => ?_) (fun h_157 => ?_)
                            · refine y_throw rfl rfl rfl ?_
                              exact hE2
                            · refine y_aload_n rfl rfl ?_
                              refine y_getR rfl (ySh.t hS rfl) (ySh.n hS rfl) rfl rfl (ySh.r hS rfl) ?_
                              refine y_getR rfl (ySh.t hS rfl) (ySh.n hS rfl) rfl rfl (ySh.r hS rfl) ?_
                              refine y_iload rfl rfl ?_
                              refine y_iaload rfl (ySh.t hS rfl) (ySh.n hS rfl) (by decide) (by decide) ?_
                              refine y_iload rfl rfl ?_
                              refine y_icmp_ge rfl j_X8_buyOut_145 (fun h_158 => ?_) (fun h_159 => ?_)
                              · refine y_aload_n rfl rfl ?_
                                refine y_getR rfl (ySh.t hS rfl) (ySh.n hS rfl) rfl rfl (ySh.r hS rfl) ?_
                                refine y_iload rfl rfl ?_
                                refine y_iload rfl rfl ?_
                                refine y_iload rfl rfl ?_
                                refine y_virt rfl rfl rfl rfl rfl (ySh.t hS rfl) (ySh.n hS rfl) ?_
                                refine y_in (M := xm_X4_move) (ls := [some _, some _, some _, some _]) rfl rfl rfl ?_
                                refine y_aload_n rfl rfl ?_
                                refine y_iload_n rfl rfl ?_
                                refine y_iload_n rfl rfl ?_
                                refine y_ineg rfl ?_
                                refine y_virt rfl rfl rfl rfl rfl (ySh.t hS rfl) (ySh.n hS rfl) ?_
                                refine spu_add_X4 hS hC (fun I170 hC hF1 => ?_)
                                have hF : yFu I I170 := yFu.trans (by repeat (first | exact hF | refine yFu.upd ?_ (by decide))) hF1.t
                                have hd : (I170 34 8).toInt = (I 34 8).toInt := congrArg Int32.toInt (hF1 34 8 (Or.inl (by decide)))
                                refine y_ret0 ?_
                                refine y_aload_n rfl rfl ?_
                                refine y_iload_n rfl rfl ?_
                                refine y_iload_n rfl rfl ?_
                                refine y_virt rfl rfl rfl rfl rfl (ySh.t hS rfl) (ySh.n hS rfl) ?_
                                refine spu_add_X4 hS hC (fun I171 hC hF1 => ?_)
                                have hF : yFu I I171 := yFu.trans (by repeat (first | exact hF | refine yFu.upd ?_ (by decide))) hF1.t
                                have hd : (I171 34 8).toInt = (I170 34 8).toInt := congrArg Int32.toInt (hF1 34 8 (Or.inl (by decide)))
                                refine y_ret0 ?_
                                refine y_return rfl ?_
                                refine y_ret0 ?_
                                refine y_aload_n rfl rfl ?_
                                refine y_getR rfl (ySh.t hS rfl) (ySh.n hS rfl) rfl rfl (ySh.r hS rfl) ?_
                                refine y_iload_n rfl rfl ?_
                                refine y_iload rfl rfl ?_
                                refine y_iload rfl rfl ?_
                                refine y_iload rfl rfl ?_
                                refine y_virt rfl rfl rfl rfl rfl (ySh.t hS rfl) (ySh.n hS rfl) ?_
                                refine y_in (M := xm_X7_moveCapital) (ls := [some _, some _, some _, some _, some _]) rfl rfl rfl ?_
                                refine y_aload_n rfl rfl ?_
                                refine y_getR rfl (ySh.t hS rfl) (ySh.n hS rfl) rfl rfl (ySh.r hS rfl) ?_
                                refine y_aload_n rfl rfl ?_
                                refine y_iload_n rfl rfl ?_
                                refine y_iload_n rfl rfl ?_
                                refine y_virt rfl rfl rfl rfl rfl (ySh.t hS rfl) (ySh.n hS rfl) ?_
                                refine sp_at (by omega) (by omega) (by decide) (by decide) (fun z_ hz162 => ?_)
                                rw [yz_8] at hz162
                                refine y_ret1 ?_
                                refine y_dup2 rfl rfl rfl ?_
                                refine y_iaload rfl (ySh.t hS rfl) (ySh.n hS rfl) (by omega) (by omega) ?_
                                refine y_iload rfl rfl ?_
                                refine y_isub rfl ?_
                                refine y_iastore rfl (ySh.t hS rfl) (ySh.n hS rfl) (Nat.le_of_ble_eq_true rfl) (by omega) (by omega) ?_
                                refine y_aload_n rfl rfl ?_
                                refine y_getR rfl (ySh.t hS rfl) (ySh.n hS rfl) rfl rfl (ySh.r hS rfl) ?_
                                refine y_aload_n rfl rfl ?_
                                refine y_iload_n rfl rfl ?_
                                refine y_iload_n rfl rfl ?_
                                refine y_virt rfl rfl rfl rfl rfl (ySh.t hS rfl) (ySh.n hS rfl) ?_
                                refine sp_at (by omega) (by omega) (by decide) (by decide) (fun z_ hz163 => ?_)
                                rw [yz_8] at hz163
                                refine y_ret1 ?_
                                refine y_dup2 rfl rfl rfl ?_
                                refine y_iaload rfl (ySh.t hS rfl) (ySh.n hS rfl) (by omega) (by omega) ?_
                                refine y_iload rfl rfl ?_
                                refine y_iadd rfl ?_
                                refine y_iastore rfl (ySh.t hS rfl) (ySh.n hS rfl) (Nat.le_of_ble_eq_true rfl) (by omega) (by omega) ?_
                                refine y_return rfl ?_
                                refine y_ret0 ?_
                                refine y_aload_n rfl rfl ?_
                                refine y_getR rfl (ySh.t hS rfl) (ySh.n hS rfl) rfl rfl (ySh.r hS rfl) ?_
                                refine y_iload_n rfl rfl ?_
                                refine y_iload rfl rfl ?_
                                refine y_virt rfl rfl rfl rfl rfl (ySh.t hS rfl) (ySh.n hS rfl) ?_
                                refine y_in (M := xm_X7_capitalOf) (ls := [some _, some _, some _]) rfl rfl rfl ?_
                                refine y_aload_n rfl rfl ?_
                                refine y_getR rfl (ySh.t hS rfl) (ySh.n hS rfl) rfl rfl (ySh.r hS rfl) ?_
                                refine y_aload_n rfl rfl ?_
                                refine y_iload_n rfl rfl ?_
                                refine y_iload_n rfl rfl ?_
                                refine y_virt rfl rfl rfl rfl rfl (ySh.t hS rfl) (ySh.n hS rfl) ?_
                                refine sp_at (by omega) (by omega) (by decide) (by decide) (fun z_ hz164 => ?_)
                                rw [yz_8] at hz164
                                refine y_ret1 ?_
                                refine y_iaload rfl (ySh.t hS rfl) (ySh.n hS rfl) (by omega) (by omega) ?_
                                refine y_ireturn rfl rfl rfl ?_
                                refine y_ret1 ?_
                                refine y_ireturn rfl rfl rfl ?_
                                exact hQ _ _ hC (by repeat (first | exact hF | refine yFu.upd ?_ (by decide)))
                              · refine y_throw rfl rfl rfl ?_
                                exact hE2
      · rw [yz_m1] at h_6
        refine y_aload_n rfl rfl ?_
        refine y_getR rfl (ySh.t hS rfl) (ySh.n hS rfl) rfl rfl (ySh.r hS rfl) ?_
        refine y_iload_n rfl rfl ?_
        refine y_virt rfl rfl rfl rfl rfl (ySh.t hS rfl) (ySh.n hS rfl) ?_
        refine y_in (M := xm_X4_has) (ls := [some _, some _]) rfl rfl rfl ?_
        refine y_iload_n rfl rfl ?_
        refine y_if_lt rfl j_X4_has_16 (fun h_165 => ?_) (fun h_166 => ?_)
        · refine y_iconst rfl ?_
          refine y_ireturn rfl rfl rfl ?_
          refine y_ret1 ?_
          refine y_if_eqT rfl j_X8_isParty_20 (by decide) ?_
          refine y_iconst rfl ?_
          refine y_ireturn rfl rfl rfl ?_
          refine y_ret1 ?_
          refine y_if_eqT rfl j_X8_buyOut_27 (by decide) ?_
          refine y_throw rfl rfl rfl ?_
          exact hE0
        · refine y_iload_n rfl rfl ?_
          refine y_aload_n rfl rfl ?_
          refine y_getI rfl (ySh.t hS rfl) (ySh.n hS rfl) rfl rfl ?_
          refine y_icmp_ge rfl j_X4_has_16 (fun h_167 => ?_) (fun h_168 => ?_)
          · refine y_iconst rfl ?_
            refine y_ireturn rfl rfl rfl ?_
            refine y_ret1 ?_
            refine y_if_eqT rfl j_X8_isParty_20 (by decide) ?_
            refine y_iconst rfl ?_
            refine y_ireturn rfl rfl rfl ?_
            refine y_ret1 ?_
            refine y_if_eqT rfl j_X8_buyOut_27 (by decide) ?_
            refine y_throw rfl rfl rfl ?_
            exact hE0
          · refine y_iconst rfl ?_
            refine y_goto rfl j_X4_has_17 ?_
            refine y_ireturn rfl rfl rfl ?_
            refine y_ret1 ?_
            refine y_if_eqF rfl (by decide) ?_
            refine y_iconst rfl ?_
            refine y_goto rfl j_X8_isParty_21 ?_
            refine y_ireturn rfl rfl rfl ?_
            refine y_ret1 ?_
            refine y_if_eqF rfl (by decide) ?_
            refine y_aload_n rfl rfl ?_
            refine y_iload_n rfl rfl ?_
            refine y_virt rfl rfl rfl rfl rfl (ySh.t hS rfl) (ySh.n hS rfl) ?_
            refine y_in (M := xm_X8_isParty) (ls := [some _, some _]) rfl rfl rfl ?_
            refine y_iload_n rfl rfl ?_
            refine y_iconst rfl ?_
            refine y_icmp_eq rfl j_X8_isParty_16 (fun h_169 => ?_) (fun h_170 => ?_)
            · rw [yz_m1] at h_169
              refine y_iconst rfl ?_
              refine y_goto rfl j_X8_isParty_21 ?_
              refine y_ireturn rfl rfl rfl ?_
              refine y_ret1 ?_
              refine y_if_neT rfl j_X8_buyOut_38 (by decide) ?_
              refine y_iload_n rfl rfl ?_
              refine y_iload_n rfl rfl ?_
              refine y_icmp_eq rfl j_X8_buyOut_55 (fun h_171 => ?_) (fun h_172 => ?_)
              · refine y_throw rfl rfl rfl ?_
                exact hE1
              · refine y_iload rfl rfl ?_
                refine y_iconst rfl ?_
                refine y_sip rfl (by decide) ?_
                refine y_static rfl rfl rfl rfl rfl ?_
                refine y_in (M := xm_X8_isIn) (ls := [some _, some _, some _]) rfl rfl rfl ?_
                refine y_iload_n rfl rfl ?_
                refine y_iload_n rfl rfl ?_
                refine y_icmp_lt rfl j_X8_isIn_14 (fun h_173 => ?_) (fun h_174 => ?_)
                · rw [yz_1] at h_173
                  refine y_iconst rfl ?_
                  refine y_ireturn rfl rfl rfl ?_
                  refine y_ret1 ?_
                  refine y_if_neF rfl (by decide) ?_
                  refine y_throw rfl rfl rfl ?_
                  exact hE1
                · rw [yz_1] at h_174
                  refine y_iload_n rfl rfl ?_
                  refine y_iload_n rfl rfl ?_
                  refine y_icmp_gt rfl j_X8_isIn_14 (fun h_175 => ?_) (fun h_176 => ?_)
                  · rw [yz_999] at h_175
                    refine y_iconst rfl ?_
                    refine y_ireturn rfl rfl rfl ?_
                    refine y_ret1 ?_
                    refine y_if_neF rfl (by decide) ?_
                    refine y_throw rfl rfl rfl ?_
                    exact hE1
                  · rw [yz_999] at h_176
                    refine y_iconst rfl ?_
                    refine y_goto rfl j_X8_isIn_15 ?_
                    refine y_ireturn rfl rfl rfl ?_
                    refine y_ret1 ?_
                    refine y_if_neT rfl j_X8_buyOut_66 (by decide) ?_
                    refine y_iload_n rfl rfl ?_
                    refine y_static rfl rfl rfl rfl rfl ?_
                    refine y_in (M := xm_X8_placeOf) (ls := [some _]) rfl rfl rfl ?_
                    refine y_iload_n rfl rfl ?_
                    refine y_iconst rfl ?_
                    refine y_icmp_ne rfl j_X8_placeOf_10 (fun h_177 => ?_) (fun h_178 => ?_)
                    · rw [yz_m1] at h_177
                      refine y_iload_n rfl rfl ?_
                      refine y_ireturn rfl rfl rfl ?_
                      refine y_ret1 ?_
                      refine y_istore (ls' := [some _, some _, some _, some _, some _, some _, _]) rfl rfl rfl ?_
                      refine y_iload_n rfl rfl ?_
                      refine y_static rfl rfl rfl rfl rfl ?_
                      refine y_in (M := xm_X8_placeOf) (ls := [some _]) rfl rfl rfl ?_
                      refine y_iload_n rfl rfl ?_
                      refine y_iconst rfl ?_
                      refine y_icmp_ne rfl j_X8_placeOf_10 (fun h_179 => ?_) (fun h_180 => ?_)
                      · rw [yz_m1] at h_179
                        refine y_iload_n rfl rfl ?_
                        refine y_ireturn rfl rfl rfl ?_
                        refine y_ret1 ?_
                        refine y_istore (ls' := [some _, some _, some _, some _, some _, some _, some _]) rfl rfl rfl ?_
                        refine y_aload_n rfl rfl ?_
                        refine y_getR rfl (ySh.t hS rfl) (ySh.n hS rfl) rfl rfl (ySh.r hS rfl) ?_
                        refine y_iload_n rfl rfl ?_
                        refine y_iload rfl rfl ?_
                        refine y_virt rfl rfl rfl rfl rfl (ySh.t hS rfl) (ySh.n hS rfl) ?_
                        refine y_in (M := xm_X7_isPartner) (ls := [some _, some _, some _]) rfl rfl rfl ?_
                        refine y_aload_n rfl rfl ?_
                        refine y_getR rfl (ySh.t hS rfl) (ySh.n hS rfl) rfl rfl (ySh.r hS rfl) ?_
                        refine y_aload_n rfl rfl ?_
                        refine y_iload_n rfl rfl ?_
                        refine y_iload_n rfl rfl ?_
                        refine y_virt rfl rfl rfl rfl rfl (ySh.t hS rfl) (ySh.n hS rfl) ?_
                        refine sp_at (by omega) (by omega) (by omega) (by omega) (fun z_ hz181 => ?_)
                        refine y_ret1 ?_
                        refine y_baload rfl (ySh.t hS rfl) rfl (ySh.n hS rfl) (by omega) (by omega) ?_
                        refine y_ireturn rfl rfl (xfit_z (hC.p _)) ?_
                        refine y_ret1 ?_
                        refine y_if_eq rfl j_X8_buyOut_134 (fun h_182 => ?_) (fun h_183 => ?_)
                        · refine y_throw rfl rfl rfl ?_
                          exact hE2
                        · refine y_aload_n rfl rfl ?_
                          refine y_getR rfl (ySh.t hS rfl) (ySh.n hS rfl) rfl rfl (ySh.r hS rfl) ?_
                          refine y_iload_n rfl rfl ?_
                          refine y_iload rfl rfl ?_
                          refine y_virt rfl rfl rfl rfl rfl (ySh.t hS rfl) (ySh.n hS rfl) ?_
                          refine y_in (M := xm_X7_isPartner) (ls := [some _, some _, some _]) rfl rfl rfl ?_
                          refine y_aload_n rfl rfl ?_
                          refine y_getR rfl (ySh.t hS rfl) (ySh.n hS rfl) rfl rfl (ySh.r hS rfl) ?_
                          refine y_aload_n rfl rfl ?_
                          refine y_iload_n rfl rfl ?_
                          refine y_iload_n rfl rfl ?_
                          refine y_virt rfl rfl rfl rfl rfl (ySh.t hS rfl) (ySh.n hS rfl) ?_
                          refine sp_at (by omega) (by omega) (by omega) (by omega) (fun z_ hz184 => ?_)
                          refine y_ret1 ?_
                          refine y_baload rfl (ySh.t hS rfl) rfl (ySh.n hS rfl) (by omega) (by omega) ?_
                          refine y_ireturn rfl rfl (xfit_z (hC.p _)) ?_
                          refine y_ret1 ?_
                          refine y_if_eq rfl j_X8_buyOut_134 (fun h_185 => ?_) (fun h_186 => ?_)
                          · refine y_throw rfl rfl rfl ?_
                            exact hE2
                          · refine y_aload_n rfl rfl ?_
                            refine y_getR rfl (ySh.t hS rfl) (ySh.n hS rfl) rfl rfl (ySh.r hS rfl) ?_
                            refine y_iload_n rfl rfl ?_
                            refine y_iload rfl rfl ?_
                            refine y_virt rfl rfl rfl rfl rfl (ySh.t hS rfl) (ySh.n hS rfl) ?_
                            refine y_in (M := xm_X7_capitalOf) (ls := [some _, some _, some _]) rfl rfl rfl ?_
                            refine y_aload_n rfl rfl ?_
                            refine y_getR rfl (ySh.t hS rfl) (ySh.n hS rfl) rfl rfl (ySh.r hS rfl) ?_
                            refine y_aload_n rfl rfl ?_
                            refine y_iload_n rfl rfl ?_
                            refine y_iload_n rfl rfl ?_
                            refine y_virt rfl rfl rfl rfl rfl (ySh.t hS rfl) (ySh.n hS rfl) ?_
                            refine sp_at (by omega) (by omega) (by omega) (by omega) (fun z_ hz187 => ?_)
                            refine y_ret1 ?_
                            refine y_iaload rfl (ySh.t hS rfl) (ySh.n hS rfl) (by omega) (by omega) ?_
                            refine y_ireturn rfl rfl rfl ?_
                            refine y_ret1 ?_
                            refine y_iload rfl rfl ?_
                            refine y_icmp_lt rfl j_X8_buyOut_134 (fun h_188 => ?_) (fun h_189 => ?_)
                            · refine y_throw rfl rfl rfl ?_
                              exact hE2
                            · refine y_aload_n rfl rfl ?_
                              refine y_getR rfl (ySh.t hS rfl) (ySh.n hS rfl) rfl rfl (ySh.r hS rfl) ?_
                              refine y_getR rfl (ySh.t hS rfl) (ySh.n hS rfl) rfl rfl (ySh.r hS rfl) ?_
                              refine y_iload rfl rfl ?_
                              refine y_iaload rfl (ySh.t hS rfl) (ySh.n hS rfl) (by omega) (by omega) ?_
                              refine y_iload rfl rfl ?_
                              refine y_icmp_ge rfl j_X8_buyOut_145 (fun h_190 => ?_) (fun h_191 => ?_)
                              · refine y_aload_n rfl rfl ?_
                                refine y_getR rfl (ySh.t hS rfl) (ySh.n hS rfl) rfl rfl (ySh.r hS rfl) ?_
                                refine y_iload rfl rfl ?_
                                refine y_iload rfl rfl ?_
                                refine y_iload rfl rfl ?_
                                refine y_virt rfl rfl rfl rfl rfl (ySh.t hS rfl) (ySh.n hS rfl) ?_
                                refine y_in (M := xm_X4_move) (ls := [some _, some _, some _, some _]) rfl rfl rfl ?_
                                refine y_aload_n rfl rfl ?_
                                refine y_iload_n rfl rfl ?_
                                refine y_iload_n rfl rfl ?_
                                refine y_ineg rfl ?_
                                refine y_virt rfl rfl rfl rfl rfl (ySh.t hS rfl) (ySh.n hS rfl) ?_
                                refine spu_add_X4 hS hC (fun I202 hC hF1 => ?_)
                                have hF : yFu I I202 := yFu.trans (by repeat (first | exact hF | refine yFu.upd ?_ (by decide))) hF1.t
                                have hd : (I202 34 8).toInt = (I 34 8).toInt := congrArg Int32.toInt (hF1 34 8 (Or.inl (by decide)))
                                refine y_ret0 ?_
                                refine y_aload_n rfl rfl ?_
                                refine y_iload_n rfl rfl ?_
                                refine y_iload_n rfl rfl ?_
                                refine y_virt rfl rfl rfl rfl rfl (ySh.t hS rfl) (ySh.n hS rfl) ?_
                                refine spu_add_X4 hS hC (fun I203 hC hF1 => ?_)
                                have hF : yFu I I203 := yFu.trans (by repeat (first | exact hF | refine yFu.upd ?_ (by decide))) hF1.t
                                have hd : (I203 34 8).toInt = (I202 34 8).toInt := congrArg Int32.toInt (hF1 34 8 (Or.inl (by decide)))
                                refine y_ret0 ?_
                                refine y_return rfl ?_
                                refine y_ret0 ?_
                                refine y_aload_n rfl rfl ?_
                                refine y_getR rfl (ySh.t hS rfl) (ySh.n hS rfl) rfl rfl (ySh.r hS rfl) ?_
                                refine y_iload_n rfl rfl ?_
                                refine y_iload rfl rfl ?_
                                refine y_iload rfl rfl ?_
                                refine y_iload rfl rfl ?_
                                refine y_virt rfl rfl rfl rfl rfl (ySh.t hS rfl) (ySh.n hS rfl) ?_
                                refine y_in (M := xm_X7_moveCapital) (ls := [some _, some _, some _, some _, some _]) rfl rfl rfl ?_
                                refine y_aload_n rfl rfl ?_
                                refine y_getR rfl (ySh.t hS rfl) (ySh.n hS rfl) rfl rfl (ySh.r hS rfl) ?_
                                refine y_aload_n rfl rfl ?_
                                refine y_iload_n rfl rfl ?_
                                refine y_iload_n rfl rfl ?_
                                refine y_virt rfl rfl rfl rfl rfl (ySh.t hS rfl) (ySh.n hS rfl) ?_
                                refine sp_at (by omega) (by omega) (by omega) (by omega) (fun z_ hz194 => ?_)
                                refine y_ret1 ?_
                                refine y_dup2 rfl rfl rfl ?_
                                refine y_iaload rfl (ySh.t hS rfl) (ySh.n hS rfl) (by omega) (by omega) ?_
                                refine y_iload rfl rfl ?_
                                refine y_isub rfl ?_
                                refine y_iastore rfl (ySh.t hS rfl) (ySh.n hS rfl) (Nat.le_of_ble_eq_true rfl) (by omega) (by omega) ?_
                                refine y_aload_n rfl rfl ?_
                                refine y_getR rfl (ySh.t hS rfl) (ySh.n hS rfl) rfl rfl (ySh.r hS rfl) ?_
                                refine y_aload_n rfl rfl ?_
                                refine y_iload_n rfl rfl ?_
                                refine y_iload_n rfl rfl ?_
                                refine y_virt rfl rfl rfl rfl rfl (ySh.t hS rfl) (ySh.n hS rfl) ?_
                                refine sp_at (by omega) (by omega) (by omega) (by omega) (fun z_ hz195 => ?_)
                                refine y_ret1 ?_
                                refine y_dup2 rfl rfl rfl ?_
                                refine y_iaload rfl (ySh.t hS rfl) (ySh.n hS rfl) (by omega) (by omega) ?_
                                refine y_iload rfl rfl ?_
                                refine y_iadd rfl ?_
                                refine y_iastore rfl (ySh.t hS rfl) (ySh.n hS rfl) (Nat.le_of_ble_eq_true rfl) (by omega) (by omega) ?_
                                refine y_return rfl ?_
                                refine y_ret0 ?_
                                refine y_aload_n rfl rfl ?_
                                refine y_getR rfl (ySh.t hS rfl) (ySh.n hS rfl) rfl rfl (ySh.r hS rfl) ?_
                                refine y_iload_n rfl rfl ?_
                                refine y_iload rfl rfl ?_
                                refine y_virt rfl rfl rfl rfl rfl (ySh.t hS rfl) (ySh.n hS rfl) ?_
                                refine y_in (M := xm_X7_capitalOf) (ls := [some _, some _, some _]) rfl rfl rfl ?_
                                refine y_aload_n rfl rfl ?_
                                refine y_getR rfl (ySh.t hS rfl) (ySh.n hS rfl) rfl rfl (ySh.r hS rfl) ?_
                                refine y_aload_n rfl rfl ?_
                                refine y_iload_n rfl rfl ?_
                                refine y_iload_n rfl rfl ?_
                                refine y_virt rfl rfl rfl rfl rfl (ySh.t hS rfl) (ySh.n hS rfl) ?_
                                refine sp_at (by omega) (by omega) (by omega) (by omega) (fun z_ hz196 => ?_)
                                refine y_ret1 ?_
                                refine y_iaload rfl (ySh.t hS rfl) (ySh.n hS rfl) (by omega) (by omega) ?_
                                refine y_ireturn rfl rfl rfl ?_
                                refine y_ret1 ?_
                                refine y_ireturn rfl rfl rfl ?_
                                exact hQ _ _ hC (by repeat (first | exact hF | refine yFu.upd ?_ (by decide)))
                              · refine y_throw rfl rfl rfl ?_
                                exact hE2
                      · rw [yz_m1] at h_180
                        refine y_bip rfl (by decide) ?_
                        refine y_goto rfl j_X8_placeOf_11 ?_
                        refine y_ireturn rfl rfl rfl ?_
                        refine y_ret1 ?_
                        refine y_istore (ls' := [some _, some _, some _, some _, some _, some _, some _]) rfl rfl rfl ?_
                        refine y_aload_n rfl rfl ?_
                        refine y_getR rfl (ySh.t hS rfl) (ySh.n hS rfl) rfl rfl (ySh.r hS rfl) ?_
                        refine y_iload_n rfl rfl ?_
                        refine y_iload rfl rfl ?_
                        refine y_virt rfl rfl rfl rfl rfl (ySh.t hS rfl) (ySh.n hS rfl) ?_
                        refine y_in (M := xm_X7_isPartner) (ls := [some _, some _, some _]) rfl rfl rfl ?_
                        refine y_aload_n rfl rfl ?_
                        refine y_getR rfl (ySh.t hS rfl) (ySh.n hS rfl) rfl rfl (ySh.r hS rfl) ?_
                        refine y_aload_n rfl rfl ?_
                        refine y_iload_n rfl rfl ?_
                        refine y_iload_n rfl rfl ?_
                        refine y_virt rfl rfl rfl rfl rfl (ySh.t hS rfl) (ySh.n hS rfl) ?_
                        refine sp_at (by omega) (by omega) (by omega) (by omega) (fun z_ hz197 => ?_)
                        refine y_ret1 ?_
                        refine y_baload rfl (ySh.t hS rfl) rfl (ySh.n hS rfl) (by omega) (by omega) ?_
                        refine y_ireturn rfl rfl (xfit_z (hC.p _)) ?_
                        refine y_ret1 ?_
                        refine y_if_eq rfl j_X8_buyOut_134 (fun h_198 => ?_) (fun h_199 => ?_)
                        · refine y_throw rfl rfl rfl ?_
                          exact hE2
                        · refine y_aload_n rfl rfl ?_
                          refine y_getR rfl (ySh.t hS rfl) (ySh.n hS rfl) rfl rfl (ySh.r hS rfl) ?_
                          refine y_iload_n rfl rfl ?_
                          refine y_iload rfl rfl ?_
                          refine y_virt rfl rfl rfl rfl rfl (ySh.t hS rfl) (ySh.n hS rfl) ?_
                          refine y_in (M := xm_X7_isPartner) (ls := [some _, some _, some _]) rfl rfl rfl ?_
                          refine y_aload_n rfl rfl ?_
                          refine y_getR rfl (ySh.t hS rfl) (ySh.n hS rfl) rfl rfl (ySh.r hS rfl) ?_
                          refine y_aload_n rfl rfl ?_
                          refine y_iload_n rfl rfl ?_
                          refine y_iload_n rfl rfl ?_
                          refine y_virt rfl rfl rfl rfl rfl (ySh.t hS rfl) (ySh.n hS rfl) ?_
                          refine sp_at (by omega) (by omega) (by decide) (by decide) (fun z_ hz200 => ?_)
                          rw [yz_8] at hz200
                          refine y_ret1 ?_
                          refine y_baload rfl (ySh.t hS rfl) rfl (ySh.n hS rfl) (by omega) (by omega) ?_
                          refine y_ireturn rfl rfl (xfit_z (hC.p _)) ?_
                          refine y_ret1 ?_
                          refine y_if_eq rfl j_X8_buyOut_134 (fun h_201 => ?_) (fun h_202 => ?_)
                          · refine y_throw rfl rfl rfl ?_
                            exact hE2
                          · refine y_aload_n rfl rfl ?_
                            refine y_getR rfl (ySh.t hS rfl) (ySh.n hS rfl) rfl rfl (ySh.r hS rfl) ?_
                            refine y_iload_n rfl rfl ?_
                            refine y_iload rfl rfl ?_
                            refine y_virt rfl rfl rfl rfl rfl (ySh.t hS rfl) (ySh.n hS rfl) ?_
                            refine y_in (M := xm_X7_capitalOf) (ls := [some _, some _, some _]) rfl rfl rfl ?_
                            refine y_aload_n rfl rfl ?_
                            refine y_getR rfl (ySh.t hS rfl) (ySh.n hS rfl) rfl rfl (ySh.r hS rfl) ?_
                            refine y_aload_n rfl rfl ?_
                            refine y_iload_n rfl rfl ?_
                            refine y_iload_n rfl rfl ?_
                            refine y_virt rfl rfl rfl rfl rfl (ySh.t hS rfl) (ySh.n hS rfl) ?_
                            refine sp_at (by omega) (by omega) (by omega) (by omega) (fun z_ hz203 => ?_)
                            refine y_ret1 ?_
                            refine y_iaload rfl (ySh.t hS rfl) (ySh.n hS rfl) (by omega) (by omega) ?_
                            refine y_ireturn rfl rfl rfl ?_
                            refine y_ret1 ?_
                            refine y_iload rfl rfl ?_
                            refine y_icmp_lt rfl j_X8_buyOut_134 (fun h_204 => ?_) (fun h_205 => ?_)
                            · refine y_throw rfl rfl rfl ?_
                              exact hE2
                            · refine y_aload_n rfl rfl ?_
                              refine y_getR rfl (ySh.t hS rfl) (ySh.n hS rfl) rfl rfl (ySh.r hS rfl) ?_
                              refine y_getR rfl (ySh.t hS rfl) (ySh.n hS rfl) rfl rfl (ySh.r hS rfl) ?_
                              refine y_iload rfl rfl ?_
                              refine y_iaload rfl (ySh.t hS rfl) (ySh.n hS rfl) (by decide) (by decide) ?_
                              refine y_iload rfl rfl ?_
                              refine y_icmp_ge rfl j_X8_buyOut_145 (fun h_206 => ?_) (fun h_207 => ?_)
                              · refine y_aload_n rfl rfl ?_
                                refine y_getR rfl (ySh.t hS rfl) (ySh.n hS rfl) rfl rfl (ySh.r hS rfl) ?_
                                refine y_iload rfl rfl ?_
                                refine y_iload rfl rfl ?_
                                refine y_iload rfl rfl ?_
                                refine y_virt rfl rfl rfl rfl rfl (ySh.t hS rfl) (ySh.n hS rfl) ?_
                                refine y_in (M := xm_X4_move) (ls := [some _, some _, some _, some _]) rfl rfl rfl ?_
                                refine y_aload_n rfl rfl ?_
                                refine y_iload_n rfl rfl ?_
                                refine y_iload_n rfl rfl ?_
                                refine y_ineg rfl ?_
                                refine y_virt rfl rfl rfl rfl rfl (ySh.t hS rfl) (ySh.n hS rfl) ?_
                                refine spu_add_X4 hS hC (fun I218 hC hF1 => ?_)
                                have hF : yFu I I218 := yFu.trans (by repeat (first | exact hF | refine yFu.upd ?_ (by decide))) hF1.t
                                have hd : (I218 34 8).toInt = (I 34 8).toInt := congrArg Int32.toInt (hF1 34 8 (Or.inl (by decide)))
                                refine y_ret0 ?_
                                refine y_aload_n rfl rfl ?_
                                refine y_iload_n rfl rfl ?_
                                refine y_iload_n rfl rfl ?_
                                refine y_virt rfl rfl rfl rfl rfl (ySh.t hS rfl) (ySh.n hS rfl) ?_
                                refine spu_add_X4 hS hC (fun I219 hC hF1 => ?_)
                                have hF : yFu I I219 := yFu.trans (by repeat (first | exact hF | refine yFu.upd ?_ (by decide))) hF1.t
                                have hd : (I219 34 8).toInt = (I218 34 8).toInt := congrArg Int32.toInt (hF1 34 8 (Or.inl (by decide)))
                                refine y_ret0 ?_
                                refine y_return rfl ?_
                                refine y_ret0 ?_
                                refine y_aload_n rfl rfl ?_
                                refine y_getR rfl (ySh.t hS rfl) (ySh.n hS rfl) rfl rfl (ySh.r hS rfl) ?_
                                refine y_iload_n rfl rfl ?_
                                refine y_iload rfl rfl ?_
                                refine y_iload rfl rfl ?_
                                refine y_iload rfl rfl ?_
                                refine y_virt rfl rfl rfl rfl rfl (ySh.t hS rfl) (ySh.n hS rfl) ?_
                                refine y_in (M := xm_X7_moveCapital) (ls := [some _, some _, some _, some _, some _]) rfl rfl rfl ?_
                                refine y_aload_n rfl rfl ?_
                                refine y_getR rfl (ySh.t hS rfl) (ySh.n hS rfl) rfl rfl (ySh.r hS rfl) ?_
                                refine y_aload_n rfl rfl ?_
                                refine y_iload_n rfl rfl ?_
                                refine y_iload_n rfl rfl ?_
                                refine y_virt rfl rfl rfl rfl rfl (ySh.t hS rfl) (ySh.n hS rfl) ?_
                                refine sp_at (by omega) (by omega) (by omega) (by omega) (fun z_ hz210 => ?_)
                                refine y_ret1 ?_
                                refine y_dup2 rfl rfl rfl ?_
                                refine y_iaload rfl (ySh.t hS rfl) (ySh.n hS rfl) (by omega) (by omega) ?_
                                refine y_iload rfl rfl ?_
                                refine y_isub rfl ?_
                                refine y_iastore rfl (ySh.t hS rfl) (ySh.n hS rfl) (Nat.le_of_ble_eq_true rfl) (by omega) (by omega) ?_
                                refine y_aload_n rfl rfl ?_
                                refine y_getR rfl (ySh.t hS rfl) (ySh.n hS rfl) rfl rfl (ySh.r hS rfl) ?_
                                refine y_aload_n rfl rfl ?_
                                refine y_iload_n rfl rfl ?_
                                refine y_iload_n rfl rfl ?_
                                refine y_virt rfl rfl rfl rfl rfl (ySh.t hS rfl) (ySh.n hS rfl) ?_
                                refine sp_at (by omega) (by omega) (by decide) (by decide) (fun z_ hz211 => ?_)
                                rw [yz_8] at hz211
                                refine y_ret1 ?_
                                refine y_dup2 rfl rfl rfl ?_
                                refine y_iaload rfl (ySh.t hS rfl) (ySh.n hS rfl) (by omega) (by omega) ?_
                                refine y_iload rfl rfl ?_
                                refine y_iadd rfl ?_
                                refine y_iastore rfl (ySh.t hS rfl) (ySh.n hS rfl) (Nat.le_of_ble_eq_true rfl) (by omega) (by omega) ?_
                                refine y_return rfl ?_
                                refine y_ret0 ?_
                                refine y_aload_n rfl rfl ?_
                                refine y_getR rfl (ySh.t hS rfl) (ySh.n hS rfl) rfl rfl (ySh.r hS rfl) ?_
                                refine y_iload_n rfl rfl ?_
                                refine y_iload rfl rfl ?_
                                refine y_virt rfl rfl rfl rfl rfl (ySh.t hS rfl) (ySh.n hS rfl) ?_
                                refine y_in (M := xm_X7_capitalOf) (ls := [some _, some _, some _]) rfl rfl rfl ?_
                                refine y_aload_n rfl rfl ?_
                                refine y_getR rfl (ySh.t hS rfl) (ySh.n hS rfl) rfl rfl (ySh.r hS rfl) ?_
                                refine y_aload_n rfl rfl ?_
                                refine y_iload_n rfl rfl ?_
                                refine y_iload_n rfl rfl ?_
                                refine y_virt rfl rfl rfl rfl rfl (ySh.t hS rfl) (ySh.n hS rfl) ?_
                                refine sp_at (by omega) (by omega) (by omega) (by omega) (fun z_ hz212 => ?_)
                                refine y_ret1 ?_
                                refine y_iaload rfl (ySh.t hS rfl) (ySh.n hS rfl) (by omega) (by omega) ?_
                                refine y_ireturn rfl rfl rfl ?_
                                refine y_ret1 ?_
                                refine y_ireturn rfl rfl rfl ?_
                                exact hQ _ _ hC (by repeat (first | exact hF | refine yFu.upd ?_ (by decide)))
                              · refine y_throw rfl rfl rfl ?_
                                exact hE2
                    · rw [yz_m1] at h_178
                      refine y_bip rfl (by decide) ?_
                      refine y_goto rfl j_X8_placeOf_11 ?_
                      refine y_ireturn rfl rfl rfl ?_
                      refine y_ret1 ?_
                      refine y_istore (ls' := [some _, some _, some _, some _, some _, some _, _]) rfl rfl rfl ?_
                      refine y_iload_n rfl rfl ?_
                      refine y_static rfl rfl rfl rfl rfl ?_
                      refine y_in (M := xm_X8_placeOf) (ls := [some _]) rfl rfl rfl ?_
                      refine y_iload_n rfl rfl ?_
                      refine y_iconst rfl ?_
                      refine y_icmp_ne rfl j_X8_placeOf_10 (fun h_213 => ?_) (fun h_214 => ?_)
                      · rw [yz_m1] at h_213
                        refine y_iload_n rfl rfl ?_
                        refine y_ireturn rfl rfl rfl ?_
                        refine y_ret1 ?_
                        refine y_istore (ls' := [some _, some _, some _, some _, some _, some _, some _]) rfl rfl rfl ?_
                        refine y_aload_n rfl rfl ?_
                        refine y_getR rfl (ySh.t hS rfl) (ySh.n hS rfl) rfl rfl (ySh.r hS rfl) ?_
                        refine y_iload_n rfl rfl ?_
                        refine y_iload rfl rfl ?_
                        refine y_virt rfl rfl rfl rfl rfl (ySh.t hS rfl) (ySh.n hS rfl) ?_
                        refine y_in (M := xm_X7_isPartner) (ls := [some _, some _, some _]) rfl rfl rfl ?_
                        refine y_aload_n rfl rfl ?_
                        refine y_getR rfl (ySh.t hS rfl) (ySh.n hS rfl) rfl rfl (ySh.r hS rfl) ?_
                        refine y_aload_n rfl rfl ?_
                        refine y_iload_n rfl rfl ?_
                        refine y_iload_n rfl rfl ?_
                        refine y_virt rfl rfl rfl rfl rfl (ySh.t hS rfl) (ySh.n hS rfl) ?_
                        refine sp_at (by omega) (by omega) (by decide) (by decide) (fun z_ hz215 => ?_)
                        rw [yz_8] at hz215
                        refine y_ret1 ?_
                        refine y_baload rfl (ySh.t hS rfl) rfl (ySh.n hS rfl) (by omega) (by omega) ?_
                        refine y_ireturn rfl rfl (xfit_z (hC.p _)) ?_
                        refine y_ret1 ?_
                        refine y_if_eq rfl j_X8_buyOut_134 (fun h_216 => ?_) (fun h_217 => ?_)
                        · refine y_throw rfl rfl rfl ?_
                          exact hE2
                        · refine y_aload_n rfl rfl ?_
                          refine y_getR rfl (ySh.t hS rfl) (ySh.n hS rfl) rfl rfl (ySh.r hS rfl) ?_
                          refine y_iload_n rfl rfl ?_
                          refine y_iload rfl rfl ?_
                          refine y_virt rfl rfl rfl rfl rfl (ySh.t hS rfl) (ySh.n hS rfl) ?_
                          refine y_in (M := xm_X7_isPartner) (ls := [some _, some _, some _]) rfl rfl rfl ?_
                          refine y_aload_n rfl rfl ?_
                          refine y_getR rfl (ySh.t hS rfl) (ySh.n hS rfl) rfl rfl (ySh.r hS rfl) ?_
                          refine y_aload_n rfl rfl ?_
                          refine y_iload_n rfl rfl ?_
                          refine y_iload_n rfl rfl ?_
                          refine y_virt rfl rfl rfl rfl rfl (ySh.t hS rfl) (ySh.n hS rfl) ?_
                          refine sp_at (by omega) (by omega) (by omega) (by omega) (fun z_ hz218 => ?_)
                          refine y_ret1 ?_
                          refine y_baload rfl (ySh.t hS rfl) rfl (ySh.n hS rfl) (by omega) (by omega) ?_
                          refine y_ireturn rfl rfl (xfit_z (hC.p _)) ?_
                          refine y_ret1 ?_
                          refine y_if_eq rfl j_X8_buyOut_134 (fun h_219 => ?_) (fun h_220 => ?_)
                          · refine y_throw rfl rfl rfl ?_
                            exact hE2
                          · refine y_aload_n rfl rfl ?_
                            refine y_getR rfl (ySh.t hS rfl) (ySh.n hS rfl) rfl rfl (ySh.r hS rfl) ?_
                            refine y_iload_n rfl rfl ?_
                            refine y_iload rfl rfl ?_
                            refine y_virt rfl rfl rfl rfl rfl (ySh.t hS rfl) (ySh.n hS rfl) ?_
                            refine y_in (M := xm_X7_capitalOf) (ls := [some _, some _, some _]) rfl rfl rfl ?_
                            refine y_aload_n rfl rfl ?_
                            refine y_getR rfl (ySh.t hS rfl) (ySh.n hS rfl) rfl rfl (ySh.r hS rfl) ?_
                            refine y_aload_n rfl rfl ?_
                            refine y_iload_n rfl rfl ?_
                            refine y_iload_n rfl rfl ?_
                            refine y_virt rfl rfl rfl rfl rfl (ySh.t hS rfl) (ySh.n hS rfl) ?_
                            refine sp_at (by omega) (by omega) (by decide) (by decide) (fun z_ hz221 => ?_)
                            rw [yz_8] at hz221
                            refine y_ret1 ?_
                            refine y_iaload rfl (ySh.t hS rfl) (ySh.n hS rfl) (by omega) (by omega) ?_
                            refine y_ireturn rfl rfl rfl ?_
                            refine y_ret1 ?_
                            refine y_iload rfl rfl ?_
                            refine y_icmp_lt rfl j_X8_buyOut_134 (fun h_222 => ?_) (fun h_223 => ?_)
                            · refine y_throw rfl rfl rfl ?_
                              exact hE2
                            · refine y_aload_n rfl rfl ?_
                              refine y_getR rfl (ySh.t hS rfl) (ySh.n hS rfl) rfl rfl (ySh.r hS rfl) ?_
                              refine y_getR rfl (ySh.t hS rfl) (ySh.n hS rfl) rfl rfl (ySh.r hS rfl) ?_
                              refine y_iload rfl rfl ?_
                              refine y_iaload rfl (ySh.t hS rfl) (ySh.n hS rfl) (by omega) (by omega) ?_
                              refine y_iload rfl rfl ?_
                              refine y_icmp_ge rfl j_X8_buyOut_145 (fun h_224 => ?_) (fun h_225 => ?_)
                              · refine y_aload_n rfl rfl ?_
                                refine y_getR rfl (ySh.t hS rfl) (ySh.n hS rfl) rfl rfl (ySh.r hS rfl) ?_
                                refine y_iload rfl rfl ?_
                                refine y_iload rfl rfl ?_
                                refine y_iload rfl rfl ?_
                                refine y_virt rfl rfl rfl rfl rfl (ySh.t hS rfl) (ySh.n hS rfl) ?_
                                refine y_in (M := xm_X4_move) (ls := [some _, some _, some _, some _]) rfl rfl rfl ?_
                                refine y_aload_n rfl rfl ?_
                                refine y_iload_n rfl rfl ?_
                                refine y_iload_n rfl rfl ?_
                                refine y_ineg rfl ?_
                                refine y_virt rfl rfl rfl rfl rfl (ySh.t hS rfl) (ySh.n hS rfl) ?_
                                refine spu_add_X4 hS hC (fun I236 hC hF1 => ?_)
                                have hF : yFu I I236 := yFu.trans (by repeat (first | exact hF | refine yFu.upd ?_ (by decide))) hF1.t
                                have hd : (I236 34 8).toInt = (I 34 8).toInt := congrArg Int32.toInt (hF1 34 8 (Or.inl (by decide)))
                                refine y_ret0 ?_
                                refine y_aload_n rfl rfl ?_
                                refine y_iload_n rfl rfl ?_
                                refine y_iload_n rfl rfl ?_
                                refine y_virt rfl rfl rfl rfl rfl (ySh.t hS rfl) (ySh.n hS rfl) ?_
                                refine spu_add_X4 hS hC (fun I237 hC hF1 => ?_)
                                have hF : yFu I I237 := yFu.trans (by repeat (first | exact hF | refine yFu.upd ?_ (by decide))) hF1.t
                                have hd : (I237 34 8).toInt = (I236 34 8).toInt := congrArg Int32.toInt (hF1 34 8 (Or.inl (by decide)))
                                refine y_ret0 ?_
                                refine y_return rfl ?_
                                refine y_ret0 ?_
                                refine y_aload_n rfl rfl ?_
                                refine y_getR rfl (ySh.t hS rfl) (ySh.n hS rfl) rfl rfl (ySh.r hS rfl) ?_
                                refine y_iload_n rfl rfl ?_
                                refine y_iload rfl rfl ?_
                                refine y_iload rfl rfl ?_
                                refine y_iload rfl rfl ?_
                                refine y_virt rfl rfl rfl rfl rfl (ySh.t hS rfl) (ySh.n hS rfl) ?_
                                refine y_in (M := xm_X7_moveCapital) (ls := [some _, some _, some _, some _, some _]) rfl rfl rfl ?_
                                refine y_aload_n rfl rfl ?_
                                refine y_getR rfl (ySh.t hS rfl) (ySh.n hS rfl) rfl rfl (ySh.r hS rfl) ?_
                                refine y_aload_n rfl rfl ?_
                                refine y_iload_n rfl rfl ?_
                                refine y_iload_n rfl rfl ?_
                                refine y_virt rfl rfl rfl rfl rfl (ySh.t hS rfl) (ySh.n hS rfl) ?_
                                refine sp_at (by omega) (by omega) (by decide) (by decide) (fun z_ hz228 => ?_)
                                rw [yz_8] at hz228
                                refine y_ret1 ?_
                                refine y_dup2 rfl rfl rfl ?_
                                refine y_iaload rfl (ySh.t hS rfl) (ySh.n hS rfl) (by omega) (by omega) ?_
                                refine y_iload rfl rfl ?_
                                refine y_isub rfl ?_
                                refine y_iastore rfl (ySh.t hS rfl) (ySh.n hS rfl) (Nat.le_of_ble_eq_true rfl) (by omega) (by omega) ?_
                                refine y_aload_n rfl rfl ?_
                                refine y_getR rfl (ySh.t hS rfl) (ySh.n hS rfl) rfl rfl (ySh.r hS rfl) ?_
                                refine y_aload_n rfl rfl ?_
                                refine y_iload_n rfl rfl ?_
                                refine y_iload_n rfl rfl ?_
                                refine y_virt rfl rfl rfl rfl rfl (ySh.t hS rfl) (ySh.n hS rfl) ?_
                                refine sp_at (by omega) (by omega) (by omega) (by omega) (fun z_ hz229 => ?_)
                                refine y_ret1 ?_
                                refine y_dup2 rfl rfl rfl ?_
                                refine y_iaload rfl (ySh.t hS rfl) (ySh.n hS rfl) (by omega) (by omega) ?_
                                refine y_iload rfl rfl ?_
                                refine y_iadd rfl ?_
                                refine y_iastore rfl (ySh.t hS rfl) (ySh.n hS rfl) (Nat.le_of_ble_eq_true rfl) (by omega) (by omega) ?_
                                refine y_return rfl ?_
                                refine y_ret0 ?_
                                refine y_aload_n rfl rfl ?_
                                refine y_getR rfl (ySh.t hS rfl) (ySh.n hS rfl) rfl rfl (ySh.r hS rfl) ?_
                                refine y_iload_n rfl rfl ?_
                                refine y_iload rfl rfl ?_
                                refine y_virt rfl rfl rfl rfl rfl (ySh.t hS rfl) (ySh.n hS rfl) ?_
                                refine y_in (M := xm_X7_capitalOf) (ls := [some _, some _, some _]) rfl rfl rfl ?_
                                refine y_aload_n rfl rfl ?_
                                refine y_getR rfl (ySh.t hS rfl) (ySh.n hS rfl) rfl rfl (ySh.r hS rfl) ?_
                                refine y_aload_n rfl rfl ?_
                                refine y_iload_n rfl rfl ?_
                                refine y_iload_n rfl rfl ?_
                                refine y_virt rfl rfl rfl rfl rfl (ySh.t hS rfl) (ySh.n hS rfl) ?_
                                refine sp_at (by omega) (by omega) (by decide) (by decide) (fun z_ hz230 => ?_)
                                rw [yz_8] at hz230
                                refine y_ret1 ?_
                                refine y_iaload rfl (ySh.t hS rfl) (ySh.n hS rfl) (by omega) (by omega) ?_
                                refine y_ireturn rfl rfl rfl ?_
                                refine y_ret1 ?_
                                refine y_ireturn rfl rfl rfl ?_
                                exact hQ _ _ hC (by repeat (first | exact hF | refine yFu.upd ?_ (by decide)))
                              · refine y_throw rfl rfl rfl ?_
                                exact hE2
                      · rw [yz_m1] at h_214
                        refine y_bip rfl (by decide) ?_
                        refine y_goto rfl j_X8_placeOf_11 ?_
                        refine y_ireturn rfl rfl rfl ?_
                        refine y_ret1 ?_
                        refine y_istore (ls' := [some _, some _, some _, some _, some _, some _, some _]) rfl rfl rfl ?_
                        refine y_aload_n rfl rfl ?_
                        refine y_getR rfl (ySh.t hS rfl) (ySh.n hS rfl) rfl rfl (ySh.r hS rfl) ?_
                        refine y_iload_n rfl rfl ?_
                        refine y_iload rfl rfl ?_
                        refine y_virt rfl rfl rfl rfl rfl (ySh.t hS rfl) (ySh.n hS rfl) ?_
                        refine y_in (M := xm_X7_isPartner) (ls := [some _, some _, some _]) rfl rfl rfl ?_
                        refine y_aload_n rfl rfl ?_
                        refine y_getR rfl (ySh.t hS rfl) (ySh.n hS rfl) rfl rfl (ySh.r hS rfl) ?_
                        refine y_aload_n rfl rfl ?_
                        refine y_iload_n rfl rfl ?_
                        refine y_iload_n rfl rfl ?_
                        refine y_virt rfl rfl rfl rfl rfl (ySh.t hS rfl) (ySh.n hS rfl) ?_
                        refine sp_at (by omega) (by omega) (by decide) (by decide) (fun z_ hz231 => ?_)
                        rw [yz_8] at hz231
                        refine y_ret1 ?_
                        refine y_baload rfl (ySh.t hS rfl) rfl (ySh.n hS rfl) (by omega) (by omega) ?_
                        refine y_ireturn rfl rfl (xfit_z (hC.p _)) ?_
                        refine y_ret1 ?_
                        refine y_if_eq rfl j_X8_buyOut_134 (fun h_232 => ?_) (fun h_233 => ?_)
                        · refine y_throw rfl rfl rfl ?_
                          exact hE2
                        · refine y_aload_n rfl rfl ?_
                          refine y_getR rfl (ySh.t hS rfl) (ySh.n hS rfl) rfl rfl (ySh.r hS rfl) ?_
                          refine y_iload_n rfl rfl ?_
                          refine y_iload rfl rfl ?_
                          refine y_virt rfl rfl rfl rfl rfl (ySh.t hS rfl) (ySh.n hS rfl) ?_
                          refine y_in (M := xm_X7_isPartner) (ls := [some _, some _, some _]) rfl rfl rfl ?_
                          refine y_aload_n rfl rfl ?_
                          refine y_getR rfl (ySh.t hS rfl) (ySh.n hS rfl) rfl rfl (ySh.r hS rfl) ?_
                          refine y_aload_n rfl rfl ?_
                          refine y_iload_n rfl rfl ?_
                          refine y_iload_n rfl rfl ?_
                          refine y_virt rfl rfl rfl rfl rfl (ySh.t hS rfl) (ySh.n hS rfl) ?_
                          refine sp_at (by omega) (by omega) (by decide) (by decide) (fun z_ hz234 => ?_)
                          rw [yz_8] at hz234
                          refine y_ret1 ?_
                          refine y_baload rfl (ySh.t hS rfl) rfl (ySh.n hS rfl) (by omega) (by omega) ?_
                          refine y_ireturn rfl rfl (xfit_z (hC.p _)) ?_
                          refine y_ret1 ?_
                          refine y_if_eq rfl j_X8_buyOut_134 (fun h_235 => ?_) (fun h_236 => ?_)
                          · refine y_throw rfl rfl rfl ?_
                            exact hE2
                          · refine y_aload_n rfl rfl ?_
                            refine y_getR rfl (ySh.t hS rfl) (ySh.n hS rfl) rfl rfl (ySh.r hS rfl) ?_
                            refine y_iload_n rfl rfl ?_
                            refine y_iload rfl rfl ?_
                            refine y_virt rfl rfl rfl rfl rfl (ySh.t hS rfl) (ySh.n hS rfl) ?_
                            refine y_in (M := xm_X7_capitalOf) (ls := [some _, some _, some _]) rfl rfl rfl ?_
                            refine y_aload_n rfl rfl ?_
                            refine y_getR rfl (ySh.t hS rfl) (ySh.n hS rfl) rfl rfl (ySh.r hS rfl) ?_
                            refine y_aload_n rfl rfl ?_
                            refine y_iload_n rfl rfl ?_
                            refine y_iload_n rfl rfl ?_
                            refine y_virt rfl rfl rfl rfl rfl (ySh.t hS rfl) (ySh.n hS rfl) ?_
                            refine sp_at (by omega) (by omega) (by decide) (by decide) (fun z_ hz237 => ?_)
                            rw [yz_8] at hz237
                            refine y_ret1 ?_
                            refine y_iaload rfl (ySh.t hS rfl) (ySh.n hS rfl) (by omega) (by omega) ?_
                            refine y_ireturn rfl rfl rfl ?_
                            refine y_ret1 ?_
                            refine y_iload rfl rfl ?_
                            refine y_icmp_lt rfl j_X8_buyOut_134 (fun h_238 => ?_) (fun h_239 => ?_)
                            · refine y_throw rfl rfl rfl ?_
                              exact hE2
                            · refine y_aload_n rfl rfl ?_
                              refine y_getR rfl (ySh.t hS rfl) (ySh.n hS rfl) rfl rfl (ySh.r hS rfl) ?_
                              refine y_getR rfl (ySh.t hS rfl) (ySh.n hS rfl) rfl rfl (ySh.r hS rfl) ?_
                              refine y_iload rfl rfl ?_
                              refine y_iaload rfl (ySh.t hS rfl) (ySh.n hS rfl) (by decide) (by decide) ?_
                              refine y_iload rfl rfl ?_
                              refine y_icmp_ge rfl j_X8_buyOut_145 (fun h_240 => ?_) (fun h_241 => ?_)
                              · refine y_aload_n rfl rfl ?_
                                refine y_getR rfl (ySh.t hS rfl) (ySh.n hS rfl) rfl rfl (ySh.r hS rfl) ?_
                                refine y_iload rfl rfl ?_
                                refine y_iload rfl rfl ?_
                                refine y_iload rfl rfl ?_
                                refine y_virt rfl rfl rfl rfl rfl (ySh.t hS rfl) (ySh.n hS rfl) ?_
                                refine y_in (M := xm_X4_move) (ls := [some _, some _, some _, some _]) rfl rfl rfl ?_
                                refine y_aload_n rfl rfl ?_
                                refine y_iload_n rfl rfl ?_
                                refine y_iload_n rfl rfl ?_
                                refine y_ineg rfl ?_
                                refine y_virt rfl rfl rfl rfl rfl (ySh.t hS rfl) (ySh.n hS rfl) ?_
                                refine spu_add_X4 hS hC (fun I252 hC hF1 => ?_)
                                have hF : yFu I I252 := yFu.trans (by repeat (first | exact hF | refine yFu.upd ?_ (by decide))) hF1.t
                                have hd : (I252 34 8).toInt = (I 34 8).toInt := congrArg Int32.toInt (hF1 34 8 (Or.inl (by decide)))
                                refine y_ret0 ?_
                                refine y_aload_n rfl rfl ?_
                                refine y_iload_n rfl rfl ?_
                                refine y_iload_n rfl rfl ?_
                                refine y_virt rfl rfl rfl rfl rfl (ySh.t hS rfl) (ySh.n hS rfl) ?_
                                refine spu_add_X4 hS hC (fun I253 hC hF1 => ?_)
                                have hF : yFu I I253 := yFu.trans (by repeat (first | exact hF | refine yFu.upd ?_ (by decide))) hF1.t
                                have hd : (I253 34 8).toInt = (I252 34 8).toInt := congrArg Int32.toInt (hF1 34 8 (Or.inl (by decide)))
                                refine y_ret0 ?_
                                refine y_return rfl ?_
                                refine y_ret0 ?_
                                refine y_aload_n rfl rfl ?_
                                refine y_getR rfl (ySh.t hS rfl) (ySh.n hS rfl) rfl rfl (ySh.r hS rfl) ?_
                                refine y_iload_n rfl rfl ?_
                                refine y_iload rfl rfl ?_
                                refine y_iload rfl rfl ?_
                                refine y_iload rfl rfl ?_
                                refine y_virt rfl rfl rfl rfl rfl (ySh.t hS rfl) (ySh.n hS rfl) ?_
                                refine y_in (M := xm_X7_moveCapital) (ls := [some _, some _, some _, some _, some _]) rfl rfl rfl ?_
                                refine y_aload_n rfl rfl ?_
                                refine y_getR rfl (ySh.t hS rfl) (ySh.n hS rfl) rfl rfl (ySh.r hS rfl) ?_
                                refine y_aload_n rfl rfl ?_
                                refine y_iload_n rfl rfl ?_
                                refine y_iload_n rfl rfl ?_
                                refine y_virt rfl rfl rfl rfl rfl (ySh.t hS rfl) (ySh.n hS rfl) ?_
                                refine sp_at (by omega) (by omega) (by decide) (by decide) (fun z_ hz244 => ?_)
                                rw [yz_8] at hz244
                                refine y_ret1 ?_
                                refine y_dup2 rfl rfl rfl ?_
                                refine y_iaload rfl (ySh.t hS rfl) (ySh.n hS rfl) (by omega) (by omega) ?_
                                refine y_iload rfl rfl ?_
                                refine y_isub rfl ?_
                                refine y_iastore rfl (ySh.t hS rfl) (ySh.n hS rfl) (Nat.le_of_ble_eq_true rfl) (by omega) (by omega) ?_
                                refine y_aload_n rfl rfl ?_
                                refine y_getR rfl (ySh.t hS rfl) (ySh.n hS rfl) rfl rfl (ySh.r hS rfl) ?_
                                refine y_aload_n rfl rfl ?_
                                refine y_iload_n rfl rfl ?_
                                refine y_iload_n rfl rfl ?_
                                refine y_virt rfl rfl rfl rfl rfl (ySh.t hS rfl) (ySh.n hS rfl) ?_
                                refine sp_at (by omega) (by omega) (by decide) (by decide) (fun z_ hz245 => ?_)
                                rw [yz_8] at hz245
                                refine y_ret1 ?_
                                refine y_dup2 rfl rfl rfl ?_
                                refine y_iaload rfl (ySh.t hS rfl) (ySh.n hS rfl) (by omega) (by omega) ?_
                                refine y_iload rfl rfl ?_
                                refine y_iadd rfl ?_
                                refine y_iastore rfl (ySh.t hS rfl) (ySh.n hS rfl) (Nat.le_of_ble_eq_true rfl) (by omega) (by omega) ?_
                                refine y_return rfl ?_
                                refine y_ret0 ?_
                                refine y_aload_n rfl rfl ?_
                                refine y_getR rfl (ySh.t hS rfl) (ySh.n hS rfl) rfl rfl (ySh.r hS rfl) ?_
                                refine y_iload_n rfl rfl ?_
                                refine y_iload rfl rfl ?_
                                refine y_virt rfl rfl rfl rfl rfl (ySh.t hS rfl) (ySh.n hS rfl) ?_
                                refine y_in (M := xm_X7_capitalOf) (ls := [some _, some _, some _]) rfl rfl rfl ?_
                                refine y_aload_n rfl rfl ?_
                                refine y_getR rfl (ySh.t hS rfl) (ySh.n hS rfl) rfl rfl (ySh.r hS rfl) ?_
                                refine y_aload_n rfl rfl ?_
                                refine y_iload_n rfl rfl ?_
                                refine y_iload_n rfl rfl ?_
                                refine y_virt rfl rfl rfl rfl rfl (ySh.t hS rfl) (ySh.n hS rfl) ?_
                                refine sp_at (by omega) (by omega) (by decide) (by decide) (fun z_ hz246 => ?_)
                                rw [yz_8] at hz246
                                refine y_ret1 ?_
                                refine y_iaload rfl (ySh.t hS rfl) (ySh.n hS rfl) (by omega) (by omega) ?_
                                refine y_ireturn rfl rfl rfl ?_
                                refine y_ret1 ?_
                                refine y_ireturn rfl rfl rfl ?_
                                exact hQ _ _ hC (by repeat (first | exact hF | refine yFu.upd ?_ (by decide)))
                              · refine y_throw rfl rfl rfl ?_
                                exact hE2
            · rw [yz_m1] at h_170
              refine y_aload_n rfl rfl ?_
              refine y_getR rfl (ySh.t hS rfl) (ySh.n hS rfl) rfl rfl (ySh.r hS rfl) ?_
              refine y_iload_n rfl rfl ?_
              refine y_virt rfl rfl rfl rfl rfl (ySh.t hS rfl) (ySh.n hS rfl) ?_
              refine y_in (M := xm_X4_has) (ls := [some _, some _]) rfl rfl rfl ?_
              refine y_iload_n rfl rfl ?_
              refine y_if_lt rfl j_X4_has_16 (fun h_247 => ?_) (fun h_248 => ?_)
              · refine y_iconst rfl ?_
                refine y_ireturn rfl rfl rfl ?_
                refine y_ret1 ?_
                refine y_if_eqT rfl j_X8_isParty_20 (by decide) ?_
                refine y_iconst rfl ?_
                refine y_ireturn rfl rfl rfl ?_
                refine y_ret1 ?_
                refine y_if_neF rfl (by decide) ?_
                refine y_throw rfl rfl rfl ?_
                exact hE0
              · refine y_iload_n rfl rfl ?_
                refine y_aload_n rfl rfl ?_
                refine y_getI rfl (ySh.t hS rfl) (ySh.n hS rfl) rfl rfl ?_
                refine y_icmp_ge rfl j_X4_has_16 (fun h_249 => ?_) (fun h_250 => ?_)
                · refine y_iconst rfl ?_
                  refine y_ireturn rfl rfl rfl ?_
                  refine y_ret1 ?_
                  refine y_if_eqT rfl j_X8_isParty_20 (by decide) ?_
                  refine y_iconst rfl ?_
                  refine y_ireturn rfl rfl rfl ?_
                  refine y_ret1 ?_
                  refine y_if_neF rfl (by decide) ?_
                  refine y_throw rfl rfl rfl ?_
                  exact hE0
                · refine y_iconst rfl ?_
                  refine y_goto rfl j_X4_has_17 ?_
                  refine y_ireturn rfl rfl rfl ?_
                  refine y_ret1 ?_
                  refine y_if_eqF rfl (by decide) ?_
                  refine y_iconst rfl ?_
                  refine y_goto rfl j_X8_isParty_21 ?_
                  refine y_ireturn rfl rfl rfl ?_
                  refine y_ret1 ?_
                  refine y_if_neT rfl j_X8_buyOut_38 (by decide) ?_
                  refine y_iload_n rfl rfl ?_
                  refine y_iload_n rfl rfl ?_
                  refine y_icmp_eq rfl j_X8_buyOut_55 (fun h_251 => ?_) (fun h_252 => ?_)
                  · refine y_throw rfl rfl rfl ?_
                    exact hE1
                  · refine y_iload rfl rfl ?_
                    refine y_iconst rfl ?_
                    refine y_sip rfl (by decide) ?_
                    refine y_static rfl rfl rfl rfl rfl ?_
                    refine y_in (M := xm_X8_isIn) (ls := [some _, some _, some _]) rfl rfl rfl ?_
                    refine y_iload_n rfl rfl ?_
                    refine y_iload_n rfl rfl ?_
                    refine y_icmp_lt rfl j_X8_isIn_14 (fun h_253 => ?_) (fun h_254 => ?_)
                    · rw [yz_1] at h_253
                      refine y_iconst rfl ?_
                      refine y_ireturn rfl rfl rfl ?_
                      refine y_ret1 ?_
                      refine y_if_neF rfl (by decide) ?_
                      refine y_throw rfl rfl rfl ?_
                      exact hE1
                    · rw [yz_1] at h_254
                      refine y_iload_n rfl rfl ?_
                      refine y_iload_n rfl rfl ?_
                      refine y_icmp_gt rfl j_X8_isIn_14 (fun h_255 => ?_) (fun h_256 => ?_)
                      · rw [yz_999] at h_255
                        refine y_iconst rfl ?_
                        refine y_ireturn rfl rfl rfl ?_
                        refine y_ret1 ?_
                        refine y_if_neF rfl (by decide) ?_
                        refine y_throw rfl rfl rfl ?_
                        exact hE1
                      · rw [yz_999] at h_256
                        refine y_iconst rfl ?_
                        refine y_goto rfl j_X8_isIn_15 ?_
                        refine y_ireturn rfl rfl rfl ?_
                        refine y_ret1 ?_
                        refine y_if_neT rfl j_X8_buyOut_66 (by decide) ?_
                        refine y_iload_n rfl rfl ?_
                        refine y_static rfl rfl rfl rfl rfl ?_
                        refine y_in (M := xm_X8_placeOf) (ls := [some _]) rfl rfl rfl ?_
                        refine y_iload_n rfl rfl ?_
                        refine y_iconst rfl ?_
                        refine y_icmp_ne rfl j_X8_placeOf_10 (fun h_257 => ?_) (fun h_258 => ?_)
                        · rw [yz_m1] at h_257
                          refine y_iload_n rfl rfl ?_
                          refine y_ireturn rfl rfl rfl ?_
                          refine y_ret1 ?_
                          refine y_istore (ls' := [some _, some _, some _, some _, some _, some _, _]) rfl rfl rfl ?_
                          refine y_iload_n rfl rfl ?_
                          refine y_static rfl rfl rfl rfl rfl ?_
                          refine y_in (M := xm_X8_placeOf) (ls := [some _]) rfl rfl rfl ?_
                          refine y_iload_n rfl rfl ?_
                          refine y_iconst rfl ?_
                          refine y_icmp_ne rfl j_X8_placeOf_10 (fun h_259 => ?_) (fun h_260 => ?_)
                          · rw [yz_m1] at h_259
                            refine y_iload_n rfl rfl ?_
                            refine y_ireturn rfl rfl rfl ?_
                            refine y_ret1 ?_
                            refine y_istore (ls' := [some _, some _, some _, some _, some _, some _, some _]) rfl rfl rfl ?_
                            refine y_aload_n rfl rfl ?_
                            refine y_getR rfl (ySh.t hS rfl) (ySh.n hS rfl) rfl rfl (ySh.r hS rfl) ?_
                            refine y_iload_n rfl rfl ?_
                            refine y_iload rfl rfl ?_
                            refine y_virt rfl rfl rfl rfl rfl (ySh.t hS rfl) (ySh.n hS rfl) ?_
                            refine y_in (M := xm_X7_isPartner) (ls := [some _, some _, some _]) rfl rfl rfl ?_
                            refine y_aload_n rfl rfl ?_
                            refine y_getR rfl (ySh.t hS rfl) (ySh.n hS rfl) rfl rfl (ySh.r hS rfl) ?_
                            refine y_aload_n rfl rfl ?_
                            refine y_iload_n rfl rfl ?_
                            refine y_iload_n rfl rfl ?_
                            refine y_virt rfl rfl rfl rfl rfl (ySh.t hS rfl) (ySh.n hS rfl) ?_
                            refine sp_at (by omega) (by omega) (by omega) (by omega) (fun z_ hz261 => ?_)
                            refine y_ret1 ?_
                            refine y_baload rfl (ySh.t hS rfl) rfl (ySh.n hS rfl) (by omega) (by omega) ?_
                            refine y_ireturn rfl rfl (xfit_z (hC.p _)) ?_
                            refine y_ret1 ?_
                            refine y_if_eq rfl j_X8_buyOut_134 (fun h_262 => ?_) (fun h_263 => ?_)
                            · refine y_throw rfl rfl rfl ?_
                              exact hE2
                            · refine y_aload_n rfl rfl ?_
                              refine y_getR rfl (ySh.t hS rfl) (ySh.n hS rfl) rfl rfl (ySh.r hS rfl) ?_
                              refine y_iload_n rfl rfl ?_
                              refine y_iload rfl rfl ?_
                              refine y_virt rfl rfl rfl rfl rfl (ySh.t hS rfl) (ySh.n hS rfl) ?_
                              refine y_in (M := xm_X7_isPartner) (ls := [some _, some _, some _]) rfl rfl rfl ?_
                              refine y_aload_n rfl rfl ?_
                              refine y_getR rfl (ySh.t hS rfl) (ySh.n hS rfl) rfl rfl (ySh.r hS rfl) ?_
                              refine y_aload_n rfl rfl ?_
                              refine y_iload_n rfl rfl ?_
                              refine y_iload_n rfl rfl ?_
                              refine y_virt rfl rfl rfl rfl rfl (ySh.t hS rfl) (ySh.n hS rfl) ?_
                              refine sp_at (by omega) (by omega) (by omega) (by omega) (fun z_ hz264 => ?_)
                              refine y_ret1 ?_
                              refine y_baload rfl (ySh.t hS rfl) rfl (ySh.n hS rfl) (by omega) (by omega) ?_
                              refine y_ireturn rfl rfl (xfit_z (hC.p _)) ?_
                              refine y_ret1 ?_
                              refine y_if_eq rfl j_X8_buyOut_134 (fun h_265 => ?_) (fun h_266 => ?_)
                              · refine y_throw rfl rfl rfl ?_
                                exact hE2
                              · refine y_aload_n rfl rfl ?_
                                refine y_getR rfl (ySh.t hS rfl) (ySh.n hS rfl) rfl rfl (ySh.r hS rfl) ?_
                                refine y_iload_n rfl rfl ?_
                                refine y_iload rfl rfl ?_
                                refine y_virt rfl rfl rfl rfl rfl (ySh.t hS rfl) (ySh.n hS rfl) ?_
                                refine y_in (M := xm_X7_capitalOf) (ls := [some _, some _, some _]) rfl rfl rfl ?_
                                refine y_aload_n rfl rfl ?_
                                refine y_getR rfl (ySh.t hS rfl) (ySh.n hS rfl) rfl rfl (ySh.r hS rfl) ?_
                                refine y_aload_n rfl rfl ?_
                                refine y_iload_n rfl rfl ?_
                                refine y_iload_n rfl rfl ?_
                                refine y_virt rfl rfl rfl rfl rfl (ySh.t hS rfl) (ySh.n hS rfl) ?_
                                refine sp_at (by omega) (by omega) (by omega) (by omega) (fun z_ hz267 => ?_)
                                refine y_ret1 ?_
                                refine y_iaload rfl (ySh.t hS rfl) (ySh.n hS rfl) (by omega) (by omega) ?_
                                refine y_ireturn rfl rfl rfl ?_
                                refine y_ret1 ?_
                                refine y_iload rfl rfl ?_
                                refine y_icmp_lt rfl j_X8_buyOut_134 (fun h_268 => ?_) (fun h_269 => ?_)
                                · refine y_throw rfl rfl rfl ?_
                                  exact hE2
                                · refine y_aload_n rfl rfl ?_
                                  refine y_getR rfl (ySh.t hS rfl) (ySh.n hS rfl) rfl rfl (ySh.r hS rfl) ?_
                                  refine y_getR rfl (ySh.t hS rfl) (ySh.n hS rfl) rfl rfl (ySh.r hS rfl) ?_
                                  refine y_iload rfl rfl ?_
                                  refine y_iaload rfl (ySh.t hS rfl) (ySh.n hS rfl) (by omega) (by omega) ?_
                                  refine y_iload rfl rfl ?_
                                  refine y_icmp_ge rfl j_X8_buyOut_145 (fun h_270 => ?_) (fun h_271 => ?_)
                                  · refine y_aload_n rfl rfl ?_
                                    refine y_getR rfl (ySh.t hS rfl) (ySh.n hS rfl) rfl rfl (ySh.r hS rfl) ?_
                                    refine y_iload rfl rfl ?_
                                    refine y_iload rfl rfl ?_
                                    refine y_iload rfl rfl ?_
                                    refine y_virt rfl rfl rfl rfl rfl (ySh.t hS rfl) (ySh.n hS rfl) ?_
                                    refine y_in (M := xm_X4_move) (ls := [some _, some _, some _, some _]) rfl rfl rfl ?_
                                    refine y_aload_n rfl rfl ?_
                                    refine y_iload_n rfl rfl ?_
                                    refine y_iload_n rfl rfl ?_
                                    refine y_ineg rfl ?_
                                    refine y_virt rfl rfl rfl rfl rfl (ySh.t hS rfl) (ySh.n hS rfl) ?_
                                    refine spu_add_X4 hS hC (fun I282 hC hF1 => ?_)
                                    have hF : yFu I I282 := yFu.trans (by repeat (first | exact hF | refine yFu.upd ?_ (by decide))) hF1.t
                                    have hd : (I282 34 8).toInt = (I 34 8).toInt := congrArg Int32.toInt (hF1 34 8 (Or.inl (by decide)))
                                    refine y_ret0 ?_
                                    refine y_aload_n rfl rfl ?_
                                    refine y_iload_n rfl rfl ?_
                                    refine y_iload_n rfl rfl ?_
                                    refine y_virt rfl rfl rfl rfl rfl (ySh.t hS rfl) (ySh.n hS rfl) ?_
                                    refine spu_add_X4 hS hC (fun I283 hC hF1 => ?_)
                                    have hF : yFu I I283 := yFu.trans (by repeat (first | exact hF | refine yFu.upd ?_ (by decide))) hF1.t
                                    have hd : (I283 34 8).toInt = (I282 34 8).toInt := congrArg Int32.toInt (hF1 34 8 (Or.inl (by decide)))
                                    refine y_ret0 ?_
                                    refine y_return rfl ?_
                                    refine y_ret0 ?_
                                    refine y_aload_n rfl rfl ?_
                                    refine y_getR rfl (ySh.t hS rfl) (ySh.n hS rfl) rfl rfl (ySh.r hS rfl) ?_
                                    refine y_iload_n rfl rfl ?_
                                    refine y_iload rfl rfl ?_
                                    refine y_iload rfl rfl ?_
                                    refine y_iload rfl rfl ?_
                                    refine y_virt rfl rfl rfl rfl rfl (ySh.t hS rfl) (ySh.n hS rfl) ?_
                                    refine y_in (M := xm_X7_moveCapital) (ls := [some _, some _, some _, some _, some _]) rfl rfl rfl ?_
                                    refine y_aload_n rfl rfl ?_
                                    refine y_getR rfl (ySh.t hS rfl) (ySh.n hS rfl) rfl rfl (ySh.r hS rfl) ?_
                                    refine y_aload_n rfl rfl ?_
                                    refine y_iload_n rfl rfl ?_
                                    refine y_iload_n rfl rfl ?_
                                    refine y_virt rfl rfl rfl rfl rfl (ySh.t hS rfl) (ySh.n hS rfl) ?_
                                    refine sp_at (by omega) (by omega) (by omega) (by omega) (fun z_ hz274 => ?_)
                                    refine y_ret1 ?_
                                    refine y_dup2 rfl rfl rfl ?_
                                    refine y_iaload rfl (ySh.t hS rfl) (ySh.n hS rfl) (by omega) (by omega) ?_
                                    refine y_iload rfl rfl ?_
                                    refine y_isub rfl ?_
                                    refine y_iastore rfl (ySh.t hS rfl) (ySh.n hS rfl) (Nat.le_of_ble_eq_true rfl) (by omega) (by omega) ?_
                                    refine y_aload_n rfl rfl ?_
                                    refine y_getR rfl (ySh.t hS rfl) (ySh.n hS rfl) rfl rfl (ySh.r hS rfl) ?_
                                    refine y_aload_n rfl rfl ?_
                                    refine y_iload_n rfl rfl ?_
                                    refine y_iload_n rfl rfl ?_
                                    refine y_virt rfl rfl rfl rfl rfl (ySh.t hS rfl) (ySh.n hS rfl) ?_
                                    refine sp_at (by omega) (by omega) (by omega) (by omega) (fun z_ hz275 => ?_)
                                    refine y_ret1 ?_
                                    refine y_dup2 rfl rfl rfl ?_
                                    refine y_iaload rfl (ySh.t hS rfl) (ySh.n hS rfl) (by omega) (by omega) ?_
                                    refine y_iload rfl rfl ?_
                                    refine y_iadd rfl ?_
                                    refine y_iastore rfl (ySh.t hS rfl) (ySh.n hS rfl) (Nat.le_of_ble_eq_true rfl) (by omega) (by omega) ?_
                                    refine y_return rfl ?_
                                    refine y_ret0 ?_
                                    refine y_aload_n rfl rfl ?_
                                    refine y_getR rfl (ySh.t hS rfl) (ySh.n hS rfl) rfl rfl (ySh.r hS rfl) ?_
                                    refine y_iload_n rfl rfl ?_
                                    refine y_iload rfl rfl ?_
                                    refine y_virt rfl rfl rfl rfl rfl (ySh.t hS rfl) (ySh.n hS rfl) ?_
                                    refine y_in (M := xm_X7_capitalOf) (ls := [some _, some _, some _]) rfl rfl rfl ?_
                                    refine y_aload_n rfl rfl ?_
                                    refine y_getR rfl (ySh.t hS rfl) (ySh.n hS rfl) rfl rfl (ySh.r hS rfl) ?_
                                    refine y_aload_n rfl rfl ?_
                                    refine y_iload_n rfl rfl ?_
                                    refine y_iload_n rfl rfl ?_
                                    refine y_virt rfl rfl rfl rfl rfl (ySh.t hS rfl) (ySh.n hS rfl) ?_
                                    refine sp_at (by omega) (by omega) (by omega) (by omega) (fun z_ hz276 => ?_)
                                    refine y_ret1 ?_
                                    refine y_iaload rfl (ySh.t hS rfl) (ySh.n hS rfl) (by omega) (by omega) ?_
                                    refine y_ireturn rfl rfl rfl ?_
                                    refine y_ret1 ?_
                                    refine y_ireturn rfl rfl rfl ?_
                                    exact hQ _ _ hC (by repeat (first | exact hF | refine yFu.upd ?_ (by decide)))
                                  · refine y_throw rfl rfl rfl ?_
                                    exact hE2
                          · rw [yz_m1] at h_260
                            refine y_bip rfl (by decide) ?_
                            refine y_goto rfl j_X8_placeOf_11 ?_
                            refine y_ireturn rfl rfl rfl ?_
                            refine y_ret1 ?_
                            refine y_istore (ls' := [some _, some _, some _, some _, some _, some _, some _]) rfl rfl rfl ?_
                            refine y_aload_n rfl rfl ?_
                            refine y_getR rfl (ySh.t hS rfl) (ySh.n hS rfl) rfl rfl (ySh.r hS rfl) ?_
                            refine y_iload_n rfl rfl ?_
                            refine y_iload rfl rfl ?_
                            refine y_virt rfl rfl rfl rfl rfl (ySh.t hS rfl) (ySh.n hS rfl) ?_
                            refine y_in (M := xm_X7_isPartner) (ls := [some _, some _, some _]) rfl rfl rfl ?_
                            refine y_aload_n rfl rfl ?_
                            refine y_getR rfl (ySh.t hS rfl) (ySh.n hS rfl) rfl rfl (ySh.r hS rfl) ?_
                            refine y_aload_n rfl rfl ?_
                            refine y_iload_n rfl rfl ?_
                            refine y_iload_n rfl rfl ?_
                            refine y_virt rfl rfl rfl rfl rfl (ySh.t hS rfl) (ySh.n hS rfl) ?_
                            refine sp_at (by omega) (by omega) (by omega) (by omega) (fun z_ hz277 => ?_)
                            refine y_ret1 ?_
                            refine y_baload rfl (ySh.t hS rfl) rfl (ySh.n hS rfl) (by omega) (by omega) ?_
                            refine y_ireturn rfl rfl (xfit_z (hC.p _)) ?_
                            refine y_ret1 ?_
                            refine y_if_eq rfl j_X8_buyOut_134 (fun h_278 => ?_) (fun h_279 => ?_)
                            · refine y_throw rfl rfl rfl ?_
                              exact hE2
                            · refine y_aload_n rfl rfl ?_
                              refine y_getR rfl (ySh.t hS rfl) (ySh.n hS rfl) rfl rfl (ySh.r hS rfl) ?_
                              refine y_iload_n rfl rfl ?_
                              refine y_iload rfl rfl ?_
                              refine y_virt rfl rfl rfl rfl rfl (ySh.t hS rfl) (ySh.n hS rfl) ?_
                              refine y_in (M := xm_X7_isPartner) (ls := [some _, some _, some _]) rfl rfl rfl ?_
                              refine y_aload_n rfl rfl ?_
                              refine y_getR rfl (ySh.t hS rfl) (ySh.n hS rfl) rfl rfl (ySh.r hS rfl) ?_
                              refine y_aload_n rfl rfl ?_
                              refine y_iload_n rfl rfl ?_
                              refine y_iload_n rfl rfl ?_
                              refine y_virt rfl rfl rfl rfl rfl (ySh.t hS rfl) (ySh.n hS rfl) ?_
                              refine sp_at (by omega) (by omega) (by decide) (by decide) (fun z_ hz280 => ?_)
                              rw [yz_8] at hz280
                              refine y_ret1 ?_
                              refine y_baload rfl (ySh.t hS rfl) rfl (ySh.n hS rfl) (by omega) (by omega) ?_
                              refine y_ireturn rfl rfl (xfit_z (hC.p _)) ?_
                              refine y_ret1 ?_
                              refine y_if_eq rfl j_X8_buyOut_134 (fun h_281 => ?_) (fun h_282 => ?_)
                              · refine y_throw rfl rfl rfl ?_
                                exact hE2
                              · refine y_aload_n rfl rfl ?_
                                refine y_getR rfl (ySh.t hS rfl) (ySh.n hS rfl) rfl rfl (ySh.r hS rfl) ?_
                                refine y_iload_n rfl rfl ?_
                                refine y_iload rfl rfl ?_
                                refine y_virt rfl rfl rfl rfl rfl (ySh.t hS rfl) (ySh.n hS rfl) ?_
                                refine y_in (M := xm_X7_capitalOf) (ls := [some _, some _, some _]) rfl rfl rfl ?_
                                refine y_aload_n rfl rfl ?_
                                refine y_getR rfl (ySh.t hS rfl) (ySh.n hS rfl) rfl rfl (ySh.r hS rfl) ?_
                                refine y_aload_n rfl rfl ?_
                                refine y_iload_n rfl rfl ?_
                                refine y_iload_n rfl rfl ?_
                                refine y_virt rfl rfl rfl rfl rfl (ySh.t hS rfl) (ySh.n hS rfl) ?_
                                refine sp_at (by omega) (by omega) (by omega) (by omega) (fun z_ hz283 => ?_)
                                refine y_ret1 ?_
                                refine y_iaload rfl (ySh.t hS rfl) (ySh.n hS rfl) (by omega) (by omega) ?_
                                refine y_ireturn rfl rfl rfl ?_
                                refine y_ret1 ?_
                                refine y_iload rfl rfl ?_
                                refine y_icmp_lt rfl j_X8_buyOut_134 (fun h_284 => ?_) (fun h_285 => ?_)
                                · refine y_throw rfl rfl rfl ?_
                                  exact hE2
                                · refine y_aload_n rfl rfl ?_
                                  refine y_getR rfl (ySh.t hS rfl) (ySh.n hS rfl) rfl rfl (ySh.r hS rfl) ?_
                                  refine y_getR rfl (ySh.t hS rfl) (ySh.n hS rfl) rfl rfl (ySh.r hS rfl) ?_
                                  refine y_iload rfl rfl ?_
                                  refine y_iaload rfl (ySh.t hS rfl) (ySh.n hS rfl) (by decide) (by decide) ?_
                                  refine y_iload rfl rfl ?_
                                  refine y_icmp_ge rfl j_X8_buyOut_145 (fun h_286 => ?_) (fun h_287 => ?_)
                                  · refine y_aload_n rfl rfl ?_
                                    refine y_getR rfl (ySh.t hS rfl) (ySh.n hS rfl) rfl rfl (ySh.r hS rfl) ?_
                                    refine y_iload rfl rfl ?_
                                    refine y_iload rfl rfl ?_
                                    refine y_iload rfl rfl ?_
                                    refine y_virt rfl rfl rfl rfl rfl (ySh.t hS rfl) (ySh.n hS rfl) ?_
                                    refine y_in (M := xm_X4_move) (ls := [some _, some _, some _, some _]) rfl rfl rfl ?_
                                    refine y_aload_n rfl rfl ?_
                                    refine y_iload_n rfl rfl ?_
                                    refine y_iload_n rfl rfl ?_
                                    refine y_ineg rfl ?_
                                    refine y_virt rfl rfl rfl rfl rfl (ySh.t hS rfl) (ySh.n hS rfl) ?_
                                    refine spu_add_X4 hS hC (fun I298 hC hF1 => ?_)
                                    have hF : yFu I I298 := yFu.trans (by repeat (first | exact hF | refine yFu.upd ?_ (by decide))) hF1.t
                                    have hd : (I298 34 8).toInt = (I 34 8).toInt := congrArg Int32.toInt (hF1 34 8 (Or.inl (by decide)))
                                    refine y_ret0 ?_
                                    refine y_aload_n rfl rfl ?_
                                    refine y_iload_n rfl rfl ?_
                                    refine y_iload_n rfl rfl ?_
                                    refine y_virt rfl rfl rfl rfl rfl (ySh.t hS rfl) (ySh.n hS rfl) ?_
                                    refine spu_add_X4 hS hC (fun I299 hC hF1 => ?_)
                                    have hF : yFu I I299 := yFu.trans (by repeat (first | exact hF | refine yFu.upd ?_ (by decide))) hF1.t
                                    have hd : (I299 34 8).toInt = (I298 34 8).toInt := congrArg Int32.toInt (hF1 34 8 (Or.inl (by decide)))
                                    refine y_ret0 ?_
                                    refine y_return rfl ?_
                                    refine y_ret0 ?_
                                    refine y_aload_n rfl rfl ?_
                                    refine y_getR rfl (ySh.t hS rfl) (ySh.n hS rfl) rfl rfl (ySh.r hS rfl) ?_
                                    refine y_iload_n rfl rfl ?_
                                    refine y_iload rfl rfl ?_
                                    refine y_iload rfl rfl ?_
                                    refine y_iload rfl rfl ?_
                                    refine y_virt rfl rfl rfl rfl rfl (ySh.t hS rfl) (ySh.n hS rfl) ?_
                                    refine y_in (M := xm_X7_moveCapital) (ls := [some _, some _, some _, some _, some _]) rfl rfl rfl ?_
                                    refine y_aload_n rfl rfl ?_
                                    refine y_getR rfl (ySh.t hS rfl) (ySh.n hS rfl) rfl rfl (ySh.r hS rfl) ?_
                                    refine y_aload_n rfl rfl ?_
                                    refine y_iload_n rfl rfl ?_
                                    refine y_iload_n rfl rfl ?_
                                    refine y_virt rfl rfl rfl rfl rfl (ySh.t hS rfl) (ySh.n hS rfl) ?_
                                    refine sp_at (by omega) (by omega) (by omega) (by omega) (fun z_ hz290 => ?_)
                                    refine y_ret1 ?_
                                    refine y_dup2 rfl rfl rfl ?_
                                    refine y_iaload rfl (ySh.t hS rfl) (ySh.n hS rfl) (by omega) (by omega) ?_
                                    refine y_iload rfl rfl ?_
                                    refine y_isub rfl ?_
                                    refine y_iastore rfl (ySh.t hS rfl) (ySh.n hS rfl) (Nat.le_of_ble_eq_true rfl) (by omega) (by omega) ?_
                                    refine y_aload_n rfl rfl ?_
                                    refine y_getR rfl (ySh.t hS rfl) (ySh.n hS rfl) rfl rfl (ySh.r hS rfl) ?_
                                    refine y_aload_n rfl rfl ?_
                                    refine y_iload_n rfl rfl ?_
                                    refine y_iload_n rfl rfl ?_
                                    refine y_virt rfl rfl rfl rfl rfl (ySh.t hS rfl) (ySh.n hS rfl) ?_
                                    refine sp_at (by omega) (by omega) (by decide) (by decide) (fun z_ hz291 => ?_)
                                    rw [yz_8] at hz291
                                    refine y_ret1 ?_
                                    refine y_dup2 rfl rfl rfl ?_
                                    refine y_iaload rfl (ySh.t hS rfl) (ySh.n hS rfl) (by omega) (by omega) ?_
                                    refine y_iload rfl rfl ?_
                                    refine y_iadd rfl ?_
                                    refine y_iastore rfl (ySh.t hS rfl) (ySh.n hS rfl) (Nat.le_of_ble_eq_true rfl) (by omega) (by omega) ?_
                                    refine y_return rfl ?_
                                    refine y_ret0 ?_
                                    refine y_aload_n rfl rfl ?_
                                    refine y_getR rfl (ySh.t hS rfl) (ySh.n hS rfl) rfl rfl (ySh.r hS rfl) ?_
                                    refine y_iload_n rfl rfl ?_
                                    refine y_iload rfl rfl ?_
                                    refine y_virt rfl rfl rfl rfl rfl (ySh.t hS rfl) (ySh.n hS rfl) ?_
                                    refine y_in (M := xm_X7_capitalOf) (ls := [some _, some _, some _]) rfl rfl rfl ?_
                                    refine y_aload_n rfl rfl ?_
                                    refine y_getR rfl (ySh.t hS rfl) (ySh.n hS rfl) rfl rfl (ySh.r hS rfl) ?_
                                    refine y_aload_n rfl rfl ?_
                                    refine y_iload_n rfl rfl ?_
                                    refine y_iload_n rfl rfl ?_
                                    refine y_virt rfl rfl rfl rfl rfl (ySh.t hS rfl) (ySh.n hS rfl) ?_
                                    refine sp_at (by omega) (by omega) (by omega) (by omega) (fun z_ hz292 => ?_)
                                    refine y_ret1 ?_
                                    refine y_iaload rfl (ySh.t hS rfl) (ySh.n hS rfl) (by omega) (by omega) ?_
                                    refine y_ireturn rfl rfl rfl ?_
                                    refine y_ret1 ?_
                                    refine y_ireturn rfl rfl rfl ?_
                                    exact hQ _ _ hC (by repeat (first | exact hF | refine yFu.upd ?_ (by decide)))
                                  · refine y_throw rfl rfl rfl ?_
                                    exact hE2
                        · rw [yz_m1] at h_258
                          refine y_bip rfl (by decide) ?_
                          refine y_goto rfl j_X8_placeOf_11 ?_
                          refine y_ireturn rfl rfl rfl ?_
                          refine y_ret1 ?_
                          refine y_istore (ls' := [some _, some _, some _, some _, some _, some _, _]) rfl rfl rfl ?_
                          refine y_iload_n rfl rfl ?_
                          refine y_static rfl rfl rfl rfl rfl ?_
                          refine y_in (M := xm_X8_placeOf) (ls := [some _]) rfl rfl rfl ?_
                          refine y_iload_n rfl rfl ?_
                          refine y_iconst rfl ?_
                          refine y_icmp_ne rfl j_X8_placeOf_10 (fun h_293 => ?_) (fun h_294 => ?_)
                          · rw [yz_m1] at h_293
                            refine y_iload_n rfl rfl ?_
                            refine y_ireturn rfl rfl rfl ?_
                            refine y_ret1 ?_
                            refine y_istore (ls' := [some _, some _, some _, some _, some _, some _, some _]) rfl rfl rfl ?_
                            refine y_aload_n rfl rfl ?_
                            refine y_getR rfl (ySh.t hS rfl) (ySh.n hS rfl) rfl rfl (ySh.r hS rfl) ?_
                            refine y_iload_n rfl rfl ?_
                            refine y_iload rfl rfl ?_
                            refine y_virt rfl rfl rfl rfl rfl (ySh.t hS rfl) (ySh.n hS rfl) ?_
                            refine y_in (M := xm_X7_isPartner) (ls := [some _, some _, some _]) rfl rfl rfl ?_
                            refine y_aload_n rfl rfl ?_
                            refine y_getR rfl (ySh.t hS rfl) (ySh.n hS rfl) rfl rfl (ySh.r hS rfl) ?_
                            refine y_aload_n rfl rfl ?_
                            refine y_iload_n rfl rfl ?_
                            refine y_iload_n rfl rfl ?_
                            refine y_virt rfl rfl rfl rfl rfl (ySh.t hS rfl) (ySh.n hS rfl) ?_
                            refine sp_at (by omega) (by omega) (by decide) (by decide) (fun z_ hz295 => ?_)
                            rw [yz_8] at hz295
                            refine y_ret1 ?_
                            refine y_baload rfl (ySh.t hS rfl) rfl (ySh.n hS rfl) (by omega) (by omega) ?_
                            refine y_ireturn rfl rfl (xfit_z (hC.p _)) ?_
                            refine y_ret1 ?_
                            refine y_if_eq rfl j_X8_buyOut_134 (fun h_296 => ?_) (fun h_297 => ?_)
                            · refine y_throw rfl rfl rfl ?_
                              exact hE2
                            · refine y_aload_n rfl rfl ?_
                              refine y_getR rfl (ySh.t hS rfl) (ySh.n hS rfl) rfl rfl (ySh.r hS rfl) ?_
                              refine y_iload_n rfl rfl ?_
                              refine y_iload rfl rfl ?_
                              refine y_virt rfl rfl rfl rfl rfl (ySh.t hS rfl) (ySh.n hS rfl) ?_
                              refine y_in (M := xm_X7_isPartner) (ls := [some _, some _, some _]) rfl rfl rfl ?_
                              refine y_aload_n rfl rfl ?_
                              refine y_getR rfl (ySh.t hS rfl) (ySh.n hS rfl) rfl rfl (ySh.r hS rfl) ?_
                              refine y_aload_n rfl rfl ?_
                              refine y_iload_n rfl rfl ?_
                              refine y_iload_n rfl rfl ?_
                              refine y_virt rfl rfl rfl rfl rfl (ySh.t hS rfl) (ySh.n hS rfl) ?_
                              refine sp_at (by omega) (by omega) (by omega) (by omega) (fun z_ hz298 => ?_)
                              refine y_ret1 ?_
                              refine y_baload rfl (ySh.t hS rfl) rfl (ySh.n hS rfl) (by omega) (by omega) ?_
                              refine y_ireturn rfl rfl (xfit_z (hC.p _)) ?_
                              refine y_ret1 ?_
                              refine y_if_eq rfl j_X8_buyOut_134 (fun h_299 => ?_) (fun h_300 => ?_)
                              · refine y_throw rfl rfl rfl ?_
                                exact hE2
                              · refine y_aload_n rfl rfl ?_
                                refine y_getR rfl (ySh.t hS rfl) (ySh.n hS rfl) rfl rfl (ySh.r hS rfl) ?_
                                refine y_iload_n rfl rfl ?_
                                refine y_iload rfl rfl ?_
                                refine y_virt rfl rfl rfl rfl rfl (ySh.t hS rfl) (ySh.n hS rfl) ?_
                                refine y_in (M := xm_X7_capitalOf) (ls := [some _, some _, some _]) rfl rfl rfl ?_
                                refine y_aload_n rfl rfl ?_
                                refine y_getR rfl (ySh.t hS rfl) (ySh.n hS rfl) rfl rfl (ySh.r hS rfl) ?_
                                refine y_aload_n rfl rfl ?_
                                refine y_iload_n rfl rfl ?_
                                refine y_iload_n rfl rfl ?_
                                refine y_virt rfl rfl rfl rfl rfl (ySh.t hS rfl) (ySh.n hS rfl) ?_
                                refine sp_at (by omega) (by omega) (by decide) (by decide) (fun z_ hz301 => ?_)
                                rw [yz_8] at hz301
                                refine y_ret1 ?_
                                refine y_iaload rfl (ySh.t hS rfl) (ySh.n hS rfl) (by omega) (by omega) ?_
                                refine y_ireturn rfl rfl rfl ?_
                                refine y_ret1 ?_
                                refine y_iload rfl rfl ?_
                                refine y_icmp_lt rfl j_X8_buyOut_134 (fun h_302 => ?_) (fun h_303 => ?_)
                                · refine y_throw rfl rfl rfl ?_
                                  exact hE2
                                · refine y_aload_n rfl rfl ?_
                                  refine y_getR rfl (ySh.t hS rfl) (ySh.n hS rfl) rfl rfl (ySh.r hS rfl) ?_
                                  refine y_getR rfl (ySh.t hS rfl) (ySh.n hS rfl) rfl rfl (ySh.r hS rfl) ?_
                                  refine y_iload rfl rfl ?_
                                  refine y_iaload rfl (ySh.t hS rfl) (ySh.n hS rfl) (by omega) (by omega) ?_
                                  refine y_iload rfl rfl ?_
                                  refine y_icmp_ge rfl j_X8_buyOut_145 (fun h_304 => ?_) (fun h_305 => ?_)
                                  · refine y_aload_n rfl rfl ?_
                                    refine y_getR rfl (ySh.t hS rfl) (ySh.n hS rfl) rfl rfl (ySh.r hS rfl) ?_
                                    refine y_iload rfl rfl ?_
                                    refine y_iload rfl rfl ?_
                                    refine y_iload rfl rfl ?_
                                    refine y_virt rfl rfl rfl rfl rfl (ySh.t hS rfl) (ySh.n hS rfl) ?_
                                    refine y_in (M := xm_X4_move) (ls := [some _, some _, some _, some _]) rfl rfl rfl ?_
                                    refine y_aload_n rfl rfl ?_
                                    refine y_iload_n rfl rfl ?_
                                    refine y_iload_n rfl rfl ?_
                                    refine y_ineg rfl ?_
                                    refine y_virt rfl rfl rfl rfl rfl (ySh.t hS rfl) (ySh.n hS rfl) ?_
                                    refine spu_add_X4 hS hC (fun I316 hC hF1 => ?_)
                                    have hF : yFu I I316 := yFu.trans (by repeat (first | exact hF | refine yFu.upd ?_ (by decide))) hF1.t
                                    have hd : (I316 34 8).toInt = (I 34 8).toInt := congrArg Int32.toInt (hF1 34 8 (Or.inl (by decide)))
                                    refine y_ret0 ?_
                                    refine y_aload_n rfl rfl ?_
                                    refine y_iload_n rfl rfl ?_
                                    refine y_iload_n rfl rfl ?_
                                    refine y_virt rfl rfl rfl rfl rfl (ySh.t hS rfl) (ySh.n hS rfl) ?_
                                    refine spu_add_X4 hS hC (fun I317 hC hF1 => ?_)
                                    have hF : yFu I I317 := yFu.trans (by repeat (first | exact hF | refine yFu.upd ?_ (by decide))) hF1.t
                                    have hd : (I317 34 8).toInt = (I316 34 8).toInt := congrArg Int32.toInt (hF1 34 8 (Or.inl (by decide)))
                                    refine y_ret0 ?_
                                    refine y_return rfl ?_
                                    refine y_ret0 ?_
                                    refine y_aload_n rfl rfl ?_
                                    refine y_getR rfl (ySh.t hS rfl) (ySh.n hS rfl) rfl rfl (ySh.r hS rfl) ?_
                                    refine y_iload_n rfl rfl ?_
                                    refine y_iload rfl rfl ?_
                                    refine y_iload rfl rfl ?_
                                    refine y_iload rfl rfl ?_
                                    refine y_virt rfl rfl rfl rfl rfl (ySh.t hS rfl) (ySh.n hS rfl) ?_
                                    refine y_in (M := xm_X7_moveCapital) (ls := [some _, some _, some _, some _, some _]) rfl rfl rfl ?_
                                    refine y_aload_n rfl rfl ?_
                                    refine y_getR rfl (ySh.t hS rfl) (ySh.n hS rfl) rfl rfl (ySh.r hS rfl) ?_
                                    refine y_aload_n rfl rfl ?_
                                    refine y_iload_n rfl rfl ?_
                                    refine y_iload_n rfl rfl ?_
                                    refine y_virt rfl rfl rfl rfl rfl (ySh.t hS rfl) (ySh.n hS rfl) ?_
                                    refine sp_at (by omega) (by omega) (by decide) (by decide) (fun z_ hz308 => ?_)
                                    rw [yz_8] at hz308
                                    refine y_ret1 ?_
                                    refine y_dup2 rfl rfl rfl ?_
                                    refine y_iaload rfl (ySh.t hS rfl) (ySh.n hS rfl) (by omega) (by omega) ?_
                                    refine y_iload rfl rfl ?_
                                    refine y_isub rfl ?_
                                    refine y_iastore rfl (ySh.t hS rfl) (ySh.n hS rfl) (Nat.le_of_ble_eq_true rfl) (by omega) (by omega) ?_
                                    refine y_aload_n rfl rfl ?_
                                    refine y_getR rfl (ySh.t hS rfl) (ySh.n hS rfl) rfl rfl (ySh.r hS rfl) ?_
                                    refine y_aload_n rfl rfl ?_
                                    refine y_iload_n rfl rfl ?_
                                    refine y_iload_n rfl rfl ?_
                                    refine y_virt rfl rfl rfl rfl rfl (ySh.t hS rfl) (ySh.n hS rfl) ?_
                                    refine sp_at (by omega) (by omega) (by omega) (by omega) (fun z_ hz309 => ?_)
                                    refine y_ret1 ?_
                                    refine y_dup2 rfl rfl rfl ?_
                                    refine y_iaload rfl (ySh.t hS rfl) (ySh.n hS rfl) (by omega) (by omega) ?_
                                    refine y_iload rfl rfl ?_
                                    refine y_iadd rfl ?_
                                    refine y_iastore rfl (ySh.t hS rfl) (ySh.n hS rfl) (Nat.le_of_ble_eq_true rfl) (by omega) (by omega) ?_
                                    refine y_return rfl ?_
                                    refine y_ret0 ?_
                                    refine y_aload_n rfl rfl ?_
                                    refine y_getR rfl (ySh.t hS rfl) (ySh.n hS rfl) rfl rfl (ySh.r hS rfl) ?_
                                    refine y_iload_n rfl rfl ?_
                                    refine y_iload rfl rfl ?_
                                    refine y_virt rfl rfl rfl rfl rfl (ySh.t hS rfl) (ySh.n hS rfl) ?_
                                    refine y_in (M := xm_X7_capitalOf) (ls := [some _, some _, some _]) rfl rfl rfl ?_
                                    refine y_aload_n rfl rfl ?_
                                    refine y_getR rfl (ySh.t hS rfl) (ySh.n hS rfl) rfl rfl (ySh.r hS rfl) ?_
                                    refine y_aload_n rfl rfl ?_
                                    refine y_iload_n rfl rfl ?_
                                    refine y_iload_n rfl rfl ?_
                                    refine y_virt rfl rfl rfl rfl rfl (ySh.t hS rfl) (ySh.n hS rfl) ?_
                                    refine sp_at (by omega) (by omega) (by decide) (by decide) (fun z_ hz310 => ?_)
                                    rw [yz_8] at hz310
                                    refine y_ret1 ?_
                                    refine y_iaload rfl (ySh.t hS rfl) (ySh.n hS rfl) (by omega) (by omega) ?_
                                    refine y_ireturn rfl rfl rfl ?_
                                    refine y_ret1 ?_
                                    refine y_ireturn rfl rfl rfl ?_
                                    exact hQ _ _ hC (by repeat (first | exact hF | refine yFu.upd ?_ (by decide)))
                                  · refine y_throw rfl rfl rfl ?_
                                    exact hE2
                          · rw [yz_m1] at h_294
                            refine y_bip rfl (by decide) ?_
                            refine y_goto rfl j_X8_placeOf_11 ?_
                            refine y_ireturn rfl rfl rfl ?_
                            refine y_ret1 ?_
                            refine y_istore (ls' := [some _, some _, some _, some _, some _, some _, some _]) rfl rfl rfl ?_
                            refine y_aload_n rfl rfl ?_
                            refine y_getR rfl (ySh.t hS rfl) (ySh.n hS rfl) rfl rfl (ySh.r hS rfl) ?_
                            refine y_iload_n rfl rfl ?_
                            refine y_iload rfl rfl ?_
                            refine y_virt rfl rfl rfl rfl rfl (ySh.t hS rfl) (ySh.n hS rfl) ?_
                            refine y_in (M := xm_X7_isPartner) (ls := [some _, some _, some _]) rfl rfl rfl ?_
                            refine y_aload_n rfl rfl ?_
                            refine y_getR rfl (ySh.t hS rfl) (ySh.n hS rfl) rfl rfl (ySh.r hS rfl) ?_
                            refine y_aload_n rfl rfl ?_
                            refine y_iload_n rfl rfl ?_
                            refine y_iload_n rfl rfl ?_
                            refine y_virt rfl rfl rfl rfl rfl (ySh.t hS rfl) (ySh.n hS rfl) ?_
                            refine sp_at (by omega) (by omega) (by decide) (by decide) (fun z_ hz311 => ?_)
                            rw [yz_8] at hz311
                            refine y_ret1 ?_
                            refine y_baload rfl (ySh.t hS rfl) rfl (ySh.n hS rfl) (by omega) (by omega) ?_
                            refine y_ireturn rfl rfl (xfit_z (hC.p _)) ?_
                            refine y_ret1 ?_
                            refine y_if_eq rfl j_X8_buyOut_134 (fun h_312 => ?_) (fun h_313 => ?_)
                            · refine y_throw rfl rfl rfl ?_
                              exact hE2
                            · refine y_aload_n rfl rfl ?_
                              refine y_getR rfl (ySh.t hS rfl) (ySh.n hS rfl) rfl rfl (ySh.r hS rfl) ?_
                              refine y_iload_n rfl rfl ?_
                              refine y_iload rfl rfl ?_
                              refine y_virt rfl rfl rfl rfl rfl (ySh.t hS rfl) (ySh.n hS rfl) ?_
                              refine y_in (M := xm_X7_isPartner) (ls := [some _, some _, some _]) rfl rfl rfl ?_
                              refine y_aload_n rfl rfl ?_
                              refine y_getR rfl (ySh.t hS rfl) (ySh.n hS rfl) rfl rfl (ySh.r hS rfl) ?_
                              refine y_aload_n rfl rfl ?_
                              refine y_iload_n rfl rfl ?_
                              refine y_iload_n rfl rfl ?_
                              refine y_virt rfl rfl rfl rfl rfl (ySh.t hS rfl) (ySh.n hS rfl) ?_
                              refine sp_at (by omega) (by omega) (by decide) (by decide) (fun z_ hz314 => ?_)
                              rw [yz_8] at hz314
                              refine y_ret1 ?_
                              refine y_baload rfl (ySh.t hS rfl) rfl (ySh.n hS rfl) (by omega) (by omega) ?_
                              refine y_ireturn rfl rfl (xfit_z (hC.p _)) ?_
                              refine y_ret1 ?_
                              refine y_if_eq rfl j_X8_buyOut_134 (fun h_315 => ?_) (fun h_316 => ?_)
                              · refine y_throw rfl rfl rfl ?_
                                exact hE2
                              · refine y_aload_n rfl rfl ?_
                                refine y_getR rfl (ySh.t hS rfl) (ySh.n hS rfl) rfl rfl (ySh.r hS rfl) ?_
                                refine y_iload_n rfl rfl ?_
                                refine y_iload rfl rfl ?_
                                refine y_virt rfl rfl rfl rfl rfl (ySh.t hS rfl) (ySh.n hS rfl) ?_
                                refine y_in (M := xm_X7_capitalOf) (ls := [some _, some _, some _]) rfl rfl rfl ?_
                                refine y_aload_n rfl rfl ?_
                                refine y_getR rfl (ySh.t hS rfl) (ySh.n hS rfl) rfl rfl (ySh.r hS rfl) ?_
                                refine y_aload_n rfl rfl ?_
                                refine y_iload_n rfl rfl ?_
                                refine y_iload_n rfl rfl ?_
                                refine y_virt rfl rfl rfl rfl rfl (ySh.t hS rfl) (ySh.n hS rfl) ?_
                                refine sp_at (by omega) (by omega) (by decide) (by decide) (fun z_ hz317 => ?_)
                                rw [yz_8] at hz317
                                refine y_ret1 ?_
                                refine y_iaload rfl (ySh.t hS rfl) (ySh.n hS rfl) (by omega) (by omega) ?_
                                refine y_ireturn rfl rfl rfl ?_
                                refine y_ret1 ?_
                                refine y_iload rfl rfl ?_
                                refine y_icmp_lt rfl j_X8_buyOut_134 (fun h_318 => ?_) (fun h_319 => ?_)
                                · refine y_throw rfl rfl rfl ?_
                                  exact hE2
                                · refine y_aload_n rfl rfl ?_
                                  refine y_getR rfl (ySh.t hS rfl) (ySh.n hS rfl) rfl rfl (ySh.r hS rfl) ?_
                                  refine y_getR rfl (ySh.t hS rfl) (ySh.n hS rfl) rfl rfl (ySh.r hS rfl) ?_
                                  refine y_iload rfl rfl ?_
                                  refine y_iaload rfl (ySh.t hS rfl) (ySh.n hS rfl) (by decide) (by decide) ?_
                                  refine y_iload rfl rfl ?_
                                  refine y_icmp_ge rfl j_X8_buyOut_145 (fun h_320 => ?_) (fun h_321 => ?_)
                                  · refine y_aload_n rfl rfl ?_
                                    refine y_getR rfl (ySh.t hS rfl) (ySh.n hS rfl) rfl rfl (ySh.r hS rfl) ?_
                                    refine y_iload rfl rfl ?_
                                    refine y_iload rfl rfl ?_
                                    refine y_iload rfl rfl ?_
                                    refine y_virt rfl rfl rfl rfl rfl (ySh.t hS rfl) (ySh.n hS rfl) ?_
                                    refine y_in (M := xm_X4_move) (ls := [some _, some _, some _, some _]) rfl rfl rfl ?_
                                    refine y_aload_n rfl rfl ?_
                                    refine y_iload_n rfl rfl ?_
                                    refine y_iload_n rfl rfl ?_
                                    refine y_ineg rfl ?_
                                    refine y_virt rfl rfl rfl rfl rfl (ySh.t hS rfl) (ySh.n hS rfl) ?_
                                    refine spu_add_X4 hS hC (fun I332 hC hF1 => ?_)
                                    have hF : yFu I I332 := yFu.trans (by repeat (first | exact hF | refine yFu.upd ?_ (by decide))) hF1.t
                                    have hd : (I332 34 8).toInt = (I 34 8).toInt := congrArg Int32.toInt (hF1 34 8 (Or.inl (by decide)))
                                    refine y_ret0 ?_
                                    refine y_aload_n rfl rfl ?_
                                    refine y_iload_n rfl rfl ?_
                                    refine y_iload_n rfl rfl ?_
                                    refine y_virt rfl rfl rfl rfl rfl (ySh.t hS rfl) (ySh.n hS rfl) ?_
                                    refine spu_add_X4 hS hC (fun I333 hC hF1 => ?_)
                                    have hF : yFu I I333 := yFu.trans (by repeat (first | exact hF | refine yFu.upd ?_ (by decide))) hF1.t
                                    have hd : (I333 34 8).toInt = (I332 34 8).toInt := congrArg Int32.toInt (hF1 34 8 (Or.inl (by decide)))
                                    refine y_ret0 ?_
                                    refine y_return rfl ?_
                                    refine y_ret0 ?_
                                    refine y_aload_n rfl rfl ?_
                                    refine y_getR rfl (ySh.t hS rfl) (ySh.n hS rfl) rfl rfl (ySh.r hS rfl) ?_
                                    refine y_iload_n rfl rfl ?_
                                    refine y_iload rfl rfl ?_
                                    refine y_iload rfl rfl ?_
                                    refine y_iload rfl rfl ?_
                                    refine y_virt rfl rfl rfl rfl rfl (ySh.t hS rfl) (ySh.n hS rfl) ?_
                                    refine y_in (M := xm_X7_moveCapital) (ls := [some _, some _, some _, some _, some _]) rfl rfl rfl ?_
                                    refine y_aload_n rfl rfl ?_
                                    refine y_getR rfl (ySh.t hS rfl) (ySh.n hS rfl) rfl rfl (ySh.r hS rfl) ?_
                                    refine y_aload_n rfl rfl ?_
                                    refine y_iload_n rfl rfl ?_
                                    refine y_iload_n rfl rfl ?_
                                    refine y_virt rfl rfl rfl rfl rfl (ySh.t hS rfl) (ySh.n hS rfl) ?_
                                    refine sp_at (by omega) (by omega) (by decide) (by decide) (fun z_ hz324 => ?_)
                                    rw [yz_8] at hz324
                                    refine y_ret1 ?_
                                    refine y_dup2 rfl rfl rfl ?_
                                    refine y_iaload rfl (ySh.t hS rfl) (ySh.n hS rfl) (by omega) (by omega) ?_
                                    refine y_iload rfl rfl ?_
                                    refine y_isub rfl ?_
                                    refine y_iastore rfl (ySh.t hS rfl) (ySh.n hS rfl) (Nat.le_of_ble_eq_true rfl) (by omega) (by omega) ?_
                                    refine y_aload_n rfl rfl ?_
                                    refine y_getR rfl (ySh.t hS rfl) (ySh.n hS rfl) rfl rfl (ySh.r hS rfl) ?_
                                    refine y_aload_n rfl rfl ?_
                                    refine y_iload_n rfl rfl ?_
                                    refine y_iload_n rfl rfl ?_
                                    refine y_virt rfl rfl rfl rfl rfl (ySh.t hS rfl) (ySh.n hS rfl) ?_
                                    refine sp_at (by omega) (by omega) (by decide) (by decide) (fun z_ hz325 => ?_)
                                    rw [yz_8] at hz325
                                    refine y_ret1 ?_
                                    refine y_dup2 rfl rfl rfl ?_
                                    refine y_iaload rfl (ySh.t hS rfl) (ySh.n hS rfl) (by omega) (by omega) ?_
                                    refine y_iload rfl rfl ?_
                                    refine y_iadd rfl ?_
                                    refine y_iastore rfl (ySh.t hS rfl) (ySh.n hS rfl) (Nat.le_of_ble_eq_true rfl) (by omega) (by omega) ?_
                                    refine y_return rfl ?_
                                    refine y_ret0 ?_
                                    refine y_aload_n rfl rfl ?_
                                    refine y_getR rfl (ySh.t hS rfl) (ySh.n hS rfl) rfl rfl (ySh.r hS rfl) ?_
                                    refine y_iload_n rfl rfl ?_
                                    refine y_iload rfl rfl ?_
                                    refine y_virt rfl rfl rfl rfl rfl (ySh.t hS rfl) (ySh.n hS rfl) ?_
                                    refine y_in (M := xm_X7_capitalOf) (ls := [some _, some _, some _]) rfl rfl rfl ?_
                                    refine y_aload_n rfl rfl ?_
                                    refine y_getR rfl (ySh.t hS rfl) (ySh.n hS rfl) rfl rfl (ySh.r hS rfl) ?_
                                    refine y_aload_n rfl rfl ?_
                                    refine y_iload_n rfl rfl ?_
                                    refine y_iload_n rfl rfl ?_
                                    refine y_virt rfl rfl rfl rfl rfl (ySh.t hS rfl) (ySh.n hS rfl) ?_
                                    refine sp_at (by omega) (by omega) (by decide) (by decide) (fun z_ hz326 => ?_)
                                    rw [yz_8] at hz326
                                    refine y_ret1 ?_
                                    refine y_iaload rfl (ySh.t hS rfl) (ySh.n hS rfl) (by omega) (by omega) ?_
                                    refine y_ireturn rfl rfl rfl ?_
                                    refine y_ret1 ?_
                                    refine y_ireturn rfl rfl rfl ?_
                                    exact hQ _ _ hC (by repeat (first | exact hF | refine yFu.upd ?_ (by decide)))
                                  · refine y_throw rfl rfl rfl ?_
                                    exact hE2
theorem mu_deposit (hS : ySh n tg R) (hC : yCI I) {x1 x2 : Int32} (hE0 : Q (.inr "java/lang/IndexOutOfBoundsException") (n, tg, I, R) (c + 1) (s + 6)) (hE1 : Q (.inr "java/lang/IllegalArgumentException") (n, tg, I, R) (c + 1) (s + 6)) (hE2 : Q (.inr "java/lang/IllegalStateException") (n, tg, I, R) (c + 1) (s + 6)) (hQ : ∀ v I1, yCI I1 → yFu I I1 → Q (.inl (some (.int v))) (n, tg, I1, R) c s) : yC 136 [.ref 34, .int x1, .int x2] (n, tg, I, R) c s Q := by
  have hF : yFu I I := yFu.rf
  refine y_in (M := xm_X8_deposit) (ls := [some _, some _, some _, _]) rfl rfl rfl ?_
  refine y_aload_n rfl rfl ?_
  refine y_getR rfl (ySh.t hS rfl) (ySh.n hS rfl) rfl rfl (ySh.r hS rfl) ?_
  refine y_iload_n rfl rfl ?_
  refine y_virt rfl rfl rfl rfl rfl (ySh.t hS rfl) (ySh.n hS rfl) ?_
  refine y_in (M := xm_X4_has) (ls := [some _, some _]) rfl rfl rfl ?_
  refine y_iload_n rfl rfl ?_
  refine y_if_lt rfl j_X4_has_16 (fun h_1 => ?_) (fun h_2 => ?_)
  · refine y_iconst rfl ?_
    refine y_ireturn rfl rfl rfl ?_
    refine y_ret1 ?_
    refine y_if_neF rfl (by decide) ?_
    refine y_throw rfl rfl rfl ?_
    exact hE0
  · refine y_iload_n rfl rfl ?_
    refine y_aload_n rfl rfl ?_
    refine y_getI rfl (ySh.t hS rfl) (ySh.n hS rfl) rfl rfl ?_
    refine y_icmp_ge rfl j_X4_has_16 (fun h_3 => ?_) (fun h_4 => ?_)
    · refine y_iconst rfl ?_
      refine y_ireturn rfl rfl rfl ?_
      refine y_ret1 ?_
      refine y_if_neF rfl (by decide) ?_
      refine y_throw rfl rfl rfl ?_
      exact hE0
    · refine y_iconst rfl ?_
      refine y_goto rfl j_X4_has_17 ?_
      refine y_ireturn rfl rfl rfl ?_
      refine y_ret1 ?_
      refine y_if_neT rfl j_X8_deposit_22 (by decide) ?_
      refine y_iload_n rfl rfl ?_
      refine y_if_eq rfl j_X8_deposit_39 (fun h_5 => ?_) (fun h_6 => ?_)
      · refine y_throw rfl rfl rfl ?_
        exact hE1
      · refine y_iload_n rfl rfl ?_
        refine y_sip rfl (by decide) ?_
        refine y_sip rfl (by decide) ?_
        refine y_static rfl rfl rfl rfl rfl ?_
        refine y_in (M := xm_X8_isIn) (ls := [some _, some _, some _]) rfl rfl rfl ?_
        refine y_iload_n rfl rfl ?_
        refine y_iload_n rfl rfl ?_
        refine y_icmp_lt rfl j_X8_isIn_14 (fun h_7 => ?_) (fun h_8 => ?_)
        · rw [yz_m9999] at h_7
          refine y_iconst rfl ?_
          refine y_ireturn rfl rfl rfl ?_
          refine y_ret1 ?_
          refine y_if_neF rfl (by decide) ?_
          refine y_throw rfl rfl rfl ?_
          exact hE1
        · rw [yz_m9999] at h_8
          refine y_iload_n rfl rfl ?_
          refine y_iload_n rfl rfl ?_
          refine y_icmp_gt rfl j_X8_isIn_14 (fun h_9 => ?_) (fun h_10 => ?_)
          · rw [yz_9999] at h_9
            refine y_iconst rfl ?_
            refine y_ireturn rfl rfl rfl ?_
            refine y_ret1 ?_
            refine y_if_neF rfl (by decide) ?_
            refine y_throw rfl rfl rfl ?_
            exact hE1
          · rw [yz_9999] at h_10
            refine y_iconst rfl ?_
            refine y_goto rfl j_X8_isIn_15 ?_
            refine y_ireturn rfl rfl rfl ?_
            refine y_ret1 ?_
            refine y_if_neT rfl j_X8_deposit_50 (by decide) ?_
            refine y_iload_n rfl rfl ?_
            refine y_if_le rfl j_X8_deposit_71 (fun h_11 => ?_) (fun h_12 => ?_)
            · refine y_iconst rfl ?_
              refine y_istore_n (ls' := [some _, some _, some _, some _]) rfl rfl rfl ?_
              refine y_iload_n rfl rfl ?_
              refine y_if_neF rfl (by decide) ?_
              refine y_aload_n rfl rfl ?_
              refine y_getR rfl (ySh.t hS rfl) (ySh.n hS rfl) rfl rfl (ySh.r hS rfl) ?_
              refine y_getR rfl (ySh.t hS rfl) (ySh.n hS rfl) rfl rfl (ySh.r hS rfl) ?_
              refine y_iload_n rfl rfl ?_
              refine y_iaload rfl (ySh.t hS rfl) (ySh.n hS rfl) (by omega) (by omega) ?_
              refine y_iload_n rfl rfl ?_
              refine y_iadd rfl ?_
              refine y_iconst rfl ?_
              refine y_ldc_wI (v := (99999 : Int)) rfl rfl rfl (by decide) ?_
              refine y_static rfl rfl rfl rfl rfl ?_
              refine y_in (M := xm_X8_isIn) (ls := [some _, some _, some _]) rfl rfl rfl ?_
              refine y_iload_n rfl rfl ?_
              refine y_iload_n rfl rfl ?_
              refine y_icmp_lt rfl j_X8_isIn_14 (fun h_13 => ?_) (fun h_14 => ?_)
              · rw [yz_0] at h_13
                refine y_iconst rfl ?_
                refine y_ireturn rfl rfl rfl ?_
                refine y_ret1 ?_
                refine y_if_neF rfl (by decide) ?_
                refine y_throw rfl rfl rfl ?_
                exact hE2
              · rw [yz_0] at h_14
                refine y_iload_n rfl rfl ?_
                refine y_iload_n rfl rfl ?_
                refine y_icmp_gt rfl j_X8_isIn_14 (fun h_15 => ?_) (fun h_16 => ?_)
                · rw [yz_99999] at h_15
                  refine y_iconst rfl ?_
                  refine y_ireturn rfl rfl rfl ?_
                  refine y_ret1 ?_
                  refine y_if_neF rfl (by decide) ?_
                  refine y_throw rfl rfl rfl ?_
                  exact hE2
                · rw [yz_99999] at h_16
                  refine y_iconst rfl ?_
                  refine y_goto rfl j_X8_isIn_15 ?_
                  refine y_ireturn rfl rfl rfl ?_
                  refine y_ret1 ?_
                  refine y_if_neT rfl j_X8_deposit_109 (by decide) ?_
                  refine y_aload_n rfl rfl ?_
                  refine y_getR rfl (ySh.t hS rfl) (ySh.n hS rfl) rfl rfl (ySh.r hS rfl) ?_
                  refine y_iload_n rfl rfl ?_
                  refine y_iload_n rfl rfl ?_
                  refine y_ineg rfl ?_
                  refine y_virt rfl rfl rfl rfl rfl (ySh.t hS rfl) (ySh.n hS rfl) ?_
                  refine spu_add_X4 hS hC (fun I27 hC hF1 => ?_)
                  have hF : yFu I I27 := yFu.trans (by repeat (first | exact hF | refine yFu.upd ?_ (by decide))) hF1.t
                  have hd : (I27 34 8).toInt = (I 34 8).toInt := congrArg Int32.toInt (hF1 34 8 (Or.inl (by decide)))
                  refine y_ret0 ?_
                  refine y_aload_n rfl rfl ?_
                  refine y_getR rfl (ySh.t hS rfl) (ySh.n hS rfl) rfl rfl (ySh.r hS rfl) ?_
                  refine y_getR rfl (ySh.t hS rfl) (ySh.n hS rfl) rfl rfl (ySh.r hS rfl) ?_
                  refine y_iload_n rfl rfl ?_
                  refine y_dup2 rfl rfl rfl ?_
                  refine y_iaload rfl (ySh.t hS rfl) (ySh.n hS rfl) (by omega) (by omega) ?_
                  refine y_iload_n rfl rfl ?_
                  refine y_iadd rfl ?_
                  refine y_iastore rfl (ySh.t hS rfl) (ySh.n hS rfl) (Nat.le_of_ble_eq_true rfl) (by omega) (by omega) ?_
                  refine y_aload_n rfl rfl ?_
                  refine y_getR rfl (ySh.t hS rfl) (ySh.n hS rfl) rfl rfl (ySh.r hS rfl) ?_
                  refine y_getR rfl (ySh.t hS rfl) (ySh.n hS rfl) rfl rfl (ySh.r hS rfl) ?_
                  refine y_iload_n rfl rfl ?_
                  refine y_iaload rfl (ySh.t hS rfl) (ySh.n hS rfl) (by omega) (by omega) ?_
                  refine y_ireturn rfl rfl rfl ?_
                  exact hQ _ _ hC (by repeat (first | exact hF | refine yFu.upd ?_ (by decide)))
            · refine y_aload_n rfl rfl ?_
              refine y_getR rfl (ySh.t hS rfl) (ySh.n hS rfl) rfl rfl (ySh.r hS rfl) ?_
              refine y_getR rfl (ySh.t hS rfl) (ySh.n hS rfl) rfl rfl (ySh.r hS rfl) ?_
              refine y_iload_n rfl rfl ?_
              refine y_iaload rfl (ySh.t hS rfl) (ySh.n hS rfl) (by omega) (by omega) ?_
              refine y_iload_n rfl rfl ?_
              refine y_icmp_ge rfl j_X8_deposit_71 (fun h_18 => ?_) (fun h_19 => ?_)
              · refine y_iconst rfl ?_
                refine y_istore_n (ls' := [some _, some _, some _, some _]) rfl rfl rfl ?_
                refine y_iload_n rfl rfl ?_
                refine y_if_neF rfl (by decide) ?_
                refine y_aload_n rfl rfl ?_
                refine y_getR rfl (ySh.t hS rfl) (ySh.n hS rfl) rfl rfl (ySh.r hS rfl) ?_
                refine y_getR rfl (ySh.t hS rfl) (ySh.n hS rfl) rfl rfl (ySh.r hS rfl) ?_
                refine y_iload_n rfl rfl ?_
                refine y_iaload rfl (ySh.t hS rfl) (ySh.n hS rfl) (by omega) (by omega) ?_
                refine y_iload_n rfl rfl ?_
                refine y_iadd rfl ?_
                refine y_iconst rfl ?_
                refine y_ldc_wI (v := (99999 : Int)) rfl rfl rfl (by decide) ?_
                refine y_static rfl rfl rfl rfl rfl ?_
                refine y_in (M := xm_X8_isIn) (ls := [some _, some _, some _]) rfl rfl rfl ?_
                refine y_iload_n rfl rfl ?_
                refine y_iload_n rfl rfl ?_
                refine y_icmp_lt rfl j_X8_isIn_14 (fun h_20 => ?_) (fun h_21 => ?_)
                · rw [yz_0] at h_20
                  refine y_iconst rfl ?_
                  refine y_ireturn rfl rfl rfl ?_
                  refine y_ret1 ?_
                  refine y_if_neF rfl (by decide) ?_
                  refine y_throw rfl rfl rfl ?_
                  exact hE2
                · rw [yz_0] at h_21
                  refine y_iload_n rfl rfl ?_
                  refine y_iload_n rfl rfl ?_
                  refine y_icmp_gt rfl j_X8_isIn_14 (fun h_22 => ?_) (fun h_23 => ?_)
                  · rw [yz_99999] at h_22
                    refine y_iconst rfl ?_
                    refine y_ireturn rfl rfl rfl ?_
                    refine y_ret1 ?_
                    refine y_if_neF rfl (by decide) ?_
                    refine y_throw rfl rfl rfl ?_
                    exact hE2
                  · rw [yz_99999] at h_23
                    refine y_iconst rfl ?_
                    refine y_goto rfl j_X8_isIn_15 ?_
                    refine y_ireturn rfl rfl rfl ?_
                    refine y_ret1 ?_
                    refine y_if_neT rfl j_X8_deposit_109 (by decide) ?_
                    refine y_aload_n rfl rfl ?_
                    refine y_getR rfl (ySh.t hS rfl) (ySh.n hS rfl) rfl rfl (ySh.r hS rfl) ?_
                    refine y_iload_n rfl rfl ?_
                    refine y_iload_n rfl rfl ?_
                    refine y_ineg rfl ?_
                    refine y_virt rfl rfl rfl rfl rfl (ySh.t hS rfl) (ySh.n hS rfl) ?_
                    refine spu_add_X4 hS hC (fun I34 hC hF1 => ?_)
                    have hF : yFu I I34 := yFu.trans (by repeat (first | exact hF | refine yFu.upd ?_ (by decide))) hF1.t
                    have hd : (I34 34 8).toInt = (I 34 8).toInt := congrArg Int32.toInt (hF1 34 8 (Or.inl (by decide)))
                    refine y_ret0 ?_
                    refine y_aload_n rfl rfl ?_
                    refine y_getR rfl (ySh.t hS rfl) (ySh.n hS rfl) rfl rfl (ySh.r hS rfl) ?_
                    refine y_getR rfl (ySh.t hS rfl) (ySh.n hS rfl) rfl rfl (ySh.r hS rfl) ?_
                    refine y_iload_n rfl rfl ?_
                    refine y_dup2 rfl rfl rfl ?_
                    refine y_iaload rfl (ySh.t hS rfl) (ySh.n hS rfl) (by omega) (by omega) ?_
                    refine y_iload_n rfl rfl ?_
                    refine y_iadd rfl ?_
                    refine y_iastore rfl (ySh.t hS rfl) (ySh.n hS rfl) (Nat.le_of_ble_eq_true rfl) (by omega) (by omega) ?_
                    refine y_aload_n rfl rfl ?_
                    refine y_getR rfl (ySh.t hS rfl) (ySh.n hS rfl) rfl rfl (ySh.r hS rfl) ?_
                    refine y_getR rfl (ySh.t hS rfl) (ySh.n hS rfl) rfl rfl (ySh.r hS rfl) ?_
                    refine y_iload_n rfl rfl ?_
                    refine y_iaload rfl (ySh.t hS rfl) (ySh.n hS rfl) (by omega) (by omega) ?_
                    refine y_ireturn rfl rfl rfl ?_
                    exact hQ _ _ hC (by repeat (first | exact hF | refine yFu.upd ?_ (by decide)))
              · refine y_iconst rfl ?_
                refine y_goto rfl j_X8_deposit_72 ?_
                refine y_istore_n (ls' := [some _, some _, some _, some _]) rfl rfl rfl ?_
                refine y_iload_n rfl rfl ?_
                refine y_if_neT rfl j_X8_deposit_98 (by decide) ?_
                refine y_throw rfl rfl rfl ?_
                exact hE2
theorem mu_share (hS : ySh n tg R) (hC : yCI I) {x1 x2 x3 : Int32} (hE1 : Q (.inr "java/lang/IllegalArgumentException") (n, tg, I, R) (c + 1) (s + 6)) (hQ : ∀ v I1, yCI I1 → yFu I I1 → Q (.inl (some (.int v))) (n, tg, I1, R) c s) : yC 137 [.ref 34, .int x1, .int x2, .int x3] (n, tg, I, R) c s Q := by
  have hF : yFu I I := yFu.rf
  refine y_in (M := xm_X8_share) (ls := [some _, some _, some _, some _, _, _, _]) rfl rfl rfl ?_
  refine y_iload_n rfl rfl ?_
  refine y_iconst rfl ?_
  refine y_sip rfl (by decide) ?_
  refine y_static rfl rfl rfl rfl rfl ?_
  refine y_in (M := xm_X8_isIn) (ls := [some _, some _, some _]) rfl rfl rfl ?_
  refine y_iload_n rfl rfl ?_
  refine y_iload_n rfl rfl ?_
  refine y_icmp_lt rfl j_X8_isIn_14 (fun h_1 => ?_) (fun h_2 => ?_)
  · rw [yz_0] at h_1
    refine y_iconst rfl ?_
    refine y_ireturn rfl rfl rfl ?_
    refine y_ret1 ?_
    refine y_if_eqT rfl j_X8_share_32 (by decide) ?_
    refine y_throw rfl rfl rfl ?_
    exact hE1
  · rw [yz_0] at h_2
    refine y_iload_n rfl rfl ?_
    refine y_iload_n rfl rfl ?_
    refine y_icmp_gt rfl j_X8_isIn_14 (fun h_3 => ?_) (fun h_4 => ?_)
    · rw [yz_9999] at h_3
      refine y_iconst rfl ?_
      refine y_ireturn rfl rfl rfl ?_
      refine y_ret1 ?_
      refine y_if_eqT rfl j_X8_share_32 (by decide) ?_
      refine y_throw rfl rfl rfl ?_
      exact hE1
    · rw [yz_9999] at h_4
      refine y_iconst rfl ?_
      refine y_goto rfl j_X8_isIn_15 ?_
      refine y_ireturn rfl rfl rfl ?_
      refine y_ret1 ?_
      refine y_if_eqF rfl (by decide) ?_
      refine y_iload_n rfl rfl ?_
      refine y_iconst rfl ?_
      refine y_sip rfl (by decide) ?_
      refine y_static rfl rfl rfl rfl rfl ?_
      refine y_in (M := xm_X8_isIn) (ls := [some _, some _, some _]) rfl rfl rfl ?_
      refine y_iload_n rfl rfl ?_
      refine y_iload_n rfl rfl ?_
      refine y_icmp_lt rfl j_X8_isIn_14 (fun h_5 => ?_) (fun h_6 => ?_)
      · rw [yz_0] at h_5
        refine y_iconst rfl ?_
        refine y_ireturn rfl rfl rfl ?_
        refine y_ret1 ?_
        refine y_if_eqT rfl j_X8_share_32 (by decide) ?_
        refine y_throw rfl rfl rfl ?_
        exact hE1
      · rw [yz_0] at h_6
        refine y_iload_n rfl rfl ?_
        refine y_iload_n rfl rfl ?_
        refine y_icmp_gt rfl j_X8_isIn_14 (fun h_7 => ?_) (fun h_8 => ?_)
        · rw [yz_999] at h_7
          refine y_iconst rfl ?_
          refine y_ireturn rfl rfl rfl ?_
          refine y_ret1 ?_
          refine y_if_eqT rfl j_X8_share_32 (by decide) ?_
          refine y_throw rfl rfl rfl ?_
          exact hE1
        · rw [yz_999] at h_8
          refine y_iconst rfl ?_
          refine y_goto rfl j_X8_isIn_15 ?_
          refine y_ireturn rfl rfl rfl ?_
          refine y_ret1 ?_
          refine y_if_eqF rfl (by decide) ?_
          refine y_iload_n rfl rfl ?_
          refine y_iconst rfl ?_
          refine y_bip rfl (by decide) ?_
          refine y_static rfl rfl rfl rfl rfl ?_
          refine y_in (M := xm_X8_isIn) (ls := [some _, some _, some _]) rfl rfl rfl ?_
          refine y_iload_n rfl rfl ?_
          refine y_iload_n rfl rfl ?_
          refine y_icmp_lt rfl j_X8_isIn_14 (fun h_9 => ?_) (fun h_10 => ?_)
          · rw [yz_0] at h_9
            refine y_iconst rfl ?_
            refine y_ireturn rfl rfl rfl ?_
            refine y_ret1 ?_
            refine y_if_neF rfl (by decide) ?_
            refine y_throw rfl rfl rfl ?_
            exact hE1
          · rw [yz_0] at h_10
            refine y_iload_n rfl rfl ?_
            refine y_iload_n rfl rfl ?_
            refine y_icmp_gt rfl j_X8_isIn_14 (fun h_11 => ?_) (fun h_12 => ?_)
            · rw [yz_50] at h_11
              refine y_iconst rfl ?_
              refine y_ireturn rfl rfl rfl ?_
              refine y_ret1 ?_
              refine y_if_neF rfl (by decide) ?_
              refine y_throw rfl rfl rfl ?_
              exact hE1
            · rw [yz_50] at h_12
              refine y_iconst rfl ?_
              refine y_goto rfl j_X8_isIn_15 ?_
              refine y_ireturn rfl rfl rfl ?_
              refine y_ret1 ?_
              refine y_if_neT rfl j_X8_share_43 (by decide) ?_
              refine y_aload_n rfl rfl ?_
              refine y_getR rfl (ySh.t hS rfl) (ySh.n hS rfl) rfl rfl (ySh.r hS rfl) ?_
              refine y_iload_n rfl rfl ?_
              refine y_putI rfl (ySh.t hS rfl) (ySh.n hS rfl) rfl (Nat.le_of_ble_eq_true rfl) rfl rfl ?_
              refine y_aload_n rfl rfl ?_
              refine y_getR rfl (ySh.t hS rfl) (ySh.n hS rfl) rfl rfl (ySh.r hS rfl) ?_
              refine y_iload_n rfl rfl ?_
              refine y_putI rfl (ySh.t hS rfl) (ySh.n hS rfl) rfl (Nat.le_of_ble_eq_true rfl) rfl rfl ?_
              refine y_aload_n rfl rfl ?_
              refine y_getR rfl (ySh.t hS rfl) (ySh.n hS rfl) rfl rfl (ySh.r hS rfl) ?_
              refine y_iload_n rfl rfl ?_
              refine y_virt rfl rfl rfl rfl rfl (ySh.t hS rfl) (ySh.n hS rfl) ?_
              refine y_in (M := xm_X3_leftByManagement) (ls := [some _, some _]) rfl rfl rfl ?_
              refine y_iload_n rfl rfl ?_
              refine y_iload_n rfl rfl ?_
              refine y_aload_n rfl rfl ?_
              refine y_getI rfl (ySh.t hS rfl) (ySh.n hS rfl) rfl rfl ?_
              refine y_imul rfl ?_
              refine y_bip rfl (by decide) ?_
              refine y_idiv rfl (by decide) ?_
              refine y_isub rfl ?_
              refine y_ireturn rfl rfl rfl ?_
              refine y_ret1 ?_
              refine y_istore (ls' := [some _, some _, some _, some _, some _, _, _]) rfl rfl rfl ?_
              refine y_aload_n rfl rfl ?_
              refine y_getR rfl (ySh.t hS rfl) (ySh.n hS rfl) rfl rfl (ySh.r hS rfl) ?_
              refine y_iload rfl rfl ?_
              refine y_aload_n rfl rfl ?_
              refine y_getR rfl (ySh.t hS rfl) (ySh.n hS rfl) rfl rfl (ySh.r hS rfl) ?_
              refine y_iconst rfl ?_
              refine y_virt rfl rfl rfl rfl rfl (ySh.t hS rfl) (ySh.n hS rfl) ?_
              refine sp_isAllowedNow hS (by decide) (by decide) (fun h_13 => ?_) (fun h_14 => ?_)
              · refine y_ret1 ?_
                refine y_virt rfl rfl rfl rfl rfl (ySh.t hS rfl) (ySh.n hS rfl) ?_
                refine y_in (M := xm_X3_smoothed) (ls := [some _, some _, some _]) rfl rfl rfl ?_
                refine y_iload_n rfl rfl ?_
                refine y_if_neT rfl j_X3_smoothed_6 (by decide) ?_
                refine y_iload_n rfl rfl ?_
                refine y_aload_n rfl rfl ?_
                refine y_getI rfl (ySh.t hS rfl) (ySh.n hS rfl) rfl rfl ?_
                refine y_icmp_le rfl j_X3_smoothed_21 (fun h_15 => ?_) (fun h_16 => ?_)
                · refine y_iload_n rfl rfl ?_
                  refine y_aload_n rfl rfl ?_
                  refine y_getI rfl (ySh.t hS rfl) (ySh.n hS rfl) rfl rfl ?_
                  refine y_iload_n rfl rfl ?_
                  refine y_isub rfl ?_
                  refine y_aload_n rfl rfl ?_
                  refine y_getIv (v := I 74 2) rfl (ySh.t hS rfl) (ySh.n hS rfl) rfl rfl rfl ?_
                  refine y_min rfl rfl ?_
                  refine y_iadd rfl ?_
                  refine y_ireturn rfl rfl rfl ?_
                  refine y_ret1 ?_
                  refine y_istore (ls' := [some _, some _, some _, some _, some _, some _, _]) rfl rfl rfl ?_
                  refine y_aload_n rfl rfl ?_
                  refine y_getR rfl (ySh.t hS rfl) (ySh.n hS rfl) rfl rfl (ySh.r hS rfl) ?_
                  refine y_dup rfl rfl ?_
                  refine y_getIv (v := I 74 2) rfl (ySh.t hS rfl) (ySh.n hS rfl) rfl rfl rfl ?_
                  refine y_iload rfl rfl ?_
                  refine y_iload rfl rfl ?_
                  refine y_isub rfl ?_
                  refine y_iadd rfl ?_
                  refine y_putI rfl (ySh.t hS rfl) (ySh.n hS rfl) rfl (Nat.le_of_ble_eq_true rfl) rfl rfl ?_
                  refine y_aload_n rfl rfl ?_
                  refine y_getR rfl (ySh.t hS rfl) (ySh.n hS rfl) rfl rfl (ySh.r hS rfl) ?_
                  refine y_iload rfl rfl ?_
                  refine y_virt rfl rfl rfl rfl rfl (ySh.t hS rfl) (ySh.n hS rfl) ?_
                  refine y_setCC (by exact hC) (fun hC => ?_)
                  refine spu_payOut_X3 hS hC (fun v_ I27 hC hF1 => ?_)
                  have hF : yFu I I27 := yFu.trans (by repeat (first | exact hF | refine yFu.upd ?_ (by decide))) hF1.t
                  have hd : (I27 34 8).toInt = (I 34 8).toInt := congrArg Int32.toInt (hF1 34 8 (Or.inl (by decide)))
                  refine y_ret1 ?_
                  refine y_istore (ls' := [some _, some _, some _, some _, some _, some _, some _]) rfl rfl rfl ?_
                  refine y_aload_n rfl rfl ?_
                  refine y_getR rfl (ySh.t hS rfl) (ySh.n hS rfl) rfl rfl (ySh.r hS rfl) ?_
                  refine y_bip rfl (by decide) ?_
                  refine y_iload_n rfl rfl ?_
                  refine y_iload rfl rfl ?_
                  refine y_isub rfl ?_
                  refine y_virt rfl rfl rfl rfl rfl (ySh.t hS rfl) (ySh.n hS rfl) ?_
                  refine spu_add_X4 hS hC (fun I28 hC hF1 => ?_)
                  have hF : yFu I I28 := yFu.trans (by repeat (first | exact hF | refine yFu.upd ?_ (by decide))) hF1.t
                  have hd : (I28 34 8).toInt = (I27 34 8).toInt := congrArg Int32.toInt (hF1 34 8 (Or.inl (by decide)))
                  refine y_ret0 ?_
                  refine y_aload_n rfl rfl ?_
                  refine y_getR rfl (ySh.t hS rfl) (ySh.n hS rfl) rfl rfl (ySh.r hS rfl) ?_
                  refine y_dup rfl rfl ?_
                  refine y_getI rfl (ySh.t hS rfl) (ySh.n hS rfl) rfl rfl ?_
                  refine y_iload rfl rfl ?_
                  refine y_iload rfl rfl ?_
                  refine y_isub rfl ?_
                  refine y_iadd rfl ?_
                  refine y_putI rfl (ySh.t hS rfl) (ySh.n hS rfl) rfl (Nat.le_of_ble_eq_true rfl) rfl rfl ?_
                  refine y_iload rfl rfl ?_
                  refine y_ireturn rfl rfl rfl ?_
                  exact hQ _ _ hC (by repeat (first | exact hF | refine yFu.upd ?_ (by decide)))
                · refine y_aload_n rfl rfl ?_
                  refine y_getI rfl (ySh.t hS rfl) (ySh.n hS rfl) rfl rfl ?_
                  refine y_goto rfl j_X3_smoothed_36 ?_
                  refine y_ireturn rfl rfl rfl ?_
                  refine y_ret1 ?_
                  refine y_istore (ls' := [some _, some _, some _, some _, some _, some _, _]) rfl rfl rfl ?_
                  refine y_aload_n rfl rfl ?_
                  refine y_getR rfl (ySh.t hS rfl) (ySh.n hS rfl) rfl rfl (ySh.r hS rfl) ?_
                  refine y_dup rfl rfl ?_
                  refine y_getIv (v := I 74 2) rfl (ySh.t hS rfl) (ySh.n hS rfl) rfl rfl rfl ?_
                  refine y_iload rfl rfl ?_
                  refine y_iload rfl rfl ?_
                  refine y_isub rfl ?_
                  refine y_iadd rfl ?_
                  refine y_putI rfl (ySh.t hS rfl) (ySh.n hS rfl) rfl (Nat.le_of_ble_eq_true rfl) rfl rfl ?_
                  refine y_aload_n rfl rfl ?_
                  refine y_getR rfl (ySh.t hS rfl) (ySh.n hS rfl) rfl rfl (ySh.r hS rfl) ?_
                  refine y_iload rfl rfl ?_
                  refine y_virt rfl rfl rfl rfl rfl (ySh.t hS rfl) (ySh.n hS rfl) ?_
                  refine y_setCC (by exact hC) (fun hC => ?_)
                  refine spu_payOut_X3 hS hC (fun v_ I29 hC hF1 => ?_)
                  have hF : yFu I I29 := yFu.trans (by repeat (first | exact hF | refine yFu.upd ?_ (by decide))) hF1.t
                  have hd : (I29 34 8).toInt = (I 34 8).toInt := congrArg Int32.toInt (hF1 34 8 (Or.inl (by decide)))
                  refine y_ret1 ?_
                  refine y_istore (ls' := [some _, some _, some _, some _, some _, some _, some _]) rfl rfl rfl ?_
                  refine y_aload_n rfl rfl ?_
                  refine y_getR rfl (ySh.t hS rfl) (ySh.n hS rfl) rfl rfl (ySh.r hS rfl) ?_
                  refine y_bip rfl (by decide) ?_
                  refine y_iload_n rfl rfl ?_
                  refine y_iload rfl rfl ?_
                  refine y_isub rfl ?_
                  refine y_virt rfl rfl rfl rfl rfl (ySh.t hS rfl) (ySh.n hS rfl) ?_
                  refine spu_add_X4 hS hC (fun I30 hC hF1 => ?_)
                  have hF : yFu I I30 := yFu.trans (by repeat (first | exact hF | refine yFu.upd ?_ (by decide))) hF1.t
                  have hd : (I30 34 8).toInt = (I29 34 8).toInt := congrArg Int32.toInt (hF1 34 8 (Or.inl (by decide)))
                  refine y_ret0 ?_
                  refine y_aload_n rfl rfl ?_
                  refine y_getR rfl (ySh.t hS rfl) (ySh.n hS rfl) rfl rfl (ySh.r hS rfl) ?_
                  refine y_dup rfl rfl ?_
                  refine y_getI rfl (ySh.t hS rfl) (ySh.n hS rfl) rfl rfl ?_
                  refine y_iload rfl rfl ?_
                  refine y_iload rfl rfl ?_
                  refine y_isub rfl ?_
                  refine y_iadd rfl ?_
                  refine y_putI rfl (ySh.t hS rfl) (ySh.n hS rfl) rfl (Nat.le_of_ble_eq_true rfl) rfl rfl ?_
                  refine y_iload rfl rfl ?_
                  refine y_ireturn rfl rfl rfl ?_
                  exact hQ _ _ hC (by repeat (first | exact hF | refine yFu.upd ?_ (by decide)))
              · refine y_ret1 ?_
                refine y_virt rfl rfl rfl rfl rfl (ySh.t hS rfl) (ySh.n hS rfl) ?_
                refine y_in (M := xm_X3_smoothed) (ls := [some _, some _, some _]) rfl rfl rfl ?_
                refine y_iload_n rfl rfl ?_
                refine y_if_neF rfl (by decide) ?_
                refine y_iload_n rfl rfl ?_
                refine y_ireturn rfl rfl rfl ?_
                refine y_ret1 ?_
                refine y_istore (ls' := [some _, some _, some _, some _, some _, some _, _]) rfl rfl rfl ?_
                refine y_aload_n rfl rfl ?_
                refine y_getR rfl (ySh.t hS rfl) (ySh.n hS rfl) rfl rfl (ySh.r hS rfl) ?_
                refine y_dup rfl rfl ?_
                refine y_getIv (v := I 74 2) rfl (ySh.t hS rfl) (ySh.n hS rfl) rfl rfl rfl ?_
                refine y_iload rfl rfl ?_
                refine y_iload rfl rfl ?_
                refine y_isub rfl ?_
                refine y_iadd rfl ?_
                refine y_putI rfl (ySh.t hS rfl) (ySh.n hS rfl) rfl (Nat.le_of_ble_eq_true rfl) rfl rfl ?_
                refine y_aload_n rfl rfl ?_
                refine y_getR rfl (ySh.t hS rfl) (ySh.n hS rfl) rfl rfl (ySh.r hS rfl) ?_
                refine y_iload rfl rfl ?_
                refine y_virt rfl rfl rfl rfl rfl (ySh.t hS rfl) (ySh.n hS rfl) ?_
                refine y_setCC (by exact hC) (fun hC => ?_)
                refine spu_payOut_X3 hS hC (fun v_ I31 hC hF1 => ?_)
                have hF : yFu I I31 := yFu.trans (by repeat (first | exact hF | refine yFu.upd ?_ (by decide))) hF1.t
                have hd : (I31 34 8).toInt = (I 34 8).toInt := congrArg Int32.toInt (hF1 34 8 (Or.inl (by decide)))
                refine y_ret1 ?_
                refine y_istore (ls' := [some _, some _, some _, some _, some _, some _, some _]) rfl rfl rfl ?_
                refine y_aload_n rfl rfl ?_
                refine y_getR rfl (ySh.t hS rfl) (ySh.n hS rfl) rfl rfl (ySh.r hS rfl) ?_
                refine y_bip rfl (by decide) ?_
                refine y_iload_n rfl rfl ?_
                refine y_iload rfl rfl ?_
                refine y_isub rfl ?_
                refine y_virt rfl rfl rfl rfl rfl (ySh.t hS rfl) (ySh.n hS rfl) ?_
                refine spu_add_X4 hS hC (fun I32 hC hF1 => ?_)
                have hF : yFu I I32 := yFu.trans (by repeat (first | exact hF | refine yFu.upd ?_ (by decide))) hF1.t
                have hd : (I32 34 8).toInt = (I31 34 8).toInt := congrArg Int32.toInt (hF1 34 8 (Or.inl (by decide)))
                refine y_ret0 ?_
                refine y_aload_n rfl rfl ?_
                refine y_getR rfl (ySh.t hS rfl) (ySh.n hS rfl) rfl rfl (ySh.r hS rfl) ?_
                refine y_dup rfl rfl ?_
                refine y_getI rfl (ySh.t hS rfl) (ySh.n hS rfl) rfl rfl ?_
                refine y_iload rfl rfl ?_
                refine y_iload rfl rfl ?_
                refine y_isub rfl ?_
                refine y_iadd rfl ?_
                refine y_putI rfl (ySh.t hS rfl) (ySh.n hS rfl) rfl (Nat.le_of_ble_eq_true rfl) rfl rfl ?_
                refine y_iload rfl rfl ?_
                refine y_ireturn rfl rfl rfl ?_
                exact hQ _ _ hC (by repeat (first | exact hF | refine yFu.upd ?_ (by decide)))
theorem mu_invest (hS : ySh n tg R) (hC : yCI I) {x1 : Int32} (hE1 : Q (.inr "java/lang/IllegalArgumentException") (n, tg, I, R) (c + 1) (s + 6)) (hE2 : Q (.inr "java/lang/IllegalStateException") (n, tg, I, R) (c + 1) (s + 6)) (hQ : ∀ v I1, yCI I1 → yFu I I1 → Q (.inl (some (.int v))) (n, tg, I1, R) c s) : yC 139 [.ref 34, .int x1] (n, tg, I, R) c s Q := by
  have hF : yFu I I := yFu.rf
  have hz := (yshl (x := I 77 0) (by omega) (by omega)).1.2
  refine y_in (M := xm_X8_invest) (ls := [some _, some _]) rfl rfl rfl ?_
  refine y_aload_n rfl rfl ?_
  refine y_getR rfl (ySh.t hS rfl) (ySh.n hS rfl) rfl rfl (ySh.r hS rfl) ?_
  refine y_iload_n rfl rfl ?_
  refine y_virt rfl rfl rfl rfl rfl (ySh.t hS rfl) (ySh.n hS rfl) ?_
  refine y_in (M := xm_X1_isSet) (ls := [some _, some _]) rfl rfl rfl ?_
  refine y_iload_n rfl rfl ?_
  refine y_if_lt rfl j_X1_isSet_18 (fun h_1 => ?_) (fun h_2 => ?_)
  · refine y_iconst rfl ?_
    refine y_ireturn rfl rfl rfl ?_
    refine y_ret1 ?_
    refine y_if_neF rfl (by decide) ?_
    refine y_throw rfl rfl rfl ?_
    exact hE1
  · refine y_iload_n rfl rfl ?_
    refine y_iconst rfl ?_
    refine y_aload_n rfl rfl ?_
    refine y_getI rfl (ySh.t hS rfl) (ySh.n hS rfl) rfl rfl ?_
    refine y_ishl rfl ?_
    refine y_icmp_ge rfl j_X1_isSet_18 (fun h_3 => ?_) (fun h_4 => ?_)
    · refine y_iconst rfl ?_
      refine y_ireturn rfl rfl rfl ?_
      refine y_ret1 ?_
      refine y_if_neF rfl (by decide) ?_
      refine y_throw rfl rfl rfl ?_
      exact hE1
    · refine y_iconst rfl ?_
      refine y_goto rfl j_X1_isSet_19 ?_
      refine y_ireturn rfl rfl rfl ?_
      refine y_ret1 ?_
      refine y_if_neT rfl j_X8_invest_22 (by decide) ?_
      refine y_iload_n rfl rfl ?_
      refine y_aload_n rfl rfl ?_
      refine y_getR rfl (ySh.t hS rfl) (ySh.n hS rfl) rfl rfl (ySh.r hS rfl) ?_
      refine y_getI rfl (ySh.t hS rfl) (ySh.n hS rfl) rfl rfl ?_
      refine y_iconst rfl ?_
      refine y_ixor rfl ?_
      refine y_iand rfl ?_
      refine y_if_eq rfl j_X8_invest_47 (fun h_5 => ?_) (fun h_6 => ?_)
      · refine y_aload_n rfl rfl ?_
        refine y_getR rfl (ySh.t hS rfl) (ySh.n hS rfl) rfl rfl (ySh.r hS rfl) ?_
        refine y_bip rfl (by decide) ?_
        refine y_aload_n rfl rfl ?_
        refine y_getR rfl (ySh.t hS rfl) (ySh.n hS rfl) rfl rfl (ySh.r hS rfl) ?_
        refine y_aload_n rfl rfl ?_
        refine y_getR rfl (ySh.t hS rfl) (ySh.n hS rfl) rfl rfl (ySh.r hS rfl) ?_
        refine y_getI rfl (ySh.t hS rfl) (ySh.n hS rfl) rfl rfl ?_
        refine y_virt rfl rfl rfl rfl rfl (ySh.t hS rfl) (ySh.n hS rfl) ?_
        refine y_in (M := xm_X1_prices) (ls := [some _, some _]) rfl rfl rfl ?_
        refine y_aload_n rfl rfl ?_
        refine y_iload_n rfl rfl ?_
        refine y_virt rfl rfl rfl rfl rfl (ySh.t hS rfl) (ySh.n hS rfl) ?_
        refine y_in (M := xm_X1_isSet) (ls := [some _, some _]) rfl rfl rfl ?_
        refine y_iload_n rfl rfl ?_
        refine y_if_lt rfl j_X1_isSet_18 (fun h_7 => ?_) (fun h_8 => ?_)
        · refine y_iconst rfl ?_
          refine y_ireturn rfl rfl rfl ?_
          refine y_ret1 ?_
          refine y_if_eqT rfl j_X1_prices_17 (by decide) ?_
          refine y_iconst rfl ?_
          refine y_ireturn rfl rfl rfl ?_
          refine y_ret1 ?_
          refine y_aload_n rfl rfl ?_
          refine y_getR rfl (ySh.t hS rfl) (ySh.n hS rfl) rfl rfl (ySh.r hS rfl) ?_
          refine y_iload_n rfl rfl ?_
          refine y_virt rfl rfl rfl rfl rfl (ySh.t hS rfl) (ySh.n hS rfl) ?_
          refine y_in (M := xm_X1_prices) (ls := [some _, some _]) rfl rfl rfl ?_
          refine y_aload_n rfl rfl ?_
          refine y_iload_n rfl rfl ?_
          refine y_virt rfl rfl rfl rfl rfl (ySh.t hS rfl) (ySh.n hS rfl) ?_
          refine y_in (M := xm_X1_isSet) (ls := [some _, some _]) rfl rfl rfl ?_
          refine y_iload_n rfl rfl ?_
          refine y_if_lt rfl j_X1_isSet_18 (fun h_9 => ?_) (fun h_10 => ?_)
          · refine y_iconst rfl ?_
            refine y_ireturn rfl rfl rfl ?_
            refine y_ret1 ?_
            refine y_if_eqT rfl j_X1_prices_17 (by decide) ?_
            refine y_iconst rfl ?_
            refine y_ireturn rfl rfl rfl ?_
            refine y_ret1 ?_
            refine y_isub rfl ?_
            refine y_virt rfl rfl rfl rfl rfl (ySh.t hS rfl) (ySh.n hS rfl) ?_
            refine spu_add_X4 hS hC (fun I21 hC hF1 => ?_)
            have hF : yFu I I21 := yFu.trans (by repeat (first | exact hF | refine yFu.upd ?_ (by decide))) hF1.t
            have hd : (I21 34 8).toInt = (I 34 8).toInt := congrArg Int32.toInt (hF1 34 8 (Or.inl (by decide)))
            refine y_ret0 ?_
            refine y_aload_n rfl rfl ?_
            refine y_getR rfl (ySh.t hS rfl) (ySh.n hS rfl) rfl rfl (ySh.r hS rfl) ?_
            refine y_iload_n rfl rfl ?_
            refine y_putI rfl (ySh.t hS rfl) (ySh.n hS rfl) rfl (Nat.le_of_ble_eq_true rfl) rfl rfl ?_
            refine y_aload_n rfl rfl ?_
            refine y_getR rfl (ySh.t hS rfl) (ySh.n hS rfl) rfl rfl (ySh.r hS rfl) ?_
            refine y_getR rfl (ySh.t hS rfl) (ySh.n hS rfl) rfl rfl (ySh.r hS rfl) ?_
            refine y_bip rfl (by decide) ?_
            refine y_iaload rfl (ySh.t hS rfl) (ySh.n hS rfl) (by decide) (by decide) ?_
            refine y_ireturn rfl rfl rfl ?_
            exact hQ _ _ hC (by repeat (first | exact hF | refine yFu.upd ?_ (by decide)))
          · refine y_iload_n rfl rfl ?_
            refine y_iconst rfl ?_
            refine y_aload_n rfl rfl ?_
            refine y_getI rfl (ySh.t hS rfl) (ySh.n hS rfl) rfl rfl ?_
            refine y_ishl rfl ?_
            refine y_icmp_ge rfl j_X1_isSet_18 (fun h_12 => ?_) (fun h_13 => ?_)
            · refine y_iconst rfl ?_
              refine y_ireturn rfl rfl rfl ?_
              refine y_ret1 ?_
              refine y_if_eqT rfl j_X1_prices_17 (by decide) ?_
              refine y_iconst rfl ?_
              refine y_ireturn rfl rfl rfl ?_
              refine y_ret1 ?_
              refine y_isub rfl ?_
              refine y_virt rfl rfl rfl rfl rfl (ySh.t hS rfl) (ySh.n hS rfl) ?_
              refine spu_add_X4 hS hC (fun I24 hC hF1 => ?_)
              have hF : yFu I I24 := yFu.trans (by repeat (first | exact hF | refine yFu.upd ?_ (by decide))) hF1.t
              have hd : (I24 34 8).toInt = (I 34 8).toInt := congrArg Int32.toInt (hF1 34 8 (Or.inl (by decide)))
              refine y_ret0 ?_
              refine y_aload_n rfl rfl ?_
              refine y_getR rfl (ySh.t hS rfl) (ySh.n hS rfl) rfl rfl (ySh.r hS rfl) ?_
              refine y_iload_n rfl rfl ?_
              refine y_putI rfl (ySh.t hS rfl) (ySh.n hS rfl) rfl (Nat.le_of_ble_eq_true rfl) rfl rfl ?_
              refine y_aload_n rfl rfl ?_
              refine y_getR rfl (ySh.t hS rfl) (ySh.n hS rfl) rfl rfl (ySh.r hS rfl) ?_
              refine y_getR rfl (ySh.t hS rfl) (ySh.n hS rfl) rfl rfl (ySh.r hS rfl) ?_
              refine y_bip rfl (by decide) ?_
              refine y_iaload rfl (ySh.t hS rfl) (ySh.n hS rfl) (by decide) (by decide) ?_
              refine y_ireturn rfl rfl rfl ?_
              exact hQ _ _ hC (by repeat (first | exact hF | refine yFu.upd ?_ (by decide)))
            · refine y_iconst rfl ?_
              refine y_goto rfl j_X1_isSet_19 ?_
              refine y_ireturn rfl rfl rfl ?_
              refine y_ret1 ?_
              refine y_if_eqF rfl (by decide) ?_
              refine y_aload_n rfl rfl ?_
              refine y_getR rfl (ySh.t hS rfl) (ySh.n hS rfl) rfl rfl (ySh.r hS rfl) ?_
              refine y_iload_n rfl rfl ?_
              refine y_iaload rfl (ySh.t hS rfl) (ySh.n hS rfl) (by omega) (by omega) ?_
              refine y_goto rfl j_X1_prices_18 ?_
              refine y_ireturn rfl rfl rfl ?_
              refine y_ret1 ?_
              refine y_isub rfl ?_
              refine y_virt rfl rfl rfl rfl rfl (ySh.t hS rfl) (ySh.n hS rfl) ?_
              refine spu_add_X4 hS hC (fun I25 hC hF1 => ?_)
              have hF : yFu I I25 := yFu.trans (by repeat (first | exact hF | refine yFu.upd ?_ (by decide))) hF1.t
              have hd : (I25 34 8).toInt = (I 34 8).toInt := congrArg Int32.toInt (hF1 34 8 (Or.inl (by decide)))
              refine y_ret0 ?_
              refine y_aload_n rfl rfl ?_
              refine y_getR rfl (ySh.t hS rfl) (ySh.n hS rfl) rfl rfl (ySh.r hS rfl) ?_
              refine y_iload_n rfl rfl ?_
              refine y_putI rfl (ySh.t hS rfl) (ySh.n hS rfl) rfl (Nat.le_of_ble_eq_true rfl) rfl rfl ?_
              refine y_aload_n rfl rfl ?_
              refine y_getR rfl (ySh.t hS rfl) (ySh.n hS rfl) rfl rfl (ySh.r hS rfl) ?_
              refine y_getR rfl (ySh.t hS rfl) (ySh.n hS rfl) rfl rfl (ySh.r hS rfl) ?_
              refine y_bip rfl (by decide) ?_
              refine y_iaload rfl (ySh.t hS rfl) (ySh.n hS rfl) (by decide) (by decide) ?_
              refine y_ireturn rfl rfl rfl ?_
              exact hQ _ _ hC (by repeat (first | exact hF | refine yFu.upd ?_ (by decide)))
        · refine y_iload_n rfl rfl ?_
          refine y_iconst rfl ?_
          refine y_aload_n rfl rfl ?_
          refine y_getI rfl (ySh.t hS rfl) (ySh.n hS rfl) rfl rfl ?_
          refine y_ishl rfl ?_
          refine y_icmp_ge rfl j_X1_isSet_18 (fun h_16 => ?_) (fun h_17 => ?_)
          · refine y_iconst rfl ?_
            refine y_ireturn rfl rfl rfl ?_
            refine y_ret1 ?_
            refine y_if_eqT rfl j_X1_prices_17 (by decide) ?_
            refine y_iconst rfl ?_
            refine y_ireturn rfl rfl rfl ?_
            refine y_ret1 ?_
            refine y_aload_n rfl rfl ?_
            refine y_getR rfl (ySh.t hS rfl) (ySh.n hS rfl) rfl rfl (ySh.r hS rfl) ?_
            refine y_iload_n rfl rfl ?_
            refine y_virt rfl rfl rfl rfl rfl (ySh.t hS rfl) (ySh.n hS rfl) ?_
            refine y_in (M := xm_X1_prices) (ls := [some _, some _]) rfl rfl rfl ?_
            refine y_aload_n rfl rfl ?_
            refine y_iload_n rfl rfl ?_
            refine y_virt rfl rfl rfl rfl rfl (ySh.t hS rfl) (ySh.n hS rfl) ?_
            refine y_in (M := xm_X1_isSet) (ls := [some _, some _]) rfl rfl rfl ?_
            refine y_iload_n rfl rfl ?_
            refine y_if_lt rfl j_X1_isSet_18 (fun h_18 => ?_) (fun h_19 => ?_)
            · refine y_iconst rfl ?_
              refine y_ireturn rfl rfl rfl ?_
              refine y_ret1 ?_
              refine y_if_eqT rfl j_X1_prices_17 (by decide) ?_
              refine y_iconst rfl ?_
              refine y_ireturn rfl rfl rfl ?_
              refine y_ret1 ?_
              refine y_isub rfl ?_
              refine y_virt rfl rfl rfl rfl rfl (ySh.t hS rfl) (ySh.n hS rfl) ?_
              refine spu_add_X4 hS hC (fun I30 hC hF1 => ?_)
              have hF : yFu I I30 := yFu.trans (by repeat (first | exact hF | refine yFu.upd ?_ (by decide))) hF1.t
              have hd : (I30 34 8).toInt = (I 34 8).toInt := congrArg Int32.toInt (hF1 34 8 (Or.inl (by decide)))
              refine y_ret0 ?_
              refine y_aload_n rfl rfl ?_
              refine y_getR rfl (ySh.t hS rfl) (ySh.n hS rfl) rfl rfl (ySh.r hS rfl) ?_
              refine y_iload_n rfl rfl ?_
              refine y_putI rfl (ySh.t hS rfl) (ySh.n hS rfl) rfl (Nat.le_of_ble_eq_true rfl) rfl rfl ?_
              refine y_aload_n rfl rfl ?_
              refine y_getR rfl (ySh.t hS rfl) (ySh.n hS rfl) rfl rfl (ySh.r hS rfl) ?_
              refine y_getR rfl (ySh.t hS rfl) (ySh.n hS rfl) rfl rfl (ySh.r hS rfl) ?_
              refine y_bip rfl (by decide) ?_
              refine y_iaload rfl (ySh.t hS rfl) (ySh.n hS rfl) (by decide) (by decide) ?_
              refine y_ireturn rfl rfl rfl ?_
              exact hQ _ _ hC (by repeat (first | exact hF | refine yFu.upd ?_ (by decide)))
            · refine y_iload_n rfl rfl ?_
              refine y_iconst rfl ?_
              refine y_aload_n rfl rfl ?_
              refine y_getI rfl (ySh.t hS rfl) (ySh.n hS rfl) rfl rfl ?_
              refine y_ishl rfl ?_
              refine y_icmp_ge rfl j_X1_isSet_18 (fun h_21 => ?_) (fun h_22 => ?_)
              · refine y_iconst rfl ?_
                refine y_ireturn rfl rfl rfl ?_
                refine y_ret1 ?_
                refine y_if_eqT rfl j_X1_prices_17 (by decide) ?_
                refine y_iconst rfl ?_
                refine y_ireturn rfl rfl rfl ?_
                refine y_ret1 ?_
                refine y_isub rfl ?_
                refine y_virt rfl rfl rfl rfl rfl (ySh.t hS rfl) (ySh.n hS rfl) ?_
                refine spu_add_X4 hS hC (fun I33 hC hF1 => ?_)
                have hF : yFu I I33 := yFu.trans (by repeat (first | exact hF | refine yFu.upd ?_ (by decide))) hF1.t
                have hd : (I33 34 8).toInt = (I 34 8).toInt := congrArg Int32.toInt (hF1 34 8 (Or.inl (by decide)))
                refine y_ret0 ?_
                refine y_aload_n rfl rfl ?_
                refine y_getR rfl (ySh.t hS rfl) (ySh.n hS rfl) rfl rfl (ySh.r hS rfl) ?_
                refine y_iload_n rfl rfl ?_
                refine y_putI rfl (ySh.t hS rfl) (ySh.n hS rfl) rfl (Nat.le_of_ble_eq_true rfl) rfl rfl ?_
                refine y_aload_n rfl rfl ?_
                refine y_getR rfl (ySh.t hS rfl) (ySh.n hS rfl) rfl rfl (ySh.r hS rfl) ?_
                refine y_getR rfl (ySh.t hS rfl) (ySh.n hS rfl) rfl rfl (ySh.r hS rfl) ?_
                refine y_bip rfl (by decide) ?_
                refine y_iaload rfl (ySh.t hS rfl) (ySh.n hS rfl) (by decide) (by decide) ?_
                refine y_ireturn rfl rfl rfl ?_
                exact hQ _ _ hC (by repeat (first | exact hF | refine yFu.upd ?_ (by decide)))
              · refine y_iconst rfl ?_
                refine y_goto rfl j_X1_isSet_19 ?_
                refine y_ireturn rfl rfl rfl ?_
                refine y_ret1 ?_
                refine y_if_eqF rfl (by decide) ?_
                refine y_aload_n rfl rfl ?_
                refine y_getR rfl (ySh.t hS rfl) (ySh.n hS rfl) rfl rfl (ySh.r hS rfl) ?_
                refine y_iload_n rfl rfl ?_
                refine y_iaload rfl (ySh.t hS rfl) (ySh.n hS rfl) (by omega) (by omega) ?_
                refine y_goto rfl j_X1_prices_18 ?_
                refine y_ireturn rfl rfl rfl ?_
                refine y_ret1 ?_
                refine y_isub rfl ?_
                refine y_virt rfl rfl rfl rfl rfl (ySh.t hS rfl) (ySh.n hS rfl) ?_
                refine spu_add_X4 hS hC (fun I34 hC hF1 => ?_)
                have hF : yFu I I34 := yFu.trans (by repeat (first | exact hF | refine yFu.upd ?_ (by decide))) hF1.t
                have hd : (I34 34 8).toInt = (I 34 8).toInt := congrArg Int32.toInt (hF1 34 8 (Or.inl (by decide)))
                refine y_ret0 ?_
                refine y_aload_n rfl rfl ?_
                refine y_getR rfl (ySh.t hS rfl) (ySh.n hS rfl) rfl rfl (ySh.r hS rfl) ?_
                refine y_iload_n rfl rfl ?_
                refine y_putI rfl (ySh.t hS rfl) (ySh.n hS rfl) rfl (Nat.le_of_ble_eq_true rfl) rfl rfl ?_
                refine y_aload_n rfl rfl ?_
                refine y_getR rfl (ySh.t hS rfl) (ySh.n hS rfl) rfl rfl (ySh.r hS rfl) ?_
                refine y_getR rfl (ySh.t hS rfl) (ySh.n hS rfl) rfl rfl (ySh.r hS rfl) ?_
                refine y_bip rfl (by decide) ?_
                refine y_iaload rfl (ySh.t hS rfl) (ySh.n hS rfl) (by decide) (by decide) ?_
                refine y_ireturn rfl rfl rfl ?_
                exact hQ _ _ hC (by repeat (first | exact hF | refine yFu.upd ?_ (by decide)))
          · refine y_iconst rfl ?_
            refine y_goto rfl j_X1_isSet_19 ?_
            refine y_ireturn rfl rfl rfl ?_
            refine y_ret1 ?_
            refine y_if_eqF rfl (by decide) ?_
            refine y_aload_n rfl rfl ?_
            refine y_getR rfl (ySh.t hS rfl) (ySh.n hS rfl) rfl rfl (ySh.r hS rfl) ?_
            refine y_iload_n rfl rfl ?_
            refine y_iaload rfl (ySh.t hS rfl) (ySh.n hS rfl) (by omega) (by omega) ?_
            refine y_goto rfl j_X1_prices_18 ?_
            refine y_ireturn rfl rfl rfl ?_
            refine y_ret1 ?_
            refine y_aload_n rfl rfl ?_
            refine y_getR rfl (ySh.t hS rfl) (ySh.n hS rfl) rfl rfl (ySh.r hS rfl) ?_
            refine y_iload_n rfl rfl ?_
            refine y_virt rfl rfl rfl rfl rfl (ySh.t hS rfl) (ySh.n hS rfl) ?_
            refine y_in (M := xm_X1_prices) (ls := [some _, some _]) rfl rfl rfl ?_
            refine y_aload_n rfl rfl ?_
            refine y_iload_n rfl rfl ?_
            refine y_virt rfl rfl rfl rfl rfl (ySh.t hS rfl) (ySh.n hS rfl) ?_
            refine y_in (M := xm_X1_isSet) (ls := [some _, some _]) rfl rfl rfl ?_
            refine y_iload_n rfl rfl ?_
            refine y_if_lt rfl j_X1_isSet_18 (fun h_25 => ?_) (fun h_26 => ?_)
            · refine y_iconst rfl ?_
              refine y_ireturn rfl rfl rfl ?_
              refine y_ret1 ?_
              refine y_if_eqT rfl j_X1_prices_17 (by decide) ?_
              refine y_iconst rfl ?_
              refine y_ireturn rfl rfl rfl ?_
              refine y_ret1 ?_
              refine y_isub rfl ?_
              refine y_virt rfl rfl rfl rfl rfl (ySh.t hS rfl) (ySh.n hS rfl) ?_
              refine spu_add_X4 hS hC (fun I37 hC hF1 => ?_)
              have hF : yFu I I37 := yFu.trans (by repeat (first | exact hF | refine yFu.upd ?_ (by decide))) hF1.t
              have hd : (I37 34 8).toInt = (I 34 8).toInt := congrArg Int32.toInt (hF1 34 8 (Or.inl (by decide)))
              refine y_ret0 ?_
              refine y_aload_n rfl rfl ?_
              refine y_getR rfl (ySh.t hS rfl) (ySh.n hS rfl) rfl rfl (ySh.r hS rfl) ?_
              refine y_iload_n rfl rfl ?_
              refine y_putI rfl (ySh.t hS rfl) (ySh.n hS rfl) rfl (Nat.le_of_ble_eq_true rfl) rfl rfl ?_
              refine y_aload_n rfl rfl ?_
              refine y_getR rfl (ySh.t hS rfl) (ySh.n hS rfl) rfl rfl (ySh.r hS rfl) ?_
              refine y_getR rfl (ySh.t hS rfl) (ySh.n hS rfl) rfl rfl (ySh.r hS rfl) ?_
              refine y_bip rfl (by decide) ?_
              refine y_iaload rfl (ySh.t hS rfl) (ySh.n hS rfl) (by decide) (by decide) ?_
              refine y_ireturn rfl rfl rfl ?_
              exact hQ _ _ hC (by repeat (first | exact hF | refine yFu.upd ?_ (by decide)))
            · refine y_iload_n rfl rfl ?_
              refine y_iconst rfl ?_
              refine y_aload_n rfl rfl ?_
              refine y_getI rfl (ySh.t hS rfl) (ySh.n hS rfl) rfl rfl ?_
              refine y_ishl rfl ?_
              refine y_icmp_ge rfl j_X1_isSet_18 (fun h_28 => ?_) (fun h_29 => ?_)
              · refine y_iconst rfl ?_
                refine y_ireturn rfl rfl rfl ?_
                refine y_ret1 ?_
                refine y_if_eqT rfl j_X1_prices_17 (by decide) ?_
                refine y_iconst rfl ?_
                refine y_ireturn rfl rfl rfl ?_
                refine y_ret1 ?_
                refine y_isub rfl ?_
                refine y_virt rfl rfl rfl rfl rfl (ySh.t hS rfl) (ySh.n hS rfl) ?_
                refine spu_add_X4 hS hC (fun I40 hC hF1 => ?_)
                have hF : yFu I I40 := yFu.trans (by repeat (first | exact hF | refine yFu.upd ?_ (by decide))) hF1.t
                have hd : (I40 34 8).toInt = (I 34 8).toInt := congrArg Int32.toInt (hF1 34 8 (Or.inl (by decide)))
                refine y_ret0 ?_
                refine y_aload_n rfl rfl ?_
                refine y_getR rfl (ySh.t hS rfl) (ySh.n hS rfl) rfl rfl (ySh.r hS rfl) ?_
                refine y_iload_n rfl rfl ?_
                refine y_putI rfl (ySh.t hS rfl) (ySh.n hS rfl) rfl (Nat.le_of_ble_eq_true rfl) rfl rfl ?_
                refine y_aload_n rfl rfl ?_
                refine y_getR rfl (ySh.t hS rfl) (ySh.n hS rfl) rfl rfl (ySh.r hS rfl) ?_
                refine y_getR rfl (ySh.t hS rfl) (ySh.n hS rfl) rfl rfl (ySh.r hS rfl) ?_
                refine y_bip rfl (by decide) ?_
                refine y_iaload rfl (ySh.t hS rfl) (ySh.n hS rfl) (by decide) (by decide) ?_
                refine y_ireturn rfl rfl rfl ?_
                exact hQ _ _ hC (by repeat (first | exact hF | refine yFu.upd ?_ (by decide)))
              · refine y_iconst rfl ?_
                refine y_goto rfl j_X1_isSet_19 ?_
                refine y_ireturn rfl rfl rfl ?_
                refine y_ret1 ?_
                refine y_if_eqF rfl (by decide) ?_
                refine y_aload_n rfl rfl ?_
                refine y_getR rfl (ySh.t hS rfl) (ySh.n hS rfl) rfl rfl (ySh.r hS rfl) ?_
                refine y_iload_n rfl rfl ?_
                refine y_iaload rfl (ySh.t hS rfl) (ySh.n hS rfl) (by omega) (by omega) ?_
                refine y_goto rfl j_X1_prices_18 ?_
                refine y_ireturn rfl rfl rfl ?_
                refine y_ret1 ?_
                refine y_isub rfl ?_
                refine y_virt rfl rfl rfl rfl rfl (ySh.t hS rfl) (ySh.n hS rfl) ?_
                refine spu_add_X4 hS hC (fun I41 hC hF1 => ?_)
                have hF : yFu I I41 := yFu.trans (by repeat (first | exact hF | refine yFu.upd ?_ (by decide))) hF1.t
                have hd : (I41 34 8).toInt = (I 34 8).toInt := congrArg Int32.toInt (hF1 34 8 (Or.inl (by decide)))
                refine y_ret0 ?_
                refine y_aload_n rfl rfl ?_
                refine y_getR rfl (ySh.t hS rfl) (ySh.n hS rfl) rfl rfl (ySh.r hS rfl) ?_
                refine y_iload_n rfl rfl ?_
                refine y_putI rfl (ySh.t hS rfl) (ySh.n hS rfl) rfl (Nat.le_of_ble_eq_true rfl) rfl rfl ?_
                refine y_aload_n rfl rfl ?_
                refine y_getR rfl (ySh.t hS rfl) (ySh.n hS rfl) rfl rfl (ySh.r hS rfl) ?_
                refine y_getR rfl (ySh.t hS rfl) (ySh.n hS rfl) rfl rfl (ySh.r hS rfl) ?_
                refine y_bip rfl (by decide) ?_
                refine y_iaload rfl (ySh.t hS rfl) (ySh.n hS rfl) (by decide) (by decide) ?_
                refine y_ireturn rfl rfl rfl ?_
                exact hQ _ _ hC (by repeat (first | exact hF | refine yFu.upd ?_ (by decide)))
      · refine y_throw rfl rfl rfl ?_
        exact hE2
theorem mu_dividend (hS : ySh n tg R) (hC : yCI I) {x1 x2 : Int32} (hE0 : Q (.inr "java/lang/IndexOutOfBoundsException") (n, tg, I, R) (c + 1) (s + 6)) (hE1 : Q (.inr "java/lang/IllegalArgumentException") (n, tg, I, R) (c + 1) (s + 6)) (hE2 : Q (.inr "java/lang/IllegalStateException") (n, tg, I, R) (c + 1) (s + 6)) (hQ : ∀ v I1, yCI I1 → yFu I I1 → Q (.inl (some (.int v))) (n, tg, I1, R) c s) : yC 140 [.ref 34, .int x1, .int x2] (n, tg, I, R) c s Q := by
  have hF : yFu I I := yFu.rf
  refine y_in (M := xm_X8_dividend) (ls := [some _, some _, some _, _]) rfl rfl rfl ?_
  refine y_aload_n rfl rfl ?_
  refine y_getR rfl (ySh.t hS rfl) (ySh.n hS rfl) rfl rfl (ySh.r hS rfl) ?_
  refine y_iload_n rfl rfl ?_
  refine y_virt rfl rfl rfl rfl rfl (ySh.t hS rfl) (ySh.n hS rfl) ?_
  refine y_in (M := xm_X1_has) (ls := [some _, some _]) rfl rfl rfl ?_
  refine y_iload_n rfl rfl ?_
  refine y_if_lt rfl j_X1_has_16 (fun h_1 => ?_) (fun h_2 => ?_)
  · refine y_iconst rfl ?_
    refine y_ireturn rfl rfl rfl ?_
    refine y_ret1 ?_
    refine y_if_neF rfl (by decide) ?_
    refine y_throw rfl rfl rfl ?_
    exact hE0
  · refine y_iload_n rfl rfl ?_
    refine y_aload_n rfl rfl ?_
    refine y_getI rfl (ySh.t hS rfl) (ySh.n hS rfl) rfl rfl ?_
    refine y_icmp_ge rfl j_X1_has_16 (fun h_3 => ?_) (fun h_4 => ?_)
    · refine y_iconst rfl ?_
      refine y_ireturn rfl rfl rfl ?_
      refine y_ret1 ?_
      refine y_if_neF rfl (by decide) ?_
      refine y_throw rfl rfl rfl ?_
      exact hE0
    · refine y_iconst rfl ?_
      refine y_goto rfl j_X1_has_17 ?_
      refine y_ireturn rfl rfl rfl ?_
      refine y_ret1 ?_
      refine y_if_neT rfl j_X8_dividend_22 (by decide) ?_
      refine y_iload_n rfl rfl ?_
      refine y_iconst rfl ?_
      refine y_sip rfl (by decide) ?_
      refine y_static rfl rfl rfl rfl rfl ?_
      refine y_in (M := xm_X8_isIn) (ls := [some _, some _, some _]) rfl rfl rfl ?_
      refine y_iload_n rfl rfl ?_
      refine y_iload_n rfl rfl ?_
      refine y_icmp_lt rfl j_X8_isIn_14 (fun h_5 => ?_) (fun h_6 => ?_)
      · rw [yz_0] at h_5
        refine y_iconst rfl ?_
        refine y_ireturn rfl rfl rfl ?_
        refine y_ret1 ?_
        refine y_if_neF rfl (by decide) ?_
        refine y_throw rfl rfl rfl ?_
        exact hE1
      · rw [yz_0] at h_6
        refine y_iload_n rfl rfl ?_
        refine y_iload_n rfl rfl ?_
        refine y_icmp_gt rfl j_X8_isIn_14 (fun h_7 => ?_) (fun h_8 => ?_)
        · rw [yz_999] at h_7
          refine y_iconst rfl ?_
          refine y_ireturn rfl rfl rfl ?_
          refine y_ret1 ?_
          refine y_if_neF rfl (by decide) ?_
          refine y_throw rfl rfl rfl ?_
          exact hE1
        · rw [yz_999] at h_8
          refine y_iconst rfl ?_
          refine y_goto rfl j_X8_isIn_15 ?_
          refine y_ireturn rfl rfl rfl ?_
          refine y_ret1 ?_
          refine y_if_neT rfl j_X8_dividend_44 (by decide) ?_
          refine y_aload_n rfl rfl ?_
          refine y_getR rfl (ySh.t hS rfl) (ySh.n hS rfl) rfl rfl (ySh.r hS rfl) ?_
          refine y_iload_n rfl rfl ?_
          refine y_virt rfl rfl rfl rfl rfl (ySh.t hS rfl) (ySh.n hS rfl) ?_
          refine y_in (M := xm_X1_isHeld) (ls := [some _, some _]) rfl rfl rfl ?_
          refine y_aload_n rfl rfl ?_
          refine y_getI rfl (ySh.t hS rfl) (ySh.n hS rfl) rfl rfl ?_
          refine y_iload_n rfl rfl ?_
          refine y_ishr rfl ?_
          refine y_iconst rfl ?_
          refine y_iand rfl ?_
          refine y_iconst rfl ?_
          refine y_icmp_ne rfl j_X1_isHeld_16 (fun h_9 => ?_) (fun h_10 => ?_)
          · rw [yz_1] at h_9
            refine y_iconst rfl ?_
            refine y_ireturn rfl rfl rfl ?_
            refine y_ret1 ?_
            refine y_if_neF rfl (by decide) ?_
            refine y_throw rfl rfl rfl ?_
            exact hE2
          · rw [yz_1] at h_10
            refine y_iconst rfl ?_
            refine y_goto rfl j_X1_isHeld_17 ?_
            refine y_ireturn rfl rfl rfl ?_
            refine y_ret1 ?_
            refine y_if_neT rfl j_X8_dividend_66 (by decide) ?_
            refine y_aload_n rfl rfl ?_
            refine y_getR rfl (ySh.t hS rfl) (ySh.n hS rfl) rfl rfl (ySh.r hS rfl) ?_
            refine y_iload_n rfl rfl ?_
            refine y_iload_n rfl rfl ?_
            refine y_virt rfl rfl rfl rfl rfl (ySh.t hS rfl) (ySh.n hS rfl) ?_
            refine y_in (M := xm_X1_tainted) (ls := [some _, some _, some _, _, _]) rfl rfl rfl ?_
            refine y_aload_n rfl rfl ?_
            refine y_getR rfl (ySh.t hS rfl) (ySh.n hS rfl) rfl rfl (ySh.r hS rfl) ?_
            refine y_iload_n rfl rfl ?_
            refine y_iaload rfl (ySh.t hS rfl) (ySh.n hS rfl) (by omega) (by omega) ?_
            refine y_iconst rfl ?_
            refine y_isub rfl ?_
            refine y_istore_n (ls' := [some _, some _, some _, some _, _]) rfl rfl rfl ?_
            refine y_iload_n rfl rfl ?_
            refine y_aload_n rfl rfl ?_
            refine y_getR rfl (ySh.t hS rfl) (ySh.n hS rfl) rfl rfl (ySh.r hS rfl) ?_
            refine y_iload_n rfl rfl ?_
            refine y_iaload rfl (ySh.t hS rfl) (ySh.n hS rfl) (by omega) (by omega) ?_
            refine y_imul rfl ?_
            refine y_istore (ls' := [some _, some _, some _, some _, some _]) rfl rfl rfl ?_
            refine y_iload rfl rfl ?_
            refine y_iload_n rfl rfl ?_
            refine y_iadd rfl ?_
            refine y_i2l rfl ?_
            refine y_lconst rfl ?_
            refine y_aload_n rfl rfl ?_
            refine y_getR rfl (ySh.t hS rfl) (ySh.n hS rfl) rfl rfl (ySh.r hS rfl) ?_
            refine y_iload_n rfl rfl ?_
            refine y_iaload rfl (ySh.t hS rfl) (ySh.n hS rfl) (by omega) (by omega) ?_
            refine y_i2l rfl ?_
            refine y_static rfl rfl rfl rfl rfl ?_
            refine sp_portion ?_
            refine y_ret1 ?_
            refine y_iload_n rfl rfl ?_
            refine y_min rfl rfl ?_
            refine y_ireturn rfl rfl rfl ?_
            refine y_ret1 ?_
            refine y_istore_n (ls' := [some _, some _, some _, some _]) rfl rfl rfl ?_
            refine y_aload_n rfl rfl ?_
            refine y_getR rfl (ySh.t hS rfl) (ySh.n hS rfl) rfl rfl (ySh.r hS rfl) ?_
            refine y_bip rfl (by decide) ?_
            refine y_iload_n rfl rfl ?_
            refine y_virt rfl rfl rfl rfl rfl (ySh.t hS rfl) (ySh.n hS rfl) ?_
            refine spu_add_X4 hS hC (fun I21 hC hF1 => ?_)
            have hF : yFu I I21 := yFu.trans (by repeat (first | exact hF | refine yFu.upd ?_ (by decide))) hF1.t
            have hd : (I21 34 8).toInt = (I 34 8).toInt := congrArg Int32.toInt (hF1 34 8 (Or.inl (by decide)))
            refine y_ret0 ?_
            refine y_aload_n rfl rfl ?_
            refine y_getR rfl (ySh.t hS rfl) (ySh.n hS rfl) rfl rfl (ySh.r hS rfl) ?_
            refine y_bip rfl (by decide) ?_
            refine y_iload_n rfl rfl ?_
            refine y_virt rfl rfl rfl rfl rfl (ySh.t hS rfl) (ySh.n hS rfl) ?_
            refine y_in (M := xm_X4_giveAway) (ls := [some _, some _, some _]) rfl rfl rfl ?_
            refine y_aload_n rfl rfl ?_
            refine y_iload_n rfl rfl ?_
            refine y_iload_n rfl rfl ?_
            refine y_ineg rfl ?_
            refine y_virt rfl rfl rfl rfl rfl (ySh.t hS rfl) (ySh.n hS rfl) ?_
            refine spu_add_X4 hS hC (fun I22 hC hF1 => ?_)
            have hF : yFu I I22 := yFu.trans (by repeat (first | exact hF | refine yFu.upd ?_ (by decide))) hF1.t
            have hd : (I22 34 8).toInt = (I21 34 8).toInt := congrArg Int32.toInt (hF1 34 8 (Or.inl (by decide)))
            refine y_ret0 ?_
            refine y_aload_n rfl rfl ?_
            refine y_dup rfl rfl ?_
            refine y_getI rfl (ySh.t hS rfl) (ySh.n hS rfl) rfl rfl ?_
            refine y_iload_n rfl rfl ?_
            refine y_iadd rfl ?_
            refine y_putI rfl (ySh.t hS rfl) (ySh.n hS rfl) rfl (Nat.le_of_ble_eq_true rfl) rfl rfl ?_
            refine y_return rfl ?_
            refine y_ret0 ?_
            refine y_aload_n rfl rfl ?_
            refine y_getR rfl (ySh.t hS rfl) (ySh.n hS rfl) rfl rfl (ySh.r hS rfl) ?_
            refine y_getR rfl (ySh.t hS rfl) (ySh.n hS rfl) rfl rfl (ySh.r hS rfl) ?_
            refine y_iload_n rfl rfl ?_
            refine y_dup2 rfl rfl rfl ?_
            refine y_iaload rfl (ySh.t hS rfl) (ySh.n hS rfl) (by omega) (by omega) ?_
            refine y_iload_n rfl rfl ?_
            refine y_iadd rfl ?_
            refine y_iastore rfl (ySh.t hS rfl) (ySh.n hS rfl) (Nat.le_of_ble_eq_true rfl) (by omega) (by omega) ?_
            refine y_iload_n rfl rfl ?_
            refine y_ireturn rfl rfl rfl ?_
            exact hQ _ _ hC (by repeat (first | exact hF | refine yFu.upd ?_ (by decide)))
theorem eu_person (hS : ySh n tg R) (hC : yCI I) {x1 : Int32} (hE1 : ¬ (0 ≤ x1.toInt ∧ x1.toInt ≤ 9999) → Q (.inr "java/lang/IllegalArgumentException") (n, tg, I, R) (c + 1) (s + 6)) (hE2 : (0 ≤ x1.toInt ∧ x1.toInt ≤ 9999) ∧ (I 38 0).toInt = 8 → Q (.inr "java/lang/IllegalStateException") (n, tg, I, R) (c + 1) (s + 6)) (hQ : (0 ≤ x1.toInt ∧ x1.toInt ≤ 9999) ∧ (I 38 0).toInt < 8 → ∀ (v : Int32) (I1 : Nat → Nat → Int32), yCI I1 → yFu I I1 → (v.toInt = (I 38 0).toInt ∧ (I1 38 0).toInt = (I 38 0).toInt + 1) → Q (.inl (some (.int v))) (n, tg, I1, R) c s) : yC 122 [.ref 34, .int x1] (n, tg, I, R) c s Q := by
  have hF : yFu I I := yFu.rf
  refine y_in (M := xm_X8_person) (ls := [some _, some _]) rfl rfl rfl ?_
  refine y_iload_n rfl rfl ?_
  refine y_iconst rfl ?_
  refine y_sip rfl (by decide) ?_
  refine y_static rfl rfl rfl rfl rfl ?_
  refine y_in (M := xm_X8_isIn) (ls := [some _, some _, some _]) rfl rfl rfl ?_
  refine y_iload_n rfl rfl ?_
  refine y_iload_n rfl rfl ?_
  refine y_icmp_lt rfl j_X8_isIn_14 (fun h_1 => ?_) (fun h_2 => ?_)
  · rw [yz_0] at h_1
    refine y_iconst rfl ?_
    refine y_ireturn rfl rfl rfl ?_
    refine y_ret1 ?_
    refine y_if_neF rfl (by decide) ?_
    refine y_throw rfl rfl rfl ?_
    exact hE1 (by omega)
  · rw [yz_0] at h_2
    refine y_iload_n rfl rfl ?_
    refine y_iload_n rfl rfl ?_
    refine y_icmp_gt rfl j_X8_isIn_14 (fun h_3 => ?_) (fun h_4 => ?_)
    · rw [yz_9999] at h_3
      refine y_iconst rfl ?_
      refine y_ireturn rfl rfl rfl ?_
      refine y_ret1 ?_
      refine y_if_neF rfl (by decide) ?_
      refine y_throw rfl rfl rfl ?_
      exact hE1 (by omega)
    · rw [yz_9999] at h_4
      refine y_iconst rfl ?_
      refine y_goto rfl j_X8_isIn_15 ?_
      refine y_ireturn rfl rfl rfl ?_
      refine y_ret1 ?_
      refine y_if_neT rfl j_X8_person_21 (by decide) ?_
      refine y_aload_n rfl rfl ?_
      refine y_getR rfl (ySh.t hS rfl) (ySh.n hS rfl) rfl rfl (ySh.r hS rfl) ?_
      refine y_getI rfl (ySh.t hS rfl) (ySh.n hS rfl) rfl rfl ?_
      refine y_bip rfl (by decide) ?_
      refine y_icmp_lt rfl j_X8_person_43 (fun h_5 => ?_) (fun h_6 => ?_)
      · rw [yz_8] at h_5
        refine y_aload_n rfl rfl ?_
        refine y_getR rfl (ySh.t hS rfl) (ySh.n hS rfl) rfl rfl (ySh.r hS rfl) ?_
        refine y_iload_n rfl rfl ?_
        refine y_virt rfl rfl rfl rfl rfl (ySh.t hS rfl) (ySh.n hS rfl) ?_
        refine y_in (M := xm_X4_open) (ls := [some _, some _]) rfl rfl rfl ?_
        refine y_aload_n rfl rfl ?_
        refine y_getR rfl (ySh.t hS rfl) (ySh.n hS rfl) rfl rfl (ySh.r hS rfl) ?_
        refine y_aload_n rfl rfl ?_
        refine y_getI rfl (ySh.t hS rfl) (ySh.n hS rfl) rfl rfl ?_
        refine y_iload_n rfl rfl ?_
        refine y_iastore rfl (ySh.t hS rfl) (ySh.n hS rfl) (Nat.le_of_ble_eq_true rfl) (by omega) (by omega) ?_
        refine y_aload_n rfl rfl ?_
        refine y_dup rfl rfl ?_
        refine y_getIv (v := I 38 0) rfl (ySh.t hS rfl) (ySh.n hS rfl) rfl rfl rfl ?_
        refine y_dup_x1 rfl rfl rfl ?_
        refine y_iconst rfl ?_
        refine y_iadd rfl ?_
        refine y_putI rfl (ySh.t hS rfl) (ySh.n hS rfl) rfl (Nat.le_of_ble_eq_true rfl) rfl rfl ?_
        refine y_setC (yCI.inc38 hC (by show (I 38 0).toInt < 8; omega)) (fun hC => ?_)
        refine y_ireturn rfl rfl rfl ?_
        refine y_ret1 ?_
        refine y_ireturn rfl rfl rfl ?_
        exact hQ (by omega) _ _ hC (by repeat (first | exact hF | refine yFu.upd ?_ (by decide))) ⟨rfl, (congrArg Int32.toInt upd2_self).trans (yinc (by omega))⟩
      · rw [yz_8] at h_6
        refine y_throw rfl rfl rfl ?_
        exact hE2 (by omega)
theorem eu_venture (hS : ySh n tg R) (hC : yCI I) (hE2 : (I 69 0).toInt = 6 → Q (.inr "java/lang/IllegalStateException") (n, tg, I, R) (c + 1) (s + 6)) (hQ : (I 69 0).toInt < 6 → ∀ (v : Int32) (I1 : Nat → Nat → Int32), yCI I1 → yFu I I1 → (v.toInt = (I 69 0).toInt ∧ (I1 69 0).toInt = (I 69 0).toInt + 1) → Q (.inl (some (.int v))) (n, tg, I1, R) c s) : yC 132 [.ref 34] (n, tg, I, R) c s Q := by
  have hF : yFu I I := yFu.rf
  refine y_in (M := xm_X8_venture) (ls := [some _]) rfl rfl rfl ?_
  refine y_aload_n rfl rfl ?_
  refine y_getR rfl (ySh.t hS rfl) (ySh.n hS rfl) rfl rfl (ySh.r hS rfl) ?_
  refine y_getI rfl (ySh.t hS rfl) (ySh.n hS rfl) rfl rfl ?_
  refine y_bip rfl (by decide) ?_
  refine y_icmp_lt rfl j_X8_venture_22 (fun h_1 => ?_) (fun h_2 => ?_)
  · rw [yz_6] at h_1
    refine y_aload_n rfl rfl ?_
    refine y_getR rfl (ySh.t hS rfl) (ySh.n hS rfl) rfl rfl (ySh.r hS rfl) ?_
    refine y_virt rfl rfl rfl rfl rfl (ySh.t hS rfl) (ySh.n hS rfl) ?_
    refine y_in (M := xm_X7_begin) (ls := [some _]) rfl rfl rfl ?_
    refine y_aload_n rfl rfl ?_
    refine y_dup rfl rfl ?_
    refine y_getI rfl (ySh.t hS rfl) (ySh.n hS rfl) rfl rfl ?_
    refine y_dup_x1 rfl rfl rfl ?_
    refine y_iconst rfl ?_
    refine y_iadd rfl ?_
    refine y_putI rfl (ySh.t hS rfl) (ySh.n hS rfl) rfl (Nat.le_of_ble_eq_true rfl) rfl rfl ?_
    refine y_setC (yCI.inc69 hC (by show (I 69 0).toInt < 6; omega)) (fun hC => ?_)
    refine y_ireturn rfl rfl rfl ?_
    refine y_ret1 ?_
    refine y_ireturn rfl rfl rfl ?_
    exact hQ (by omega) _ _ hC (by repeat (first | exact hF | refine yFu.upd ?_ (by decide))) ⟨rfl, (congrArg Int32.toInt upd2_self).trans (yinc (by omega))⟩
  · rw [yz_6] at h_2
    refine y_throw rfl rfl rfl ?_
    exact hE2 (by omega)
theorem lpu_firmAddE {I0 : Nat → Nat → Int32} {N0 : Int} (hN0 : N0 < 10) (hS : ySh n tg R) {x1 x2 x3 x4 x5 x6 : Int32} (hv0 : 0 ≤ x6.toInt) (hv1 : x6.toInt ≤ 512) (hQ : ∀ (v : Int32) (I1 : Nat → Nat → Int32), yCI I1 → yFq I0 I1 → (v.toInt = N0 ∧ (I1 77 0).toInt = N0 + 1) → Q (.inl (some (.int v))) (n, tg, I1, R) c s) : ∀ (m : Nat) (x7 : Int32) (I : Nat → Nat → Int32), yCI I → yFq I0 I → ((I 77 0).toInt = N0) → (0 ≤ x7.toInt) → (x7.toInt ≤ x6.toInt) → x6.toInt - x7.toInt < m → yW xm_X1_add xc_X1_add_31 [some (.ref 77), some (.int x1), some (.int x2), some (.int x3), some (.int x4), some (.int x5), some (.int x6), some (.int x7)] [] (n, tg, I, R) c s Q := by
  intro m
  induction m with
  | zero => intro x7 I hC hF i0 i1 i2 hm; exfalso; omega
  | succ m ih =>
    intro x7 I hC hF i0 i1 i2 hm
    refine y_iload rfl rfl ?_
    refine y_iload rfl rfl ?_
    refine y_icmp_ge rfl j_X1_add_83 (fun h_1 => ?_) (fun h_2 => ?_)
    · refine y_iload rfl rfl ?_
      refine y_if_eq rfl j_X1_add_99 (fun h_3 => ?_) (fun h_4 => ?_)
      · refine y_aload_n rfl rfl ?_
        refine y_dup rfl rfl ?_
        refine y_getI rfl (ySh.t hS rfl) (ySh.n hS rfl) rfl rfl ?_
        refine y_dup_x1 rfl rfl rfl ?_
        refine y_iconst rfl ?_
        refine y_iadd rfl ?_
        refine y_putI rfl (ySh.t hS rfl) (ySh.n hS rfl) rfl (Nat.le_of_ble_eq_true rfl) rfl rfl ?_
        refine y_setC (yCI.inc77 hC (by show (I 77 0).toInt < 10; omega)) (fun hC => ?_)
        refine y_ireturn rfl rfl rfl ?_
        exact hQ _ _ hC (by repeat (first | exact hF | refine yFq.upd ?_ (by decide))) ⟨by assumption, (congrArg Int32.toInt upd2_self).trans ((yinc (by omega)).trans (by omega))⟩
      · refine y_aload_n rfl rfl ?_
        refine y_dup rfl rfl ?_
        refine y_getI rfl (ySh.t hS rfl) (ySh.n hS rfl) rfl rfl ?_
        refine y_iload rfl rfl ?_
        refine y_ior rfl ?_
        refine y_putI rfl (ySh.t hS rfl) (ySh.n hS rfl) rfl (Nat.le_of_ble_eq_true rfl) rfl rfl ?_
        refine y_aload_n rfl rfl ?_
        refine y_dup rfl rfl ?_
        refine y_getIv (v := I 77 0) rfl (ySh.t hS rfl) (ySh.n hS rfl) rfl rfl rfl ?_
        refine y_dup_x1 rfl rfl rfl ?_
        refine y_iconst rfl ?_
        refine y_iadd rfl ?_
        refine y_putI rfl (ySh.t hS rfl) (ySh.n hS rfl) rfl (Nat.le_of_ble_eq_true rfl) rfl rfl ?_
        refine y_setC (yCI.inc77 hC (by show (I 77 0).toInt < 10; omega)) (fun hC => ?_)
        refine y_ireturn rfl rfl rfl ?_
        exact hQ _ _ hC (by repeat (first | exact hF | refine yFq.upd ?_ (by decide))) ⟨by assumption, (congrArg Int32.toInt upd2_self).trans ((yinc (by omega)).trans (by omega))⟩
    · refine y_aload_n rfl rfl ?_
      refine y_getR rfl (ySh.t hS rfl) (ySh.n hS rfl) rfl rfl (ySh.r hS rfl) ?_
      refine y_iload rfl rfl ?_
      refine y_iload rfl rfl ?_
      refine y_ior rfl ?_
      refine y_aload_n rfl rfl ?_
      refine y_getR rfl (ySh.t hS rfl) (ySh.n hS rfl) rfl rfl (ySh.r hS rfl) ?_
      refine y_iload rfl rfl ?_
      refine y_iaload rfl (ySh.t hS rfl) (ySh.n hS rfl) (by omega) (by omega) ?_
      refine y_iload_n rfl rfl ?_
      refine y_iadd rfl ?_
      refine y_iastore rfl (ySh.t hS rfl) (ySh.n hS rfl) (Nat.le_of_ble_eq_true rfl) (yor (by omega) (by omega) (by omega) (by omega)).1 (by have := (yor (a := x7) (b := x6) (by omega) (by omega) (by omega) (by omega)).2; omega) ?_
      refine y_aload_n rfl rfl ?_
      refine y_getR rfl (ySh.t hS rfl) (ySh.n hS rfl) rfl rfl (ySh.r hS rfl) ?_
      refine y_iload rfl rfl ?_
      refine y_iload rfl rfl ?_
      refine y_ior rfl ?_
      refine y_aload_n rfl rfl ?_
      refine y_getR rfl (ySh.t hS rfl) (ySh.n hS rfl) rfl rfl (ySh.r hS rfl) ?_
      refine y_iload rfl rfl ?_
      refine y_iaload rfl (ySh.t hS rfl) (ySh.n hS rfl) (by omega) (by omega) ?_
      refine y_iload rfl rfl ?_
      refine y_iadd rfl ?_
      refine y_iastore rfl (ySh.t hS rfl) (ySh.n hS rfl) (Nat.le_of_ble_eq_true rfl) (yor (by omega) (by omega) (by omega) (by omega)).1 (by have := (yor (a := x7) (b := x6) (by omega) (by omega) (by omega) (by omega)).2; omega) ?_
      refine y_iinc (ls' := [some _, some _, some _, some _, some _, some _, some _, some _]) rfl rfl rfl rfl ?_
      refine y_goto rfl j_X1_add_31 ?_
      exact ih _ _ hC (by repeat (first | exact hF | refine yFq.upd ?_ (by decide))) (by assumption) (by first | omega | (rw [yinc (by omega)]; omega)) (by first | omega | (rw [yinc (by omega)]; omega)) (by first | omega | (rw [yinc (by omega)]; omega))
theorem spu_firmAddE (hS : ySh n tg R) (hC : yCI I) {x1 x2 x3 x4 x5 : Int32} (hv : (I 77 0).toInt < 10) (hQ : ∀ (v : Int32) (I1 : Nat → Nat → Int32), yCI I1 → yFq I I1 → (v.toInt = (I 77 0).toInt ∧ (I1 77 0).toInt = (I 77 0).toInt + 1) → Q (.inl (some (.int v))) (n, tg, I1, R) c s) : yC 43 [.ref 77, .int x1, .int x2, .int x3, .int x4, .int x5] (n, tg, I, R) c s Q := by
  have hF : yFq I I := yFq.rf
  refine y_in (M := xm_X1_add) (ls := [some _, some _, some _, some _, some _, some _, _, _]) rfl rfl rfl ?_
  refine y_aload_n rfl rfl ?_
  refine y_getR rfl (ySh.t hS rfl) (ySh.n hS rfl) rfl rfl (ySh.r hS rfl) ?_
  refine y_aload_n rfl rfl ?_
  refine y_getI rfl (ySh.t hS rfl) (ySh.n hS rfl) rfl rfl ?_
  refine y_iload_n rfl rfl ?_
  refine y_iastore rfl (ySh.t hS rfl) (ySh.n hS rfl) (Nat.le_of_ble_eq_true rfl) (by omega) (by omega) ?_
  refine y_aload_n rfl rfl ?_
  refine y_getR rfl (ySh.t hS rfl) (ySh.n hS rfl) rfl rfl (ySh.r hS rfl) ?_
  refine y_aload_n rfl rfl ?_
  refine y_getIv (v := I 77 0) rfl (ySh.t hS rfl) (ySh.n hS rfl) rfl rfl rfl ?_
  refine y_iload_n rfl rfl ?_
  refine y_iastore rfl (ySh.t hS rfl) (ySh.n hS rfl) (Nat.le_of_ble_eq_true rfl) (by omega) (by omega) ?_
  refine y_iconst rfl ?_
  refine y_aload_n rfl rfl ?_
  refine y_getIv (v := I 77 0) rfl (ySh.t hS rfl) (ySh.n hS rfl) rfl rfl rfl ?_
  refine y_ishl rfl ?_
  refine y_istore (ls' := [some _, some _, some _, some _, some _, some _, some _, _]) rfl rfl rfl ?_
  refine y_iconst rfl ?_
  refine y_istore (ls' := [some _, some _, some _, some _, some _, some _, some _, some _]) rfl rfl rfl ?_
  have hz := yshl (x := I 77 0) (by omega) (by omega)
  exact lpu_firmAddE hv hS (by have := hz.1.1; exact Int.le_trans (by decide) this) (hz.2 (by omega)) hQ 100000 _ _ hC (by repeat (first | exact hF | refine yFq.upd ?_ (by decide))) rfl (by decide) (by rw [yz_0]; exact Int.le_trans (by decide) hz.1.1) (by rw [yz_0]; have := hz.1.2; exact Int.lt_of_le_of_lt (Int.sub_le_self _ (by decide)) (Int.lt_of_le_of_lt this (by decide)))
theorem eu_firm (hS : ySh n tg R) (hC : yCI I) {x1 x2 x3 x4 x5 x6 : Int32} (hE1 : ¬ ((1 ≤ x1.toInt ∧ x1.toInt ≤ 999) ∧ (0 ≤ x2.toInt ∧ x2.toInt ≤ 999) ∧ (0 ≤ x3.toInt ∧ x3.toInt ≤ 999) ∧ (0 ≤ x4.toInt ∧ x4.toInt ≤ 999) ∧ (1 ≤ x5.toInt ∧ x5.toInt ≤ 99) ∧ (0 ≤ x6.toInt ∧ x6.toInt ≤ 99)) → Q (.inr "java/lang/IllegalArgumentException") (n, tg, I, R) (c + 1) (s + 6)) (hE2 : ((1 ≤ x1.toInt ∧ x1.toInt ≤ 999) ∧ (0 ≤ x2.toInt ∧ x2.toInt ≤ 999) ∧ (0 ≤ x3.toInt ∧ x3.toInt ≤ 999) ∧ (0 ≤ x4.toInt ∧ x4.toInt ≤ 999) ∧ (1 ≤ x5.toInt ∧ x5.toInt ≤ 99) ∧ (0 ≤ x6.toInt ∧ x6.toInt ≤ 99)) ∧ (I 77 0).toInt = 10 → Q (.inr "java/lang/IllegalStateException") (n, tg, I, R) (c + 1) (s + 6)) (hQ : ((1 ≤ x1.toInt ∧ x1.toInt ≤ 999) ∧ (0 ≤ x2.toInt ∧ x2.toInt ≤ 999) ∧ (0 ≤ x3.toInt ∧ x3.toInt ≤ 999) ∧ (0 ≤ x4.toInt ∧ x4.toInt ≤ 999) ∧ (1 ≤ x5.toInt ∧ x5.toInt ≤ 99) ∧ (0 ≤ x6.toInt ∧ x6.toInt ≤ 99)) ∧ (I 77 0).toInt < 10 → ∀ (v : Int32) (I1 : Nat → Nat → Int32), yCI I1 → yFu I I1 → (v.toInt = (I 77 0).toInt ∧ (I1 77 0).toInt = (I 77 0).toInt + 1) → Q (.inl (some (.int v))) (n, tg, I1, R) c s) : yC 138 [.ref 34, .int x1, .int x2, .int x3, .int x4, .int x5, .int x6] (n, tg, I, R) c s Q := by
  have hF : yFu I I := yFu.rf
  refine y_in (M := xm_X8_firm) (ls := [some _, some _, some _, some _, some _, some _, some _, _]) rfl rfl rfl ?_
  refine y_iload_n rfl rfl ?_
  refine y_iconst rfl ?_
  refine y_sip rfl (by decide) ?_
  refine y_static rfl rfl rfl rfl rfl ?_
  refine y_in (M := xm_X8_isIn) (ls := [some _, some _, some _]) rfl rfl rfl ?_
  refine y_iload_n rfl rfl ?_
  refine y_iload_n rfl rfl ?_
  refine y_icmp_lt rfl j_X8_isIn_14 (fun h_1 => ?_) (fun h_2 => ?_)
  · rw [yz_1] at h_1
    refine y_iconst rfl ?_
    refine y_ireturn rfl rfl rfl ?_
    refine y_ret1 ?_
    refine y_if_eqT rfl j_X8_firm_67 (by decide) ?_
    refine y_throw rfl rfl rfl ?_
    exact hE1 (by omega)
  · rw [yz_1] at h_2
    refine y_iload_n rfl rfl ?_
    refine y_iload_n rfl rfl ?_
    refine y_icmp_gt rfl j_X8_isIn_14 (fun h_3 => ?_) (fun h_4 => ?_)
    · rw [yz_999] at h_3
      refine y_iconst rfl ?_
      refine y_ireturn rfl rfl rfl ?_
      refine y_ret1 ?_
      refine y_if_eqT rfl j_X8_firm_67 (by decide) ?_
      refine y_throw rfl rfl rfl ?_
      exact hE1 (by omega)
    · rw [yz_999] at h_4
      refine y_iconst rfl ?_
      refine y_goto rfl j_X8_isIn_15 ?_
      refine y_ireturn rfl rfl rfl ?_
      refine y_ret1 ?_
      refine y_if_eqF rfl (by decide) ?_
      refine y_iload_n rfl rfl ?_
      refine y_iconst rfl ?_
      refine y_sip rfl (by decide) ?_
      refine y_static rfl rfl rfl rfl rfl ?_
      refine y_in (M := xm_X8_isIn) (ls := [some _, some _, some _]) rfl rfl rfl ?_
      refine y_iload_n rfl rfl ?_
      refine y_iload_n rfl rfl ?_
      refine y_icmp_lt rfl j_X8_isIn_14 (fun h_5 => ?_) (fun h_6 => ?_)
      · rw [yz_0] at h_5
        refine y_iconst rfl ?_
        refine y_ireturn rfl rfl rfl ?_
        refine y_ret1 ?_
        refine y_if_eqT rfl j_X8_firm_67 (by decide) ?_
        refine y_throw rfl rfl rfl ?_
        exact hE1 (by omega)
      · rw [yz_0] at h_6
        refine y_iload_n rfl rfl ?_
        refine y_iload_n rfl rfl ?_
        refine y_icmp_gt rfl j_X8_isIn_14 (fun h_7 => ?_) (fun h_8 => ?_)
        · rw [yz_999] at h_7
          refine y_iconst rfl ?_
          refine y_ireturn rfl rfl rfl ?_
          refine y_ret1 ?_
          refine y_if_eqT rfl j_X8_firm_67 (by decide) ?_
          refine y_throw rfl rfl rfl ?_
          exact hE1 (by omega)
        · rw [yz_999] at h_8
          refine y_iconst rfl ?_
          refine y_goto rfl j_X8_isIn_15 ?_
          refine y_ireturn rfl rfl rfl ?_
          refine y_ret1 ?_
          refine y_if_eqF rfl (by decide) ?_
          refine y_iload_n rfl rfl ?_
          refine y_iconst rfl ?_
          refine y_sip rfl (by decide) ?_
          refine y_static rfl rfl rfl rfl rfl ?_
          refine y_in (M := xm_X8_isIn) (ls := [some _, some _, some _]) rfl rfl rfl ?_
          refine y_iload_n rfl rfl ?_
          refine y_iload_n rfl rfl ?_
          refine y_icmp_lt rfl j_X8_isIn_14 (fun h_9 => ?_) (fun h_10 => ?_)
          · rw [yz_0] at h_9
            refine y_iconst rfl ?_
            refine y_ireturn rfl rfl rfl ?_
            refine y_ret1 ?_
            refine y_if_eqT rfl j_X8_firm_67 (by decide) ?_
            refine y_throw rfl rfl rfl ?_
            exact hE1 (by omega)
          · rw [yz_0] at h_10
            refine y_iload_n rfl rfl ?_
            refine y_iload_n rfl rfl ?_
            refine y_icmp_gt rfl j_X8_isIn_14 (fun h_11 => ?_) (fun h_12 => ?_)
            · rw [yz_999] at h_11
              refine y_iconst rfl ?_
              refine y_ireturn rfl rfl rfl ?_
              refine y_ret1 ?_
              refine y_if_eqT rfl j_X8_firm_67 (by decide) ?_
              refine y_throw rfl rfl rfl ?_
              exact hE1 (by omega)
            · rw [yz_999] at h_12
              refine y_iconst rfl ?_
              refine y_goto rfl j_X8_isIn_15 ?_
              refine y_ireturn rfl rfl rfl ?_
              refine y_ret1 ?_
              refine y_if_eqF rfl (by decide) ?_
              refine y_iload rfl rfl ?_
              refine y_iconst rfl ?_
              refine y_sip rfl (by decide) ?_
              refine y_static rfl rfl rfl rfl rfl ?_
              refine y_in (M := xm_X8_isIn) (ls := [some _, some _, some _]) rfl rfl rfl ?_
              refine y_iload_n rfl rfl ?_
              refine y_iload_n rfl rfl ?_
              refine y_icmp_lt rfl j_X8_isIn_14 (fun h_13 => ?_) (fun h_14 => ?_)
              · rw [yz_0] at h_13
                refine y_iconst rfl ?_
                refine y_ireturn rfl rfl rfl ?_
                refine y_ret1 ?_
                refine y_if_eqT rfl j_X8_firm_67 (by decide) ?_
                refine y_throw rfl rfl rfl ?_
                exact hE1 (by omega)
              · rw [yz_0] at h_14
                refine y_iload_n rfl rfl ?_
                refine y_iload_n rfl rfl ?_
                refine y_icmp_gt rfl j_X8_isIn_14 (fun h_15 => ?_) (fun h_16 => ?_)
                · rw [yz_999] at h_15
                  refine y_iconst rfl ?_
                  refine y_ireturn rfl rfl rfl ?_
                  refine y_ret1 ?_
                  refine y_if_eqT rfl j_X8_firm_67 (by decide) ?_
                  refine y_throw rfl rfl rfl ?_
                  exact hE1 (by omega)
                · rw [yz_999] at h_16
                  refine y_iconst rfl ?_
                  refine y_goto rfl j_X8_isIn_15 ?_
                  refine y_ireturn rfl rfl rfl ?_
                  refine y_ret1 ?_
                  refine y_if_eqF rfl (by decide) ?_
                  refine y_iload rfl rfl ?_
                  refine y_iconst rfl ?_
                  refine y_bip rfl (by decide) ?_
                  refine y_static rfl rfl rfl rfl rfl ?_
                  refine y_in (M := xm_X8_isIn) (ls := [some _, some _, some _]) rfl rfl rfl ?_
                  refine y_iload_n rfl rfl ?_
                  refine y_iload_n rfl rfl ?_
                  refine y_icmp_lt rfl j_X8_isIn_14 (fun h_17 => ?_) (fun h_18 => ?_)
                  · rw [yz_1] at h_17
                    refine y_iconst rfl ?_
                    refine y_ireturn rfl rfl rfl ?_
                    refine y_ret1 ?_
                    refine y_if_eqT rfl j_X8_firm_67 (by decide) ?_
                    refine y_throw rfl rfl rfl ?_
                    exact hE1 (by omega)
                  · rw [yz_1] at h_18
                    refine y_iload_n rfl rfl ?_
                    refine y_iload_n rfl rfl ?_
                    refine y_icmp_gt rfl j_X8_isIn_14 (fun h_19 => ?_) (fun h_20 => ?_)
                    · rw [yz_99] at h_19
                      refine y_iconst rfl ?_
                      refine y_ireturn rfl rfl rfl ?_
                      refine y_ret1 ?_
                      refine y_if_eqT rfl j_X8_firm_67 (by decide) ?_
                      refine y_throw rfl rfl rfl ?_
                      exact hE1 (by omega)
                    · rw [yz_99] at h_20
                      refine y_iconst rfl ?_
                      refine y_goto rfl j_X8_isIn_15 ?_
                      refine y_ireturn rfl rfl rfl ?_
                      refine y_ret1 ?_
                      refine y_if_eqF rfl (by decide) ?_
                      refine y_iload rfl rfl ?_
                      refine y_iconst rfl ?_
                      refine y_bip rfl (by decide) ?_
                      refine y_static rfl rfl rfl rfl rfl ?_
                      refine y_in (M := xm_X8_isIn) (ls := [some _, some _, some _]) rfl rfl rfl ?_
                      refine y_iload_n rfl rfl ?_
                      refine y_iload_n rfl rfl ?_
                      refine y_icmp_lt rfl j_X8_isIn_14 (fun h_21 => ?_) (fun h_22 => ?_)
                      · rw [yz_0] at h_21
                        refine y_iconst rfl ?_
                        refine y_ireturn rfl rfl rfl ?_
                        refine y_ret1 ?_
                        refine y_if_neF rfl (by decide) ?_
                        refine y_throw rfl rfl rfl ?_
                        exact hE1 (by omega)
                      · rw [yz_0] at h_22
                        refine y_iload_n rfl rfl ?_
                        refine y_iload_n rfl rfl ?_
                        refine y_icmp_gt rfl j_X8_isIn_14 (fun h_23 => ?_) (fun h_24 => ?_)
                        · rw [yz_99] at h_23
                          refine y_iconst rfl ?_
                          refine y_ireturn rfl rfl rfl ?_
                          refine y_ret1 ?_
                          refine y_if_neF rfl (by decide) ?_
                          refine y_throw rfl rfl rfl ?_
                          exact hE1 (by omega)
                        · rw [yz_99] at h_24
                          refine y_iconst rfl ?_
                          refine y_goto rfl j_X8_isIn_15 ?_
                          refine y_ireturn rfl rfl rfl ?_
                          refine y_ret1 ?_
                          refine y_if_neT rfl j_X8_firm_78 (by decide) ?_
                          refine y_aload_n rfl rfl ?_
                          refine y_getR rfl (ySh.t hS rfl) (ySh.n hS rfl) rfl rfl (ySh.r hS rfl) ?_
                          refine y_getI rfl (ySh.t hS rfl) (ySh.n hS rfl) rfl rfl ?_
                          refine y_bip rfl (by decide) ?_
                          refine y_icmp_lt rfl j_X8_firm_101 (fun h_25 => ?_) (fun h_26 => ?_)
                          · rw [yz_10] at h_25
                            refine y_bip rfl (by decide) ?_
                            refine y_iload_n rfl rfl ?_
                            refine y_imul rfl ?_
                            refine y_bip rfl (by decide) ?_
                            refine y_iload_n rfl rfl ?_
                            refine y_imul rfl ?_
                            refine y_icmp_ge rfl j_X8_firm_138 (fun h_27 => ?_) (fun h_28 => ?_)
                            · refine y_iconst rfl ?_
                              refine y_istore (ls' := [some _, some _, some _, some _, some _, some _, some _, some _]) rfl rfl rfl ?_
                              refine y_aload_n rfl rfl ?_
                              refine y_getR rfl (ySh.t hS rfl) (ySh.n hS rfl) rfl rfl (ySh.r hS rfl) ?_
                              refine y_iload_n rfl rfl ?_
                              refine y_iload rfl rfl ?_
                              refine y_iload rfl rfl ?_
                              refine y_iload rfl rfl ?_
                              refine y_iload rfl rfl ?_
                              refine y_virt rfl rfl rfl rfl rfl (ySh.t hS rfl) (ySh.n hS rfl) ?_
                              refine spu_firmAddE hS hC (by omega) (fun v_ I39 hC hF1 hE_ => ?_)
                              have hF : yFu I I39 := yFu.trans (by repeat (first | exact hF | refine yFu.upd ?_ (by decide))) hF1.t
                              refine y_ret1 ?_
                              refine y_ireturn rfl rfl rfl ?_
                              exact hQ (by omega) _ _ hC (by repeat (first | exact hF | refine yFu.upd ?_ (by decide))) hE_
                            · refine y_bip rfl (by decide) ?_
                              refine y_iload_n rfl rfl ?_
                              refine y_imul rfl ?_
                              refine y_bip rfl (by decide) ?_
                              refine y_iload_n rfl rfl ?_
                              refine y_imul rfl ?_
                              refine y_icmp_ge rfl j_X8_firm_138 (fun h_30 => ?_) (fun h_31 => ?_)
                              · refine y_iconst rfl ?_
                                refine y_istore (ls' := [some _, some _, some _, some _, some _, some _, some _, some _]) rfl rfl rfl ?_
                                refine y_aload_n rfl rfl ?_
                                refine y_getR rfl (ySh.t hS rfl) (ySh.n hS rfl) rfl rfl (ySh.r hS rfl) ?_
                                refine y_iload_n rfl rfl ?_
                                refine y_iload rfl rfl ?_
                                refine y_iload rfl rfl ?_
                                refine y_iload rfl rfl ?_
                                refine y_iload rfl rfl ?_
                                refine y_virt rfl rfl rfl rfl rfl (ySh.t hS rfl) (ySh.n hS rfl) ?_
                                refine spu_firmAddE hS hC (by omega) (fun v_ I42 hC hF1 hE_ => ?_)
                                have hF : yFu I I42 := yFu.trans (by repeat (first | exact hF | refine yFu.upd ?_ (by decide))) hF1.t
                                refine y_ret1 ?_
                                refine y_ireturn rfl rfl rfl ?_
                                exact hQ (by omega) _ _ hC (by repeat (first | exact hF | refine yFu.upd ?_ (by decide))) hE_
                              · refine y_bip rfl (by decide) ?_
                                refine y_iload rfl rfl ?_
                                refine y_imul rfl ?_
                                refine y_iconst rfl ?_
                                refine y_iload_n rfl rfl ?_
                                refine y_imul rfl ?_
                                refine y_icmp_gt rfl j_X8_firm_138 (fun h_33 => ?_) (fun h_34 => ?_)
                                · refine y_iconst rfl ?_
                                  refine y_istore (ls' := [some _, some _, some _, some _, some _, some _, some _, some _]) rfl rfl rfl ?_
                                  refine y_aload_n rfl rfl ?_
                                  refine y_getR rfl (ySh.t hS rfl) (ySh.n hS rfl) rfl rfl (ySh.r hS rfl) ?_
                                  refine y_iload_n rfl rfl ?_
                                  refine y_iload rfl rfl ?_
                                  refine y_iload rfl rfl ?_
                                  refine y_iload rfl rfl ?_
                                  refine y_iload rfl rfl ?_
                                  refine y_virt rfl rfl rfl rfl rfl (ySh.t hS rfl) (ySh.n hS rfl) ?_
                                  refine spu_firmAddE hS hC (by omega) (fun v_ I45 hC hF1 hE_ => ?_)
                                  have hF : yFu I I45 := yFu.trans (by repeat (first | exact hF | refine yFu.upd ?_ (by decide))) hF1.t
                                  refine y_ret1 ?_
                                  refine y_ireturn rfl rfl rfl ?_
                                  exact hQ (by omega) _ _ hC (by repeat (first | exact hF | refine yFu.upd ?_ (by decide))) hE_
                                · refine y_iconst rfl ?_
                                  refine y_goto rfl j_X8_firm_139 ?_
                                  refine y_istore (ls' := [some _, some _, some _, some _, some _, some _, some _, some _]) rfl rfl rfl ?_
                                  refine y_aload_n rfl rfl ?_
                                  refine y_getR rfl (ySh.t hS rfl) (ySh.n hS rfl) rfl rfl (ySh.r hS rfl) ?_
                                  refine y_iload_n rfl rfl ?_
                                  refine y_iload rfl rfl ?_
                                  refine y_iload rfl rfl ?_
                                  refine y_iload rfl rfl ?_
                                  refine y_iload rfl rfl ?_
                                  refine y_virt rfl rfl rfl rfl rfl (ySh.t hS rfl) (ySh.n hS rfl) ?_
                                  refine spu_firmAddE hS hC (by omega) (fun v_ I46 hC hF1 hE_ => ?_)
                                  have hF : yFu I I46 := yFu.trans (by repeat (first | exact hF | refine yFu.upd ?_ (by decide))) hF1.t
                                  refine y_ret1 ?_
                                  refine y_ireturn rfl rfl rfl ?_
                                  exact hQ (by omega) _ _ hC (by repeat (first | exact hF | refine yFu.upd ?_ (by decide))) hE_
                          · rw [yz_10] at h_26
                            refine y_throw rfl rfl rfl ?_
                            exact hE2 (by omega)
theorem eu_benchmark (hS : ySh n tg R) (hC : yCI I) {x1 : Int32} (hE1 : ¬ (0 ≤ x1.toInt ∧ x1.toInt ≤ 99) → Q (.inr "java/lang/IllegalArgumentException") (n, tg, I, R) (c + 1) (s + 6)) (hQ : (0 ≤ x1.toInt ∧ x1.toInt ≤ 99) → ∀ (v : Int32) (I1 : Nat → Nat → Int32), yCI I1 → yFu I I1 → (v.toInt = (I 34 9).toInt ∧ (I1 34 9).toInt = x1.toInt) → Q (.inl (some (.int v))) (n, tg, I1, R) c s) : yC 129 [.ref 34, .int x1] (n, tg, I, R) c s Q := by
  have hF : yFu I I := yFu.rf
  refine y_in (M := xm_X8_benchmark) (ls := [some _, some _, _]) rfl rfl rfl ?_
  refine y_iload_n rfl rfl ?_
  refine y_iconst rfl ?_
  refine y_bip rfl (by decide) ?_
  refine y_static rfl rfl rfl rfl rfl ?_
  refine y_in (M := xm_X8_isIn) (ls := [some _, some _, some _]) rfl rfl rfl ?_
  refine y_iload_n rfl rfl ?_
  refine y_iload_n rfl rfl ?_
  refine y_icmp_lt rfl j_X8_isIn_14 (fun h_1 => ?_) (fun h_2 => ?_)
  · rw [yz_0] at h_1
    refine y_iconst rfl ?_
    refine y_ireturn rfl rfl rfl ?_
    refine y_ret1 ?_
    refine y_if_neF rfl (by decide) ?_
    refine y_throw rfl rfl rfl ?_
    exact hE1 (by omega)
  · rw [yz_0] at h_2
    refine y_iload_n rfl rfl ?_
    refine y_iload_n rfl rfl ?_
    refine y_icmp_gt rfl j_X8_isIn_14 (fun h_3 => ?_) (fun h_4 => ?_)
    · rw [yz_99] at h_3
      refine y_iconst rfl ?_
      refine y_ireturn rfl rfl rfl ?_
      refine y_ret1 ?_
      refine y_if_neF rfl (by decide) ?_
      refine y_throw rfl rfl rfl ?_
      exact hE1 (by omega)
    · rw [yz_99] at h_4
      refine y_iconst rfl ?_
      refine y_goto rfl j_X8_isIn_15 ?_
      refine y_ireturn rfl rfl rfl ?_
      refine y_ret1 ?_
      refine y_if_neT rfl j_X8_benchmark_20 (by decide) ?_
      refine y_aload_n rfl rfl ?_
      refine y_getI rfl (ySh.t hS rfl) (ySh.n hS rfl) rfl rfl ?_
      refine y_istore_n (ls' := [some _, some _, some _]) rfl rfl rfl ?_
      refine y_aload_n rfl rfl ?_
      refine y_iload_n rfl rfl ?_
      refine y_putI rfl (ySh.t hS rfl) (ySh.n hS rfl) rfl (Nat.le_of_ble_eq_true rfl) rfl rfl ?_
      refine y_iload_n rfl rfl ?_
      refine y_ireturn rfl rfl rfl ?_
      exact hQ (by omega) _ _ hC (by repeat (first | exact hF | refine yFu.upd ?_ (by decide))) ⟨rfl, congrArg Int32.toInt upd2_self⟩
theorem lpu_passE {I0 : Nat → Nat → Int32} {T0 : Int} (hT0 : T0 ≤ 4000) (hS : ySh n tg R) {x1 : Int32} (hv0 : 1 ≤ x1.toInt) (hv1 : x1.toInt ≤ 400) (hQ : ∀ (v : Int32) (I1 : Nat → Nat → Int32), yCI I1 → yFu I0 I1 → (v.toInt = T0 ∧ (I1 34 8).toInt = T0) → Q (.inl (some (.int v))) (n, tg, I1, R) c s) : ∀ (m : Nat) (x2 : Int32) (I : Nat → Nat → Int32), yCI I → yFu I0 I → (0 ≤ x2.toInt) → (x2.toInt ≤ x1.toInt) → ((I 34 8).toInt + x1.toInt - x2.toInt = T0) → x1.toInt - x2.toInt < m → yW xm_X8_pass xc_X8_pass_47 [some (.ref 34), some (.int x1), some (.int x2)] [] (n, tg, I, R) c s Q := by
  intro m
  induction m with
  | zero => intro x2 I hC hF i0 i1 i2 hm; exfalso; omega
  | succ m ih =>
    intro x2 I hC hF i0 i1 i2 hm
    refine y_iload_n rfl rfl ?_
    refine y_iload_n rfl rfl ?_
    refine y_icmp_ge rfl j_X8_pass_108 (fun h_1 => ?_) (fun h_2 => ?_)
    · refine y_aload_n rfl rfl ?_
      refine y_getI rfl (ySh.t hS rfl) (ySh.n hS rfl) rfl rfl ?_
      refine y_ireturn rfl rfl rfl ?_
      exact hQ _ _ hC (by repeat (first | exact hF | refine yFu.upd ?_ (by decide))) ⟨by omega, by omega⟩
    · refine y_aload_n rfl rfl ?_
      refine y_getR rfl (ySh.t hS rfl) (ySh.n hS rfl) rfl rfl (ySh.r hS rfl) ?_
      refine y_aload_n rfl rfl ?_
      refine y_getI rfl (ySh.t hS rfl) (ySh.n hS rfl) rfl rfl ?_
      refine y_virt rfl rfl rfl rfl rfl (ySh.t hS rfl) (ySh.n hS rfl) ?_
      refine spu_endDay_X0 hS hC (by omega) (by omega) (fun I13 hC hF1 => ?_)
      have hF : yFu I0 I13 := yFu.trans (by repeat (first | exact hF | refine yFu.upd ?_ (by decide))) hF1.t
      have hd : (I13 34 8).toInt = (I 34 8).toInt := congrArg Int32.toInt (hF1 34 8 (Or.inl (by decide)))
      refine y_ret0 ?_
      refine y_aload_n rfl rfl ?_
      refine y_getR rfl (ySh.t hS rfl) (ySh.n hS rfl) rfl rfl (ySh.r hS rfl) ?_
      refine y_virt rfl rfl rfl rfl rfl (ySh.t hS rfl) (ySh.n hS rfl) ?_
      refine spu_endDay_X3 hS hC (fun I14 hC hF1 => ?_)
      have hF : yFu I0 I14 := yFu.trans (by repeat (first | exact hF | refine yFu.upd ?_ (by decide))) hF1.t
      have hd : (I14 34 8).toInt = (I13 34 8).toInt := congrArg Int32.toInt (hF1 34 8 (Or.inl (by decide)))
      refine y_ret0 ?_
      refine y_aload_n rfl rfl ?_
      refine y_dup rfl rfl ?_
      refine y_getI rfl (ySh.t hS rfl) (ySh.n hS rfl) rfl rfl ?_
      refine y_iconst rfl ?_
      refine y_iadd rfl ?_
      refine y_putI rfl (ySh.t hS rfl) (ySh.n hS rfl) rfl (Nat.le_of_ble_eq_true rfl) rfl rfl ?_
      refine y_setC (yCI.inc34 hC (by show (I14 34 8).toInt < 4000; omega)) (fun hC => ?_)
      refine y_aload_n rfl rfl ?_
      refine y_virt rfl rfl rfl rfl rfl (ySh.t hS rfl) (ySh.n hS rfl) ?_
      refine y_setCC (by exact hC) (fun hC => ?_)
      refine spu_collectRents_X8 hS hC (fun I15 hC hF1 => ?_)
      have hF : yFu I0 I15 := yFu.trans (by repeat (first | exact hF | refine yFu.upd ?_ (by decide))) hF1.t
      have hd : (I15 34 8).toInt = (I14 34 8).toInt + 1 := (congrArg Int32.toInt (hF1 34 8 (Or.inl (by decide)))).trans (yinc (by omega))
      refine y_ret0 ?_
      refine y_aload_n rfl rfl ?_
      refine y_getI rfl (ySh.t hS rfl) (ySh.n hS rfl) rfl rfl ?_
      refine y_sip rfl (by decide) ?_
      refine y_irem rfl (by decide) ?_
      refine y_if_ne rfl j_X8_pass_102 (fun h_6 => ?_) (fun h_7 => ?_)
      · refine y_iinc (ls' := [some _, some _, some _]) rfl rfl rfl rfl ?_
        refine y_goto rfl j_X8_pass_47 ?_
        exact ih _ _ hC (by repeat (first | exact hF | refine yFu.upd ?_ (by decide))) (by first | omega | (rw [yinc (by omega)]; omega)) (by first | omega | (rw [yinc (by omega)]; omega)) (by first | omega | (rw [yinc (by omega)]; omega)) (by first | omega | (rw [yinc (by omega)]; omega))
      · refine y_aload_n rfl rfl ?_
        refine y_getR rfl (ySh.t hS rfl) (ySh.n hS rfl) rfl rfl (ySh.r hS rfl) ?_
        refine y_virt rfl rfl rfl rfl rfl (ySh.t hS rfl) (ySh.n hS rfl) ?_
        refine spu_giveAlms_X4 hS hC (fun I18 hC hF1 => ?_)
        have hF : yFu I0 I18 := yFu.trans (by repeat (first | exact hF | refine yFu.upd ?_ (by decide))) hF1.t
        have hd : (I18 34 8).toInt = (I15 34 8).toInt := congrArg Int32.toInt (hF1 34 8 (Or.inl (by decide)))
        refine y_ret0 ?_
        refine y_iinc (ls' := [some _, some _, some _]) rfl rfl rfl rfl ?_
        refine y_goto rfl j_X8_pass_47 ?_
        exact ih _ _ hC (by repeat (first | exact hF | refine yFu.upd ?_ (by decide))) (by first | omega | (rw [yinc (by omega)]; omega)) (by first | omega | (rw [yinc (by omega)]; omega)) (by first | omega | (rw [yinc (by omega)]; omega)) (by first | omega | (rw [yinc (by omega)]; omega))
theorem eu_pass (hS : ySh n tg R) (hC : yCI I) {x1 : Int32} (hE1 : ¬ (1 ≤ x1.toInt ∧ x1.toInt ≤ 400) → Q (.inr "java/lang/IllegalArgumentException") (n, tg, I, R) (c + 1) (s + 6)) (hE2 : (1 ≤ x1.toInt ∧ x1.toInt ≤ 400) ∧ 4000 < (I 34 8).toInt + x1.toInt → Q (.inr "java/lang/IllegalStateException") (n, tg, I, R) (c + 1) (s + 6)) (hQ : (1 ≤ x1.toInt ∧ x1.toInt ≤ 400) ∧ (I 34 8).toInt + x1.toInt ≤ 4000 → ∀ (v : Int32) (I1 : Nat → Nat → Int32), yCI I1 → yFu I I1 → (v.toInt = (I 34 8).toInt + x1.toInt ∧ (I1 34 8).toInt = (I 34 8).toInt + x1.toInt) → Q (.inl (some (.int v))) (n, tg, I1, R) c s) : yC 141 [.ref 34, .int x1] (n, tg, I, R) c s Q := by
  have hF : yFu I I := yFu.rf
  refine y_in (M := xm_X8_pass) (ls := [some _, some _, _]) rfl rfl rfl ?_
  refine y_iload_n rfl rfl ?_
  refine y_iconst rfl ?_
  refine y_sip rfl (by decide) ?_
  refine y_static rfl rfl rfl rfl rfl ?_
  refine y_in (M := xm_X8_isIn) (ls := [some _, some _, some _]) rfl rfl rfl ?_
  refine y_iload_n rfl rfl ?_
  refine y_iload_n rfl rfl ?_
  refine y_icmp_lt rfl j_X8_isIn_14 (fun h_1 => ?_) (fun h_2 => ?_)
  · rw [yz_1] at h_1
    refine y_iconst rfl ?_
    refine y_ireturn rfl rfl rfl ?_
    refine y_ret1 ?_
    refine y_if_neF rfl (by decide) ?_
    refine y_throw rfl rfl rfl ?_
    exact hE1 (by omega)
  · rw [yz_1] at h_2
    refine y_iload_n rfl rfl ?_
    refine y_iload_n rfl rfl ?_
    refine y_icmp_gt rfl j_X8_isIn_14 (fun h_3 => ?_) (fun h_4 => ?_)
    · rw [yz_400] at h_3
      refine y_iconst rfl ?_
      refine y_ireturn rfl rfl rfl ?_
      refine y_ret1 ?_
      refine y_if_neF rfl (by decide) ?_
      refine y_throw rfl rfl rfl ?_
      exact hE1 (by omega)
    · rw [yz_400] at h_4
      refine y_iconst rfl ?_
      refine y_goto rfl j_X8_isIn_15 ?_
      refine y_ireturn rfl rfl rfl ?_
      refine y_ret1 ?_
      refine y_if_neT rfl j_X8_pass_22 (by decide) ?_
      refine y_aload_n rfl rfl ?_
      refine y_getI rfl (ySh.t hS rfl) (ySh.n hS rfl) rfl rfl ?_
      refine y_iload_n rfl rfl ?_
      refine y_iadd rfl ?_
      refine y_sip rfl (by decide) ?_
      refine y_icmp_le rfl j_X8_pass_45 (fun h_5 => ?_) (fun h_6 => ?_)
      · rw [yz_4000] at h_5
        rw [yadd (by omega) (by omega)] at h_5
        refine y_iconst rfl ?_
        refine y_istore_n (ls' := [some _, some _, some _]) rfl rfl rfl ?_
        exact lpu_passE (T0 := (I 34 8).toInt + x1.toInt) (by omega) hS (by omega) (by omega) (hQ (by omega)) 1000 _ _ hC (by repeat (first | exact hF | refine yFu.upd ?_ (by decide))) (by decide) (by rw [yz_0]; omega) (by rw [yz_0]; omega) (by rw [yz_0]; omega)
      · rw [yz_4000] at h_6
        rw [yadd (by omega) (by omega)] at h_6
        refine y_throw rfl rfl rfl ?_
        exact hE2 (by omega)
end YFU
