/-! TELL ON BOTH SIDES (by gen40.py) -/
/-- what the cells that are only read hold: coders 0, bytes -/
def yCo (I : Nat → Nat → Int32) : Prop := (∀ a, a < 33 → 3 ≤ a → a % 2 = 1 → I a 1 = Int32.ofInt 0) ∧ ∀ a m, a < 33 → yt0 a = some (2, m) → yBy I a m
theorem yCo.cong {I I1 : Nat → Nat → Int32} (h : yCo I) (hI : ∀ a, a < 33 → I1 a = I a) : yCo I1 := ⟨fun a h1 h2 h3 => by rw [hI a h1]; exact h.1 a h1 h2 h3, fun a m h1 h2 k hk => by rw [hI a h1]; exact h.2 a m h1 h2 k hk⟩
theorem yStr0 {n : Nat} {tg : Nat → yT} {I : Nat → Nat → Int32} {R : Nat → Nat → Value} {a v m : Nat} (hS : ySh n tg R) (hC : yCo I) (ha : yt0 a = some (4, 0)) (hv : yt0 v = some (2, m)) (hr : yr0 a 0 = some v) (h1 : Nat.blt a 33 = true) (h2 : Nat.ble 3 a = true) (h3 : Nat.beq (a % 2) 1 = true) (h4 : Nat.blt v 33 = true) : yStr n tg I R a v m :=
  ⟨Nat.lt_of_lt_of_le (blt_lt h1) (Nat.le_trans (by decide) hS.1), hS.t ha, hS.r hr, Nat.lt_of_lt_of_le (blt_lt h4) (Nat.le_trans (by decide) hS.1), hS.t hv, hC.1 a (blt_lt h1) (Nat.le_of_ble_eq_true h2) (Nat.eq_of_beq_eq_true h3), hC.2 v m (blt_lt h4) hv⟩
section YUB
variable {K nb n : Nat} {tg : Nat → yT} {I : Nat → Nat → Int32} {R : Nat → Nat → Value} {c s : Nat} {Q : yQ}
theorem m_tell21 (hS0 : ySh n tg R) (hCo : yCo I) {x1 : Int32} (hv0 : 0 ≤ x1.toInt) (hv1 : x1.toInt < 12) (hQ : ∀ v n1 tg1 I1 R1 c1 s1, yX n tg I R n1 tg1 I1 R1 → v < n1 → c1 ≤ c + 14 → s1 ≤ s + 1900 → Q (.inl (some (.ref v))) (n1, tg1, I1, R1) c1 s1) : yW xm_X8_tell xc_X8_tell_21 [some (.ref 34), some (.int x1), none] [] (n, tg, I, R) c s Q := by
  have h94 : 94 ≤ n := hS0.1
  have hS := hS0
  have hX := @yX.rf n tg I R
  refine y_newX rfl rfl rfl (fun n_1 tg_1 I_1 R_1 hA => ?_)
  refine y_dup rfl rfl ?_
  refine y_init rfl rfl rfl rfl rfl ?_
  refine t_init hA h94 (fun n_1 tg_1 I_1 R_1 bf hX hB => ?_)
  refine y_ret0 ?_
  have hS := hS0.x hX
  refine y_astore_n (ls' := [some _, some _, some _]) rfl rfl rfl ?_
  refine y_aload_n rfl rfl ?_
  refine y_ldcwS rfl rfl (ySh.n hS rfl) ?_
  refine y_virt rfl rfl rfl rfl rfl hB.1.2.2 hB.1.2.1 ?_
  refine t_app hX h94 hB (yStr0 hS0 hCo (a := 3) (v := 4) rfl rfl rfl rfl rfl rfl rfl) (by omega) (fun n_2 tg_2 I_2 R_2 bf_2 m_2 c_2 s_2 hX hB hc_2 hs_2 => ?_)
  have hS := hS0.x hX
  refine y_ret1 ?_
  refine y_iload_n rfl rfl ?_
  refine y_virt rfl rfl rfl rfl rfl hB.1.2.2 hB.1.2.1 ?_
  refine t_appi hX h94 hB (ySh.t hS0 rfl) (ySh.t hS0 rfl) (hCo.2 1 100 (by decide) rfl) (hCo.2 2 100 (by decide) rfl) (by omega) (fun n_3 tg_3 I_3 R_3 bf_3 m_3 c_3 s_3 hX hB hc_3 hs_3 => ?_)
  have hS := hS0.x hX
  refine y_ret1 ?_
  refine y_ldcwS rfl rfl (ySh.n hS rfl) ?_
  refine y_virt rfl rfl rfl rfl rfl hB.1.2.2 hB.1.2.1 ?_
  refine t_app hX h94 hB (yStr0 hS0 hCo (a := 5) (v := 6) rfl rfl rfl rfl rfl rfl rfl) (by omega) (fun n_4 tg_4 I_4 R_4 bf_4 m_4 c_4 s_4 hX hB hc_4 hs_4 => ?_)
  have hS := hS0.x hX
  refine y_ret1 ?_
  refine y_aload_n rfl rfl ?_
  refine y_getR rfl (ySh.t hS rfl) (ySh.n hS rfl) rfl rfl (ySh.r hS rfl) ?_
  refine y_getR rfl (ySh.t hS rfl) (ySh.n hS rfl) rfl rfl (ySh.r hS rfl) ?_
  refine y_iload_n rfl rfl ?_
  refine y_iaload rfl (ySh.t hS rfl) (ySh.n hS rfl) (by omega) (by omega) ?_
  refine y_virt rfl rfl rfl rfl rfl hB.1.2.2 hB.1.2.1 ?_
  refine t_appi hX h94 hB (ySh.t hS0 rfl) (ySh.t hS0 rfl) (hCo.2 1 100 (by decide) rfl) (hCo.2 2 100 (by decide) rfl) (by omega) (fun n_5 tg_5 I_5 R_5 bf_5 m_5 c_5 s_5 hX hB hc_5 hs_5 => ?_)
  have hS := hS0.x hX
  refine y_ret1 ?_
  refine y_pop rfl rfl ?_
  refine y_aload_n rfl rfl ?_
  refine y_ldcwS rfl rfl (ySh.n hS rfl) ?_
  refine y_virt rfl rfl rfl rfl rfl hB.1.2.2 hB.1.2.1 ?_
  refine t_app hX h94 hB (yStr0 hS0 hCo (a := 7) (v := 8) rfl rfl rfl rfl rfl rfl rfl) (by omega) (fun n_6 tg_6 I_6 R_6 bf_6 m_6 c_6 s_6 hX hB hc_6 hs_6 => ?_)
  have hS := hS0.x hX
  refine y_ret1 ?_
  refine y_aload_n rfl rfl ?_
  refine y_getR rfl (ySh.t hS rfl) (ySh.n hS rfl) rfl rfl (ySh.r hS rfl) ?_
  refine y_getR rfl (ySh.t hS rfl) (ySh.n hS rfl) rfl rfl (ySh.r hS rfl) ?_
  refine y_iload_n rfl rfl ?_
  refine y_iaload rfl (ySh.t hS rfl) (ySh.n hS rfl) (by omega) (by omega) ?_
  refine y_virt rfl rfl rfl rfl rfl hB.1.2.2 hB.1.2.1 ?_
  refine t_appi hX h94 hB (ySh.t hS0 rfl) (ySh.t hS0 rfl) (hCo.2 1 100 (by decide) rfl) (hCo.2 2 100 (by decide) rfl) (by omega) (fun n_7 tg_7 I_7 R_7 bf_7 m_7 c_7 s_7 hX hB hc_7 hs_7 => ?_)
  have hS := hS0.x hX
  refine y_ret1 ?_
  refine y_pop rfl rfl ?_
  refine y_aload_n rfl rfl ?_
  refine y_getR rfl (ySh.t hS rfl) (ySh.n hS rfl) rfl rfl (ySh.r hS rfl) ?_
  refine y_iload_n rfl rfl ?_
  refine y_virt rfl rfl rfl rfl rfl (ySh.t hS rfl) (ySh.n hS rfl) ?_
  refine y_in (M := xm_X5_isVoid) (ls := [some _, some _]) rfl rfl rfl ?_
  refine y_aload_n rfl rfl ?_
  refine y_getR rfl (ySh.t hS rfl) (ySh.n hS rfl) rfl rfl (ySh.r hS rfl) ?_
  refine y_iload_n rfl rfl ?_
  refine y_iaload rfl (ySh.t hS rfl) (ySh.n hS rfl) (by omega) (by omega) ?_
  refine y_if_eq rfl j_X5_isVoid_13 (fun h_1 => ?_) (fun h_2 => ?_)
  · refine y_iconst rfl ?_
    refine y_ireturn rfl rfl rfl ?_
    refine y_ret1 ?_
    refine y_if_eqT rfl j_X8_tell_101 (by decide) ?_
    refine y_aload_n rfl rfl ?_
    refine y_getR rfl (ySh.t hS rfl) (ySh.n hS rfl) rfl rfl (ySh.r hS rfl) ?_
    refine y_iload_n rfl rfl ?_
    refine y_virt rfl rfl rfl rfl rfl (ySh.t hS rfl) (ySh.n hS rfl) ?_
    refine y_in (M := xm_X5_isDone) (ls := [some _, some _]) rfl rfl rfl ?_
    refine y_aload_n rfl rfl ?_
    refine y_iload_n rfl rfl ?_
    refine y_virt rfl rfl rfl rfl rfl (ySh.t hS rfl) (ySh.n hS rfl) ?_
    refine y_in (M := xm_X5_isVoid) (ls := [some _, some _]) rfl rfl rfl ?_
    refine y_aload_n rfl rfl ?_
    refine y_getR rfl (ySh.t hS rfl) (ySh.n hS rfl) rfl rfl (ySh.r hS rfl) ?_
    refine y_iload_n rfl rfl ?_
    refine y_iaload rfl (ySh.t hS rfl) (ySh.n hS rfl) (by omega) (by omega) ?_
    refine y_if_eq rfl j_X5_isVoid_13 (fun h_3 => ?_) (fun h_4 => ?_)
    · refine y_iconst rfl ?_
      refine y_ireturn rfl rfl rfl ?_
      refine y_ret1 ?_
      refine y_if_neF rfl (by decide) ?_
      refine y_aload_n rfl rfl ?_
      refine y_getR rfl (ySh.t hS rfl) (ySh.n hS rfl) rfl rfl (ySh.r hS rfl) ?_
      refine y_iload_n rfl rfl ?_
      refine y_iaload rfl (ySh.t hS rfl) (ySh.n hS rfl) (by omega) (by omega) ?_
      refine y_aload_n rfl rfl ?_
      refine y_getR rfl (ySh.t hS rfl) (ySh.n hS rfl) rfl rfl (ySh.r hS rfl) ?_
      refine y_iload_n rfl rfl ?_
      refine y_iaload rfl (ySh.t hS rfl) (ySh.n hS rfl) (by omega) (by omega) ?_
      refine y_icmp_lt rfl j_X5_isDone_27 (fun h_5 => ?_) (fun h_6 => ?_)
      · refine y_iconst rfl ?_
        refine y_ireturn rfl rfl rfl ?_
        refine y_ret1 ?_
        refine y_if_eqT rfl j_X8_tell_123 (by decide) ?_
        refine y_aload_n rfl rfl ?_
        refine y_ldcwS rfl rfl (ySh.n hS rfl) ?_
        refine y_virt rfl rfl rfl rfl rfl hB.1.2.2 hB.1.2.1 ?_
        refine t_app hX h94 hB (yStr0 hS0 hCo (a := 13) (v := 14) rfl rfl rfl rfl rfl rfl rfl) (by omega) (fun n_8 tg_8 I_8 R_8 bf_8 m_8 c_8 s_8 hX hB hc_8 hs_8 => ?_)
        have hS := hS0.x hX
        refine y_ret1 ?_
        refine y_aload_n rfl rfl ?_
        refine y_getR rfl (ySh.t hS rfl) (ySh.n hS rfl) rfl rfl (ySh.r hS rfl) ?_
        refine y_iload_n rfl rfl ?_
        refine y_virt rfl rfl rfl rfl rfl (ySh.t hS rfl) (ySh.n hS rfl) ?_
        refine y_in (M := xm_X5_partsLeft) (ls := [some _, some _]) rfl rfl rfl ?_
        refine y_aload_n rfl rfl ?_
        refine y_iload_n rfl rfl ?_
        refine y_virt rfl rfl rfl rfl rfl (ySh.t hS rfl) (ySh.n hS rfl) ?_
        refine y_in (M := xm_X5_isOpen) (ls := [some _, some _]) rfl rfl rfl ?_
        refine y_aload_n rfl rfl ?_
        refine y_iload_n rfl rfl ?_
        refine y_virt rfl rfl rfl rfl rfl (ySh.t hS rfl) (ySh.n hS rfl) ?_
        refine y_in (M := xm_X5_isVoid) (ls := [some _, some _]) rfl rfl rfl ?_
        refine y_aload_n rfl rfl ?_
        refine y_getR rfl (ySh.t hS rfl) (ySh.n hS rfl) rfl rfl (ySh.r hS rfl) ?_
        refine y_iload_n rfl rfl ?_
        refine y_iaload rfl (ySh.t hS rfl) (ySh.n hS rfl) (by omega) (by omega) ?_
        refine y_if_eq rfl j_X5_isVoid_13 (fun h_7 => ?_) (fun h_8 => ?_)
        · refine y_iconst rfl ?_
          refine y_ireturn rfl rfl rfl ?_
          refine y_ret1 ?_
          refine y_if_neF rfl (by decide) ?_
          refine y_aload_n rfl rfl ?_
          refine y_getR rfl (ySh.t hS rfl) (ySh.n hS rfl) rfl rfl (ySh.r hS rfl) ?_
          refine y_iload_n rfl rfl ?_
          refine y_iaload rfl (ySh.t hS rfl) (ySh.n hS rfl) (by omega) (by omega) ?_
          refine y_aload_n rfl rfl ?_
          refine y_getR rfl (ySh.t hS rfl) (ySh.n hS rfl) rfl rfl (ySh.r hS rfl) ?_
          refine y_iload_n rfl rfl ?_
          refine y_iaload rfl (ySh.t hS rfl) (ySh.n hS rfl) (by omega) (by omega) ?_
          refine y_icmp_ge rfl j_X5_isOpen_27 (fun h_9 => ?_) (fun h_10 => ?_)
          · refine y_iconst rfl ?_
            refine y_ireturn rfl rfl rfl ?_
            refine y_ret1 ?_
            refine y_if_eqT rfl j_X5_partsLeft_24 (by decide) ?_
            refine y_iconst rfl ?_
            refine y_ireturn rfl rfl rfl ?_
            refine y_ret1 ?_
            refine y_virt rfl rfl rfl rfl rfl hB.1.2.2 hB.1.2.1 ?_
            refine t_appi hX h94 hB (ySh.t hS0 rfl) (ySh.t hS0 rfl) (hCo.2 1 100 (by decide) rfl) (hCo.2 2 100 (by decide) rfl) (by omega) (fun n_9 tg_9 I_9 R_9 bf_9 m_9 c_9 s_9 hX hB hc_9 hs_9 => ?_)
            have hS := hS0.x hX
            refine y_ret1 ?_
            refine y_ldcwS rfl rfl (ySh.n hS rfl) ?_
            refine y_virt rfl rfl rfl rfl rfl hB.1.2.2 hB.1.2.1 ?_
            refine t_app hX h94 hB (yStr0 hS0 hCo (a := 15) (v := 16) rfl rfl rfl rfl rfl rfl rfl) (by omega) (fun n_10 tg_10 I_10 R_10 bf_10 m_10 c_10 s_10 hX hB hc_10 hs_10 => ?_)
            have hS := hS0.x hX
            refine y_ret1 ?_
            refine y_pop rfl rfl ?_
            refine y_aload_n rfl rfl ?_
            refine y_virt rfl rfl rfl rfl rfl hB.1.2.2 hB.1.2.1 ?_
            refine t_str hX h94 hB (fun e_ v_ k_ n_11 tg_11 I_11 R_11 c_11 s_11 hX he hk_ hc_11 hs_11 => ?_)
            have hS := hS0.x hX
            refine y_ret1 ?_
            refine y_areturn rfl ?_
            exact hQ _ _ _ _ _ _ _ hX he.1 (by omega) (by omega)
          · refine y_iconst rfl ?_
            refine y_goto rfl j_X5_isOpen_28 ?_
            refine y_ireturn rfl rfl rfl ?_
            refine y_ret1 ?_
            refine y_if_eqF rfl (by decide) ?_
            refine y_aload_n rfl rfl ?_
            refine y_getR rfl (ySh.t hS rfl) (ySh.n hS rfl) rfl rfl (ySh.r hS rfl) ?_
            refine y_iload_n rfl rfl ?_
            refine y_iaload rfl (ySh.t hS rfl) (ySh.n hS rfl) (by omega) (by omega) ?_
            refine y_aload_n rfl rfl ?_
            refine y_getR rfl (ySh.t hS rfl) (ySh.n hS rfl) rfl rfl (ySh.r hS rfl) ?_
            refine y_iload_n rfl rfl ?_
            refine y_iaload rfl (ySh.t hS rfl) (ySh.n hS rfl) (by omega) (by omega) ?_
            refine y_isub rfl ?_
            refine y_goto rfl j_X5_partsLeft_25 ?_
            refine y_ireturn rfl rfl rfl ?_
            refine y_ret1 ?_
            refine y_virt rfl rfl rfl rfl rfl hB.1.2.2 hB.1.2.1 ?_
            refine t_appi hX h94 hB (ySh.t hS0 rfl) (ySh.t hS0 rfl) (hCo.2 1 100 (by decide) rfl) (hCo.2 2 100 (by decide) rfl) (by omega) (fun n_12 tg_12 I_12 R_12 bf_12 m_12 c_12 s_12 hX hB hc_12 hs_12 => ?_)
            have hS := hS0.x hX
            refine y_ret1 ?_
            refine y_ldcwS rfl rfl (ySh.n hS rfl) ?_
            refine y_virt rfl rfl rfl rfl rfl hB.1.2.2 hB.1.2.1 ?_
            refine t_app hX h94 hB (yStr0 hS0 hCo (a := 15) (v := 16) rfl rfl rfl rfl rfl rfl rfl) (by omega) (fun n_13 tg_13 I_13 R_13 bf_13 m_13 c_13 s_13 hX hB hc_13 hs_13 => ?_)
            have hS := hS0.x hX
            refine y_ret1 ?_
            refine y_pop rfl rfl ?_
            refine y_aload_n rfl rfl ?_
            refine y_virt rfl rfl rfl rfl rfl hB.1.2.2 hB.1.2.1 ?_
            refine t_str hX h94 hB (fun e_ v_ k_ n_14 tg_14 I_14 R_14 c_14 s_14 hX he hk_ hc_14 hs_14 => ?_)
            have hS := hS0.x hX
            refine y_ret1 ?_
            refine y_areturn rfl ?_
            exact hQ _ _ _ _ _ _ _ hX he.1 (by omega) (by omega)
        · refine y_iconst rfl ?_
          refine y_goto rfl j_X5_isVoid_14 ?_
          refine y_ireturn rfl rfl rfl ?_
          refine y_ret1 ?_
          refine y_if_neT rfl j_X5_isOpen_27 (by decide) ?_
          refine y_iconst rfl ?_
          refine y_ireturn rfl rfl rfl ?_
          refine y_ret1 ?_
          refine y_if_eqT rfl j_X5_partsLeft_24 (by decide) ?_
          refine y_iconst rfl ?_
          refine y_ireturn rfl rfl rfl ?_
          refine y_ret1 ?_
          refine y_virt rfl rfl rfl rfl rfl hB.1.2.2 hB.1.2.1 ?_
          refine t_appi hX h94 hB (ySh.t hS0 rfl) (ySh.t hS0 rfl) (hCo.2 1 100 (by decide) rfl) (hCo.2 2 100 (by decide) rfl) (by omega) (fun n_15 tg_15 I_15 R_15 bf_15 m_15 c_15 s_15 hX hB hc_15 hs_15 => ?_)
          have hS := hS0.x hX
          refine y_ret1 ?_
          refine y_ldcwS rfl rfl (ySh.n hS rfl) ?_
          refine y_virt rfl rfl rfl rfl rfl hB.1.2.2 hB.1.2.1 ?_
          refine t_app hX h94 hB (yStr0 hS0 hCo (a := 15) (v := 16) rfl rfl rfl rfl rfl rfl rfl) (by omega) (fun n_16 tg_16 I_16 R_16 bf_16 m_16 c_16 s_16 hX hB hc_16 hs_16 => ?_)
          have hS := hS0.x hX
          refine y_ret1 ?_
          refine y_pop rfl rfl ?_
          refine y_aload_n rfl rfl ?_
          refine y_virt rfl rfl rfl rfl rfl hB.1.2.2 hB.1.2.1 ?_
          refine t_str hX h94 hB (fun e_ v_ k_ n_17 tg_17 I_17 R_17 c_17 s_17 hX he hk_ hc_17 hs_17 => ?_)
          have hS := hS0.x hX
          refine y_ret1 ?_
          refine y_areturn rfl ?_
          exact hQ _ _ _ _ _ _ _ hX he.1 (by omega) (by omega)
      · refine y_iconst rfl ?_
        refine y_goto rfl j_X5_isDone_28 ?_
        refine y_ireturn rfl rfl rfl ?_
        refine y_ret1 ?_
        refine y_if_eqF rfl (by decide) ?_
        refine y_aload_n rfl rfl ?_
        refine y_ldcwS rfl rfl (ySh.n hS rfl) ?_
        refine y_virt rfl rfl rfl rfl rfl hB.1.2.2 hB.1.2.1 ?_
        refine t_app hX h94 hB (yStr0 hS0 hCo (a := 11) (v := 12) rfl rfl rfl rfl rfl rfl rfl) (by omega) (fun n_18 tg_18 I_18 R_18 bf_18 m_18 c_18 s_18 hX hB hc_18 hs_18 => ?_)
        have hS := hS0.x hX
        refine y_ret1 ?_
        refine y_pop rfl rfl ?_
        refine y_goto rfl j_X8_tell_148 ?_
        refine y_aload_n rfl rfl ?_
        refine y_virt rfl rfl rfl rfl rfl hB.1.2.2 hB.1.2.1 ?_
        refine t_str hX h94 hB (fun e_ v_ k_ n_19 tg_19 I_19 R_19 c_19 s_19 hX he hk_ hc_19 hs_19 => ?_)
        have hS := hS0.x hX
        refine y_ret1 ?_
        refine y_areturn rfl ?_
        exact hQ _ _ _ _ _ _ _ hX he.1 (by omega) (by omega)
    · refine y_iconst rfl ?_
      refine y_goto rfl j_X5_isVoid_14 ?_
      refine y_ireturn rfl rfl rfl ?_
      refine y_ret1 ?_
      refine y_if_neT rfl j_X5_isDone_27 (by decide) ?_
      refine y_iconst rfl ?_
      refine y_ireturn rfl rfl rfl ?_
      refine y_ret1 ?_
      refine y_if_eqT rfl j_X8_tell_123 (by decide) ?_
      refine y_aload_n rfl rfl ?_
      refine y_ldcwS rfl rfl (ySh.n hS rfl) ?_
      refine y_virt rfl rfl rfl rfl rfl hB.1.2.2 hB.1.2.1 ?_
      refine t_app hX h94 hB (yStr0 hS0 hCo (a := 13) (v := 14) rfl rfl rfl rfl rfl rfl rfl) (by omega) (fun n_20 tg_20 I_20 R_20 bf_20 m_20 c_20 s_20 hX hB hc_20 hs_20 => ?_)
      have hS := hS0.x hX
      refine y_ret1 ?_
      refine y_aload_n rfl rfl ?_
      refine y_getR rfl (ySh.t hS rfl) (ySh.n hS rfl) rfl rfl (ySh.r hS rfl) ?_
      refine y_iload_n rfl rfl ?_
      refine y_virt rfl rfl rfl rfl rfl (ySh.t hS rfl) (ySh.n hS rfl) ?_
      refine y_in (M := xm_X5_partsLeft) (ls := [some _, some _]) rfl rfl rfl ?_
      refine y_aload_n rfl rfl ?_
      refine y_iload_n rfl rfl ?_
      refine y_virt rfl rfl rfl rfl rfl (ySh.t hS rfl) (ySh.n hS rfl) ?_
      refine y_in (M := xm_X5_isOpen) (ls := [some _, some _]) rfl rfl rfl ?_
      refine y_aload_n rfl rfl ?_
      refine y_iload_n rfl rfl ?_
      refine y_virt rfl rfl rfl rfl rfl (ySh.t hS rfl) (ySh.n hS rfl) ?_
      refine y_in (M := xm_X5_isVoid) (ls := [some _, some _]) rfl rfl rfl ?_
      refine y_aload_n rfl rfl ?_
      refine y_getR rfl (ySh.t hS rfl) (ySh.n hS rfl) rfl rfl (ySh.r hS rfl) ?_
      refine y_iload_n rfl rfl ?_
      refine y_iaload rfl (ySh.t hS rfl) (ySh.n hS rfl) (by omega) (by omega) ?_
      refine y_if_eq rfl j_X5_isVoid_13 (fun h_11 => ?_) (fun h_12 => ?_)
      · refine y_iconst rfl ?_
        refine y_ireturn rfl rfl rfl ?_
        refine y_ret1 ?_
        refine y_if_neF rfl (by decide) ?_
        refine y_aload_n rfl rfl ?_
        refine y_getR rfl (ySh.t hS rfl) (ySh.n hS rfl) rfl rfl (ySh.r hS rfl) ?_
        refine y_iload_n rfl rfl ?_
        refine y_iaload rfl (ySh.t hS rfl) (ySh.n hS rfl) (by omega) (by omega) ?_
        refine y_aload_n rfl rfl ?_
        refine y_getR rfl (ySh.t hS rfl) (ySh.n hS rfl) rfl rfl (ySh.r hS rfl) ?_
        refine y_iload_n rfl rfl ?_
        refine y_iaload rfl (ySh.t hS rfl) (ySh.n hS rfl) (by omega) (by omega) ?_
        refine y_icmp_ge rfl j_X5_isOpen_27 (fun h_13 => ?_) (fun h_14 => ?_)
        · refine y_iconst rfl ?_
          refine y_ireturn rfl rfl rfl ?_
          refine y_ret1 ?_
          refine y_if_eqT rfl j_X5_partsLeft_24 (by decide) ?_
          refine y_iconst rfl ?_
          refine y_ireturn rfl rfl rfl ?_
          refine y_ret1 ?_
          refine y_virt rfl rfl rfl rfl rfl hB.1.2.2 hB.1.2.1 ?_
          refine t_appi hX h94 hB (ySh.t hS0 rfl) (ySh.t hS0 rfl) (hCo.2 1 100 (by decide) rfl) (hCo.2 2 100 (by decide) rfl) (by omega) (fun n_21 tg_21 I_21 R_21 bf_21 m_21 c_21 s_21 hX hB hc_21 hs_21 => ?_)
          have hS := hS0.x hX
          refine y_ret1 ?_
          refine y_ldcwS rfl rfl (ySh.n hS rfl) ?_
          refine y_virt rfl rfl rfl rfl rfl hB.1.2.2 hB.1.2.1 ?_
          refine t_app hX h94 hB (yStr0 hS0 hCo (a := 15) (v := 16) rfl rfl rfl rfl rfl rfl rfl) (by omega) (fun n_22 tg_22 I_22 R_22 bf_22 m_22 c_22 s_22 hX hB hc_22 hs_22 => ?_)
          have hS := hS0.x hX
          refine y_ret1 ?_
          refine y_pop rfl rfl ?_
          refine y_aload_n rfl rfl ?_
          refine y_virt rfl rfl rfl rfl rfl hB.1.2.2 hB.1.2.1 ?_
          refine t_str hX h94 hB (fun e_ v_ k_ n_23 tg_23 I_23 R_23 c_23 s_23 hX he hk_ hc_23 hs_23 => ?_)
          have hS := hS0.x hX
          refine y_ret1 ?_
          refine y_areturn rfl ?_
          exact hQ _ _ _ _ _ _ _ hX he.1 (by omega) (by omega)
        · refine y_iconst rfl ?_
          refine y_goto rfl j_X5_isOpen_28 ?_
          refine y_ireturn rfl rfl rfl ?_
          refine y_ret1 ?_
          refine y_if_eqF rfl (by decide) ?_
          refine y_aload_n rfl rfl ?_
          refine y_getR rfl (ySh.t hS rfl) (ySh.n hS rfl) rfl rfl (ySh.r hS rfl) ?_
          refine y_iload_n rfl rfl ?_
          refine y_iaload rfl (ySh.t hS rfl) (ySh.n hS rfl) (by omega) (by omega) ?_
          refine y_aload_n rfl rfl ?_
          refine y_getR rfl (ySh.t hS rfl) (ySh.n hS rfl) rfl rfl (ySh.r hS rfl) ?_
          refine y_iload_n rfl rfl ?_
          refine y_iaload rfl (ySh.t hS rfl) (ySh.n hS rfl) (by omega) (by omega) ?_
          refine y_isub rfl ?_
          refine y_goto rfl j_X5_partsLeft_25 ?_
          refine y_ireturn rfl rfl rfl ?_
          refine y_ret1 ?_
          refine y_virt rfl rfl rfl rfl rfl hB.1.2.2 hB.1.2.1 ?_
          refine t_appi hX h94 hB (ySh.t hS0 rfl) (ySh.t hS0 rfl) (hCo.2 1 100 (by decide) rfl) (hCo.2 2 100 (by decide) rfl) (by omega) (fun n_24 tg_24 I_24 R_24 bf_24 m_24 c_24 s_24 hX hB hc_24 hs_24 => ?_)
          have hS := hS0.x hX
          refine y_ret1 ?_
          refine y_ldcwS rfl rfl (ySh.n hS rfl) ?_
          refine y_virt rfl rfl rfl rfl rfl hB.1.2.2 hB.1.2.1 ?_
          refine t_app hX h94 hB (yStr0 hS0 hCo (a := 15) (v := 16) rfl rfl rfl rfl rfl rfl rfl) (by omega) (fun n_25 tg_25 I_25 R_25 bf_25 m_25 c_25 s_25 hX hB hc_25 hs_25 => ?_)
          have hS := hS0.x hX
          refine y_ret1 ?_
          refine y_pop rfl rfl ?_
          refine y_aload_n rfl rfl ?_
          refine y_virt rfl rfl rfl rfl rfl hB.1.2.2 hB.1.2.1 ?_
          refine t_str hX h94 hB (fun e_ v_ k_ n_26 tg_26 I_26 R_26 c_26 s_26 hX he hk_ hc_26 hs_26 => ?_)
          have hS := hS0.x hX
          refine y_ret1 ?_
          refine y_areturn rfl ?_
          exact hQ _ _ _ _ _ _ _ hX he.1 (by omega) (by omega)
      · refine y_iconst rfl ?_
        refine y_goto rfl j_X5_isVoid_14 ?_
        refine y_ireturn rfl rfl rfl ?_
        refine y_ret1 ?_
        refine y_if_neT rfl j_X5_isOpen_27 (by decide) ?_
        refine y_iconst rfl ?_
        refine y_ireturn rfl rfl rfl ?_
        refine y_ret1 ?_
        refine y_if_eqT rfl j_X5_partsLeft_24 (by decide) ?_
        refine y_iconst rfl ?_
        refine y_ireturn rfl rfl rfl ?_
        refine y_ret1 ?_
        refine y_virt rfl rfl rfl rfl rfl hB.1.2.2 hB.1.2.1 ?_
        refine t_appi hX h94 hB (ySh.t hS0 rfl) (ySh.t hS0 rfl) (hCo.2 1 100 (by decide) rfl) (hCo.2 2 100 (by decide) rfl) (by omega) (fun n_27 tg_27 I_27 R_27 bf_27 m_27 c_27 s_27 hX hB hc_27 hs_27 => ?_)
        have hS := hS0.x hX
        refine y_ret1 ?_
        refine y_ldcwS rfl rfl (ySh.n hS rfl) ?_
        refine y_virt rfl rfl rfl rfl rfl hB.1.2.2 hB.1.2.1 ?_
        refine t_app hX h94 hB (yStr0 hS0 hCo (a := 15) (v := 16) rfl rfl rfl rfl rfl rfl rfl) (by omega) (fun n_28 tg_28 I_28 R_28 bf_28 m_28 c_28 s_28 hX hB hc_28 hs_28 => ?_)
        have hS := hS0.x hX
        refine y_ret1 ?_
        refine y_pop rfl rfl ?_
        refine y_aload_n rfl rfl ?_
        refine y_virt rfl rfl rfl rfl rfl hB.1.2.2 hB.1.2.1 ?_
        refine t_str hX h94 hB (fun e_ v_ k_ n_29 tg_29 I_29 R_29 c_29 s_29 hX he hk_ hc_29 hs_29 => ?_)
        have hS := hS0.x hX
        refine y_ret1 ?_
        refine y_areturn rfl ?_
        exact hQ _ _ _ _ _ _ _ hX he.1 (by omega) (by omega)
  · refine y_iconst rfl ?_
    refine y_goto rfl j_X5_isVoid_14 ?_
    refine y_ireturn rfl rfl rfl ?_
    refine y_ret1 ?_
    refine y_if_eqF rfl (by decide) ?_
    refine y_aload_n rfl rfl ?_
    refine y_ldcwS rfl rfl (ySh.n hS rfl) ?_
    refine y_virt rfl rfl rfl rfl rfl hB.1.2.2 hB.1.2.1 ?_
    refine t_app hX h94 hB (yStr0 hS0 hCo (a := 9) (v := 10) rfl rfl rfl rfl rfl rfl rfl) (by omega) (fun n_30 tg_30 I_30 R_30 bf_30 m_30 c_30 s_30 hX hB hc_30 hs_30 => ?_)
    have hS := hS0.x hX
    refine y_ret1 ?_
    refine y_pop rfl rfl ?_
    refine y_goto rfl j_X8_tell_148 ?_
    refine y_aload_n rfl rfl ?_
    refine y_virt rfl rfl rfl rfl rfl hB.1.2.2 hB.1.2.1 ?_
    refine t_str hX h94 hB (fun e_ v_ k_ n_31 tg_31 I_31 R_31 c_31 s_31 hX he hk_ hc_31 hs_31 => ?_)
    have hS := hS0.x hX
    refine y_ret1 ?_
    refine y_areturn rfl ?_
    exact hQ _ _ _ _ _ _ _ hX he.1 (by omega) (by omega)
theorem m_tell (hS : ySh n tg R) (hC : yCI I) (hCo : yCo I) {x1 : Int32} (hE : Q (.inr "java/lang/IndexOutOfBoundsException") (n, tg, I, R) (c + 1) (s + 6)) (hQ : ∀ v n1 tg1 I1 R1 c1 s1, yX n tg I R n1 tg1 I1 R1 → v < n1 → c1 ≤ c + 14 → s1 ≤ s + 1900 → Q (.inl (some (.ref v))) (n1, tg1, I1, R1) c1 s1) : yC 150 [.ref 34, .int x1] (n, tg, I, R) c s Q := by
  refine y_in (M := xm_X8_tell) (ls := [some _, some _, none]) rfl rfl rfl ?_
  refine y_aload_n rfl rfl ?_
  refine y_getR rfl (ySh.t hS rfl) (ySh.n hS rfl) rfl rfl (ySh.r hS rfl) ?_
  refine y_iload_n rfl rfl ?_
  refine y_virt rfl rfl rfl rfl rfl (ySh.t hS rfl) (ySh.n hS rfl) ?_
  refine y_in (M := xm_X5_has) (ls := [some _, some _]) rfl rfl rfl ?_
  refine y_iload_n rfl rfl ?_
  refine y_if_lt rfl j_X5_has_16 (fun h_1 => ?_) (fun h_2 => ?_)
  · refine y_iconst rfl ?_
    refine y_ireturn rfl rfl rfl ?_
    refine y_ret1 ?_
    refine y_if_neF rfl (by decide) ?_
    refine y_throw rfl rfl rfl ?_
    exact hE
  · refine y_iload_n rfl rfl ?_
    refine y_aload_n rfl rfl ?_
    refine y_getI rfl (ySh.t hS rfl) (ySh.n hS rfl) rfl rfl ?_
    refine y_icmp_ge rfl j_X5_has_16 (fun h_3 => ?_) (fun h_4 => ?_)
    · refine y_iconst rfl ?_
      refine y_ireturn rfl rfl rfl ?_
      refine y_ret1 ?_
      refine y_if_neF rfl (by decide) ?_
      refine y_throw rfl rfl rfl ?_
      exact hE
    · refine y_iconst rfl ?_
      refine y_goto rfl j_X5_has_17 ?_
      refine y_ireturn rfl rfl rfl ?_
      refine y_ret1 ?_
      refine y_if_neT rfl j_X8_tell_21 (by decide) ?_
      exact m_tell21 hS hCo (by omega) (by omega) hQ
theorem n_tell104 (hS0 : ySh n tg R) (hCo : yCo I) {x1 : Int32} {b e v0 k0 : Nat} (ht : tg b = (19, 0)) (hb : b < n) (he : yStr n tg I R e v0 k0) (hk0 : k0 ≤ 20) (hQ : ∀ v n1 tg1 I1 R1 c1 s1, yX n tg I R n1 tg1 I1 R1 → v < n1 → c1 ≤ c + 12 → s1 ≤ s + 2300 → Q (.inl (some (.ref v))) (n1, tg1, I1, R1) c1 s1) : yW xm_X14_tell xc_X14_tell_104 [some (.ref 83), some (.int x1), some (.ref b), none] [.ref e] (n, tg, I, R) c s Q := by
  have h94 : 94 ≤ n := hS0.1
  have hS := hS0
  have hX := @yX.rf n tg I R
  refine y_astore_n (ls' := [some _, some _, some _, some _]) rfl rfl rfl ?_
  refine y_newX rfl rfl rfl (fun n_1 tg_1 I_1 R_1 hA => ?_)
  refine y_dup rfl rfl ?_
  refine y_init rfl rfl rfl rfl rfl ?_
  refine t_init hA h94 (fun n_1 tg_1 I_1 R_1 bf hX hB => ?_)
  refine y_ret0 ?_
  have hS := hS0.x hX
  refine y_ldcwS rfl rfl (ySh.n hS rfl) ?_
  refine y_virt rfl rfl rfl rfl rfl hB.1.2.2 hB.1.2.1 ?_
  refine t_app hX h94 hB (yStr0 hS0 hCo (a := 25) (v := 26) rfl rfl rfl rfl rfl rfl rfl) (by omega) (fun n_2 tg_2 I_2 R_2 bf_2 m_2 c_2 s_2 hX hB hc_2 hs_2 => ?_)
  have hS := hS0.x hX
  refine y_ret1 ?_
  refine y_iload_n rfl rfl ?_
  refine y_virt rfl rfl rfl rfl rfl hB.1.2.2 hB.1.2.1 ?_
  refine t_appi hX h94 hB (ySh.t hS0 rfl) (ySh.t hS0 rfl) (hCo.2 1 100 (by decide) rfl) (hCo.2 2 100 (by decide) rfl) (by omega) (fun n_3 tg_3 I_3 R_3 bf_3 m_3 c_3 s_3 hX hB hc_3 hs_3 => ?_)
  have hS := hS0.x hX
  refine y_ret1 ?_
  refine y_ldcwS rfl rfl (ySh.n hS rfl) ?_
  refine y_virt rfl rfl rfl rfl rfl hB.1.2.2 hB.1.2.1 ?_
  refine t_app hX h94 hB (yStr0 hS0 hCo (a := 27) (v := 28) rfl rfl rfl rfl rfl rfl rfl) (by omega) (fun n_4 tg_4 I_4 R_4 bf_4 m_4 c_4 s_4 hX hB hc_4 hs_4 => ?_)
  have hS := hS0.x hX
  refine y_ret1 ?_
  refine y_aload_n rfl rfl ?_
  refine y_getI rfl ((hX.2.1 _ hb).1.trans ht) (Nat.lt_of_lt_of_le hb hX.1) rfl rfl ?_
  refine y_virt rfl rfl rfl rfl rfl hB.1.2.2 hB.1.2.1 ?_
  refine t_appi hX h94 hB (ySh.t hS0 rfl) (ySh.t hS0 rfl) (hCo.2 1 100 (by decide) rfl) (hCo.2 2 100 (by decide) rfl) (by omega) (fun n_5 tg_5 I_5 R_5 bf_5 m_5 c_5 s_5 hX hB hc_5 hs_5 => ?_)
  have hS := hS0.x hX
  refine y_ret1 ?_
  refine y_ldcwS rfl rfl (ySh.n hS rfl) ?_
  refine y_virt rfl rfl rfl rfl rfl hB.1.2.2 hB.1.2.1 ?_
  refine t_app hX h94 hB (yStr0 hS0 hCo (a := 29) (v := 30) rfl rfl rfl rfl rfl rfl rfl) (by omega) (fun n_6 tg_6 I_6 R_6 bf_6 m_6 c_6 s_6 hX hB hc_6 hs_6 => ?_)
  have hS := hS0.x hX
  refine y_ret1 ?_
  refine y_aload_n rfl rfl ?_
  refine y_getI rfl ((hX.2.1 _ hb).1.trans ht) (Nat.lt_of_lt_of_le hb hX.1) rfl rfl ?_
  refine y_virt rfl rfl rfl rfl rfl hB.1.2.2 hB.1.2.1 ?_
  refine t_appi hX h94 hB (ySh.t hS0 rfl) (ySh.t hS0 rfl) (hCo.2 1 100 (by decide) rfl) (hCo.2 2 100 (by decide) rfl) (by omega) (fun n_7 tg_7 I_7 R_7 bf_7 m_7 c_7 s_7 hX hB hc_7 hs_7 => ?_)
  have hS := hS0.x hX
  refine y_ret1 ?_
  refine y_ldcwS rfl rfl (ySh.n hS rfl) ?_
  refine y_virt rfl rfl rfl rfl rfl hB.1.2.2 hB.1.2.1 ?_
  refine t_app hX h94 hB (yStr0 hS0 hCo (a := 31) (v := 32) rfl rfl rfl rfl rfl rfl rfl) (by omega) (fun n_8 tg_8 I_8 R_8 bf_8 m_8 c_8 s_8 hX hB hc_8 hs_8 => ?_)
  have hS := hS0.x hX
  refine y_ret1 ?_
  refine y_aload_n rfl rfl ?_
  refine y_virt rfl rfl rfl rfl rfl hB.1.2.2 hB.1.2.1 ?_
  refine t_app hX h94 hB he (by omega) (fun n_9 tg_9 I_9 R_9 bf_9 m_9 c_9 s_9 hX hB hc_9 hs_9 => ?_)
  have hS := hS0.x hX
  refine y_ret1 ?_
  refine y_virt rfl rfl rfl rfl rfl hB.1.2.2 hB.1.2.1 ?_
  refine t_str hX h94 hB (fun e_ v_ k_ n_10 tg_10 I_10 R_10 c_10 s_10 hX he hk_ hc_10 hs_10 => ?_)
  have hS := hS0.x hX
  refine y_ret1 ?_
  refine y_areturn rfl ?_
  exact hQ _ _ _ _ _ _ _ hX he.1 (by omega) (by omega)
theorem n_tell34 (hS0 : ySh n tg R) (hR0 : yRI K n tg I R) (hCo : yCo I) {x1 : Int32} (hv0 : 0 ≤ x1.toInt) (hv1 : x1.toInt < (I 89 2).toInt) (hQ : ∀ v n1 tg1 I1 R1 c1 s1, yX n tg I R n1 tg1 I1 R1 → v < n1 → c1 ≤ c + 19 → s1 ≤ s + 2800 → Q (.inl (some (.ref v))) (n1, tg1, I1, R1) c1 s1) : yW xm_X14_tell xc_X14_tell_34 [some (.ref 83), some (.int x1), none, none] [] (n, tg, I, R) c s Q := by
  have h94 : 94 ≤ n := hS0.1
  have hS := hS0
  refine y_aload_n rfl rfl ?_
  refine y_getR rfl (ySh.t hS rfl) (ySh.n hS rfl) rfl rfl (ySh.r hS rfl) ?_
  refine y_iload_n rfl rfl ?_
  refine y_virt rfl rfl rfl rfl rfl (ySh.t hS rfl) (ySh.n hS rfl) ?_
  refine l_get (nb := n) (ySh.t hS rfl) (ySh.n hS rfl) (Nat.le_refl n) hR0.l89 hv0 hv1 (fun b eb hlo hb ht => ?_)
  refine y_ret1 ?_
  refine y_cast rfl ht hb ?_
  refine y_astore_n (ls' := [some _, some _, some _, _]) rfl rfl rfl ?_
  refine y_aload_n rfl rfl ?_
  refine y_getI rfl ht hb rfl rfl ?_
  refine y_if_eq rfl j_X14_tell_59 (fun h_1 => ?_) (fun h_2 => ?_)
  · refine y_aload_n rfl rfl ?_
    refine y_getI rfl ht hb rfl rfl ?_
    refine y_aload_n rfl rfl ?_
    refine y_getI rfl ht hb rfl rfl ?_
    refine y_icmp_ne rfl j_X14_tell_76 (fun h_3 => ?_) (fun h_4 => ?_)
    · refine y_newX rfl rfl rfl (fun n_1 tg_1 I_1 R_1 hA => ?_)
      refine y_dup rfl rfl ?_
      refine y_init rfl rfl rfl rfl rfl ?_
      refine t_init hA h94 (fun n_1 tg_1 I_1 R_1 bf hX hB => ?_)
      refine y_ret0 ?_
      have hS := hS0.x hX
      refine y_aload_n rfl rfl ?_
      refine y_getI rfl ((hX.2.1 _ hb).1.trans ht) (Nat.lt_of_lt_of_le hb hX.1) rfl rfl ?_
      refine y_aload_n rfl rfl ?_
      refine y_getI rfl ((hX.2.1 _ hb).1.trans ht) (Nat.lt_of_lt_of_le hb hX.1) rfl rfl ?_
      refine y_isub rfl ?_
      refine y_virt rfl rfl rfl rfl rfl hB.1.2.2 hB.1.2.1 ?_
      refine t_appi hX h94 hB (ySh.t hS0 rfl) (ySh.t hS0 rfl) (hCo.2 1 100 (by decide) rfl) (hCo.2 2 100 (by decide) rfl) (by omega) (fun n_2 tg_2 I_2 R_2 bf_2 m_2 c_2 s_2 hX hB hc_2 hs_2 => ?_)
      have hS := hS0.x hX
      refine y_ret1 ?_
      refine y_ldcwS rfl rfl (ySh.n hS rfl) ?_
      refine y_virt rfl rfl rfl rfl rfl hB.1.2.2 hB.1.2.1 ?_
      refine t_app hX h94 hB (yStr0 hS0 hCo (a := 23) (v := 24) rfl rfl rfl rfl rfl rfl rfl) (by omega) (fun n_3 tg_3 I_3 R_3 bf_3 m_3 c_3 s_3 hX hB hc_3 hs_3 => ?_)
      have hS := hS0.x hX
      refine y_ret1 ?_
      refine y_virt rfl rfl rfl rfl rfl hB.1.2.2 hB.1.2.1 ?_
      refine t_str hX h94 hB (fun e_ v_ k_ n_4 tg_4 I_4 R_4 c_4 s_4 hX he hk_ hc_4 hs_4 => ?_)
      have hS := hS0.x hX
      refine y_ret1 ?_
      exact n_tell104 hS (hCo.cong fun a ha => (hX.2.1 a (by omega)).2.1) ((hX.2.1 _ hb).1.trans ht) (Nat.lt_of_lt_of_le hb hX.1) he (by omega) (fun v n1 tg1 I1 R1 c1 s1 a b2 d f => hQ _ _ _ _ _ _ _ (hX.trans a) b2 (by omega) (by omega))
    · refine y_ldcwS rfl rfl (ySh.n hS rfl) ?_
      refine y_goto rfl j_X14_tell_104 ?_
      exact n_tell104 hS0 hCo ht hb (yStr0 hS0 hCo (a := 21) (v := 22) rfl rfl rfl rfl rfl rfl rfl) (by decide) (fun v n1 tg1 I1 R1 c1 s1 a b2 d f => hQ _ _ _ _ _ _ _ a b2 (by omega) (by omega))
  · refine y_ldcwS rfl rfl (ySh.n hS rfl) ?_
    refine y_goto rfl j_X14_tell_104 ?_
    exact n_tell104 hS0 hCo ht hb (yStr0 hS0 hCo (a := 19) (v := 20) rfl rfl rfl rfl rfl rfl rfl) (by decide) (fun v n1 tg1 I1 R1 c1 s1 a b2 d f => hQ _ _ _ _ _ _ _ a b2 (by omega) (by omega))
end YUB
