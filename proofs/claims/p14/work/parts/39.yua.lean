/-! TEXT: append of a number; a builder's beginning and end -/
section YTA
variable {n0 n : Nat} {tg0 tg : Nat → yT} {I0 I : Nat → Nat → Int32} {R0 R : Nat → Nat → Value} {c s : Nat} {Q : yQ}
theorem t_lat {sb buf m L : Nat} (hB : ySB n0 n tg I R sb buf m L) (hQ : Q (.inl (some (.int (Int32.ofInt 1)))) (n, tg, I, R) c s) : yC 260 [.ref sb] (n, tg, I, R) c s Q := by
  obtain ⟨⟨a1, a2, a3⟩, -, -, hcd, -⟩ := hB
  refine y_in (M := xm_J5_isLatin1_aae02) (ls := [some _]) rfl rfl rfl ?_
  refine y_gets0 rfl ?_
  refine y_if_eqF rfl (by decide) ?_
  refine y_aload_n rfl rfl ?_
  refine y_getIv (v := Int32.ofInt 0) rfl a3 a2 rfl rfl hcd ?_
  refine y_if_neF rfl (by decide) ?_
  refine y_iconst rfl ?_
  refine y_goto rfl j_J5_isLatin1_aae02_18 ?_
  refine y_ireturn rfl rfl rfl ?_
  exact hQ
theorem t_appi {sb buf m L : Nat} {x : Int32} (hX : yX n0 tg0 I0 R0 n tg I R) (h94 : 94 ≤ n0) (hB : ySB n0 n tg I R sb buf m L) (hT1 : tg0 1 = (2, 100)) (hT2 : tg0 2 = (2, 100)) (hb1 : yBy I0 1 100) (hb2 : yBy I0 2 100) (hL : L + 11 ≤ 1000)
    (hQ : ∀ n1 tg1 I1 R1 buf1 m1 c1 s1, yX n0 tg0 I0 R0 n1 tg1 I1 R1 → ySB n0 n1 tg1 I1 R1 sb buf1 m1 (L + 11) → c1 ≤ c + 1 → s1 ≤ s + (2 * (L + 11) + 50) → Q (.inl (some (.ref sb))) (n1, tg1, I1, R1) c1 s1) : yC 275 [.ref sb, .int x] (n, tg, I, R) c s Q := by
  obtain ⟨⟨a1, a2, a3⟩, ⟨b1, b2, b3⟩, hRb, hcd, ⟨k0, k1, k2⟩, ⟨l1, l2⟩, hby⟩ := id hB
  refine y_in (M := xm_J4_append_bf812) (ls := [some _, some _]) rfl rfl rfl ?_
  refine y_aload_n rfl rfl ?_
  refine y_iload_n rfl rfl ?_
  refine y_super rfl rfl rfl rfl rfl a3 a2 ?_
  refine y_in (M := xm_J5_append_c97b9) (ls := [some _, some _, none, none]) rfl rfl rfl ?_
  refine y_aload_n rfl rfl ?_
  refine y_getI rfl a3 a2 rfl rfl ?_
  refine y_istore_n (ls' := [some _, some _, some _, none]) rfl rfl rfl ?_
  refine y_iload_n rfl rfl ?_
  refine y_iload_n rfl rfl ?_
  refine y_static rfl rfl rfl rfl rfl ?_
  refine t_size (fun v k hk1 hk2 hk3 hv => ?_)
  have hv1 : 1 ≤ v.toInt ∧ v.toInt ≤ 11 := by rw [hv]; split <;> omega
  have hsum : (I sb 3 + v).toInt = (I sb 3).toInt + v.toInt := by rw [yadd (by omega) (by omega)]
  refine y_ret1 ?_
  refine y_iadd rfl ?_
  refine y_istore_n (ls' := [some _, some _, some _, some _]) rfl rfl rfl ?_
  refine y_aload_n rfl rfl ?_
  refine y_iload_n rfl rfl ?_
  refine y_virt rfl rfl rfl rfl rfl a3 a2 ?_
  refine t_ens (L' := L + 11) hX h94 hB (by omega) (by omega) (by omega) hL (fun n1 tg1 I1 R1 buf1 m1 c1 s1 hX1 hB1 e3 hm1 hc1 hs1 => ?_)
  obtain ⟨⟨a1', a2', a3'⟩, ⟨b1', b2', b3'⟩, hRb', hcd', ⟨k0', k1', k2'⟩, ⟨l1', l2'⟩, hby'⟩ := id hB1
  have hne : sb ≠ buf1 := fun e => by rw [e, b3'] at a3'; exact absurd (congrArg Prod.fst a3') (by show ¬ (2 : Nat) = 5; decide)
  have hn1 := hX1.1
  refine y_ret0 ?_
  refine y_aload_n rfl rfl ?_
  refine y_virt rfl rfl rfl rfl rfl a3' a2' ?_
  refine t_lat hB1 ?_
  refine y_ret1 ?_
  refine y_if_eqF rfl (by decide) ?_
  refine y_iload_n rfl rfl ?_
  refine y_iload_n rfl rfl ?_
  refine y_aload_n rfl rfl ?_
  refine y_getR rfl a3' a2' rfl rfl hRb' ?_
  refine y_static rfl rfl rfl rfl rfl ?_
  refine t_gch (k := k) (by omega) ⟨(hX1.2.1 1 (by omega)).1.trans hT1, (hX1.2.1 2 (by omega)).1.trans hT2, fun q hq => by rw [(hX1.2.1 1 (by omega)).2.1]; exact hb1 q hq, fun q hq => by rw [(hX1.2.1 2 (by omega)).2.1]; exact hb2 q hq, b3', b2', by omega, hby'⟩ hk1 hk3 (by rw [hsum]; omega) (by omega) (fun v2 I2 g1 g2 => ?_)
  refine y_ret1 ?_
  refine y_pop rfl rfl ?_
  refine y_goto rfl j_J5_append_c97b9_48 ?_
  refine y_aload_n rfl rfl ?_
  refine y_iload_n rfl rfl ?_
  refine y_putI rfl a3' a2' rfl (Nat.le_trans (by decide) (by omega : 94 ≤ sb)) rfl rfl ?_
  refine y_nameI (fun I3 e4 => ?_)
  refine y_aload_n rfl rfl ?_
  refine y_areturn rfl ?_
  refine y_ret1 ?_
  refine y_pop rfl rfl ?_
  refine y_aload_n rfl rfl ?_
  refine y_areturn rfl ?_
  have es : (I3 sb 3).toInt = (I sb 3).toInt + v.toInt := by rw [e4, upd2_self]; exact hsum
  refine hQ n1 tg1 I3 R1 buf1 m1 _ _ ((hX1.upI b1' g1).upI a1' (upI e4)) ⟨⟨a1', a2', a3'⟩, ⟨b1', b2', b3'⟩, hRb', ?_, ⟨by omega, by omega, by omega⟩, ⟨l1', l2'⟩, fun q hq => ?_⟩ hc1 hs1
  · rw [e4, upd2_ne (.inr (by decide)), g1 sb hne]; exact hcd'
  · rw [upI e4 buf1 (Ne.symm hne)]; exact g2 q hq
/-- a builder's beginning, behind its new -/
theorem t_init {n1 : Nat} {tg1 : Nat → yT} {I1 : Nat → Nat → Int32} {R1 : Nat → Nat → Value} (hA : yAl n tg I R n1 tg1 I1 R1 (5, 0)) (h94 : 94 ≤ n)
    (hQ : ∀ n2 tg2 I2 R2 buf, yX n tg I R n2 tg2 I2 R2 → ySB n n2 tg2 I2 R2 n buf 16 0 → Q (.inl none) (n2, tg2, I2, R2) (c + 1) (s + 16)) : yC 273 [.ref n] (n1, tg1, I1, R1) c s Q := by
  obtain ⟨e1, e2, e3, e4, e5⟩ := id hA
  refine y_in (M := xm_J4_init_da8c8) (ls := [some _]) rfl rfl rfl ?_
  refine y_aload_n rfl rfl ?_
  refine y_bip rfl (by decide) ?_
  refine y_init rfl rfl rfl rfl rfl ?_
  refine y_in (M := xm_J5_init_d00df) (ls := [some _, some _]) rfl rfl rfl ?_
  refine y_aload_n rfl rfl ?_
  refine y_obj rfl (by show n < n1; omega) rfl ?_
  refine y_gets0 rfl ?_
  refine y_if_eqF rfl (by decide) ?_
  refine y_aload_n rfl rfl ?_
  refine y_iload_n rfl rfl ?_
  refine y_newarrL (m := 16) rfl rfl (by decide) (by decide) rfl (fun n2 tg2 I2 R2 hA2 => ?_)
  obtain ⟨d1, d2, d3, d4, d5⟩ := id hA2
  have t2 : tg2 n = (5, 0) := (d5 n (by omega)).1.trans e2
  refine y_putR rfl t2 (by omega) rfl (Nat.le_trans (by decide) h94) rfl rfl ?_
  refine y_nameR (fun R3 eR => ?_)
  refine y_aload_n rfl rfl ?_
  refine y_iconst rfl ?_
  refine y_putI rfl t2 (by omega) rfl (Nat.le_trans (by decide) h94) rfl rfl ?_
  refine y_nameI (fun I3 eI => ?_)
  refine y_goto rfl j_J5_init_d00df_38 ?_
  refine y_return rfl ?_
  refine y_ret0 ?_
  refine y_return rfl ?_
  have h3 : I3 n 3 = 0 := by rw [eI, upd2_ne (.inr (by decide)), (d5 n (by omega)).2.1, e3]
  refine hQ n2 tg2 I3 R3 n1 ((((hA.x rfl).trans (hA2.x rfl)).upR (Nat.le_refl n) (upR eR)).upI (Nat.le_refl n) (upI eI)) ⟨⟨Nat.le_refl n, by omega, t2⟩, ⟨by omega, by omega, d2⟩, by rw [eR, upd2_self], by rw [eI, upd2_self], ?_, ⟨by decide, by decide⟩, fun q hq => ?_⟩
  · rw [h3]; decide
  · rw [upI eI n1 (by omega), d3]; decide
theorem t_range {b m : Nat} {x : Int32} (tb : tg b = (2, m)) (hb : b < n) (h94 : 94 ≤ b) (hby : yBy I b m) (hx : 0 ≤ x.toInt) (hx2 : x.toInt ≤ m) (hm0 : m ≤ 5000)
    (hQ : ∀ n1 tg1 I1 R1, n1 = n + 1 → tg1 n = (2, x.toInt.toNat) → yBy I1 n x.toInt.toNat → (∀ a, a < n → tg1 a = tg a ∧ I1 a = I a ∧ R1 a = R a) → Q (.inl (some (.ref n))) (n1, tg1, I1, R1) (c + 1) (s + x.toInt.toNat)) : yC 312 [.ref b, .int (Int32.ofInt 0), .int x] (n, tg, I, R) c s Q := by
  have hm : (Int32.ofNat m).toInt = m := ofNat32 (by omega)
  have hz0 := yz_0
  have hs0 : ∀ z : Int32, z - Int32.ofInt 0 = z := fun z => yext (by have h1 := z.le_toInt; have h2 := z.toInt_lt; rw [ysub (by rw [yz_0]; omega) (by rw [yz_0]; omega), yz_0]; omega)
  refine y_in (M := xm_J7_copyOfRange_39247) (ls := [some _, some _, some _]) rfl rfl rfl ?_
  refine y_iload_n rfl rfl ?_
  refine y_if_neF rfl (by decide) ?_
  refine y_iload_n rfl rfl ?_
  refine y_aload_n rfl rfl ?_
  refine y_alen rfl tb rfl hb ?_
  refine y_icmp_eq rfl j_J7_copyOfRange_39247_17 (fun h_1 => ?_) (fun h_2 => ?_)
  · have hxm : x.toInt.toNat = m := by omega
    rw [hxm] at hQ
    refine y_aload_n rfl rfl ?_
    refine y_cloneB rfl tb hb (Nat.le_trans (by decide) h94) hby rfl (fun n1 tg1 I1 R1 e1 e2 e3 e5 => ?_)
    refine y_castA rfl rfl e2 rfl (by omega) ?_
    refine y_areturn rfl ?_
    exact hQ _ _ _ _ e1 e2 (fun q hq => by rw [e3]; exact hby q hq) e5
  · have hmin : (if x < Int32.ofNat m then x else Int32.ofNat m) = x := by
      by_cases h : x < Int32.ofNat m
      · exact if_pos h
      · rw [if_neg h]
        exact yext (by have h3 : ¬ x.toInt < (Int32.ofNat m).toInt := fun h2 => h (Int32.lt_iff_toInt_lt.mpr h2); omega)
    refine y_aload_n rfl rfl ?_
    refine y_iload_n rfl rfl ?_
    refine y_iload_n rfl rfl ?_
    refine y_static rfl rfl rfl rfl rfl ?_
    refine y_in (M := xm_J7_copyOfRangeByte_39247) (ls := [some _, some _, some _, none, none]) rfl rfl rfl ?_
    refine y_iload_n rfl rfl ?_
    refine y_iload_n rfl rfl ?_
    refine y_static rfl rfl rfl rfl rfl ?_
    refine y_in (M := xm_J7_checkLength_df160) (ls := [some _, some _]) rfl rfl rfl ?_
    refine y_iload_n rfl rfl ?_
    refine y_iload_n rfl rfl ?_
    refine y_icmp_ge rfl j_J7_checkLength_df160_37 (fun h_3 => ?_) (fun h_4 => ?_)
    · refine y_return rfl ?_
      refine y_ret0 ?_
      refine y_iload_n rfl rfl ?_
      refine y_iload_n rfl rfl ?_
      refine y_isub rfl ?_
      rw [hs0]
      refine y_istore_n (ls' := [some _, some _, some _, some _, none]) rfl rfl rfl ?_
      refine y_iload_n rfl rfl ?_
      refine y_newarrX rfl rfl (by omega) (by omega) (fun n1 tg1 I1 R1 hA => ?_)
      obtain ⟨e1, e2, e3, e4, e5⟩ := hA
      have tb1 : tg1 b = (2, m) := (e5 b hb).1.trans tb
      refine y_astore (ls' := [some _, some _, some _, some _, some _]) rfl rfl rfl ?_
      refine y_aload_n rfl rfl ?_
      refine y_iload_n rfl rfl ?_
      refine y_aload rfl rfl ?_
      refine y_iconst rfl ?_
      refine y_aload_n rfl rfl ?_
      refine y_alen rfl tb1 rfl (by omega) ?_
      refine y_iload_n rfl rfl ?_
      refine y_isub rfl ?_
      rw [hs0]
      refine y_iload_n rfl rfl ?_
      refine y_min rfl rfl ?_
      rw [hmin]
      refine y_copyB rfl tb1 e2 (by omega) (by omega) (Nat.le_trans (by decide) (by omega : 94 ≤ n)) (by omega) (by omega) (by omega) (by omega) (by omega) (by omega) rfl (fun k hk => by rw [(e5 b hb).2.1]; exact hby k hk) (fun I2 k1 k2 => ?_)
      refine y_aload rfl rfl ?_
      refine y_areturn rfl ?_
      refine y_ret1 ?_
      refine y_areturn rfl ?_
      refine hQ _ _ _ _ e1 e2 (fun k hk => ?_) (fun a ha => ⟨(e5 a ha).1, (k1 a (by omega)).trans (e5 a ha).2.1, (e5 a ha).2.2⟩)
      rcases k2 k with h | ⟨q, hq, h⟩
      · rw [h, e3]; decide
      · rw [h, (e5 b hb).2.1]; exact hby q hq
    · exfalso; omega
theorem t_str {sb buf m L : Nat} (hX : yX n0 tg0 I0 R0 n tg I R) (h94 : 94 ≤ n0) (hB : ySB n0 n tg I R sb buf m L)
    (hQ : ∀ a v k n1 tg1 I1 R1 c1 s1, yX n0 tg0 I0 R0 n1 tg1 I1 R1 → yStr n1 tg1 I1 R1 a v k → k ≤ L → c1 ≤ c + 2 → s1 ≤ s + (L + 4) → Q (.inl (some (.ref a))) (n1, tg1, I1, R1) c1 s1) : yC 276 [.ref sb] (n, tg, I, R) c s Q := by
  obtain ⟨⟨a1, a2, a3⟩, ⟨b1, b2, b3⟩, hRb, hcd, ⟨k0, k1, k2⟩, ⟨l1, l2⟩, hby⟩ := id hB
  have hn0 := hX.1
  refine y_in (M := xm_J4_toString_0e30d) (ls := [some _]) rfl rfl rfl ?_
  refine y_newX rfl rfl rfl (fun n1 tg1 I1 R1 hA => ?_)
  obtain ⟨e1, e2, e3, e4, e5⟩ := id hA
  have hX1 := hX.trans (hA.x rfl)
  have t1 : tg1 sb = (5, 0) := (e5 sb a2).1.trans a3
  have tb1 : tg1 buf = (2, m) := (e5 buf b2).1.trans b3
  have r1 : R1 sb 0 = .ref buf := by rw [(e5 sb a2).2.2]; exact hRb
  have i1 : I1 sb = I sb := (e5 sb a2).2.1
  have hx4 : xN0 ≤ n := Nat.le_trans (by decide) (by omega : 94 ≤ n)
  have hsn : sb ≠ n := by omega
  have hbn : buf ≠ n := by omega
  refine y_dup rfl rfl ?_
  refine y_aload_n rfl rfl ?_
  refine y_init rfl rfl rfl rfl rfl ?_
  refine y_in (M := xm_J0_init_81219) (ls := [some _, some _]) rfl rfl rfl ?_
  refine y_aload_n rfl rfl ?_
  refine y_aload_n rfl rfl ?_
  refine y_null rfl ?_
  refine y_init rfl rfl rfl rfl rfl ?_
  refine y_in (M := xm_J0_init_db425) (ls := [some _, some _, some _, none, none]) rfl rfl rfl ?_
  refine y_aload_n rfl rfl ?_
  refine y_obj rfl (by show n < n1; omega) rfl ?_
  refine y_aload_n rfl rfl ?_
  refine y_virt rfl rfl rfl rfl rfl t1 (by omega) ?_
  refine y_in (M := xm_J5_getValue_6d5f1) (ls := [some _]) rfl rfl rfl ?_
  refine y_aload_n rfl rfl ?_
  refine y_getR rfl t1 (by omega) rfl rfl r1 ?_
  refine y_areturn rfl ?_
  refine y_ret1 ?_
  refine y_astore_n (ls' := [some _, some _, some _, some _, none]) rfl rfl rfl ?_
  refine y_aload_n rfl rfl ?_
  refine y_virt rfl rfl rfl rfl rfl t1 (by omega) ?_
  refine y_in (M := xm_J4_length_8abf5) (ls := [some _]) rfl rfl rfl ?_
  refine y_aload_n rfl rfl ?_
  refine y_super rfl rfl rfl rfl rfl t1 (by omega) ?_
  refine y_in (M := xm_J5_length_8abf5) (ls := [some _]) rfl rfl rfl ?_
  refine y_aload_n rfl rfl ?_
  refine y_getIv (v := I sb 3) rfl t1 (by omega) rfl rfl (by rw [i1]) ?_
  refine y_ireturn rfl rfl rfl ?_
  refine y_ret1 ?_
  refine y_ireturn rfl rfl rfl ?_
  refine y_ret1 ?_
  refine y_istore (ls' := [some _, some _, some _, some _, some _]) rfl rfl rfl ?_
  refine y_aload_n rfl rfl ?_
  refine y_virt rfl rfl rfl rfl rfl t1 (by omega) ?_
  refine t_lat (n0 := n0) (buf := buf) (m := m) (L := L) ⟨⟨a1, by omega, t1⟩, ⟨b1, by omega, tb1⟩, r1, by rw [i1]; exact hcd, by rw [i1]; exact ⟨k0, k1, k2⟩, ⟨l1, l2⟩, fun q hq => by rw [(e5 buf b2).2.1]; exact hby q hq⟩ ?_
  refine y_ret1 ?_
  refine y_if_eqF rfl (by decide) ?_
  refine y_aload_n rfl rfl ?_
  refine y_iconst rfl ?_
  refine y_putI rfl e2 (by omega) rfl hx4 rfl rfl ?_
  refine y_nameI (fun I2 eI => ?_)
  refine y_aload_n rfl rfl ?_
  refine y_aload_n rfl rfl ?_
  refine y_iconst rfl ?_
  refine y_iload rfl rfl ?_
  refine y_static rfl rfl rfl rfl rfl ?_
  refine t_range tb1 (by omega) (by omega) (fun q hq => by rw [upI eI buf hbn, (e5 buf b2).2.1]; exact hby q hq) k0 k1 (by omega) (fun n3 tg3 I3 R3 d1 d2 d3 d5 => ?_)
  have t3 : tg3 n = (4, 0) := (d5 n (by omega)).1.trans e2
  refine y_ret1 ?_
  refine y_putR rfl t3 (by omega) rfl hx4 rfl rfl ?_
  refine y_nameR (fun R4 eR => ?_)
  refine y_goto rfl j_J0_init_db425_97 ?_
  refine y_return rfl ?_
  refine y_ret0 ?_
  refine y_return rfl ?_
  refine y_ret0 ?_
  refine y_areturn rfl ?_
  refine hQ n n1 _ n3 tg3 I3 R4 _ _ (((hX1.upI hn0 (upI eI)).trans (yX.one d1 d2 d5 rfl)).upR hn0 (upR eR)) ⟨by omega, t3, by rw [eR, upd2_self], by omega, d2, by rw [(d5 n (by omega)).2.1, eI, upd2_self], d3⟩ (by omega) (by omega) (by omega)
end YTA
