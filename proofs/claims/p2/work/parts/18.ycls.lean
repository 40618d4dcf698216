/-! THE CLASS: its helpers, safe from every state that its numbers keep (by gen18.py) -/
abbrev yCI (I : Nat → Nat → Int32) : Prop := (0 ≤ (I 38 0).toInt ∧ (I 38 0).toInt ≤ 8) ∧ (0 ≤ (I 40 0).toInt ∧ (I 40 0).toInt ≤ 16) ∧ (0 ≤ (I 48 0).toInt ∧ (I 48 0).toInt ≤ 12) ∧ (0 ≤ (I 59 0).toInt ∧ (I 59 0).toInt ≤ 8) ∧ (0 ≤ (I 69 0).toInt ∧ (I 69 0).toInt ≤ 6) ∧ (0 ≤ (I 77 0).toInt ∧ (I 77 0).toInt ≤ 10) ∧ (0 ≤ (I 34 8).toInt ∧ (I 34 8).toInt ≤ 4000) ∧ ∀ k, (I 70 k).toInt = 0 ∨ (I 70 k).toInt = 1
/-- what the class's methods leave alone -/
def yFr (I I' : Nat → Nat → Int32) : Prop := ∀ a k, a < 34 ∨ 83 ≤ a ∨ a = 36 → I' a k = I a k
theorem yFr.rf {I : Nat → Nat → Int32} : yFr I I := fun _ _ _ => rfl
theorem yFr.trans {I I' I'' : Nat → Nat → Int32} (h : yFr I I') (h' : yFr I' I'') : yFr I I'' := fun a k ha => (h' a k ha).trans (h a k ha)
theorem yFr.upd {I I' : Nat → Nat → Int32} {a k : Nat} {x : Int32} (h : yFr I I') (ha : Nat.blt 33 a = true ∧ Nat.blt a 83 = true ∧ Nat.beq a 36 = false) : yFr I (upd2 I' a k x) := fun b j hb => by
  have h1 := blt_lt ha.1
  have h2 := blt_lt ha.2.1
  have h3 := Nat.ne_of_beq_eq_false ha.2.2
  rw [upd2_ne (.inl (by omega))]
  exact h b j hb
theorem vp_nar_b (x : Int32) : vp_nar .byte x.toInt8.toInt32 = x.toInt8.toInt32 := by
  unfold vp_nar narrow
  simp
theorem vp_nar_z {x : Int32} (h : x.toInt = 0 ∨ x.toInt = 1) : vp_nar .boolean x = x := by
  rcases h with h | h
  · rw [show x = 0 from yext (by rw [h]; rfl)]; decide
  · rw [show x = 1 from yext (by rw [h]; rfl)]; decide
theorem xfit_z {x : Int32} (h : x.toInt = 0 ∨ x.toInt = 1) : xfit .boolean (.int x) = true := by
  rcases h with h | h
  · rw [show x = 0 from yext (by rw [h]; rfl)]; decide
  · rw [show x = 1 from yext (by rw [h]; rfl)]; decide
def yPor (a b w : Int64) : Int32 := if 0 < w then (a * b / w).toInt32 else Int32.ofInt 0
theorem ylcmp {x : Int64} : (0 < (lg_cmp x (Int64.ofNat (0 : Fin 2))).toInt → 0 < x) ∧ ((lg_cmp x (Int64.ofNat (0 : Fin 2))).toInt ≤ 0 → ¬ 0 < x) := by
  have e : Int64.ofNat (0 : Fin 2) = 0 := by decide
  rw [e]
  unfold lg_cmp
  constructor
  · intro h
    by_cases h1 : 0 < x
    · exact h1
    · exfalso
      simp only [h1, if_false] at h
      split at h <;> revert h <;> decide
  · intro h h1
    simp only [h1, if_true] at h
    revert h; decide
theorem yne0 {x : Int64} (h : 0 < x) : ¬ x = 0 := by
  intro e; subst e; revert h; decide
theorem yadd1 {x : Int32} {b : Int} (h : x.toInt < b) (hb : b ≤ 2147483647) : (x + Int32.ofInt 1).toInt = x.toInt + 1 := yinc (by omega)
section YCLS
variable {n : Nat} {tg : Nat → yT} {I : Nat → Nat → Int32} {R : Nat → Nat → Value} {c s : Nat} {Q : yQ}
theorem sp_portion {a b w : Int64} {st : yS} (hQ : Q (.inl (some (.int (yPor a b w)))) st c s) : yC 164 [.long a, .long b, .long w] st c s Q := by
  refine y_in (M := xm_X8_portion) (ls := [some _, none, some _, none, some _, none]) rfl rfl rfl ?_
  refine y_lload rfl rfl ?_
  refine y_lconst rfl ?_
  refine y_lcmp rfl ?_
  refine y_if_le rfl j_X8_portion_17 (fun h_1 => ?_) (fun h_2 => ?_)
  · have hw := ylcmp.2 h_1
    refine y_iconst rfl ?_
    refine y_ireturn rfl rfl rfl ?_
    simpa only [yPor, if_neg hw] using hQ
  · have hw := ylcmp.1 h_2
    refine y_lload_n rfl rfl ?_
    refine y_lload_n rfl rfl ?_
    refine y_lmul rfl ?_
    refine y_lload rfl rfl ?_
    refine y_ldiv rfl (yne0 hw) ?_
    refine y_l2i rfl ?_
    refine y_goto rfl j_X8_portion_18 ?_
    refine y_ireturn rfl rfl rfl ?_
    simpa only [yPor, if_pos hw] using hQ
def yBC (x : Int32) : Int32 := ((((((((((((((((x) - (((((x).toUInt32 >>> ((Int32.ofInt (1)).toUInt32 &&& Int32.toUInt32 31)).toInt32) &&& (Int32.ofNat 1431655765))))) &&& (Int32.ofNat 858993459))) + (((((((x) - (((((x).toUInt32 >>> ((Int32.ofInt (1)).toUInt32 &&& Int32.toUInt32 31)).toInt32) &&& (Int32.ofNat 1431655765))))).toUInt32 >>> ((Int32.ofInt (2)).toUInt32 &&& Int32.toUInt32 31)).toInt32) &&& (Int32.ofNat 858993459))))) + (((((((((x) - (((((x).toUInt32 >>> ((Int32.ofInt (1)).toUInt32 &&& Int32.toUInt32 31)).toInt32) &&& (Int32.ofNat 1431655765))))) &&& (Int32.ofNat 858993459))) + (((((((x) - (((((x).toUInt32 >>> ((Int32.ofInt (1)).toUInt32 &&& Int32.toUInt32 31)).toInt32) &&& (Int32.ofNat 1431655765))))).toUInt32 >>> ((Int32.ofInt (2)).toUInt32 &&& Int32.toUInt32 31)).toInt32) &&& (Int32.ofNat 858993459))))).toUInt32 >>> ((Int32.ofInt (4)).toUInt32 &&& Int32.toUInt32 31)).toInt32))) &&& (Int32.ofNat 252645135))) + (((((((((((((x) - (((((x).toUInt32 >>> ((Int32.ofInt (1)).toUInt32 &&& Int32.toUInt32 31)).toInt32) &&& (Int32.ofNat 1431655765))))) &&& (Int32.ofNat 858993459))) + (((((((x) - (((((x).toUInt32 >>> ((Int32.ofInt (1)).toUInt32 &&& Int32.toUInt32 31)).toInt32) &&& (Int32.ofNat 1431655765))))).toUInt32 >>> ((Int32.ofInt (2)).toUInt32 &&& Int32.toUInt32 31)).toInt32) &&& (Int32.ofNat 858993459))))) + (((((((((x) - (((((x).toUInt32 >>> ((Int32.ofInt (1)).toUInt32 &&& Int32.toUInt32 31)).toInt32) &&& (Int32.ofNat 1431655765))))) &&& (Int32.ofNat 858993459))) + (((((((x) - (((((x).toUInt32 >>> ((Int32.ofInt (1)).toUInt32 &&& Int32.toUInt32 31)).toInt32) &&& (Int32.ofNat 1431655765))))).toUInt32 >>> ((Int32.ofInt (2)).toUInt32 &&& Int32.toUInt32 31)).toInt32) &&& (Int32.ofNat 858993459))))).toUInt32 >>> ((Int32.ofInt (4)).toUInt32 &&& Int32.toUInt32 31)).toInt32))) &&& (Int32.ofNat 252645135))).toUInt32 >>> ((Int32.ofInt (8)).toUInt32 &&& Int32.toUInt32 31)).toInt32))) + (((((((((((((((x) - (((((x).toUInt32 >>> ((Int32.ofInt (1)).toUInt32 &&& Int32.toUInt32 31)).toInt32) &&& (Int32.ofNat 1431655765))))) &&& (Int32.ofNat 858993459))) + (((((((x) - (((((x).toUInt32 >>> ((Int32.ofInt (1)).toUInt32 &&& Int32.toUInt32 31)).toInt32) &&& (Int32.ofNat 1431655765))))).toUInt32 >>> ((Int32.ofInt (2)).toUInt32 &&& Int32.toUInt32 31)).toInt32) &&& (Int32.ofNat 858993459))))) + (((((((((x) - (((((x).toUInt32 >>> ((Int32.ofInt (1)).toUInt32 &&& Int32.toUInt32 31)).toInt32) &&& (Int32.ofNat 1431655765))))) &&& (Int32.ofNat 858993459))) + (((((((x) - (((((x).toUInt32 >>> ((Int32.ofInt (1)).toUInt32 &&& Int32.toUInt32 31)).toInt32) &&& (Int32.ofNat 1431655765))))).toUInt32 >>> ((Int32.ofInt (2)).toUInt32 &&& Int32.toUInt32 31)).toInt32) &&& (Int32.ofNat 858993459))))).toUInt32 >>> ((Int32.ofInt (4)).toUInt32 &&& Int32.toUInt32 31)).toInt32))) &&& (Int32.ofNat 252645135))) + (((((((((((((x) - (((((x).toUInt32 >>> ((Int32.ofInt (1)).toUInt32 &&& Int32.toUInt32 31)).toInt32) &&& (Int32.ofNat 1431655765))))) &&& (Int32.ofNat 858993459))) + (((((((x) - (((((x).toUInt32 >>> ((Int32.ofInt (1)).toUInt32 &&& Int32.toUInt32 31)).toInt32) &&& (Int32.ofNat 1431655765))))).toUInt32 >>> ((Int32.ofInt (2)).toUInt32 &&& Int32.toUInt32 31)).toInt32) &&& (Int32.ofNat 858993459))))) + (((((((((x) - (((((x).toUInt32 >>> ((Int32.ofInt (1)).toUInt32 &&& Int32.toUInt32 31)).toInt32) &&& (Int32.ofNat 1431655765))))) &&& (Int32.ofNat 858993459))) + (((((((x) - (((((x).toUInt32 >>> ((Int32.ofInt (1)).toUInt32 &&& Int32.toUInt32 31)).toInt32) &&& (Int32.ofNat 1431655765))))).toUInt32 >>> ((Int32.ofInt (2)).toUInt32 &&& Int32.toUInt32 31)).toInt32) &&& (Int32.ofNat 858993459))))).toUInt32 >>> ((Int32.ofInt (4)).toUInt32 &&& Int32.toUInt32 31)).toInt32))) &&& (Int32.ofNat 252645135))).toUInt32 >>> ((Int32.ofInt (8)).toUInt32 &&& Int32.toUInt32 31)).toInt32))).toUInt32 >>> ((Int32.ofInt (16)).toUInt32 &&& Int32.toUInt32 31)).toInt32))) &&& (Int32.ofInt (63)))
theorem sp_bitCount {x : Int32} {st : yS} (hQ : Q (.inl (some (.int (yBC x)))) st c s) : yC 265 [.int x] st c s Q := by
  refine y_in (M := xm_J6_bitCount_0f7a4) (ls := [some _]) rfl rfl rfl ?_
  refine y_iload_n rfl rfl ?_
  refine y_iload_n rfl rfl ?_
  refine y_iconst rfl ?_
  refine y_iushr rfl ?_
  refine y_ldc_w rfl rfl rfl ?_
  refine y_iand rfl ?_
  refine y_isub rfl ?_
  refine y_istore_n (ls' := [some _]) rfl rfl rfl ?_
  refine y_iload_n rfl rfl ?_
  refine y_ldc_w rfl rfl rfl ?_
  refine y_iand rfl ?_
  refine y_iload_n rfl rfl ?_
  refine y_iconst rfl ?_
  refine y_iushr rfl ?_
  refine y_ldc_w rfl rfl rfl ?_
  refine y_iand rfl ?_
  refine y_iadd rfl ?_
  refine y_istore_n (ls' := [some _]) rfl rfl rfl ?_
  refine y_iload_n rfl rfl ?_
  refine y_iload_n rfl rfl ?_
  refine y_iconst rfl ?_
  refine y_iushr rfl ?_
  refine y_iadd rfl ?_
  refine y_ldc_w rfl rfl rfl ?_
  refine y_iand rfl ?_
  refine y_istore_n (ls' := [some _]) rfl rfl rfl ?_
  refine y_iload_n rfl rfl ?_
  refine y_iload_n rfl rfl ?_
  refine y_bip rfl (by decide) ?_
  refine y_iushr rfl ?_
  refine y_iadd rfl ?_
  refine y_istore_n (ls' := [some _]) rfl rfl rfl ?_
  refine y_iload_n rfl rfl ?_
  refine y_iload_n rfl rfl ?_
  refine y_bip rfl (by decide) ?_
  refine y_iushr rfl ?_
  refine y_iadd rfl ?_
  refine y_istore_n (ls' := [some _]) rfl rfl rfl ?_
  refine y_iload_n rfl rfl ?_
  refine y_bip rfl (by decide) ?_
  refine y_iand rfl ?_
  refine y_ireturn rfl rfl rfl ?_
  exact hQ
theorem sp_isAllowedNow (hS : ySh n tg R) {q : Int32} (h0 : 0 ≤ q.toInt) (h1 : q.toInt < 5) (hQ1 : 3 ≤ (yBC (I 36 q.toInt.toNat)).toInt → Q (.inl (some (.int (Int32.ofInt 1)))) (n, tg, I, R) c s) (hQ0 : (yBC (I 36 q.toInt.toNat)).toInt < 3 → Q (.inl (some (.int (Int32.ofInt 0)))) (n, tg, I, R) c s) : yC 37 [.ref 35, .int q] (n, tg, I, R) c s Q := by
  refine y_in (M := xm_X0_isAllowedNow) (ls := [some _, some _]) rfl rfl rfl ?_
  refine y_aload_n rfl rfl ?_
  refine y_iload_n rfl rfl ?_
  refine y_virt rfl rfl rfl rfl rfl (ySh.t hS rfl) (ySh.n hS rfl) ?_
  refine y_in (M := xm_X0_votesFor) (ls := [some _, some _]) rfl rfl rfl ?_
  refine y_aload_n rfl rfl ?_
  refine y_getR rfl (ySh.t hS rfl) (ySh.n hS rfl) rfl rfl (ySh.r hS rfl) ?_
  refine y_iload_n rfl rfl ?_
  refine y_iaload rfl (ySh.t hS rfl) (ySh.n hS rfl) (by omega) (by omega) ?_
  refine y_static rfl rfl rfl rfl rfl ?_
  refine sp_bitCount ?_
  refine y_ret1 ?_
  refine y_ireturn rfl rfl rfl ?_
  refine y_ret1 ?_
  refine y_iconst rfl ?_
  refine y_icmp_lt rfl j_X0_isAllowedNow_13 (fun h_1 => ?_) (fun h_2 => ?_)
  · rw [yz_3] at h_1
    refine y_iconst rfl ?_
    refine y_ireturn rfl rfl rfl ?_
    exact hQ0 (by assumption)
  · rw [yz_3] at h_2
    refine y_iconst rfl ?_
    refine y_goto rfl j_X0_isAllowedNow_14 ?_
    refine y_ireturn rfl rfl rfl ?_
    exact hQ1 (by assumption)
end YCLS
