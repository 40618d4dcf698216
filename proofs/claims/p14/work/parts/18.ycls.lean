/-! THE CLASS: its helpers, safe from every state that its numbers keep (by gen18.py) -/
abbrev yCI (I : Nat → Nat → Int32) : Prop := (0 ≤ (I 38 0).toInt ∧ (I 38 0).toInt ≤ 8) ∧ (0 ≤ (I 40 0).toInt ∧ (I 40 0).toInt ≤ 16) ∧ (0 ≤ (I 48 0).toInt ∧ (I 48 0).toInt ≤ 12) ∧ (0 ≤ (I 59 0).toInt ∧ (I 59 0).toInt ≤ 8) ∧ (0 ≤ (I 69 0).toInt ∧ (I 69 0).toInt ≤ 6) ∧ (0 ≤ (I 77 0).toInt ∧ (I 77 0).toInt ≤ 10) ∧ (0 ≤ (I 34 8).toInt ∧ (I 34 8).toInt ≤ 4000) ∧ ∀ k, (I 70 k).toInt = 0 ∨ (I 70 k).toInt = 1
/-- what the class's methods leave alone -/
def yFr (I I' : Nat → Nat → Int32) : Prop := ∀ a k, a < 35 ∨ 83 ≤ a ∨ a = 36 → I' a k = I a k
theorem yFr.rf {I : Nat → Nat → Int32} : yFr I I := fun _ _ _ => rfl
theorem yFr.trans {I I' I'' : Nat → Nat → Int32} (h : yFr I I') (h' : yFr I' I'') : yFr I I'' := fun a k ha => (h' a k ha).trans (h a k ha)
theorem yFr.upd {I I' : Nat → Nat → Int32} {a k : Nat} {x : Int32} (h : yFr I I') (ha : Nat.blt 34 a = true ∧ Nat.blt a 83 = true ∧ Nat.beq a 36 = false) : yFr I (upd2 I' a k x) := fun b j hb => by
  have h1 := blt_lt ha.1
  have h2 := blt_lt ha.2.1
  have h3 := Nat.ne_of_beq_eq_false ha.2.2
  rw [upd2_ne (.inl (by omega))]
  exact h b j hb
/-- what whole calls leave alone -/
def yFt (I I' : Nat → Nat → Int32) : Prop := ∀ a k, a < 34 ∨ 83 ≤ a ∨ a = 36 → I' a k = I a k
theorem yFt.rf {I : Nat → Nat → Int32} : yFt I I := fun _ _ _ => rfl
theorem yFt.trans {I I' I'' : Nat → Nat → Int32} (h : yFt I I') (h' : yFt I' I'') : yFt I I'' := fun a k ha => (h' a k ha).trans (h a k ha)
theorem yFr.t {I I' : Nat → Nat → Int32} (h : yFr I I') : yFt I I' := fun a k ha => h a k (by omega)
theorem yFt.upd {I I' : Nat → Nat → Int32} {a k : Nat} {x : Int32} (h : yFt I I') (ha : Nat.blt 33 a = true ∧ Nat.blt a 83 = true ∧ Nat.beq a 36 = false) : yFt I (upd2 I' a k x) := fun b j hb => by
  have h1 := blt_lt ha.1
  have h2 := blt_lt ha.2.1
  have h3 := Nat.ne_of_beq_eq_false ha.2.2
  rw [upd2_ne (.inl (by omega))]
  exact h b j hb
theorem yCI.p {I : Nat → Nat → Int32} (h : yCI I) (k : Nat) : (I 70 k).toInt = 0 ∨ (I 70 k).toInt = 1 := h.2.2.2.2.2.2.2 k
theorem vp_nar_b (x : Int32) : vp_nar .byte x.toInt8.toInt32 = x.toInt8.toInt32 := by
  unfold vp_nar narrow
  simp
theorem xfit_z {x : Int32} (h : x.toInt = 0 ∨ x.toInt = 1) : xfit .boolean (.int x) = true := by
  rcases h with h | h
  · rw [show x = 0 from yext (by rw [h]; rfl)]; decide
  · rw [show x = 1 from yext (by rw [h]; rfl)]; decide
def yPor (a b w : Int64) : Int32 := if 0 < w then (a * b / w).toInt32 else Int32.ofInt 0
theorem ylcmp {x : Int64} : (0 < (lg_cmp x (Int64.ofNat (0 : Fin 2))).toInt → 0 < x) ∧ ((lg_cmp x (Int64.ofNat (0 : Fin 2))).toInt ≤ 0 → ¬ 0 < x) := by
  have e : Int64.ofNat (0 : Fin 2) = 0 := by decide
  rw [e]
  unfold lg_cmp
  constructor
  · intro h
    by_cases h1 : 0 < x
    · exact h1
    · exfalso
      simp only [h1, if_false] at h
      split at h <;> revert h <;> decide
  · intro h h1
    simp only [h1, if_true] at h
    revert h; decide
theorem yne0 {x : Int64} (h : 0 < x) : ¬ x = 0 := by
  intro e; subst e; revert h; decide
/-- fewer locals known -/
def yLe : yLs → yLs → Prop
  | [], _ => True
  | none :: r, _ :: r' => yLe r r'
  | some v :: r, o :: r' => o = some v ∧ yLe r r'
  | _ :: _, [] => False
theorem yLe_get : ∀ {ls ls' : yLs} {i : Nat} {v : Value}, yLe ls ls' → ls[i]? = some (some v) → ls'[i]? = some (some v)
  | none :: r, _ :: r', 0, v, _, h => by cases h
  | none :: r, _ :: r', i + 1, v, hl, h => by
    rw [List.getElem?_cons_succ] at h ⊢
    exact yLe_get (ls := r) hl h
  | some u :: r, o :: r', 0, v, hl, h => by
    cases h; rw [hl.1]; rfl
  | some u :: r, o :: r', i + 1, v, hl, h => by
    rw [List.getElem?_cons_succ] at h ⊢
    exact yLe_get (ls := r) hl.2 h
theorem y_fgt {M : xM} {code : List xI} {ls ls' : yLs} {st : List Value} {w : yS} {c s : Nat} {Q : yQ} (h : yLe ls ls') (k : yW M code ls st w c s Q) : yW M code ls' st w c s Q := fun l hl => k l fun i v hi => hl i v (yLe_get h hi)
theorem y_setC {M : xM} {code : List xI} {ls : yLs} {st : List Value} {n : Nat} {tg : Nat → yT} {I : Nat → Nat → Int32} {R : Nat → Nat → Value} {c s : Nat} {Q : yQ} (h : yCI I) (k : yCI I → yW M code ls st (n, tg, I, R) c s Q) : yW M code ls st (n, tg, I, R) c s Q := k h
theorem y_setCC {mid : Nat} {as : List Value} {n : Nat} {tg : Nat → yT} {I : Nat → Nat → Int32} {R : Nat → Nat → Value} {c s : Nat} {Q : yQ} (h : yCI I) (k : yCI I → yC mid as (n, tg, I, R) c s Q) : yC mid as (n, tg, I, R) c s Q := k h
theorem yCI.inc38 {I : Nat → Nat → Int32} (h : yCI I) (hx : (I 38 0).toInt < 8) : yCI (upd2 I 38 0 (I 38 0 + Int32.ofInt 1)) := ⟨show 0 ≤ (I 38 0 + Int32.ofInt 1).toInt ∧ (I 38 0 + Int32.ofInt 1).toInt ≤ 8 by rw [yinc (by omega)]; omega, h.2⟩
theorem yCI.inc40 {I : Nat → Nat → Int32} (h : yCI I) (hx : (I 40 0).toInt < 16) : yCI (upd2 I 40 0 (I 40 0 + Int32.ofInt 1)) := ⟨h.1, show 0 ≤ (I 40 0 + Int32.ofInt 1).toInt ∧ (I 40 0 + Int32.ofInt 1).toInt ≤ 16 by rw [yinc (by omega)]; omega, h.2.2⟩
theorem yCI.inc48 {I : Nat → Nat → Int32} (h : yCI I) (hx : (I 48 0).toInt < 12) : yCI (upd2 I 48 0 (I 48 0 + Int32.ofInt 1)) := ⟨h.1, h.2.1, show 0 ≤ (I 48 0 + Int32.ofInt 1).toInt ∧ (I 48 0 + Int32.ofInt 1).toInt ≤ 12 by rw [yinc (by omega)]; omega, h.2.2.2⟩
theorem yCI.inc59 {I : Nat → Nat → Int32} (h : yCI I) (hx : (I 59 0).toInt < 8) : yCI (upd2 I 59 0 (I 59 0 + Int32.ofInt 1)) := ⟨h.1, h.2.1, h.2.2.1, show 0 ≤ (I 59 0 + Int32.ofInt 1).toInt ∧ (I 59 0 + Int32.ofInt 1).toInt ≤ 8 by rw [yinc (by omega)]; omega, h.2.2.2.2⟩
theorem yCI.inc69 {I : Nat → Nat → Int32} (h : yCI I) (hx : (I 69 0).toInt < 6) : yCI (upd2 I 69 0 (I 69 0 + Int32.ofInt 1)) := ⟨h.1, h.2.1, h.2.2.1, h.2.2.2.1, show 0 ≤ (I 69 0 + Int32.ofInt 1).toInt ∧ (I 69 0 + Int32.ofInt 1).toInt ≤ 6 by rw [yinc (by omega)]; omega, h.2.2.2.2.2⟩
theorem yCI.inc77 {I : Nat → Nat → Int32} (h : yCI I) (hx : (I 77 0).toInt < 10) : yCI (upd2 I 77 0 (I 77 0 + Int32.ofInt 1)) := ⟨h.1, h.2.1, h.2.2.1, h.2.2.2.1, h.2.2.2.2.1, show 0 ≤ (I 77 0 + Int32.ofInt 1).toInt ∧ (I 77 0 + Int32.ofInt 1).toInt ≤ 10 by rw [yinc (by omega)]; omega, h.2.2.2.2.2.2⟩
theorem yCI.inc34 {I : Nat → Nat → Int32} (h : yCI I) (hx : (I 34 8).toInt < 4000) : yCI (upd2 I 34 8 (I 34 8 + Int32.ofInt 1)) := ⟨h.1, h.2.1, h.2.2.1, h.2.2.2.1, h.2.2.2.2.1, h.2.2.2.2.2.1, show 0 ≤ (I 34 8 + Int32.ofInt 1).toInt ∧ (I 34 8 + Int32.ofInt 1).toInt ≤ 4000 by rw [yinc (by omega)]; omega, h.2.2.2.2.2.2.2⟩
theorem yCI.par {I : Nat → Nat → Int32} (h : yCI I) {k : Nat} {x : Int32} (hx : x.toInt = 0 ∨ x.toInt = 1) : yCI (upd2 I 70 k x) := ⟨h.1, h.2.1, h.2.2.1, h.2.2.2.1, h.2.2.2.2.1, h.2.2.2.2.2.1, h.2.2.2.2.2.2.1, fun j => by
  by_cases hj : j = k
  · rw [hj, upd2_self]; exact hx
  · rw [upd2_ne (.inr hj)]; exact h.2.2.2.2.2.2.2 j⟩
theorem ynat {a : Int32} (h : 0 ≤ a.toInt) : (a.toBitVec.toNat : Int) = a.toInt := by
  have h1 : a.toInt = a.toBitVec.toInt := rfl
  rw [h1, BitVec.toInt_eq_toNat_cond] at h ⊢
  have := a.toBitVec.isLt
  split at h <;> split <;> omega
theorem yofn {a : Int32} (h : a.toBitVec.toNat < 2147483648) : a.toInt = (a.toBitVec.toNat : Int) := by
  have h1 : a.toInt = a.toBitVec.toInt := rfl
  rw [h1, BitVec.toInt_eq_toNat_cond]
  split <;> omega
theorem yor {a b : Int32} (h1 : 0 ≤ a.toInt) (h2 : a.toInt < 1024) (h3 : 0 ≤ b.toInt) (h4 : b.toInt < 1024) : 0 ≤ (a ||| b).toInt ∧ (a ||| b).toInt < 1024 := by
  have e1 := ynat h1
  have e2 := ynat h3
  have e3 : (a ||| b).toBitVec.toNat < 2 ^ 10 := by
    rw [Int32.toBitVec_or, BitVec.toNat_or]
    exact Nat.or_lt_two_pow (by omega) (by omega)
  have e4 := yofn (a := a ||| b) (by omega)
  omega
theorem yshl {x : Int32} (h0 : 0 ≤ x.toInt) (h1 : x.toInt ≤ 10) : (1 ≤ (Int32.ofInt 1 <<< (x &&& 31)).toInt ∧ (Int32.ofInt 1 <<< (x &&& 31)).toInt ≤ 1024) ∧ (x.toInt ≤ 9 → (Int32.ofInt 1 <<< (x &&& 31)).toInt ≤ 512) := by
  have hx : x = Int32.ofInt x.toInt := (Int32.ofInt_toInt x).symm
  generalize x.toInt = z at *
  subst hx
  rcases (by omega : z = 0 ∨ z = 1 ∨ z = 2 ∨ z = 3 ∨ z = 4 ∨ z = 5 ∨ z = 6 ∨ z = 7 ∨ z = 8 ∨ z = 9 ∨ z = 10) with rfl | rfl | rfl | rfl | rfl | rfl | rfl | rfl | rfl | rfl | rfl <;> decide
section YCLS
variable {n : Nat} {tg : Nat → yT} {I : Nat → Nat → Int32} {R : Nat → Nat → Value} {c s : Nat} {Q : yQ}
theorem sp_portion {a b w : Int64} {st : yS} (hQ : Q (.inl (some (.int (yPor a b w)))) st c s) : yC 164 [.long a, .long b, .long w] st c s Q := by
  refine y_in (M := xm_X8_portion) (ls := [some _, none, some _, none, some _, none]) rfl rfl rfl ?_
  refine y_lload rfl rfl ?_
  refine y_lconst rfl ?_
  refine y_lcmp rfl ?_
  refine y_if_le rfl j_X8_portion_17 (fun h_1 => ?_) (fun h_2 => ?_)
  · have hw := ylcmp.2 h_1
    refine y_iconst rfl ?_
    refine y_ireturn rfl rfl rfl ?_
    simpa only [yPor, if_neg hw] using hQ
  · have hw := ylcmp.1 h_2
    refine y_lload_n rfl rfl ?_
    refine y_lload_n rfl rfl ?_
    refine y_lmul rfl ?_
    refine y_lload rfl rfl ?_
    refine y_ldiv rfl (yne0 hw) ?_
    refine y_l2i rfl ?_
    refine y_goto rfl j_X8_portion_18 ?_
    refine y_ireturn rfl rfl rfl ?_
    simpa only [yPor, if_pos hw] using hQ
def yBC (x : Int32) : Int32 := ((((((((((((((((x) - (((((x).toUInt32 >>> ((Int32.ofInt (1)).toUInt32 &&& Int32.toUInt32 31)).toInt32) &&& (Int32.ofNat 1431655765))))) &&& (Int32.ofNat 858993459))) + (((((((x) - (((((x).toUInt32 >>> ((Int32.ofInt (1)).toUInt32 &&& Int32.toUInt32 31)).toInt32) &&& (Int32.ofNat 1431655765))))).toUInt32 >>> ((Int32.ofInt (2)).toUInt32 &&& Int32.toUInt32 31)).toInt32) &&& (Int32.ofNat 858993459))))) + (((((((((x) - (((((x).toUInt32 >>> ((Int32.ofInt (1)).toUInt32 &&& Int32.toUInt32 31)).toInt32) &&& (Int32.ofNat 1431655765))))) &&& (Int32.ofNat 858993459))) + (((((((x) - (((((x).toUInt32 >>> ((Int32.ofInt (1)).toUInt32 &&& Int32.toUInt32 31)).toInt32) &&& (Int32.ofNat 1431655765))))).toUInt32 >>> ((Int32.ofInt (2)).toUInt32 &&& Int32.toUInt32 31)).toInt32) &&& (Int32.ofNat 858993459))))).toUInt32 >>> ((Int32.ofInt (4)).toUInt32 &&& Int32.toUInt32 31)).toInt32))) &&& (Int32.ofNat 252645135))) + (((((((((((((x) - (((((x).toUInt32 >>> ((Int32.ofInt (1)).toUInt32 &&& Int32.toUInt32 31)).toInt32) &&& (Int32.ofNat 1431655765))))) &&& (Int32.ofNat 858993459))) + (((((((x) - (((((x).toUInt32 >>> ((Int32.ofInt (1)).toUInt32 &&& Int32.toUInt32 31)).toInt32) &&& (Int32.ofNat 1431655765))))).toUInt32 >>> ((Int32.ofInt (2)).toUInt32 &&& Int32.toUInt32 31)).toInt32) &&& (Int32.ofNat 858993459))))) + (((((((((x) - (((((x).toUInt32 >>> ((Int32.ofInt (1)).toUInt32 &&& Int32.toUInt32 31)).toInt32) &&& (Int32.ofNat 1431655765))))) &&& (Int32.ofNat 858993459))) + (((((((x) - (((((x).toUInt32 >>> ((Int32.ofInt (1)).toUInt32 &&& Int32.toUInt32 31)).toInt32) &&& (Int32.ofNat 1431655765))))).toUInt32 >>> ((Int32.ofInt (2)).toUInt32 &&& Int32.toUInt32 31)).toInt32) &&& (Int32.ofNat 858993459))))).toUInt32 >>> ((Int32.ofInt (4)).toUInt32 &&& Int32.toUInt32 31)).toInt32))) &&& (Int32.ofNat 252645135))).toUInt32 >>> ((Int32.ofInt (8)).toUInt32 &&& Int32.toUInt32 31)).toInt32))) + (((((((((((((((x) - (((((x).toUInt32 >>> ((Int32.ofInt (1)).toUInt32 &&& Int32.toUInt32 31)).toInt32) &&& (Int32.ofNat 1431655765))))) &&& (Int32.ofNat 858993459))) + (((((((x) - (((((x).toUInt32 >>> ((Int32.ofInt (1)).toUInt32 &&& Int32.toUInt32 31)).toInt32) &&& (Int32.ofNat 1431655765))))).toUInt32 >>> ((Int32.ofInt (2)).toUInt32 &&& Int32.toUInt32 31)).toInt32) &&& (Int32.ofNat 858993459))))) + (((((((((x) - (((((x).toUInt32 >>> ((Int32.ofInt (1)).toUInt32 &&& Int32.toUInt32 31)).toInt32) &&& (Int32.ofNat 1431655765))))) &&& (Int32.ofNat 858993459))) + (((((((x) - (((((x).toUInt32 >>> ((Int32.ofInt (1)).toUInt32 &&& Int32.toUInt32 31)).toInt32) &&& (Int32.ofNat 1431655765))))).toUInt32 >>> ((Int32.ofInt (2)).toUInt32 &&& Int32.toUInt32 31)).toInt32) &&& (Int32.ofNat 858993459))))).toUInt32 >>> ((Int32.ofInt (4)).toUInt32 &&& Int32.toUInt32 31)).toInt32))) &&& (Int32.ofNat 252645135))) + (((((((((((((x) - (((((x).toUInt32 >>> ((Int32.ofInt (1)).toUInt32 &&& Int32.toUInt32 31)).toInt32) &&& (Int32.ofNat 1431655765))))) &&& (Int32.ofNat 858993459))) + (((((((x) - (((((x).toUInt32 >>> ((Int32.ofInt (1)).toUInt32 &&& Int32.toUInt32 31)).toInt32) &&& (Int32.ofNat 1431655765))))).toUInt32 >>> ((Int32.ofInt (2)).toUInt32 &&& Int32.toUInt32 31)).toInt32) &&& (Int32.ofNat 858993459))))) + (((((((((x) - (((((x).toUInt32 >>> ((Int32.ofInt (1)).toUInt32 &&& Int32.toUInt32 31)).toInt32) &&& (Int32.ofNat 1431655765))))) &&& (Int32.ofNat 858993459))) + (((((((x) - (((((x).toUInt32 >>> ((Int32.ofInt (1)).toUInt32 &&& Int32.toUInt32 31)).toInt32) &&& (Int32.ofNat 1431655765))))).toUInt32 >>> ((Int32.ofInt (2)).toUInt32 &&& Int32.toUInt32 31)).toInt32) &&& (Int32.ofNat 858993459))))).toUInt32 >>> ((Int32.ofInt (4)).toUInt32 &&& Int32.toUInt32 31)).toInt32))) &&& (Int32.ofNat 252645135))).toUInt32 >>> ((Int32.ofInt (8)).toUInt32 &&& Int32.toUInt32 31)).toInt32))).toUInt32 >>> ((Int32.ofInt (16)).toUInt32 &&& Int32.toUInt32 31)).toInt32))) &&& (Int32.ofInt (63)))
theorem sp_bitCount {x : Int32} {st : yS} (hQ : Q (.inl (some (.int (yBC x)))) st c s) : yC 265 [.int x] st c s Q := by
  refine y_in (M := xm_J6_bitCount_0f7a4) (ls := [some _]) rfl rfl rfl ?_
  refine y_iload_n rfl rfl ?_
  refine y_iload_n rfl rfl ?_
  refine y_iconst rfl ?_
  refine y_iushr rfl ?_
  refine y_ldc_wI (v := (1431655765 : Int)) rfl rfl rfl (by decide) ?_
  refine y_iand rfl ?_
  refine y_isub rfl ?_
  refine y_istore_n (ls' := [some _]) rfl rfl rfl ?_
  refine y_iload_n rfl rfl ?_
  refine y_ldc_wI (v := (858993459 : Int)) rfl rfl rfl (by decide) ?_
  refine y_iand rfl ?_
  refine y_iload_n rfl rfl ?_
  refine y_iconst rfl ?_
  refine y_iushr rfl ?_
  refine y_ldc_wI (v := (858993459 : Int)) rfl rfl rfl (by decide) ?_
  refine y_iand rfl ?_
  refine y_iadd rfl ?_
  refine y_istore_n (ls' := [some _]) rfl rfl rfl ?_
  refine y_iload_n rfl rfl ?_
  refine y_iload_n rfl rfl ?_
  refine y_iconst rfl ?_
  refine y_iushr rfl ?_
  refine y_iadd rfl ?_
  refine y_ldc_wI (v := (252645135 : Int)) rfl rfl rfl (by decide) ?_
  refine y_iand rfl ?_
  refine y_istore_n (ls' := [some _]) rfl rfl rfl ?_
  refine y_iload_n rfl rfl ?_
  refine y_iload_n rfl rfl ?_
  refine y_bip rfl (by decide) ?_
  refine y_iushr rfl ?_
  refine y_iadd rfl ?_
  refine y_istore_n (ls' := [some _]) rfl rfl rfl ?_
  refine y_iload_n rfl rfl ?_
  refine y_iload_n rfl rfl ?_
  refine y_bip rfl (by decide) ?_
  refine y_iushr rfl ?_
  refine y_iadd rfl ?_
  refine y_istore_n (ls' := [some _]) rfl rfl rfl ?_
  refine y_iload_n rfl rfl ?_
  refine y_bip rfl (by decide) ?_
  refine y_iand rfl ?_
  refine y_ireturn rfl rfl rfl ?_
  exact hQ
theorem sp_isAllowedNow (hS : ySh n tg R) {q : Int32} (h0 : 0 ≤ q.toInt) (h1 : q.toInt < 5) (hQ1 : 3 ≤ (yBC (I 36 q.toInt.toNat)).toInt → Q (.inl (some (.int (Int32.ofInt 1)))) (n, tg, I, R) c s) (hQ0 : (yBC (I 36 q.toInt.toNat)).toInt < 3 → Q (.inl (some (.int (Int32.ofInt 0)))) (n, tg, I, R) c s) : yC 37 [.ref 35, .int q] (n, tg, I, R) c s Q := by
  refine y_in (M := xm_X0_isAllowedNow) (ls := [some _, some _]) rfl rfl rfl ?_
  refine y_aload_n rfl rfl ?_
  refine y_iload_n rfl rfl ?_
  refine y_virt rfl rfl rfl rfl rfl (ySh.t hS rfl) (ySh.n hS rfl) ?_
  refine y_in (M := xm_X0_votesFor) (ls := [some _, some _]) rfl rfl rfl ?_
  refine y_aload_n rfl rfl ?_
  refine y_getR rfl (ySh.t hS rfl) (ySh.n hS rfl) rfl rfl (ySh.r hS rfl) ?_
  refine y_iload_n rfl rfl ?_
  refine y_iaload rfl (ySh.t hS rfl) (ySh.n hS rfl) (by omega) (by omega) ?_
  refine y_static rfl rfl rfl rfl rfl ?_
  refine sp_bitCount ?_
  refine y_ret1 ?_
  refine y_ireturn rfl rfl rfl ?_
  refine y_ret1 ?_
  refine y_iconst rfl ?_
  refine y_icmp_lt rfl j_X0_isAllowedNow_13 (fun h_1 => ?_) (fun h_2 => ?_)
  · rw [yz_3] at h_1
    refine y_iconst rfl ?_
    refine y_ireturn rfl rfl rfl ?_
    exact hQ0 (by assumption)
  · rw [yz_3] at h_2
    refine y_iconst rfl ?_
    refine y_goto rfl j_X0_isAllowedNow_14 ?_
    refine y_ireturn rfl rfl rfl ?_
    exact hQ1 (by assumption)
theorem sp_at {v p : Int32} {st : yS} (h0 : 0 ≤ v.toInt) (h1 : v.toInt < 6) (h2 : 0 ≤ p.toInt) (h3 : p.toInt < 9) (hQ : ∀ z : Int32, z.toInt = v.toInt * 9 + p.toInt → Q (.inl (some (.int z))) st c s) : yC 107 [.ref 69, .int v, .int p] st c s Q := by
  refine y_in (M := xm_X7_at) (ls := [some _, some _, some _]) rfl rfl rfl ?_
  refine y_iload_n rfl rfl ?_
  refine y_bip rfl (by decide) ?_
  refine y_imul rfl ?_
  refine y_iload_n rfl rfl ?_
  refine y_iadd rfl ?_
  refine y_ireturn rfl rfl rfl ?_
  exact hQ _ (by rw [yadd, ymul, yz_9] <;> (try rw [ymul, yz_9]) <;> (try rw [yz_9]) <;> omega)
theorem lp_ownedBy_X6 (hS : ySh n tg R) (hC : yCI I) {x1 : Int32} (hQ : ∀ v, Q (.inl (some (.int v))) (n, tg, I, R) c s) : ∀ (m : Nat) (x2 : Int32) (x3 : Int32), 0 ≤ x3.toInt → x3.toInt ≤ (I 40 0).toInt → (I 40 0).toInt - x3.toInt < m → yW xm_X6_ownedBy xc_X6_ownedBy_4 [some (.ref 40), some (.int x1), some (.int x2), some (.int x3)] [] (n, tg, I, R) c s Q := by
  intro m
  induction m with
  | zero => intro x2 x3 h0 h1 h2; exfalso; omega
  | succ m ih =>
    intro x2 x3 h0 h1 h2
    refine y_iload_n rfl rfl ?_
    refine y_aload_n rfl rfl ?_
    refine y_getI rfl (ySh.t hS rfl) (ySh.n hS rfl) rfl rfl ?_
    refine y_icmp_ge rfl j_X6_ownedBy_31 (fun h_1 => ?_) (fun h_2 => ?_)
    · refine y_iload_n rfl rfl ?_
      refine y_ireturn rfl rfl rfl ?_
      exact hQ _
    · refine y_aload_n rfl rfl ?_
      refine y_getR rfl (ySh.t hS rfl) (ySh.n hS rfl) rfl rfl (ySh.r hS rfl) ?_
      refine y_iload_n rfl rfl ?_
      refine y_iaload rfl (ySh.t hS rfl) (ySh.n hS rfl) (by omega) (by omega) ?_
      refine y_iload_n rfl rfl ?_
      refine y_icmp_ne rfl j_X6_ownedBy_25 (fun h_3 => ?_) (fun h_4 => ?_)
      · refine y_iinc (ls' := [some _, some _, some _, some _]) rfl rfl rfl rfl ?_
        refine y_goto rfl j_X6_ownedBy_4 ?_
        exact ih _ _ (by first | omega | (rw [yinc (by omega)]; omega)) (by first | omega | (rw [yinc (by omega)]; omega)) (by first | omega | (rw [yinc (by omega)]; omega))
      · refine y_iinc (ls' := [some _, some _, some _, some _]) rfl rfl rfl rfl ?_
        refine y_iinc (ls' := [some _, some _, some _, some _]) rfl rfl rfl rfl ?_
        refine y_goto rfl j_X6_ownedBy_4 ?_
        exact ih _ _ (by first | omega | (rw [yinc (by omega)]; omega)) (by first | omega | (rw [yinc (by omega)]; omega)) (by first | omega | (rw [yinc (by omega)]; omega))
theorem sp_ownedBy_X6 (hS : ySh n tg R) (hC : yCI I) {x1 : Int32} (hQ : ∀ v, Q (.inl (some (.int v))) (n, tg, I, R) c s) : yC 101 [.ref 40, .int x1] (n, tg, I, R) c s Q := by
  refine y_in (M := xm_X6_ownedBy) (ls := [some _, some _, _, _]) rfl rfl rfl ?_
  refine y_iconst rfl ?_
  refine y_istore_n (ls' := [some _, some _, some _, _]) rfl rfl rfl ?_
  refine y_iconst rfl ?_
  refine y_istore_n (ls' := [some _, some _, some _, some _]) rfl rfl rfl ?_
  exact lp_ownedBy_X6 hS hC hQ 100000 _ _ (by decide) (by rw [yz_0]; omega) (by rw [yz_0]; omega)
theorem lp_isInOrder_X6 (hS : ySh n tg R) (hC : yCI I) (hQ1 : Q (.inl (some (.int (Int32.ofInt 1)))) (n, tg, I, R) c s) (hQ0 : Q (.inl (some (.int (Int32.ofInt 0)))) (n, tg, I, R) c s) : ∀ (m : Nat) (x1 : Int32), 0 ≤ x1.toInt → x1.toInt ≤ (I 40 0).toInt → (I 40 0).toInt - x1.toInt < m → yW xm_X6_isInOrder xc_X6_isInOrder_2 [some (.ref 40), some (.int x1)] [] (n, tg, I, R) c s Q := by
  intro m
  induction m with
  | zero => intro x1 h0 h1 h2; exfalso; omega
  | succ m ih =>
    intro x1 h0 h1 h2
    refine y_iload_n rfl rfl ?_
    refine y_aload_n rfl rfl ?_
    refine y_getI rfl (ySh.t hS rfl) (ySh.n hS rfl) rfl rfl ?_
    refine y_icmp_ge rfl j_X6_isInOrder_46 (fun h_1 => ?_) (fun h_2 => ?_)
    · refine y_iconst rfl ?_
      refine y_ireturn rfl rfl rfl ?_
      exact hQ1
    · refine y_aload_n rfl rfl ?_
      refine y_iload_n rfl rfl ?_
      refine y_virt rfl rfl rfl rfl rfl (ySh.t hS rfl) (ySh.n hS rfl) ?_
      refine y_in (M := xm_X6_isLeased) (ls := [some _, some _]) rfl rfl rfl ?_
      refine y_aload_n rfl rfl ?_
      refine y_getR rfl (ySh.t hS rfl) (ySh.n hS rfl) rfl rfl (ySh.r hS rfl) ?_
      refine y_iload_n rfl rfl ?_
      refine y_iaload rfl (ySh.t hS rfl) (ySh.n hS rfl) (by omega) (by omega) ?_
      refine y_iconst rfl ?_
      refine y_icmp_eq rfl j_X6_isLeased_14 (fun h_3 => ?_) (fun h_4 => ?_)
      · rw [yz_m1] at h_3
        refine y_iconst rfl ?_
        refine y_ireturn rfl rfl rfl ?_
        refine y_ret1 ?_
        refine y_if_eqT rfl j_X6_isInOrder_40 (by decide) ?_
        refine y_iinc (ls' := [some _, some _]) rfl rfl rfl rfl ?_
        refine y_goto rfl j_X6_isInOrder_2 ?_
        exact ih _ (by first | omega | (rw [yinc (by omega)]; omega)) (by first | omega | (rw [yinc (by omega)]; omega)) (by first | omega | (rw [yinc (by omega)]; omega))
      · rw [yz_m1] at h_4
        refine y_iconst rfl ?_
        refine y_goto rfl j_X6_isLeased_15 ?_
        refine y_ireturn rfl rfl rfl ?_
        refine y_ret1 ?_
        refine y_if_eqF rfl (by decide) ?_
        refine y_aload_n rfl rfl ?_
        refine y_getR rfl (ySh.t hS rfl) (ySh.n hS rfl) rfl rfl (ySh.r hS rfl) ?_
        refine y_iload_n rfl rfl ?_
        refine y_iaload rfl (ySh.t hS rfl) (ySh.n hS rfl) (by omega) (by omega) ?_
        refine y_bip rfl (by decide) ?_
        refine y_icmp_ne rfl j_X6_isInOrder_38 (fun h_5 => ?_) (fun h_6 => ?_)
        · rw [yz_8] at h_5
          refine y_iconst rfl ?_
          refine y_ireturn rfl rfl rfl ?_
          exact hQ0
        · rw [yz_8] at h_6
          refine y_aload_n rfl rfl ?_
          refine y_getR rfl (ySh.t hS rfl) (ySh.n hS rfl) rfl rfl (ySh.r hS rfl) ?_
          refine y_iload_n rfl rfl ?_
          refine y_baload rfl (ySh.t hS rfl) rfl (ySh.n hS rfl) (by omega) (by omega) ?_
          refine y_if_eq rfl j_X6_isInOrder_40 (fun h_7 => ?_) (fun h_8 => ?_)
          · refine y_iinc (ls' := [some _, some _]) rfl rfl rfl rfl ?_
            refine y_goto rfl j_X6_isInOrder_2 ?_
            exact ih _ (by first | omega | (rw [yinc (by omega)]; omega)) (by first | omega | (rw [yinc (by omega)]; omega)) (by first | omega | (rw [yinc (by omega)]; omega))
          · refine y_iconst rfl ?_
            refine y_ireturn rfl rfl rfl ?_
            exact hQ0
theorem sp_isInOrder_X6 (hS : ySh n tg R) (hC : yCI I) (hQ1 : Q (.inl (some (.int (Int32.ofInt 1)))) (n, tg, I, R) c s) (hQ0 : Q (.inl (some (.int (Int32.ofInt 0)))) (n, tg, I, R) c s) : yC 103 [.ref 40] (n, tg, I, R) c s Q := by
  refine y_in (M := xm_X6_isInOrder) (ls := [some _, _]) rfl rfl rfl ?_
  refine y_iconst rfl ?_
  refine y_istore_n (ls' := [some _, some _]) rfl rfl rfl ?_
  exact lp_isInOrder_X6 hS hC hQ1 hQ0 100000 _ (by decide) (by rw [yz_0]; omega) (by rw [yz_0]; omega)
theorem lp_countVoid_X5 (hS : ySh n tg R) (hC : yCI I) (hQ : ∀ v, Q (.inl (some (.int v))) (n, tg, I, R) c s) : ∀ (m : Nat) (x1 : Int32) (x2 : Int32), 0 ≤ x2.toInt → x2.toInt ≤ (I 48 0).toInt → (I 48 0).toInt - x2.toInt < m → yW xm_X5_countVoid xc_X5_countVoid_4 [some (.ref 48), some (.int x1), some (.int x2)] [] (n, tg, I, R) c s Q := by
  intro m
  induction m with
  | zero => intro x1 x2 h0 h1 h2; exfalso; omega
  | succ m ih =>
    intro x1 x2 h0 h1 h2
    refine y_iload_n rfl rfl ?_
    refine y_aload_n rfl rfl ?_
    refine y_getI rfl (ySh.t hS rfl) (ySh.n hS rfl) rfl rfl ?_
    refine y_icmp_ge rfl j_X5_countVoid_34 (fun h_1 => ?_) (fun h_2 => ?_)
    · refine y_iload_n rfl rfl ?_
      refine y_ireturn rfl rfl rfl ?_
      exact hQ _
    · refine y_iload_n rfl rfl ?_
      refine y_aload_n rfl rfl ?_
      refine y_iload_n rfl rfl ?_
      refine y_virt rfl rfl rfl rfl rfl (ySh.t hS rfl) (ySh.n hS rfl) ?_
      refine y_in (M := xm_X5_isVoid) (ls := [some _, some _]) rfl rfl rfl ?_
      refine y_aload_n rfl rfl ?_
      refine y_getR rfl (ySh.t hS rfl) (ySh.n hS rfl) rfl rfl (ySh.r hS rfl) ?_
      refine y_iload_n rfl rfl ?_
      refine y_iaload rfl (ySh.t hS rfl) (ySh.n hS rfl) (by omega) (by omega) ?_
      refine y_if_eq rfl j_X5_isVoid_13 (fun h_3 => ?_) (fun h_4 => ?_)
      · refine y_iconst rfl ?_
        refine y_ireturn rfl rfl rfl ?_
        refine y_ret1 ?_
        refine y_if_eqT rfl j_X5_countVoid_25 (by decide) ?_
        refine y_iconst rfl ?_
        refine y_iadd rfl ?_
        refine y_istore_n (ls' := [some _, some _, some _]) rfl rfl rfl ?_
        refine y_iinc (ls' := [some _, some _, some _]) rfl rfl rfl rfl ?_
        refine y_goto rfl j_X5_countVoid_4 ?_
        exact ih _ _ (by first | omega | (rw [yinc (by omega)]; omega)) (by first | omega | (rw [yinc (by omega)]; omega)) (by first | omega | (rw [yinc (by omega)]; omega))
      · refine y_iconst rfl ?_
        refine y_goto rfl j_X5_isVoid_14 ?_
        refine y_ireturn rfl rfl rfl ?_
        refine y_ret1 ?_
        refine y_if_eqF rfl (by decide) ?_
        refine y_iconst rfl ?_
        refine y_goto rfl j_X5_countVoid_26 ?_
        refine y_iadd rfl ?_
        refine y_istore_n (ls' := [some _, some _, some _]) rfl rfl rfl ?_
        refine y_iinc (ls' := [some _, some _, some _]) rfl rfl rfl rfl ?_
        refine y_goto rfl j_X5_countVoid_4 ?_
        exact ih _ _ (by first | omega | (rw [yinc (by omega)]; omega)) (by first | omega | (rw [yinc (by omega)]; omega)) (by first | omega | (rw [yinc (by omega)]; omega))
theorem sp_countVoid_X5 (hS : ySh n tg R) (hC : yCI I) (hQ : ∀ v, Q (.inl (some (.int v))) (n, tg, I, R) c s) : yC 91 [.ref 48] (n, tg, I, R) c s Q := by
  refine y_in (M := xm_X5_countVoid) (ls := [some _, _, _]) rfl rfl rfl ?_
  refine y_iconst rfl ?_
  refine y_istore_n (ls' := [some _, some _, _]) rfl rfl rfl ?_
  refine y_iconst rfl ?_
  refine y_istore_n (ls' := [some _, some _, some _]) rfl rfl rfl ?_
  exact lp_countVoid_X5 hS hC hQ 100000 _ _ (by decide) (by rw [yz_0]; omega) (by rw [yz_0]; omega)
theorem lp_countDone_X5 (hS : ySh n tg R) (hC : yCI I) (hQ : ∀ v, Q (.inl (some (.int v))) (n, tg, I, R) c s) : ∀ (m : Nat) (x1 : Int32) (x2 : Int32), 0 ≤ x2.toInt → x2.toInt ≤ (I 48 0).toInt → (I 48 0).toInt - x2.toInt < m → yW xm_X5_countDone xc_X5_countDone_4 [some (.ref 48), some (.int x1), some (.int x2)] [] (n, tg, I, R) c s Q := by
  intro m
  induction m with
  | zero => intro x1 x2 h0 h1 h2; exfalso; omega
  | succ m ih =>
    intro x1 x2 h0 h1 h2
    refine y_iload_n rfl rfl ?_
    refine y_aload_n rfl rfl ?_
    refine y_getI rfl (ySh.t hS rfl) (ySh.n hS rfl) rfl rfl ?_
    refine y_icmp_ge rfl j_X5_countDone_34 (fun h_1 => ?_) (fun h_2 => ?_)
    · refine y_iload_n rfl rfl ?_
      refine y_ireturn rfl rfl rfl ?_
      exact hQ _
    · refine y_iload_n rfl rfl ?_
      refine y_aload_n rfl rfl ?_
      refine y_iload_n rfl rfl ?_
      refine y_virt rfl rfl rfl rfl rfl (ySh.t hS rfl) (ySh.n hS rfl) ?_
      refine y_in (M := xm_X5_isDone) (ls := [some _, some _]) rfl rfl rfl ?_
      refine y_aload_n rfl rfl ?_
      refine y_iload_n rfl rfl ?_
      refine y_virt rfl rfl rfl rfl rfl (ySh.t hS rfl) (ySh.n hS rfl) ?_
      refine y_in (M := xm_X5_isVoid) (ls := [some _, some _]) rfl rfl rfl ?_
      refine y_aload_n rfl rfl ?_
      refine y_getR rfl (ySh.t hS rfl) (ySh.n hS rfl) rfl rfl (ySh.r hS rfl) ?_
      refine y_iload_n rfl rfl ?_
      refine y_iaload rfl (ySh.t hS rfl) (ySh.n hS rfl) (by omega) (by omega) ?_
      refine y_if_eq rfl j_X5_isVoid_13 (fun h_3 => ?_) (fun h_4 => ?_)
      · refine y_iconst rfl ?_
        refine y_ireturn rfl rfl rfl ?_
        refine y_ret1 ?_
        refine y_if_neF rfl (by decide) ?_
        refine y_aload_n rfl rfl ?_
        refine y_getR rfl (ySh.t hS rfl) (ySh.n hS rfl) rfl rfl (ySh.r hS rfl) ?_
        refine y_iload_n rfl rfl ?_
        refine y_iaload rfl (ySh.t hS rfl) (ySh.n hS rfl) (by omega) (by omega) ?_
        refine y_aload_n rfl rfl ?_
        refine y_getR rfl (ySh.t hS rfl) (ySh.n hS rfl) rfl rfl (ySh.r hS rfl) ?_
        refine y_iload_n rfl rfl ?_
        refine y_iaload rfl (ySh.t hS rfl) (ySh.n hS rfl) (by omega) (by omega) ?_
        refine y_icmp_lt rfl j_X5_isDone_27 (fun h_5 => ?_) (fun h_6 => ?_)
        · refine y_iconst rfl ?_
          refine y_ireturn rfl rfl rfl ?_
          refine y_ret1 ?_
          refine y_if_eqT rfl j_X5_countDone_25 (by decide) ?_
          refine y_iconst rfl ?_
          refine y_iadd rfl ?_
          refine y_istore_n (ls' := [some _, some _, some _]) rfl rfl rfl ?_
          refine y_iinc (ls' := [some _, some _, some _]) rfl rfl rfl rfl ?_
          refine y_goto rfl j_X5_countDone_4 ?_
          exact ih _ _ (by first | omega | (rw [yinc (by omega)]; omega)) (by first | omega | (rw [yinc (by omega)]; omega)) (by first | omega | (rw [yinc (by omega)]; omega))
        · refine y_iconst rfl ?_
          refine y_goto rfl j_X5_isDone_28 ?_
          refine y_ireturn rfl rfl rfl ?_
          refine y_ret1 ?_
          refine y_if_eqF rfl (by decide) ?_
          refine y_iconst rfl ?_
          refine y_goto rfl j_X5_countDone_26 ?_
          refine y_iadd rfl ?_
          refine y_istore_n (ls' := [some _, some _, some _]) rfl rfl rfl ?_
          refine y_iinc (ls' := [some _, some _, some _]) rfl rfl rfl rfl ?_
          refine y_goto rfl j_X5_countDone_4 ?_
          exact ih _ _ (by first | omega | (rw [yinc (by omega)]; omega)) (by first | omega | (rw [yinc (by omega)]; omega)) (by first | omega | (rw [yinc (by omega)]; omega))
      · refine y_iconst rfl ?_
        refine y_goto rfl j_X5_isVoid_14 ?_
        refine y_ireturn rfl rfl rfl ?_
        refine y_ret1 ?_
        refine y_if_neT rfl j_X5_isDone_27 (by decide) ?_
        refine y_iconst rfl ?_
        refine y_ireturn rfl rfl rfl ?_
        refine y_ret1 ?_
        refine y_if_eqT rfl j_X5_countDone_25 (by decide) ?_
        refine y_iconst rfl ?_
        refine y_iadd rfl ?_
        refine y_istore_n (ls' := [some _, some _, some _]) rfl rfl rfl ?_
        refine y_iinc (ls' := [some _, some _, some _]) rfl rfl rfl rfl ?_
        refine y_goto rfl j_X5_countDone_4 ?_
        exact ih _ _ (by first | omega | (rw [yinc (by omega)]; omega)) (by first | omega | (rw [yinc (by omega)]; omega)) (by first | omega | (rw [yinc (by omega)]; omega))
theorem sp_countDone_X5 (hS : ySh n tg R) (hC : yCI I) (hQ : ∀ v, Q (.inl (some (.int v))) (n, tg, I, R) c s) : yC 92 [.ref 48] (n, tg, I, R) c s Q := by
  refine y_in (M := xm_X5_countDone) (ls := [some _, _, _]) rfl rfl rfl ?_
  refine y_iconst rfl ?_
  refine y_istore_n (ls' := [some _, some _, _]) rfl rfl rfl ?_
  refine y_iconst rfl ?_
  refine y_istore_n (ls' := [some _, some _, some _]) rfl rfl rfl ?_
  exact lp_countDone_X5 hS hC hQ 100000 _ _ (by decide) (by rw [yz_0]; omega) (by rw [yz_0]; omega)
theorem lp_allFees_X5 (hS : ySh n tg R) (hC : yCI I) (hQ : ∀ v, Q (.inl (some (.int v))) (n, tg, I, R) c s) : ∀ (m : Nat) (x1 : Int32) (x2 : Int32), 0 ≤ x2.toInt → x2.toInt ≤ (I 48 0).toInt → (I 48 0).toInt - x2.toInt < m → yW xm_X5_allFees xc_X5_allFees_4 [some (.ref 48), some (.int x1), some (.int x2)] [] (n, tg, I, R) c s Q := by
  intro m
  induction m with
  | zero => intro x1 x2 h0 h1 h2; exfalso; omega
  | succ m ih =>
    intro x1 x2 h0 h1 h2
    refine y_iload_n rfl rfl ?_
    refine y_aload_n rfl rfl ?_
    refine y_getI rfl (ySh.t hS rfl) (ySh.n hS rfl) rfl rfl ?_
    refine y_icmp_ge rfl j_X5_allFees_27 (fun h_1 => ?_) (fun h_2 => ?_)
    · refine y_iload_n rfl rfl ?_
      refine y_ireturn rfl rfl rfl ?_
      exact hQ _
    · refine y_iload_n rfl rfl ?_
      refine y_aload_n rfl rfl ?_
      refine y_getR rfl (ySh.t hS rfl) (ySh.n hS rfl) rfl rfl (ySh.r hS rfl) ?_
      refine y_iload_n rfl rfl ?_
      refine y_iaload rfl (ySh.t hS rfl) (ySh.n hS rfl) (by omega) (by omega) ?_
      refine y_iadd rfl ?_
      refine y_istore_n (ls' := [some _, some _, some _]) rfl rfl rfl ?_
      refine y_iinc (ls' := [some _, some _, some _]) rfl rfl rfl rfl ?_
      refine y_goto rfl j_X5_allFees_4 ?_
      exact ih _ _ (by first | omega | (rw [yinc (by omega)]; omega)) (by first | omega | (rw [yinc (by omega)]; omega)) (by first | omega | (rw [yinc (by omega)]; omega))
theorem sp_allFees_X5 (hS : ySh n tg R) (hC : yCI I) (hQ : ∀ v, Q (.inl (some (.int v))) (n, tg, I, R) c s) : yC 93 [.ref 48] (n, tg, I, R) c s Q := by
  refine y_in (M := xm_X5_allFees) (ls := [some _, _, _]) rfl rfl rfl ?_
  refine y_iconst rfl ?_
  refine y_istore_n (ls' := [some _, some _, _]) rfl rfl rfl ?_
  refine y_iconst rfl ?_
  refine y_istore_n (ls' := [some _, some _, some _]) rfl rfl rfl ?_
  exact lp_allFees_X5 hS hC hQ 100000 _ _ (by decide) (by rw [yz_0]; omega) (by rw [yz_0]; omega)
theorem lp_isInOrder_X5 (hS : ySh n tg R) (hC : yCI I) (hQ1 : Q (.inl (some (.int (Int32.ofInt 1)))) (n, tg, I, R) c s) (hQ0 : Q (.inl (some (.int (Int32.ofInt 0)))) (n, tg, I, R) c s) : ∀ (m : Nat) (x1 : Int32), 0 ≤ x1.toInt → x1.toInt ≤ (I 48 0).toInt → (I 48 0).toInt - x1.toInt < m → yW xm_X5_isInOrder xc_X5_isInOrder_2 [some (.ref 48), some (.int x1)] [] (n, tg, I, R) c s Q := by
  intro m
  induction m with
  | zero => intro x1 h0 h1 h2; exfalso; omega
  | succ m ih =>
    intro x1 h0 h1 h2
    refine y_iload_n rfl rfl ?_
    refine y_aload_n rfl rfl ?_
    refine y_getI rfl (ySh.t hS rfl) (ySh.n hS rfl) rfl rfl ?_
    refine y_icmp_ge rfl j_X5_isInOrder_35 (fun h_1 => ?_) (fun h_2 => ?_)
    · refine y_iconst rfl ?_
      refine y_ireturn rfl rfl rfl ?_
      exact hQ1
    · refine y_aload_n rfl rfl ?_
      refine y_iload_n rfl rfl ?_
      refine y_virt rfl rfl rfl rfl rfl (ySh.t hS rfl) (ySh.n hS rfl) ?_
      refine y_in (M := xm_X5_isVoid) (ls := [some _, some _]) rfl rfl rfl ?_
      refine y_aload_n rfl rfl ?_
      refine y_getR rfl (ySh.t hS rfl) (ySh.n hS rfl) rfl rfl (ySh.r hS rfl) ?_
      refine y_iload_n rfl rfl ?_
      refine y_iaload rfl (ySh.t hS rfl) (ySh.n hS rfl) (by omega) (by omega) ?_
      refine y_if_eq rfl j_X5_isVoid_13 (fun h_3 => ?_) (fun h_4 => ?_)
      · refine y_iconst rfl ?_
        refine y_ireturn rfl rfl rfl ?_
        refine y_ret1 ?_
        refine y_if_eqT rfl j_X5_isInOrder_29 (by decide) ?_
        refine y_iinc (ls' := [some _, some _]) rfl rfl rfl rfl ?_
        refine y_goto rfl j_X5_isInOrder_2 ?_
        exact ih _ (by first | omega | (rw [yinc (by omega)]; omega)) (by first | omega | (rw [yinc (by omega)]; omega)) (by first | omega | (rw [yinc (by omega)]; omega))
      · refine y_iconst rfl ?_
        refine y_goto rfl j_X5_isVoid_14 ?_
        refine y_ireturn rfl rfl rfl ?_
        refine y_ret1 ?_
        refine y_if_eqF rfl (by decide) ?_
        refine y_aload_n rfl rfl ?_
        refine y_getR rfl (ySh.t hS rfl) (ySh.n hS rfl) rfl rfl (ySh.r hS rfl) ?_
        refine y_iload_n rfl rfl ?_
        refine y_iaload rfl (ySh.t hS rfl) (ySh.n hS rfl) (by omega) (by omega) ?_
        refine y_if_le rfl j_X5_isInOrder_29 (fun h_5 => ?_) (fun h_6 => ?_)
        · refine y_iinc (ls' := [some _, some _]) rfl rfl rfl rfl ?_
          refine y_goto rfl j_X5_isInOrder_2 ?_
          exact ih _ (by first | omega | (rw [yinc (by omega)]; omega)) (by first | omega | (rw [yinc (by omega)]; omega)) (by first | omega | (rw [yinc (by omega)]; omega))
        · refine y_iconst rfl ?_
          refine y_ireturn rfl rfl rfl ?_
          exact hQ0
theorem sp_isInOrder_X5 (hS : ySh n tg R) (hC : yCI I) (hQ1 : Q (.inl (some (.int (Int32.ofInt 1)))) (n, tg, I, R) c s) (hQ0 : Q (.inl (some (.int (Int32.ofInt 0)))) (n, tg, I, R) c s) : yC 94 [.ref 48] (n, tg, I, R) c s Q := by
  refine y_in (M := xm_X5_isInOrder) (ls := [some _, _]) rfl rfl rfl ?_
  refine y_iconst rfl ?_
  refine y_istore_n (ls' := [some _, some _]) rfl rfl rfl ?_
  exact lp_isInOrder_X5 hS hC hQ1 hQ0 100000 _ (by decide) (by rw [yz_0]; omega) (by rw [yz_0]; omega)
theorem lp_partsLeftOf_X5 (hS : ySh n tg R) (hC : yCI I) {x1 : Int32} (hQ : ∀ v, Q (.inl (some (.int v))) (n, tg, I, R) c s) : ∀ (m : Nat) (x2 : Int32) (x3 : Int32), 0 ≤ x3.toInt → x3.toInt ≤ (I 48 0).toInt → (I 48 0).toInt - x3.toInt < m → yW xm_X5_partsLeftOf xc_X5_partsLeftOf_4 [some (.ref 48), some (.int x1), some (.int x2), some (.int x3)] [] (n, tg, I, R) c s Q := by
  intro m
  induction m with
  | zero => intro x2 x3 h0 h1 h2; exfalso; omega
  | succ m ih =>
    intro x2 x3 h0 h1 h2
    refine y_iload_n rfl rfl ?_
    refine y_aload_n rfl rfl ?_
    refine y_getI rfl (ySh.t hS rfl) (ySh.n hS rfl) rfl rfl ?_
    refine y_icmp_ge rfl j_X5_partsLeftOf_40 (fun h_1 => ?_) (fun h_2 => ?_)
    · refine y_iload_n rfl rfl ?_
      refine y_ireturn rfl rfl rfl ?_
      exact hQ _
    · refine y_iload_n rfl rfl ?_
      refine y_aload_n rfl rfl ?_
      refine y_getR rfl (ySh.t hS rfl) (ySh.n hS rfl) rfl rfl (ySh.r hS rfl) ?_
      refine y_iload_n rfl rfl ?_
      refine y_iaload rfl (ySh.t hS rfl) (ySh.n hS rfl) (by omega) (by omega) ?_
      refine y_iload_n rfl rfl ?_
      refine y_icmp_ne rfl j_X5_partsLeftOf_31 (fun h_3 => ?_) (fun h_4 => ?_)
      · refine y_iconst rfl ?_
        refine y_iadd rfl ?_
        refine y_istore_n (ls' := [some _, some _, some _, some _]) rfl rfl rfl ?_
        refine y_iinc (ls' := [some _, some _, some _, some _]) rfl rfl rfl rfl ?_
        refine y_goto rfl j_X5_partsLeftOf_4 ?_
        exact ih _ _ (by first | omega | (rw [yinc (by omega)]; omega)) (by first | omega | (rw [yinc (by omega)]; omega)) (by first | omega | (rw [yinc (by omega)]; omega))
      · refine y_aload_n rfl rfl ?_
        refine y_iload_n rfl rfl ?_
        refine y_virt rfl rfl rfl rfl rfl (ySh.t hS rfl) (ySh.n hS rfl) ?_
        refine y_in (M := xm_X5_partsLeft) (ls := [some _, some _]) rfl rfl rfl ?_
        refine y_aload_n rfl rfl ?_
        refine y_iload_n rfl rfl ?_
        refine y_virt rfl rfl rfl rfl rfl (ySh.t hS rfl) (ySh.n hS rfl) ?_
        refine y_in (M := xm_X5_isOpen) (ls := [some _, some _]) rfl rfl rfl ?_
        refine y_aload_n rfl rfl ?_
        refine y_iload_n rfl rfl ?_
        refine y_virt rfl rfl rfl rfl rfl (ySh.t hS rfl) (ySh.n hS rfl) ?_
        refine y_in (M := xm_X5_isVoid) (ls := [some _, some _]) rfl rfl rfl ?_
        refine y_aload_n rfl rfl ?_
        refine y_getR rfl (ySh.t hS rfl) (ySh.n hS rfl) rfl rfl (ySh.r hS rfl) ?_
        refine y_iload_n rfl rfl ?_
        refine y_iaload rfl (ySh.t hS rfl) (ySh.n hS rfl) (by omega) (by omega) ?_
        refine y_if_eq rfl j_X5_isVoid_13 (fun h_5 => ?_) (fun h_6 => ?_)
        · refine y_iconst rfl ?_
          refine y_ireturn rfl rfl rfl ?_
          refine y_ret1 ?_
          refine y_if_neF rfl (by decide) ?_
          refine y_aload_n rfl rfl ?_
          refine y_getR rfl (ySh.t hS rfl) (ySh.n hS rfl) rfl rfl (ySh.r hS rfl) ?_
          refine y_iload_n rfl rfl ?_
          refine y_iaload rfl (ySh.t hS rfl) (ySh.n hS rfl) (by omega) (by omega) ?_
          refine y_aload_n rfl rfl ?_
          refine y_getR rfl (ySh.t hS rfl) (ySh.n hS rfl) rfl rfl (ySh.r hS rfl) ?_
          refine y_iload_n rfl rfl ?_
          refine y_iaload rfl (ySh.t hS rfl) (ySh.n hS rfl) (by omega) (by omega) ?_
          refine y_icmp_ge rfl j_X5_isOpen_27 (fun h_7 => ?_) (fun h_8 => ?_)
          · refine y_iconst rfl ?_
            refine y_ireturn rfl rfl rfl ?_
            refine y_ret1 ?_
            refine y_if_eqT rfl j_X5_partsLeft_24 (by decide) ?_
            refine y_iconst rfl ?_
            refine y_ireturn rfl rfl rfl ?_
            refine y_ret1 ?_
            refine y_goto rfl j_X5_partsLeftOf_32 ?_
            refine y_iadd rfl ?_
            refine y_istore_n (ls' := [some _, some _, some _, some _]) rfl rfl rfl ?_
            refine y_iinc (ls' := [some _, some _, some _, some _]) rfl rfl rfl rfl ?_
            refine y_goto rfl j_X5_partsLeftOf_4 ?_
            exact ih _ _ (by first | omega | (rw [yinc (by omega)]; omega)) (by first | omega | (rw [yinc (by omega)]; omega)) (by first | omega | (rw [yinc (by omega)]; omega))
          · refine y_iconst rfl ?_
            refine y_goto rfl j_X5_isOpen_28 ?_
            refine y_ireturn rfl rfl rfl ?_
            refine y_ret1 ?_
            refine y_if_eqF rfl (by decide) ?_
            refine y_aload_n rfl rfl ?_
            refine y_getR rfl (ySh.t hS rfl) (ySh.n hS rfl) rfl rfl (ySh.r hS rfl) ?_
            refine y_iload_n rfl rfl ?_
            refine y_iaload rfl (ySh.t hS rfl) (ySh.n hS rfl) (by omega) (by omega) ?_
            refine y_aload_n rfl rfl ?_
            refine y_getR rfl (ySh.t hS rfl) (ySh.n hS rfl) rfl rfl (ySh.r hS rfl) ?_
            refine y_iload_n rfl rfl ?_
            refine y_iaload rfl (ySh.t hS rfl) (ySh.n hS rfl) (by omega) (by omega) ?_
            refine y_isub rfl ?_
            refine y_goto rfl j_X5_partsLeft_25 ?_
            refine y_ireturn rfl rfl rfl ?_
            refine y_ret1 ?_
            refine y_goto rfl j_X5_partsLeftOf_32 ?_
            refine y_iadd rfl ?_
            refine y_istore_n (ls' := [some _, some _, some _, some _]) rfl rfl rfl ?_
            refine y_iinc (ls' := [some _, some _, some _, some _]) rfl rfl rfl rfl ?_
            refine y_goto rfl j_X5_partsLeftOf_4 ?_
            exact ih _ _ (by first | omega | (rw [yinc (by omega)]; omega)) (by first | omega | (rw [yinc (by omega)]; omega)) (by first | omega | (rw [yinc (by omega)]; omega))
        · refine y_iconst rfl ?_
          refine y_goto rfl j_X5_isVoid_14 ?_
          refine y_ireturn rfl rfl rfl ?_
          refine y_ret1 ?_
          refine y_if_neT rfl j_X5_isOpen_27 (by decide) ?_
          refine y_iconst rfl ?_
          refine y_ireturn rfl rfl rfl ?_
          refine y_ret1 ?_
          refine y_if_eqT rfl j_X5_partsLeft_24 (by decide) ?_
          refine y_iconst rfl ?_
          refine y_ireturn rfl rfl rfl ?_
          refine y_ret1 ?_
          refine y_goto rfl j_X5_partsLeftOf_32 ?_
          refine y_iadd rfl ?_
          refine y_istore_n (ls' := [some _, some _, some _, some _]) rfl rfl rfl ?_
          refine y_iinc (ls' := [some _, some _, some _, some _]) rfl rfl rfl rfl ?_
          refine y_goto rfl j_X5_partsLeftOf_4 ?_
          exact ih _ _ (by first | omega | (rw [yinc (by omega)]; omega)) (by first | omega | (rw [yinc (by omega)]; omega)) (by first | omega | (rw [yinc (by omega)]; omega))
theorem sp_partsLeftOf_X5 (hS : ySh n tg R) (hC : yCI I) {x1 : Int32} (hQ : ∀ v, Q (.inl (some (.int v))) (n, tg, I, R) c s) : yC 89 [.ref 48, .int x1] (n, tg, I, R) c s Q := by
  refine y_in (M := xm_X5_partsLeftOf) (ls := [some _, some _, _, _]) rfl rfl rfl ?_
  refine y_iconst rfl ?_
  refine y_istore_n (ls' := [some _, some _, some _, _]) rfl rfl rfl ?_
  refine y_iconst rfl ?_
  refine y_istore_n (ls' := [some _, some _, some _, some _]) rfl rfl rfl ?_
  exact lp_partsLeftOf_X5 hS hC hQ 100000 _ _ (by decide) (by rw [yz_0]; omega) (by rw [yz_0]; omega)
theorem lp_debtOf_X5 (hS : ySh n tg R) (hC : yCI I) {x1 : Int32} (hQ : ∀ v, Q (.inl (some (.int v))) (n, tg, I, R) c s) : ∀ (m : Nat) (x2 : Int32) (x3 : Int32), 0 ≤ x3.toInt → x3.toInt ≤ (I 48 0).toInt → (I 48 0).toInt - x3.toInt < m → yW xm_X5_debtOf xc_X5_debtOf_4 [some (.ref 48), some (.int x1), some (.int x2), some (.int x3)] [] (n, tg, I, R) c s Q := by
  intro m
  induction m with
  | zero => intro x2 x3 h0 h1 h2; exfalso; omega
  | succ m ih =>
    intro x2 x3 h0 h1 h2
    refine y_iload_n rfl rfl ?_
    refine y_aload_n rfl rfl ?_
    refine y_getI rfl (ySh.t hS rfl) (ySh.n hS rfl) rfl rfl ?_
    refine y_icmp_ge rfl j_X5_debtOf_40 (fun h_1 => ?_) (fun h_2 => ?_)
    · refine y_iload_n rfl rfl ?_
      refine y_ireturn rfl rfl rfl ?_
      exact hQ _
    · refine y_iload_n rfl rfl ?_
      refine y_aload_n rfl rfl ?_
      refine y_getR rfl (ySh.t hS rfl) (ySh.n hS rfl) rfl rfl (ySh.r hS rfl) ?_
      refine y_iload_n rfl rfl ?_
      refine y_iaload rfl (ySh.t hS rfl) (ySh.n hS rfl) (by omega) (by omega) ?_
      refine y_iload_n rfl rfl ?_
      refine y_icmp_ne rfl j_X5_debtOf_31 (fun h_3 => ?_) (fun h_4 => ?_)
      · refine y_iconst rfl ?_
        refine y_iadd rfl ?_
        refine y_istore_n (ls' := [some _, some _, some _, some _]) rfl rfl rfl ?_
        refine y_iinc (ls' := [some _, some _, some _, some _]) rfl rfl rfl rfl ?_
        refine y_goto rfl j_X5_debtOf_4 ?_
        exact ih _ _ (by first | omega | (rw [yinc (by omega)]; omega)) (by first | omega | (rw [yinc (by omega)]; omega)) (by first | omega | (rw [yinc (by omega)]; omega))
      · refine y_aload_n rfl rfl ?_
        refine y_iload_n rfl rfl ?_
        refine y_virt rfl rfl rfl rfl rfl (ySh.t hS rfl) (ySh.n hS rfl) ?_
        refine y_in (M := xm_X5_debt) (ls := [some _, some _]) rfl rfl rfl ?_
        refine y_aload_n rfl rfl ?_
        refine y_iload_n rfl rfl ?_
        refine y_virt rfl rfl rfl rfl rfl (ySh.t hS rfl) (ySh.n hS rfl) ?_
        refine y_in (M := xm_X5_isOpen) (ls := [some _, some _]) rfl rfl rfl ?_
        refine y_aload_n rfl rfl ?_
        refine y_iload_n rfl rfl ?_
        refine y_virt rfl rfl rfl rfl rfl (ySh.t hS rfl) (ySh.n hS rfl) ?_
        refine y_in (M := xm_X5_isVoid) (ls := [some _, some _]) rfl rfl rfl ?_
        refine y_aload_n rfl rfl ?_
        refine y_getR rfl (ySh.t hS rfl) (ySh.n hS rfl) rfl rfl (ySh.r hS rfl) ?_
        refine y_iload_n rfl rfl ?_
        refine y_iaload rfl (ySh.t hS rfl) (ySh.n hS rfl) (by omega) (by omega) ?_
        refine y_if_eq rfl j_X5_isVoid_13 (fun h_5 => ?_) (fun h_6 => ?_)
        · refine y_iconst rfl ?_
          refine y_ireturn rfl rfl rfl ?_
          refine y_ret1 ?_
          refine y_if_neF rfl (by decide) ?_
          refine y_aload_n rfl rfl ?_
          refine y_getR rfl (ySh.t hS rfl) (ySh.n hS rfl) rfl rfl (ySh.r hS rfl) ?_
          refine y_iload_n rfl rfl ?_
          refine y_iaload rfl (ySh.t hS rfl) (ySh.n hS rfl) (by omega) (by omega) ?_
          refine y_aload_n rfl rfl ?_
          refine y_getR rfl (ySh.t hS rfl) (ySh.n hS rfl) rfl rfl (ySh.r hS rfl) ?_
          refine y_iload_n rfl rfl ?_
          refine y_iaload rfl (ySh.t hS rfl) (ySh.n hS rfl) (by omega) (by omega) ?_
          refine y_icmp_ge rfl j_X5_isOpen_27 (fun h_7 => ?_) (fun h_8 => ?_)
          · refine y_iconst rfl ?_
            refine y_ireturn rfl rfl rfl ?_
            refine y_ret1 ?_
            refine y_if_eqT rfl j_X5_debt_30 (by decide) ?_
            refine y_iconst rfl ?_
            refine y_ireturn rfl rfl rfl ?_
            refine y_ret1 ?_
            refine y_goto rfl j_X5_debtOf_32 ?_
            refine y_iadd rfl ?_
            refine y_istore_n (ls' := [some _, some _, some _, some _]) rfl rfl rfl ?_
            refine y_iinc (ls' := [some _, some _, some _, some _]) rfl rfl rfl rfl ?_
            refine y_goto rfl j_X5_debtOf_4 ?_
            exact ih _ _ (by first | omega | (rw [yinc (by omega)]; omega)) (by first | omega | (rw [yinc (by omega)]; omega)) (by first | omega | (rw [yinc (by omega)]; omega))
          · refine y_iconst rfl ?_
            refine y_goto rfl j_X5_isOpen_28 ?_
            refine y_ireturn rfl rfl rfl ?_
            refine y_ret1 ?_
            refine y_if_eqF rfl (by decide) ?_
            refine y_aload_n rfl rfl ?_
            refine y_getR rfl (ySh.t hS rfl) (ySh.n hS rfl) rfl rfl (ySh.r hS rfl) ?_
            refine y_iload_n rfl rfl ?_
            refine y_iaload rfl (ySh.t hS rfl) (ySh.n hS rfl) (by omega) (by omega) ?_
            refine y_aload_n rfl rfl ?_
            refine y_getR rfl (ySh.t hS rfl) (ySh.n hS rfl) rfl rfl (ySh.r hS rfl) ?_
            refine y_iload_n rfl rfl ?_
            refine y_iaload rfl (ySh.t hS rfl) (ySh.n hS rfl) (by omega) (by omega) ?_
            refine y_aload_n rfl rfl ?_
            refine y_iload_n rfl rfl ?_
            refine y_virt rfl rfl rfl rfl rfl (ySh.t hS rfl) (ySh.n hS rfl) ?_
            refine y_in (M := xm_X5_plainPart) (ls := [some _, some _]) rfl rfl rfl ?_
            refine y_aload_n rfl rfl ?_
            refine y_getR rfl (ySh.t hS rfl) (ySh.n hS rfl) rfl rfl (ySh.r hS rfl) ?_
            refine y_iload_n rfl rfl ?_
            refine y_iaload rfl (ySh.t hS rfl) (ySh.n hS rfl) (by omega) (by omega) ?_
            refine y_i2l rfl ?_
            refine y_lconst rfl ?_
            refine y_aload_n rfl rfl ?_
            refine y_getR rfl (ySh.t hS rfl) (ySh.n hS rfl) rfl rfl (ySh.r hS rfl) ?_
            refine y_iload_n rfl rfl ?_
            refine y_iaload rfl (ySh.t hS rfl) (ySh.n hS rfl) (by omega) (by omega) ?_
            refine y_i2l rfl ?_
            refine y_static rfl rfl rfl rfl rfl ?_
            refine sp_portion ?_
            refine y_ret1 ?_
            refine y_ireturn rfl rfl rfl ?_
            refine y_ret1 ?_
            refine y_imul rfl ?_
            refine y_isub rfl ?_
            refine y_goto rfl j_X5_debt_31 ?_
            refine y_ireturn rfl rfl rfl ?_
            refine y_ret1 ?_
            refine y_goto rfl j_X5_debtOf_32 ?_
            refine y_iadd rfl ?_
            refine y_istore_n (ls' := [some _, some _, some _, some _]) rfl rfl rfl ?_
            refine y_iinc (ls' := [some _, some _, some _, some _]) rfl rfl rfl rfl ?_
            refine y_goto rfl j_X5_debtOf_4 ?_
            exact ih _ _ (by first | omega | (rw [yinc (by omega)]; omega)) (by first | omega | (rw [yinc (by omega)]; omega)) (by first | omega | (rw [yinc (by omega)]; omega))
        · refine y_iconst rfl ?_
          refine y_goto rfl j_X5_isVoid_14 ?_
          refine y_ireturn rfl rfl rfl ?_
          refine y_ret1 ?_
          refine y_if_neT rfl j_X5_isOpen_27 (by decide) ?_
          refine y_iconst rfl ?_
          refine y_ireturn rfl rfl rfl ?_
          refine y_ret1 ?_
          refine y_if_eqT rfl j_X5_debt_30 (by decide) ?_
          refine y_iconst rfl ?_
          refine y_ireturn rfl rfl rfl ?_
          refine y_ret1 ?_
          refine y_goto rfl j_X5_debtOf_32 ?_
          refine y_iadd rfl ?_
          refine y_istore_n (ls' := [some _, some _, some _, some _]) rfl rfl rfl ?_
          refine y_iinc (ls' := [some _, some _, some _, some _]) rfl rfl rfl rfl ?_
          refine y_goto rfl j_X5_debtOf_4 ?_
          exact ih _ _ (by first | omega | (rw [yinc (by omega)]; omega)) (by first | omega | (rw [yinc (by omega)]; omega)) (by first | omega | (rw [yinc (by omega)]; omega))
theorem sp_debtOf_X5 (hS : ySh n tg R) (hC : yCI I) {x1 : Int32} (hQ : ∀ v, Q (.inl (some (.int v))) (n, tg, I, R) c s) : yC 90 [.ref 48, .int x1] (n, tg, I, R) c s Q := by
  refine y_in (M := xm_X5_debtOf) (ls := [some _, some _, _, _]) rfl rfl rfl ?_
  refine y_iconst rfl ?_
  refine y_istore_n (ls' := [some _, some _, some _, _]) rfl rfl rfl ?_
  refine y_iconst rfl ?_
  refine y_istore_n (ls' := [some _, some _, some _, some _]) rfl rfl rfl ?_
  exact lp_debtOf_X5 hS hC hQ 100000 _ _ (by decide) (by rw [yz_0]; omega) (by rw [yz_0]; omega)
theorem lp_openOf_X2 (hS : ySh n tg R) (hC : yCI I) {x1 : Int32} (hQ : ∀ v, Q (.inl (some (.int v))) (n, tg, I, R) c s) : ∀ (m : Nat) (x2 : Int32) (x3 : Int32), 0 ≤ x3.toInt → x3.toInt ≤ (I 59 0).toInt → (I 59 0).toInt - x3.toInt < m → yW xm_X2_openOf xc_X2_openOf_4 [some (.ref 59), some (.int x1), some (.int x2), some (.int x3)] [] (n, tg, I, R) c s Q := by
  intro m
  induction m with
  | zero => intro x2 x3 h0 h1 h2; exfalso; omega
  | succ m ih =>
    intro x2 x3 h0 h1 h2
    refine y_iload_n rfl rfl ?_
    refine y_aload_n rfl rfl ?_
    refine y_getI rfl (ySh.t hS rfl) (ySh.n hS rfl) rfl rfl ?_
    refine y_icmp_ge rfl j_X2_openOf_45 (fun h_1 => ?_) (fun h_2 => ?_)
    · refine y_iload_n rfl rfl ?_
      refine y_ireturn rfl rfl rfl ?_
      exact hQ _
    · refine y_iload_n rfl rfl ?_
      refine y_aload_n rfl rfl ?_
      refine y_getR rfl (ySh.t hS rfl) (ySh.n hS rfl) rfl rfl (ySh.r hS rfl) ?_
      refine y_iload_n rfl rfl ?_
      refine y_baload rfl (ySh.t hS rfl) rfl (ySh.n hS rfl) (by omega) (by omega) ?_
      refine y_if_ne rfl j_X2_openOf_36 (fun h_3 => ?_) (fun h_4 => ?_)
      · refine y_iconst rfl ?_
        refine y_iadd rfl ?_
        refine y_istore_n (ls' := [some _, some _, some _, some _]) rfl rfl rfl ?_
        refine y_iinc (ls' := [some _, some _, some _, some _]) rfl rfl rfl rfl ?_
        refine y_goto rfl j_X2_openOf_4 ?_
        exact ih _ _ (by first | omega | (rw [yinc (by omega)]; omega)) (by first | omega | (rw [yinc (by omega)]; omega)) (by first | omega | (rw [yinc (by omega)]; omega))
      · refine y_aload_n rfl rfl ?_
        refine y_getR rfl (ySh.t hS rfl) (ySh.n hS rfl) rfl rfl (ySh.r hS rfl) ?_
        refine y_iload_n rfl rfl ?_
        refine y_iaload rfl (ySh.t hS rfl) (ySh.n hS rfl) (by omega) (by omega) ?_
        refine y_iload_n rfl rfl ?_
        refine y_icmp_ne rfl j_X2_openOf_36 (fun h_5 => ?_) (fun h_6 => ?_)
        · refine y_iconst rfl ?_
          refine y_iadd rfl ?_
          refine y_istore_n (ls' := [some _, some _, some _, some _]) rfl rfl rfl ?_
          refine y_iinc (ls' := [some _, some _, some _, some _]) rfl rfl rfl rfl ?_
          refine y_goto rfl j_X2_openOf_4 ?_
          exact ih _ _ (by first | omega | (rw [yinc (by omega)]; omega)) (by first | omega | (rw [yinc (by omega)]; omega)) (by first | omega | (rw [yinc (by omega)]; omega))
        · refine y_iconst rfl ?_
          refine y_goto rfl j_X2_openOf_37 ?_
          refine y_iadd rfl ?_
          refine y_istore_n (ls' := [some _, some _, some _, some _]) rfl rfl rfl ?_
          refine y_iinc (ls' := [some _, some _, some _, some _]) rfl rfl rfl rfl ?_
          refine y_goto rfl j_X2_openOf_4 ?_
          exact ih _ _ (by first | omega | (rw [yinc (by omega)]; omega)) (by first | omega | (rw [yinc (by omega)]; omega)) (by first | omega | (rw [yinc (by omega)]; omega))
theorem sp_openOf_X2 (hS : ySh n tg R) (hC : yCI I) {x1 : Int32} (hQ : ∀ v, Q (.inl (some (.int v))) (n, tg, I, R) c s) : yC 57 [.ref 59, .int x1] (n, tg, I, R) c s Q := by
  refine y_in (M := xm_X2_openOf) (ls := [some _, some _, _, _]) rfl rfl rfl ?_
  refine y_iconst rfl ?_
  refine y_istore_n (ls' := [some _, some _, some _, _]) rfl rfl rfl ?_
  refine y_iconst rfl ?_
  refine y_istore_n (ls' := [some _, some _, some _, some _]) rfl rfl rfl ?_
  exact lp_openOf_X2 hS hC hQ 100000 _ _ (by decide) (by rw [yz_0]; omega) (by rw [yz_0]; omega)
theorem lp_countOpen_X2 (hS : ySh n tg R) (hC : yCI I) (hQ : ∀ v, Q (.inl (some (.int v))) (n, tg, I, R) c s) : ∀ (m : Nat) (x1 : Int32) (x2 : Int32), 0 ≤ x2.toInt → x2.toInt ≤ (I 59 0).toInt → (I 59 0).toInt - x2.toInt < m → yW xm_X2_countOpen xc_X2_countOpen_4 [some (.ref 59), some (.int x1), some (.int x2)] [] (n, tg, I, R) c s Q := by
  intro m
  induction m with
  | zero => intro x1 x2 h0 h1 h2; exfalso; omega
  | succ m ih =>
    intro x1 x2 h0 h1 h2
    refine y_iload_n rfl rfl ?_
    refine y_aload_n rfl rfl ?_
    refine y_getI rfl (ySh.t hS rfl) (ySh.n hS rfl) rfl rfl ?_
    refine y_icmp_ge rfl j_X2_countOpen_35 (fun h_1 => ?_) (fun h_2 => ?_)
    · refine y_iload_n rfl rfl ?_
      refine y_ireturn rfl rfl rfl ?_
      exact hQ _
    · refine y_iload_n rfl rfl ?_
      refine y_aload_n rfl rfl ?_
      refine y_getR rfl (ySh.t hS rfl) (ySh.n hS rfl) rfl rfl (ySh.r hS rfl) ?_
      refine y_iload_n rfl rfl ?_
      refine y_baload rfl (ySh.t hS rfl) rfl (ySh.n hS rfl) (by omega) (by omega) ?_
      refine y_if_eq rfl j_X2_countOpen_26 (fun h_3 => ?_) (fun h_4 => ?_)
      · refine y_iconst rfl ?_
        refine y_iadd rfl ?_
        refine y_istore_n (ls' := [some _, some _, some _]) rfl rfl rfl ?_
        refine y_iinc (ls' := [some _, some _, some _]) rfl rfl rfl rfl ?_
        refine y_goto rfl j_X2_countOpen_4 ?_
        exact ih _ _ (by first | omega | (rw [yinc (by omega)]; omega)) (by first | omega | (rw [yinc (by omega)]; omega)) (by first | omega | (rw [yinc (by omega)]; omega))
      · refine y_iconst rfl ?_
        refine y_goto rfl j_X2_countOpen_27 ?_
        refine y_iadd rfl ?_
        refine y_istore_n (ls' := [some _, some _, some _]) rfl rfl rfl ?_
        refine y_iinc (ls' := [some _, some _, some _]) rfl rfl rfl rfl ?_
        refine y_goto rfl j_X2_countOpen_4 ?_
        exact ih _ _ (by first | omega | (rw [yinc (by omega)]; omega)) (by first | omega | (rw [yinc (by omega)]; omega)) (by first | omega | (rw [yinc (by omega)]; omega))
theorem sp_countOpen_X2 (hS : ySh n tg R) (hC : yCI I) (hQ : ∀ v, Q (.inl (some (.int v))) (n, tg, I, R) c s) : yC 58 [.ref 59] (n, tg, I, R) c s Q := by
  refine y_in (M := xm_X2_countOpen) (ls := [some _, _, _]) rfl rfl rfl ?_
  refine y_iconst rfl ?_
  refine y_istore_n (ls' := [some _, some _, _]) rfl rfl rfl ?_
  refine y_iconst rfl ?_
  refine y_istore_n (ls' := [some _, some _, some _]) rfl rfl rfl ?_
  exact lp_countOpen_X2 hS hC hQ 100000 _ _ (by decide) (by rw [yz_0]; omega) (by rw [yz_0]; omega)
theorem lp_shares_X7 (hS : ySh n tg R) (hC : yCI I) {x1 : Int32} (hv0 : 0 ≤ x1.toInt) (hv1 : x1.toInt < 6) (hQ : ∀ v, Q (.inl (some (.int v))) (n, tg, I, R) c s) : ∀ (m : Nat) (x2 : Int32) (x3 : Int32), 0 ≤ x3.toInt → x3.toInt ≤ 9 → 9 - x3.toInt < m → yW xm_X7_shares xc_X7_shares_4 [some (.ref 69), some (.int x1), some (.int x2), some (.int x3)] [] (n, tg, I, R) c s Q := by
  intro m
  induction m with
  | zero => intro x2 x3 h0 h1 h2; exfalso; omega
  | succ m ih =>
    intro x2 x3 h0 h1 h2
    refine y_iload_n rfl rfl ?_
    refine y_bip rfl (by decide) ?_
    refine y_icmp_ge rfl j_X7_shares_25 (fun h_1 => ?_) (fun h_2 => ?_)
    · rw [yz_9] at h_1
      refine y_iload_n rfl rfl ?_
      refine y_ireturn rfl rfl rfl ?_
      exact hQ _
    · rw [yz_9] at h_2
      refine y_iload_n rfl rfl ?_
      refine y_aload_n rfl rfl ?_
      refine y_iload_n rfl rfl ?_
      refine y_iload_n rfl rfl ?_
      refine y_virt rfl rfl rfl rfl rfl (ySh.t hS rfl) (ySh.n hS rfl) ?_
      refine y_in (M := xm_X7_shareOf) (ls := [some _, some _, some _]) rfl rfl rfl ?_
      refine y_aload_n rfl rfl ?_
      refine y_getR rfl (ySh.t hS rfl) (ySh.n hS rfl) rfl rfl (ySh.r hS rfl) ?_
      refine y_aload_n rfl rfl ?_
      refine y_iload_n rfl rfl ?_
      refine y_iload_n rfl rfl ?_
      refine y_virt rfl rfl rfl rfl rfl (ySh.t hS rfl) (ySh.n hS rfl) ?_
      refine sp_at (by omega) (by omega) (by omega) (by omega) (fun z_ hz3 => ?_)
      refine y_ret1 ?_
      refine y_iaload rfl (ySh.t hS rfl) (ySh.n hS rfl) (by omega) (by omega) ?_
      refine y_ireturn rfl rfl rfl ?_
      refine y_ret1 ?_
      refine y_iadd rfl ?_
      refine y_istore_n (ls' := [some _, some _, some _, some _]) rfl rfl rfl ?_
      refine y_iinc (ls' := [some _, some _, some _, some _]) rfl rfl rfl rfl ?_
      refine y_goto rfl j_X7_shares_4 ?_
      exact ih _ _ (by first | omega | (rw [yinc (by omega)]; omega)) (by first | omega | (rw [yinc (by omega)]; omega)) (by first | omega | (rw [yinc (by omega)]; omega))
theorem sp_shares_X7 (hS : ySh n tg R) (hC : yCI I) {x1 : Int32} (hv0 : 0 ≤ x1.toInt) (hv1 : x1.toInt < 6) (hQ : ∀ v, Q (.inl (some (.int v))) (n, tg, I, R) c s) : yC 117 [.ref 69, .int x1] (n, tg, I, R) c s Q := by
  refine y_in (M := xm_X7_shares) (ls := [some _, some _, _, _]) rfl rfl rfl ?_
  refine y_iconst rfl ?_
  refine y_istore_n (ls' := [some _, some _, some _, _]) rfl rfl rfl ?_
  refine y_iconst rfl ?_
  refine y_istore_n (ls' := [some _, some _, some _, some _]) rfl rfl rfl ?_
  exact lp_shares_X7 hS hC hv0 hv1 hQ 100000 _ _ (by decide) (by rw [yz_0]; omega) (by rw [yz_0]; omega)
theorem lp_capitalEverywhere_X7 (hS : ySh n tg R) (hC : yCI I) {x1 : Int32} (hv0 : 0 ≤ x1.toInt) (hv1 : x1.toInt < 9) (hQ : ∀ v, Q (.inl (some (.int v))) (n, tg, I, R) c s) : ∀ (m : Nat) (x2 : Int32) (x3 : Int32), 0 ≤ x3.toInt → x3.toInt ≤ (I 69 0).toInt → (I 69 0).toInt - x3.toInt < m → yW xm_X7_capitalEverywhere xc_X7_capitalEverywhere_4 [some (.ref 69), some (.int x1), some (.int x2), some (.int x3)] [] (n, tg, I, R) c s Q := by
  intro m
  induction m with
  | zero => intro x2 x3 h0 h1 h2; exfalso; omega
  | succ m ih =>
    intro x2 x3 h0 h1 h2
    refine y_iload_n rfl rfl ?_
    refine y_aload_n rfl rfl ?_
    refine y_getI rfl (ySh.t hS rfl) (ySh.n hS rfl) rfl rfl ?_
    refine y_icmp_ge rfl j_X7_capitalEverywhere_27 (fun h_1 => ?_) (fun h_2 => ?_)
    · refine y_iload_n rfl rfl ?_
      refine y_ireturn rfl rfl rfl ?_
      exact hQ _
    · refine y_iload_n rfl rfl ?_
      refine y_aload_n rfl rfl ?_
      refine y_iload_n rfl rfl ?_
      refine y_iload_n rfl rfl ?_
      refine y_virt rfl rfl rfl rfl rfl (ySh.t hS rfl) (ySh.n hS rfl) ?_
      refine y_in (M := xm_X7_capitalOf) (ls := [some _, some _, some _]) rfl rfl rfl ?_
      refine y_aload_n rfl rfl ?_
      refine y_getR rfl (ySh.t hS rfl) (ySh.n hS rfl) rfl rfl (ySh.r hS rfl) ?_
      refine y_aload_n rfl rfl ?_
      refine y_iload_n rfl rfl ?_
      refine y_iload_n rfl rfl ?_
      refine y_virt rfl rfl rfl rfl rfl (ySh.t hS rfl) (ySh.n hS rfl) ?_
      refine sp_at (by omega) (by omega) (by omega) (by omega) (fun z_ hz3 => ?_)
      refine y_ret1 ?_
      refine y_iaload rfl (ySh.t hS rfl) (ySh.n hS rfl) (by omega) (by omega) ?_
      refine y_ireturn rfl rfl rfl ?_
      refine y_ret1 ?_
      refine y_iadd rfl ?_
      refine y_istore_n (ls' := [some _, some _, some _, some _]) rfl rfl rfl ?_
      refine y_iinc (ls' := [some _, some _, some _, some _]) rfl rfl rfl rfl ?_
      refine y_goto rfl j_X7_capitalEverywhere_4 ?_
      exact ih _ _ (by first | omega | (rw [yinc (by omega)]; omega)) (by first | omega | (rw [yinc (by omega)]; omega)) (by first | omega | (rw [yinc (by omega)]; omega))
theorem sp_capitalEverywhere_X7 (hS : ySh n tg R) (hC : yCI I) {x1 : Int32} (hv0 : 0 ≤ x1.toInt) (hv1 : x1.toInt < 9) (hQ : ∀ v, Q (.inl (some (.int v))) (n, tg, I, R) c s) : yC 118 [.ref 69, .int x1] (n, tg, I, R) c s Q := by
  refine y_in (M := xm_X7_capitalEverywhere) (ls := [some _, some _, _, _]) rfl rfl rfl ?_
  refine y_iconst rfl ?_
  refine y_istore_n (ls' := [some _, some _, some _, _]) rfl rfl rfl ?_
  refine y_iconst rfl ?_
  refine y_istore_n (ls' := [some _, some _, some _, some _]) rfl rfl rfl ?_
  exact lp_capitalEverywhere_X7 hS hC hv0 hv1 hQ 100000 _ _ (by decide) (by rw [yz_0]; omega) (by rw [yz_0]; omega)
theorem lp_weights_X3 (hS : ySh n tg R) (hC : yCI I) (hQ : ∀ v, Q (.inl (some (.long v))) (n, tg, I, R) c s) : ∀ (m : Nat) (x1 : Int64) (x3 : Int32), 0 ≤ x3.toInt → x3.toInt ≤ 8 → 8 - x3.toInt < m → yW xm_X3_weights xc_X3_weights_4 [some (.ref 74), some (.long x1), none, some (.int x3)] [] (n, tg, I, R) c s Q := by
  intro m
  induction m with
  | zero => intro x1 x3 h0 h1 h2; exfalso; omega
  | succ m ih =>
    intro x1 x3 h0 h1 h2
    refine y_iload_n rfl rfl ?_
    refine y_bip rfl (by decide) ?_
    refine y_icmp_ge rfl j_X3_weights_26 (fun h_1 => ?_) (fun h_2 => ?_)
    · rw [yz_8] at h_1
      refine y_lload_n rfl rfl ?_
      refine y_lreturn rfl ?_
      exact hQ _
    · rw [yz_8] at h_2
      refine y_lload_n rfl rfl ?_
      refine y_aload_n rfl rfl ?_
      refine y_getR rfl (ySh.t hS rfl) (ySh.n hS rfl) rfl rfl (ySh.r hS rfl) ?_
      refine y_iload_n rfl rfl ?_
      refine y_iaload rfl (ySh.t hS rfl) (ySh.n hS rfl) (by omega) (by omega) ?_
      refine y_i2l rfl ?_
      refine y_ladd rfl ?_
      refine y_lstore_n (ls' := [some _, some _, _, some _]) rfl rfl rfl ?_
      refine y_iinc (ls' := [some _, some _, _, some _]) rfl rfl rfl rfl ?_
      refine y_goto rfl j_X3_weights_4 ?_
      exact ih _ _ (by first | omega | (rw [yinc (by omega)]; omega)) (by first | omega | (rw [yinc (by omega)]; omega)) (by first | omega | (rw [yinc (by omega)]; omega))
theorem sp_weights_X3 (hS : ySh n tg R) (hC : yCI I) (hQ : ∀ v, Q (.inl (some (.long v))) (n, tg, I, R) c s) : yC 63 [.ref 74] (n, tg, I, R) c s Q := by
  refine y_in (M := xm_X3_weights) (ls := [some _, _, _, _]) rfl rfl rfl ?_
  refine y_lconst rfl ?_
  refine y_lstore_n (ls' := [some _, some _, _, _]) rfl rfl rfl ?_
  refine y_iconst rfl ?_
  refine y_istore_n (ls' := [some _, some _, _, some _]) rfl rfl rfl ?_
  exact lp_weights_X3 hS hC hQ 100000 _ _ (by decide) (by rw [yz_0]; omega) (by rw [yz_0]; omega)
theorem lp_deposits_X3 (hS : ySh n tg R) (hC : yCI I) (hQ : ∀ v, Q (.inl (some (.int v))) (n, tg, I, R) c s) : ∀ (m : Nat) (x1 : Int32) (x2 : Int32), 0 ≤ x2.toInt → x2.toInt ≤ 8 → 8 - x2.toInt < m → yW xm_X3_deposits xc_X3_deposits_4 [some (.ref 74), some (.int x1), some (.int x2)] [] (n, tg, I, R) c s Q := by
  intro m
  induction m with
  | zero => intro x1 x2 h0 h1 h2; exfalso; omega
  | succ m ih =>
    intro x1 x2 h0 h1 h2
    refine y_iload_n rfl rfl ?_
    refine y_bip rfl (by decide) ?_
    refine y_icmp_ge rfl j_X3_deposits_25 (fun h_1 => ?_) (fun h_2 => ?_)
    · rw [yz_8] at h_1
      refine y_iload_n rfl rfl ?_
      refine y_ireturn rfl rfl rfl ?_
      exact hQ _
    · rw [yz_8] at h_2
      refine y_iload_n rfl rfl ?_
      refine y_aload_n rfl rfl ?_
      refine y_getR rfl (ySh.t hS rfl) (ySh.n hS rfl) rfl rfl (ySh.r hS rfl) ?_
      refine y_iload_n rfl rfl ?_
      refine y_iaload rfl (ySh.t hS rfl) (ySh.n hS rfl) (by omega) (by omega) ?_
      refine y_iadd rfl ?_
      refine y_istore_n (ls' := [some _, some _, some _]) rfl rfl rfl ?_
      refine y_iinc (ls' := [some _, some _, some _]) rfl rfl rfl rfl ?_
      refine y_goto rfl j_X3_deposits_4 ?_
      exact ih _ _ (by first | omega | (rw [yinc (by omega)]; omega)) (by first | omega | (rw [yinc (by omega)]; omega)) (by first | omega | (rw [yinc (by omega)]; omega))
theorem sp_deposits_X3 (hS : ySh n tg R) (hC : yCI I) (hQ : ∀ v, Q (.inl (some (.int v))) (n, tg, I, R) c s) : yC 66 [.ref 74] (n, tg, I, R) c s Q := by
  refine y_in (M := xm_X3_deposits) (ls := [some _, _, _]) rfl rfl rfl ?_
  refine y_iconst rfl ?_
  refine y_istore_n (ls' := [some _, some _, _]) rfl rfl rfl ?_
  refine y_iconst rfl ?_
  refine y_istore_n (ls' := [some _, some _, some _]) rfl rfl rfl ?_
  exact lp_deposits_X3 hS hC hQ 100000 _ _ (by decide) (by rw [yz_0]; omega) (by rw [yz_0]; omega)
theorem lp_isInOrder_X3 (hS : ySh n tg R) (hC : yCI I) (hQ1 : Q (.inl (some (.int (Int32.ofInt 1)))) (n, tg, I, R) c s) (hQ0 : Q (.inl (some (.int (Int32.ofInt 0)))) (n, tg, I, R) c s) : ∀ (m : Nat) (x1 : Int32), 0 ≤ x1.toInt → x1.toInt ≤ 8 → 8 - x1.toInt < m → yW xm_X3_isInOrder xc_X3_isInOrder_2 [some (.ref 74), some (.int x1)] [] (n, tg, I, R) c s Q := by
  intro m
  induction m with
  | zero => intro x1 h0 h1 h2; exfalso; omega
  | succ m ih =>
    intro x1 h0 h1 h2
    refine y_iload_n rfl rfl ?_
    refine y_bip rfl (by decide) ?_
    refine y_icmp_ge rfl j_X3_isInOrder_25 (fun h_1 => ?_) (fun h_2 => ?_)
    · rw [yz_8] at h_1
      refine y_aload_n rfl rfl ?_
      refine y_getI rfl (ySh.t hS rfl) (ySh.n hS rfl) rfl rfl ?_
      refine y_if_lt rfl j_X3_isInOrder_36 (fun h_3 => ?_) (fun h_4 => ?_)
      · refine y_iconst rfl ?_
        refine y_ireturn rfl rfl rfl ?_
        exact hQ0
      · refine y_iconst rfl ?_
        refine y_goto rfl j_X3_isInOrder_37 ?_
        refine y_ireturn rfl rfl rfl ?_
        exact hQ1
    · rw [yz_8] at h_2
      refine y_aload_n rfl rfl ?_
      refine y_getR rfl (ySh.t hS rfl) (ySh.n hS rfl) rfl rfl (ySh.r hS rfl) ?_
      refine y_iload_n rfl rfl ?_
      refine y_iaload rfl (ySh.t hS rfl) (ySh.n hS rfl) (by omega) (by omega) ?_
      refine y_if_ge rfl j_X3_isInOrder_19 (fun h_5 => ?_) (fun h_6 => ?_)
      · refine y_iinc (ls' := [some _, some _]) rfl rfl rfl rfl ?_
        refine y_goto rfl j_X3_isInOrder_2 ?_
        exact ih _ (by first | omega | (rw [yinc (by omega)]; omega)) (by first | omega | (rw [yinc (by omega)]; omega)) (by first | omega | (rw [yinc (by omega)]; omega))
      · refine y_iconst rfl ?_
        refine y_ireturn rfl rfl rfl ?_
        exact hQ0
theorem sp_isInOrder_X3 (hS : ySh n tg R) (hC : yCI I) (hQ1 : Q (.inl (some (.int (Int32.ofInt 1)))) (n, tg, I, R) c s) (hQ0 : Q (.inl (some (.int (Int32.ofInt 0)))) (n, tg, I, R) c s) : yC 67 [.ref 74] (n, tg, I, R) c s Q := by
  refine y_in (M := xm_X3_isInOrder) (ls := [some _, _]) rfl rfl rfl ?_
  refine y_iconst rfl ?_
  refine y_istore_n (ls' := [some _, some _]) rfl rfl rfl ?_
  exact lp_isInOrder_X3 hS hC hQ1 hQ0 100000 _ (by decide) (by rw [yz_0]; omega) (by rw [yz_0]; omega)
theorem lp_cashOfPeople_X4 (hS : ySh n tg R) (hC : yCI I) (hQ : ∀ v, Q (.inl (some (.int v))) (n, tg, I, R) c s) : ∀ (m : Nat) (x1 : Int32) (x2 : Int32), 0 ≤ x2.toInt → x2.toInt ≤ (I 38 0).toInt → (I 38 0).toInt - x2.toInt < m → yW xm_X4_cashOfPeople xc_X4_cashOfPeople_4 [some (.ref 38), some (.int x1), some (.int x2)] [] (n, tg, I, R) c s Q := by
  intro m
  induction m with
  | zero => intro x1 x2 h0 h1 h2; exfalso; omega
  | succ m ih =>
    intro x1 x2 h0 h1 h2
    refine y_iload_n rfl rfl ?_
    refine y_aload_n rfl rfl ?_
    refine y_getI rfl (ySh.t hS rfl) (ySh.n hS rfl) rfl rfl ?_
    refine y_icmp_ge rfl j_X4_cashOfPeople_27 (fun h_1 => ?_) (fun h_2 => ?_)
    · refine y_iload_n rfl rfl ?_
      refine y_ireturn rfl rfl rfl ?_
      exact hQ _
    · refine y_iload_n rfl rfl ?_
      refine y_aload_n rfl rfl ?_
      refine y_getR rfl (ySh.t hS rfl) (ySh.n hS rfl) rfl rfl (ySh.r hS rfl) ?_
      refine y_iload_n rfl rfl ?_
      refine y_iaload rfl (ySh.t hS rfl) (ySh.n hS rfl) (by omega) (by omega) ?_
      refine y_iadd rfl ?_
      refine y_istore_n (ls' := [some _, some _, some _]) rfl rfl rfl ?_
      refine y_iinc (ls' := [some _, some _, some _]) rfl rfl rfl rfl ?_
      refine y_goto rfl j_X4_cashOfPeople_4 ?_
      exact ih _ _ (by first | omega | (rw [yinc (by omega)]; omega)) (by first | omega | (rw [yinc (by omega)]; omega)) (by first | omega | (rw [yinc (by omega)]; omega))
theorem sp_cashOfPeople_X4 (hS : ySh n tg R) (hC : yCI I) (hQ : ∀ v, Q (.inl (some (.int v))) (n, tg, I, R) c s) : yC 75 [.ref 38] (n, tg, I, R) c s Q := by
  refine y_in (M := xm_X4_cashOfPeople) (ls := [some _, _, _]) rfl rfl rfl ?_
  refine y_iconst rfl ?_
  refine y_istore_n (ls' := [some _, some _, _]) rfl rfl rfl ?_
  refine y_iconst rfl ?_
  refine y_istore_n (ls' := [some _, some _, some _]) rfl rfl rfl ?_
  exact lp_cashOfPeople_X4 hS hC hQ 100000 _ _ (by decide) (by rw [yz_0]; omega) (by rw [yz_0]; omega)
theorem lp_isInOrderV2 (hS : ySh n tg R) (hC : yCI I) {x1 : Int32} (hv0 : 0 ≤ x1.toInt) (hv1 : x1.toInt < 6) (hQ0 : Q (.inl (some (.int (Int32.ofInt 0)))) (n, tg, I, R) c s) (hx : yW xm_X7_isInOrder xc_X7_isInOrder_47 [some (.ref 69), some (.int x1), none] [] (n, tg, I, R) c s Q) : ∀ (m : Nat) (x2 : Int32), (0 ≤ x2.toInt) → (x2.toInt ≤ 9) → 9 - x2.toInt < m → yW xm_X7_isInOrder xc_X7_isInOrder_24 [some (.ref 69), some (.int x1), some (.int x2)] [] (n, tg, I, R) c s Q := by
  intro m
  induction m with
  | zero => intro x2 i0 i1 hm; exfalso; omega
  | succ m ih =>
    intro x2 i0 i1 hm
    refine y_iload_n rfl rfl ?_
    refine y_bip rfl (by decide) ?_
    refine y_icmp_ge rfl j_X7_isInOrder_47 (fun h_1 => ?_) (fun h_2 => ?_)
    · rw [yz_9] at h_1
      refine y_fgt (ls := [some _, some _, none]) ⟨rfl, rfl, trivial⟩ ?_
      exact hx
    · rw [yz_9] at h_2
      refine y_aload_n rfl rfl ?_
      refine y_iload_n rfl rfl ?_
      refine y_iload_n rfl rfl ?_
      refine y_virt rfl rfl rfl rfl rfl (ySh.t hS rfl) (ySh.n hS rfl) ?_
      refine y_in (M := xm_X7_capitalOf) (ls := [some _, some _, some _]) rfl rfl rfl ?_
      refine y_aload_n rfl rfl ?_
      refine y_getR rfl (ySh.t hS rfl) (ySh.n hS rfl) rfl rfl (ySh.r hS rfl) ?_
      refine y_aload_n rfl rfl ?_
      refine y_iload_n rfl rfl ?_
      refine y_iload_n rfl rfl ?_
      refine y_virt rfl rfl rfl rfl rfl (ySh.t hS rfl) (ySh.n hS rfl) ?_
      refine sp_at (by omega) (by omega) (by omega) (by omega) (fun z_ hz3 => ?_)
      refine y_ret1 ?_
      refine y_iaload rfl (ySh.t hS rfl) (ySh.n hS rfl) (by omega) (by omega) ?_
      refine y_ireturn rfl rfl rfl ?_
      refine y_ret1 ?_
      refine y_if_ge rfl j_X7_isInOrder_41 (fun h_4 => ?_) (fun h_5 => ?_)
      · refine y_iinc (ls' := [some _, some _, some _]) rfl rfl rfl rfl ?_
        refine y_goto rfl j_X7_isInOrder_24 ?_
        exact ih _ (by first | omega | (rw [yinc (by omega)]; omega)) (by first | omega | (rw [yinc (by omega)]; omega)) (by first | omega | (rw [yinc (by omega)]; omega))
      · refine y_iconst rfl ?_
        refine y_ireturn rfl rfl rfl ?_
        exact hQ0
theorem lp_isInOrderV (hS : ySh n tg R) (hC : yCI I) (hQ1 : Q (.inl (some (.int (Int32.ofInt 1)))) (n, tg, I, R) c s) (hQ0 : Q (.inl (some (.int (Int32.ofInt 0)))) (n, tg, I, R) c s) : ∀ (m : Nat) (x1 : Int32), (0 ≤ x1.toInt) → (x1.toInt ≤ (I 69 0).toInt) → (I 69 0).toInt - x1.toInt < m → yW xm_X7_isInOrder xc_X7_isInOrder_2 [some (.ref 69), some (.int x1), none] [] (n, tg, I, R) c s Q := by
  intro m
  induction m with
  | zero => intro x1 i0 i1 hm; exfalso; omega
  | succ m ih =>
    intro x1 i0 i1 hm
    refine y_iload_n rfl rfl ?_
    refine y_aload_n rfl rfl ?_
    refine y_getI rfl (ySh.t hS rfl) (ySh.n hS rfl) rfl rfl ?_
    refine y_icmp_ge rfl j_X7_isInOrder_53 (fun h_1 => ?_) (fun h_2 => ?_)
    · refine y_iconst rfl ?_
      refine y_ireturn rfl rfl rfl ?_
      exact hQ1
    · refine y_aload_n rfl rfl ?_
      refine y_iload_n rfl rfl ?_
      refine y_virt rfl rfl rfl rfl rfl (ySh.t hS rfl) (ySh.n hS rfl) ?_
      refine sp_shares_X7 hS hC (by omega) (by omega) (fun v_ => ?_)
      refine y_ret1 ?_
      refine y_bip rfl (by decide) ?_
      refine y_icmp_le rfl j_X7_isInOrder_22 (fun h_3 => ?_) (fun h_4 => ?_)
      · rw [yz_100] at h_3
        refine y_iconst rfl ?_
        refine y_istore_n (ls' := [some _, some _, some _]) rfl rfl rfl ?_
        refine lp_isInOrderV2 hS hC (by omega) (by omega) hQ0 ?_ 100 _ (by decide) (by decide) (by decide)
        refine y_iinc (ls' := [some _, some _, _]) rfl rfl rfl rfl ?_
        refine y_goto rfl j_X7_isInOrder_2 ?_
        exact ih _ (by first | omega | (rw [yinc (by omega)]; omega)) (by first | omega | (rw [yinc (by omega)]; omega)) (by first | omega | (rw [yinc (by omega)]; omega))
      · rw [yz_100] at h_4
        refine y_iconst rfl ?_
        refine y_ireturn rfl rfl rfl ?_
        exact hQ0
theorem sp_isInOrderV (hS : ySh n tg R) (hC : yCI I) (hQ1 : Q (.inl (some (.int (Int32.ofInt 1)))) (n, tg, I, R) c s) (hQ0 : Q (.inl (some (.int (Int32.ofInt 0)))) (n, tg, I, R) c s) : yC 119 [.ref 69] (n, tg, I, R) c s Q := by
  refine y_in (M := xm_X7_isInOrder) (ls := [some _, _, _]) rfl rfl rfl ?_
  refine y_iconst rfl ?_
  refine y_istore_n (ls' := [some _, some _, _]) rfl rfl rfl ?_
  exact lp_isInOrderV hS hC hQ1 hQ0 100 _ (by decide) (by rw [yz_0]; omega) (by rw [yz_0]; omega)
theorem lp_bestHolding (hS : ySh n tg R) (hC : yCI I) {x1 : Int32} (hQ : ∀ v, Q (.inl (some (.int v))) (n, tg, I, R) c s) : ∀ (m : Nat) (x2 : Int32) (x3 : Int32), (0 ≤ x2.toInt) → (x2.toInt < 1024) → (1 ≤ x3.toInt) → (x3.toInt ≤ 1024) → 1024 - x3.toInt < m → yW xm_X1_bestHolding xc_X1_bestHolding_4 [some (.ref 77), some (.int x1), some (.int x2), some (.int x3)] [] (n, tg, I, R) c s Q := by
  intro m
  induction m with
  | zero => intro x2 x3 i0 i1 i2 i3 hm; exfalso; omega
  | succ m ih =>
    intro x2 x3 i0 i1 i2 i3 hm
    have hz := (yshl (x := I 77 0) (by omega) (by omega)).1.2
    refine y_iload_n rfl rfl ?_
    refine y_iconst rfl ?_
    refine y_aload_n rfl rfl ?_
    refine y_getI rfl (ySh.t hS rfl) (ySh.n hS rfl) rfl rfl ?_
    refine y_ishl rfl ?_
    refine y_icmp_ge rfl j_X1_bestHolding_52 (fun h_1 => ?_) (fun h_2 => ?_)
    · refine y_iload_n rfl rfl ?_
      refine y_ireturn rfl rfl rfl ?_
      exact hQ _
    · refine y_iload_n rfl rfl ?_
      refine y_aload_n rfl rfl ?_
      refine y_getI rfl (ySh.t hS rfl) (ySh.n hS rfl) rfl rfl ?_
      refine y_iconst rfl ?_
      refine y_ixor rfl ?_
      refine y_iand rfl ?_
      refine y_if_ne rfl j_X1_bestHolding_46 (fun h_3 => ?_) (fun h_4 => ?_)
      · refine y_iinc (ls' := [some _, some _, some _, some _]) rfl rfl rfl rfl ?_
        refine y_goto rfl j_X1_bestHolding_4 ?_
        exact ih _ _ (by omega) (by omega) (by rw [yinc (by omega)]; omega) (by rw [yinc (by omega)]; omega) (by first | omega | (rw [yinc (by omega)]; omega))
      · refine y_aload_n rfl rfl ?_
        refine y_getR rfl (ySh.t hS rfl) (ySh.n hS rfl) rfl rfl (ySh.r hS rfl) ?_
        refine y_iload_n rfl rfl ?_
        refine y_iaload rfl (ySh.t hS rfl) (ySh.n hS rfl) (by omega) (by omega) ?_
        refine y_iload_n rfl rfl ?_
        refine y_icmp_gt rfl j_X1_bestHolding_46 (fun h_5 => ?_) (fun h_6 => ?_)
        · refine y_iinc (ls' := [some _, some _, some _, some _]) rfl rfl rfl rfl ?_
          refine y_goto rfl j_X1_bestHolding_4 ?_
          exact ih _ _ (by omega) (by omega) (by rw [yinc (by omega)]; omega) (by rw [yinc (by omega)]; omega) (by first | omega | (rw [yinc (by omega)]; omega))
        · refine y_aload_n rfl rfl ?_
          refine y_iload_n rfl rfl ?_
          refine y_iload_n rfl rfl ?_
          refine y_virt rfl rfl rfl rfl rfl (ySh.t hS rfl) (ySh.n hS rfl) ?_
          refine y_in (M := xm_X1_isBetter) (ls := [some _, some _, some _]) rfl rfl rfl ?_
          refine y_aload_n rfl rfl ?_
          refine y_getR rfl (ySh.t hS rfl) (ySh.n hS rfl) rfl rfl (ySh.r hS rfl) ?_
          refine y_iload_n rfl rfl ?_
          refine y_iaload rfl (ySh.t hS rfl) (ySh.n hS rfl) (by omega) (by omega) ?_
          refine y_aload_n rfl rfl ?_
          refine y_getR rfl (ySh.t hS rfl) (ySh.n hS rfl) rfl rfl (ySh.r hS rfl) ?_
          refine y_iload_n rfl rfl ?_
          refine y_iaload rfl (ySh.t hS rfl) (ySh.n hS rfl) (by omega) (by omega) ?_
          refine y_icmp_gt rfl j_X1_isBetter_45 (fun h_7 => ?_) (fun h_8 => ?_)
          · refine y_iconst rfl ?_
            refine y_goto rfl j_X1_isBetter_50 ?_
            refine y_ireturn rfl rfl rfl ?_
            refine y_ret1 ?_
            refine y_if_eqF rfl (by decide) ?_
            refine y_iload_n rfl rfl ?_
            refine y_istore_n (ls' := [some _, some _, some _, some _]) rfl rfl rfl ?_
            refine y_iinc (ls' := [some _, some _, some _, some _]) rfl rfl rfl rfl ?_
            refine y_goto rfl j_X1_bestHolding_4 ?_
            exact ih _ _ (by omega) (by omega) (by rw [yinc (by omega)]; omega) (by rw [yinc (by omega)]; omega) (by first | omega | (rw [yinc (by omega)]; omega))
          · refine y_aload_n rfl rfl ?_
            refine y_getR rfl (ySh.t hS rfl) (ySh.n hS rfl) rfl rfl (ySh.r hS rfl) ?_
            refine y_iload_n rfl rfl ?_
            refine y_iaload rfl (ySh.t hS rfl) (ySh.n hS rfl) (by omega) (by omega) ?_
            refine y_aload_n rfl rfl ?_
            refine y_getR rfl (ySh.t hS rfl) (ySh.n hS rfl) rfl rfl (ySh.r hS rfl) ?_
            refine y_iload_n rfl rfl ?_
            refine y_iaload rfl (ySh.t hS rfl) (ySh.n hS rfl) (by omega) (by omega) ?_
            refine y_icmp_ne rfl j_X1_isBetter_49 (fun h_9 => ?_) (fun h_10 => ?_)
            · refine y_iconst rfl ?_
              refine y_ireturn rfl rfl rfl ?_
              refine y_ret1 ?_
              refine y_if_eqT rfl j_X1_bestHolding_46 (by decide) ?_
              refine y_iinc (ls' := [some _, some _, some _, some _]) rfl rfl rfl rfl ?_
              refine y_goto rfl j_X1_bestHolding_4 ?_
              exact ih _ _ (by omega) (by omega) (by rw [yinc (by omega)]; omega) (by rw [yinc (by omega)]; omega) (by first | omega | (rw [yinc (by omega)]; omega))
            · refine y_aload_n rfl rfl ?_
              refine y_getR rfl (ySh.t hS rfl) (ySh.n hS rfl) rfl rfl (ySh.r hS rfl) ?_
              refine y_iload_n rfl rfl ?_
              refine y_iaload rfl (ySh.t hS rfl) (ySh.n hS rfl) (by omega) (by omega) ?_
              refine y_aload_n rfl rfl ?_
              refine y_getR rfl (ySh.t hS rfl) (ySh.n hS rfl) rfl rfl (ySh.r hS rfl) ?_
              refine y_iload_n rfl rfl ?_
              refine y_iaload rfl (ySh.t hS rfl) (ySh.n hS rfl) (by omega) (by omega) ?_
              refine y_icmp_ge rfl j_X1_isBetter_49 (fun h_11 => ?_) (fun h_12 => ?_)
              · refine y_iconst rfl ?_
                refine y_ireturn rfl rfl rfl ?_
                refine y_ret1 ?_
                refine y_if_eqT rfl j_X1_bestHolding_46 (by decide) ?_
                refine y_iinc (ls' := [some _, some _, some _, some _]) rfl rfl rfl rfl ?_
                refine y_goto rfl j_X1_bestHolding_4 ?_
                exact ih _ _ (by omega) (by omega) (by rw [yinc (by omega)]; omega) (by rw [yinc (by omega)]; omega) (by first | omega | (rw [yinc (by omega)]; omega))
              · refine y_iconst rfl ?_
                refine y_goto rfl j_X1_isBetter_50 ?_
                refine y_ireturn rfl rfl rfl ?_
                refine y_ret1 ?_
                refine y_if_eqF rfl (by decide) ?_
                refine y_iload_n rfl rfl ?_
                refine y_istore_n (ls' := [some _, some _, some _, some _]) rfl rfl rfl ?_
                refine y_iinc (ls' := [some _, some _, some _, some _]) rfl rfl rfl rfl ?_
                refine y_goto rfl j_X1_bestHolding_4 ?_
                exact ih _ _ (by omega) (by omega) (by rw [yinc (by omega)]; omega) (by rw [yinc (by omega)]; omega) (by first | omega | (rw [yinc (by omega)]; omega))
theorem sp_bestHolding (hS : ySh n tg R) (hC : yCI I) {x1 : Int32} (hQ : ∀ v, Q (.inl (some (.int v))) (n, tg, I, R) c s) : yC 49 [.ref 77, .int x1] (n, tg, I, R) c s Q := by
  refine y_in (M := xm_X1_bestHolding) (ls := [some _, some _, _, _]) rfl rfl rfl ?_
  refine y_iconst rfl ?_
  refine y_istore_n (ls' := [some _, some _, some _, _]) rfl rfl rfl ?_
  refine y_iconst rfl ?_
  refine y_istore_n (ls' := [some _, some _, some _, some _]) rfl rfl rfl ?_
  exact lp_bestHolding hS hC hQ 2000 _ _ (by decide) (by decide) (by decide) (by decide) (by decide)
end YCLS
