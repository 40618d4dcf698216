/-! THE CLASS'S FIRMS, EXACTLY (by ex7c.py) -/
theorem xofn {x : Int32} (h : 0 ≤ x.toInt) : Int32.ofInt ((x.toInt.toNat : Nat) : Int) = x := by rw [Int.toNat_of_nonneg h]; exact Int32.ofInt_toInt x
def ySh1 (k : Int32) : Int32 := Int32.ofInt 1 <<< (k &&& 31)
theorem ySh1_v {k : Int32} (h0 : 0 ≤ k.toInt) (h1 : k.toInt ≤ 10) : (ySh1 k).toInt = ((2 ^ k.toInt.toNat : Nat) : Int) := by
  have hx : k = Int32.ofInt k.toInt := (Int32.ofInt_toInt k).symm
  generalize k.toInt = z at *
  subst hx
  rcases (by omega : z = 0 ∨ z = 1 ∨ z = 2 ∨ z = 3 ∨ z = 4 ∨ z = 5 ∨ z = 6 ∨ z = 7 ∨ z = 8 ∨ z = 9 ∨ z = 10) with rfl | rfl | rfl | rfl | rfl | rfl | rfl | rfl | rfl | rfl | rfl <;> decide
/-- is the number k in the set s -/
abbrev yHas (s k : Int32) : Prop := ((s >>> (k &&& 31)) &&& Int32.ofInt 1).toInt = 1
theorem yHas_all : ∀ k : Fin 10, ∀ s : Fin 1024, decide (yHas (Int32.ofInt (s : Nat)) (Int32.ofInt (k : Nat))) = (s : Nat).testBit k := by decide +kernel
theorem yHas_tb {s : Int32} {k : Nat} (h0 : 0 ≤ s.toInt) (h1 : s.toInt < 1024) (hk : k < 10) : yHas s (Int32.ofInt (k : Int)) ↔ s.toInt.toNat.testBit k = true := by
  have h := yHas_all ⟨k, hk⟩ ⟨s.toInt.toNat, by omega⟩
  have e : Int32.ofInt ((s.toInt.toNat : Nat) : Int) = s := by rw [Int.toNat_of_nonneg h0]; exact Int32.ofInt_toInt s
  simp only [e] at h
  rw [← h]
  exact (decide_eq_true_iff).symm
/-- a new number joins sets -/
theorem yor2 {x y : Int32} {c : Nat} (hc : c ≤ 9) (hy : y.toInt = ((2 ^ c : Nat) : Int)) (h0 : 0 ≤ x.toInt) (h1 : x.toInt < y.toInt) : (x ||| y).toInt.toNat = x.toInt.toNat + 2 ^ c := by
  have hp : 2 ^ c ≤ 2 ^ 9 := Nat.pow_le_pow_right (by decide) hc
  have e1 := ynat h0
  have e2 := ynat (a := y) (by omega)
  have e3 : (x ||| y).toBitVec.toNat = x.toBitVec.toNat + 2 ^ c := by
    rw [Int32.toBitVec_or, BitVec.toNat_or, show y.toBitVec.toNat = 2 ^ c * 1 by omega, Nat.or_comm, ← Nat.two_pow_add_eq_or_of_lt (by omega)]; omega
  have e4 := yofn (a := x ||| y) (by omega)
  omega
/-- a firm is clean -/
abbrev yCln (a d l q : Int32) : Prop := (Int32.ofInt 100 * d).toInt < (Int32.ofInt 33 * a).toInt ∧ (Int32.ofInt 100 * l).toInt < (Int32.ofInt 70 * a).toInt ∧ (Int32.ofInt 100 * q).toInt ≤ (Int32.ofInt 5 * a).toInt
/-- the tainted part of a dividend -/
def yTnt (a q d : Int32) : Int32 := yMnn ((d * q + (a - Int32.ofInt 1)) / a) d
/-- a new firm fills the sets that it is in: set k is taken up by the set k + m -/
def yFiS (m : Nat) (p g : Int32) (J : Nat → Nat → Int32) (k : Nat) : Nat → Nat → Int32 := upd2 (upd2 J 81 (k + m) (J 81 k + p)) 82 (k + m) (J 82 k + g)
def yFiE (J : Nat → Nat → Int32) (it cl : Int32) : Nat → Nat → Int32 := if cl.toInt = 0 then upd2 J 77 0 (J 77 0 + Int32.ofInt 1) else upd2 (upd2 J 77 1 (J 77 1 ||| it)) 77 0 (J 77 0 + Int32.ofInt 1)
/-- a new firm: assets, doubt, price, gain, whether it is clean -/
def yFiD (I : Nat → Nat → Int32) (a d p g cl : Int32) : Nat → Nat → Int32 := yFiE (yRec (yFiS (2 ^ (I 77 0).toInt.toNat) p g) (upd2 (upd2 I 78 (I 77 0).toInt.toNat a) 79 (I 77 0).toInt.toNat d) (2 ^ (I 77 0).toInt.toNat)) (ySh1 (I 77 0)) cl
theorem yFiS_row {m : Nat} {p g : Int32} {J : Nat → Nat → Int32} {k a : Nat} (h1 : a ≠ 81) (h2 : a ≠ 82) : yFiS m p g J k a = J a := by
  unfold yFiS
  rw [upd2_row h2, upd2_row h1]
theorem yFiD_row {I : Nat → Nat → Int32} {b d p g cl : Int32} {a : Nat} (h : a ≠ 77 ∧ a ≠ 78 ∧ a ≠ 79 ∧ a ≠ 81 ∧ a ≠ 82) : yFiD I b d p g cl a = I a := by
  obtain ⟨h7, h8, h9, h1, h2⟩ := h
  have e : ∀ J : Nat → Nat → Int32, yFiE J (ySh1 (I 77 0)) cl a = J a := fun J => by
    unfold yFiE
    split
    · exact upd2_row h7
    · rw [upd2_row h7, upd2_row h7]
  unfold yFiD
  rw [e, yRec_keep fun J k _ _ => yFiS_row h1 h2, upd2_row h9, upd2_row h8]
/-- what is told of a firm -/
def yOF (c h : Prop) [Decidable c] [Decidable h] (g p q : Int32) (w : Int) : Int := if w = 0 then (if c then 1 else 0) else if w = 1 then (if h then 1 else 0) else if w = 2 then g.toInt else if w = 3 then p.toInt else q.toInt
/-- the best set up to k -/
def yBeS (P G : Nat → Int32) (cl bud best set : Int32) : Int32 := if (set &&& (cl ^^^ Int32.ofInt (-1))).toInt = 0 ∧ (P set.toInt.toNat).toInt ≤ bud.toInt ∧ ((G best.toInt.toNat).toInt < (G set.toInt.toNat).toInt ∨ (G set.toInt.toNat).toInt = (G best.toInt.toNat).toInt ∧ (P set.toInt.toNat).toInt < (P best.toInt.toNat).toInt) then set else best
def yBe (P G : Nat → Int32) (cl bud : Int32) : Nat → Int32
  | 0 => Int32.ofInt 0
  | k + 1 => yBeS P G cl bud (yBe P G cl bud k) (Int32.ofInt (k : Int))
section YXF
variable {n : Nat} {tg : Nat → yT} {I : Nat → Nat → Int32} {R : Nat → Nat → Value} {c s : Nat} {Q : yQ}
theorem lp_x_firmAdd {I0 : Nat → Nat → Int32} {cc : Nat} (hS : ySh n tg R) {x1 x2 x3 x4 x5 x6 : Int32} (hcc : cc ≤ 9) (h6 : x6.toInt = ((2 ^ cc : Nat) : Int)) (hv1 : x6.toInt ≤ 512) (hn10 : (I0 77 0).toInt < 10) (hQ : ∀ (v : Int32) (I1 : Nat → Nat → Int32), yCI I1 → yFr I0 I1 → v = I0 77 0 → I1 = yFiE (yRec (yFiS (2 ^ cc) x3 x4) I0 (2 ^ cc)) x6 x5 → Q (.inl (some (.int v))) (n, tg, I1, R) c s) : ∀ (m : Nat) (x7 : Int32) (I : Nat → Nat → Int32), yCI I → yFr I0 I → I = yRec (yFiS (2 ^ cc) x3 x4) I0 x7.toInt.toNat → ((I 77 0).toInt = (I0 77 0).toInt) → (0 ≤ x7.toInt) → (x7.toInt ≤ x6.toInt) → x6.toInt - x7.toInt < m → yW xm_X1_add xc_X1_add_31 [some (.ref 77), some (.int x1), some (.int x2), some (.int x3), some (.int x4), some (.int x5), some (.int x6), some (.int x7)] [] (n, tg, I, R) c s Q := by
  intro m
  induction m with
  | zero => intro x7 I hC hF0 hI i0 i1 i2 hm; exfalso; omega
  | succ m ih =>
    intro x7 I hC hF0 hI i0 i1 i2 hm
    have hF : yFr I I := yFr.rf
    have hv77 : I 77 0 = I0 77 0 := by rw [hI]; exact congrFun (yRec_keep (a := 77) fun J k_ _ _ => yFiS_row (by decide) (by decide)) 0
    have h60 : 0 ≤ x6.toInt := by omega
    refine y_iload rfl rfl ?_
    refine y_iload rfl rfl ?_
    refine y_icmp_ge rfl j_X1_add_83 (fun h_1 => ?_) (fun h_2 => ?_)
    · refine y_iload rfl rfl ?_
      refine y_if_eq rfl j_X1_add_99 (fun h_3 => ?_) (fun h_4 => ?_)
      · refine y_aload_n rfl rfl ?_
        refine y_dup rfl rfl ?_
        refine y_getIv (v := I 77 0) rfl (ySh.t hS rfl) (ySh.n hS rfl) rfl rfl rfl ?_
        refine y_dup_x1 rfl rfl rfl ?_
        refine y_iconst rfl ?_
        refine y_iadd rfl ?_
        refine y_putI rfl (ySh.t hS rfl) (ySh.n hS rfl) rfl (Nat.le_of_ble_eq_true rfl) rfl rfl ?_
        refine y_nameI (fun I5 e5 => ?_)
        have hC : yCI I5 := by rw [e5]; exact yCI.inc77v hC rfl (by omega)
        have hF : yFr I I5 := by rw [e5]; exact hF.upd (by decide)
        refine y_ireturn rfl rfl rfl ?_
        exact hQ _ _ hC (hF0.trans hF) hv77 (by rw [e5]; unfold yFiE; rw [if_pos (by omega)]; rw [show yRec (yFiS (2 ^ cc) x3 x4) I0 (2 ^ cc) = I by rw [hI, show x7.toInt.toNat = 2 ^ cc by omega]])
      · refine y_aload_n rfl rfl ?_
        refine y_dup rfl rfl ?_
        refine y_getIv (v := I 77 1) rfl (ySh.t hS rfl) (ySh.n hS rfl) rfl rfl rfl ?_
        refine y_iload rfl rfl ?_
        refine y_ior rfl ?_
        refine y_putI rfl (ySh.t hS rfl) (ySh.n hS rfl) rfl (Nat.le_of_ble_eq_true rfl) rfl rfl ?_
        refine y_nameI (fun I6 e6 => ?_)
        have hC : yCI I6 := by rw [e6]; exact hC
        have hF : yFr I I6 := by rw [e6]; exact hF.upd (by decide)
        refine y_aload_n rfl rfl ?_
        refine y_dup rfl rfl ?_
        refine y_getIv (v := I 77 0) rfl (ySh.t hS rfl) (ySh.n hS rfl) rfl rfl (by rw [e6, upd2_ne (.inr (by decide))]) ?_
        refine y_dup_x1 rfl rfl rfl ?_
        refine y_iconst rfl ?_
        refine y_iadd rfl ?_
        refine y_putI rfl (ySh.t hS rfl) (ySh.n hS rfl) rfl (Nat.le_of_ble_eq_true rfl) rfl rfl ?_
        refine y_nameI (fun I7 e7 => ?_)
        have hC : yCI I7 := by rw [e7]; exact yCI.inc77v hC (by rw [e6, upd2_ne (.inr (by decide))]) (by omega)
        have hF : yFr I I7 := by rw [e7]; exact hF.upd (by decide)
        refine y_ireturn rfl rfl rfl ?_
        exact hQ _ _ hC (hF0.trans hF) hv77 (by rw [e7, e6]; unfold yFiE; rw [if_neg (by omega)]; rw [show yRec (yFiS (2 ^ cc) x3 x4) I0 (2 ^ cc) = I by rw [hI, show x7.toInt.toNat = 2 ^ cc by omega]])
    · refine y_aload_n rfl rfl ?_
      refine y_getR rfl (ySh.t hS rfl) (ySh.n hS rfl) rfl rfl (ySh.r hS rfl) ?_
      refine y_iload rfl rfl ?_
      refine y_iload rfl rfl ?_
      refine y_ior rfl ?_
      refine y_aload_n rfl rfl ?_
      refine y_getR rfl (ySh.t hS rfl) (ySh.n hS rfl) rfl rfl (ySh.r hS rfl) ?_
      refine y_iload rfl rfl ?_
      refine y_ialoadv (J := I 81) rfl (ySh.t hS rfl) (ySh.n hS rfl) (by omega) (by omega) rfl ?_
      refine y_iload_n rfl rfl ?_
      refine y_iadd rfl ?_
      refine y_iastore rfl (ySh.t hS rfl) (ySh.n hS rfl) (Nat.le_of_ble_eq_true rfl) (yor (by omega) (by omega) (by omega) (by omega)).1 (by have := (yor (a := x7) (b := x6) (by omega) (by omega) (by omega) (by omega)).2; omega) ?_
      refine y_nameI (fun I8 e8 => ?_)
      have hC : yCI I8 := by rw [e8]; exact hC
      have hF : yFr I I8 := by rw [e8]; exact hF.upd (by decide)
      refine y_aload_n rfl rfl ?_
      refine y_getR rfl (ySh.t hS rfl) (ySh.n hS rfl) rfl rfl (ySh.r hS rfl) ?_
      refine y_iload rfl rfl ?_
      refine y_iload rfl rfl ?_
      refine y_ior rfl ?_
      refine y_aload_n rfl rfl ?_
      refine y_getR rfl (ySh.t hS rfl) (ySh.n hS rfl) rfl rfl (ySh.r hS rfl) ?_
      refine y_iload rfl rfl ?_
      refine y_ialoadv (J := I 82) rfl (ySh.t hS rfl) (ySh.n hS rfl) (by omega) (by omega) (by rw [e8, upd2_row (by decide)]) ?_
      refine y_iload rfl rfl ?_
      refine y_iadd rfl ?_
      refine y_iastore rfl (ySh.t hS rfl) (ySh.n hS rfl) (Nat.le_of_ble_eq_true rfl) (yor (by omega) (by omega) (by omega) (by omega)).1 (by have := (yor (a := x7) (b := x6) (by omega) (by omega) (by omega) (by omega)).2; omega) ?_
      refine y_nameI (fun I9 e9 => ?_)
      have hC : yCI I9 := by rw [e9]; exact hC
      have hF : yFr I I9 := by rw [e9]; exact hF.upd (by decide)
      refine y_iinc (ls' := [some _, some _, some _, some _, some _, some _, some _, some _]) rfl rfl rfl rfl ?_
      refine y_goto rfl j_X1_add_31 ?_
      exact ih _ _ hC (hF0.trans hF) (yRec_nx (by omega) hI (by rw [e9, e8]; exact (by rw [yor2 (c := cc) hcc h6 (by omega) (by omega)]; rfl))) ((congrArg Int32.toInt (by rw [e9, upd2_ne (.inl (by decide)), e8, upd2_ne (.inl (by decide))])).trans i0) (by first | omega | (rw [yinc (by omega)]; omega)) (by first | omega | (rw [yinc (by omega)]; omega)) (by first | omega | (rw [yinc (by omega)]; omega))
theorem sx_firmAdd (hS : ySh n tg R) (hC : yCI I) {x1 x2 x3 x4 x5 : Int32} (hv : (I 77 0).toInt < 10) (hQ : ∀ (v : Int32) (I1 : Nat → Nat → Int32), yCI I1 → yFr I I1 → v = I 77 0 → I1 = yFiD I x1 x2 x3 x4 x5 → Q (.inl (some (.int v))) (n, tg, I1, R) c s) : yC 43 [.ref 77, .int x1, .int x2, .int x3, .int x4, .int x5] (n, tg, I, R) c s Q := by
  have hF : yFr I I := yFr.rf
  refine y_in (M := xm_X1_add) (ls := [some _, some _, some _, some _, some _, some _, _, _]) rfl rfl rfl ?_
  refine y_aload_n rfl rfl ?_
  refine y_getR rfl (ySh.t hS rfl) (ySh.n hS rfl) rfl rfl (ySh.r hS rfl) ?_
  refine y_aload_n rfl rfl ?_
  refine y_getIv (v := I 77 0) rfl (ySh.t hS rfl) (ySh.n hS rfl) rfl rfl rfl ?_
  refine y_iload_n rfl rfl ?_
  refine y_iastore rfl (ySh.t hS rfl) (ySh.n hS rfl) (Nat.le_of_ble_eq_true rfl) (by omega) (by omega) ?_
  refine y_nameI (fun I1 e1 => ?_)
  have hC : yCI I1 := by rw [e1]; exact hC
  have hF : yFr I I1 := by rw [e1]; exact hF.upd (by decide)
  refine y_aload_n rfl rfl ?_
  refine y_getR rfl (ySh.t hS rfl) (ySh.n hS rfl) rfl rfl (ySh.r hS rfl) ?_
  refine y_aload_n rfl rfl ?_
  refine y_getIv (v := I 77 0) rfl (ySh.t hS rfl) (ySh.n hS rfl) rfl rfl (by rw [e1, upd2_ne (.inl (by decide))]) ?_
  refine y_iload_n rfl rfl ?_
  refine y_iastore rfl (ySh.t hS rfl) (ySh.n hS rfl) (Nat.le_of_ble_eq_true rfl) (by omega) (by omega) ?_
  refine y_nameI (fun I2 e2 => ?_)
  have hC : yCI I2 := by rw [e2]; exact hC
  have hF : yFr I I2 := by rw [e2]; exact hF.upd (by decide)
  refine y_iconst rfl ?_
  refine y_aload_n rfl rfl ?_
  refine y_getIv (v := I 77 0) rfl (ySh.t hS rfl) (ySh.n hS rfl) rfl rfl (by rw [e2, upd2_ne (.inl (by decide)), e1, upd2_ne (.inl (by decide))]) ?_
  refine y_ishl rfl ?_
  refine y_istore (ls' := [some _, some _, some _, some _, some _, some _, some _, _]) rfl rfl rfl ?_
  refine y_iconst rfl ?_
  refine y_istore (ls' := [some _, some _, some _, some _, some _, some _, some _, some _]) rfl rfl rfl ?_
  have hz := yshl (x := I 77 0) (by omega) (by omega)
  have hs1 : (Int32.ofInt 1 <<< (I 77 0 &&& 31)).toInt = ((2 ^ (I 77 0).toInt.toNat : Nat) : Int) := ySh1_v (by omega) (by omega)
  have h7_ : I2 77 0 = I 77 0 := (by rw [e2, upd2_ne (.inl (by decide)), e1, upd2_ne (.inl (by decide))])
  exact lp_x_firmAdd (I0 := I2) (cc := (I 77 0).toInt.toNat) hS (by omega) hs1 (hz.2 (by omega)) (by rw [h7_]; omega) (fun v I1 a b d g => hQ v I1 a (hF.trans b) (d.trans h7_) (by rw [g, e2, e1]; rfl)) 100000 _ _ hC yFr.rf rfl rfl (by decide) (by rw [yz_0]; omega) (by rw [yz_0]; omega)
theorem g_firm (hS : ySh n tg R) (hC : yCI I) {x1 x2 x3 x4 x5 x6 : Int32} (hE1 : ¬ ((1 ≤ x1.toInt ∧ x1.toInt ≤ 999) ∧ (0 ≤ x2.toInt ∧ x2.toInt ≤ 999) ∧ (0 ≤ x3.toInt ∧ x3.toInt ≤ 999) ∧ (0 ≤ x4.toInt ∧ x4.toInt ≤ 999) ∧ (1 ≤ x5.toInt ∧ x5.toInt ≤ 99) ∧ (0 ≤ x6.toInt ∧ x6.toInt ≤ 99)) → Q (.inr "java/lang/IllegalArgumentException") (n, tg, I, R) (c + 1) (s + 6)) (hE2 : ((1 ≤ x1.toInt ∧ x1.toInt ≤ 999) ∧ (0 ≤ x2.toInt ∧ x2.toInt ≤ 999) ∧ (0 ≤ x3.toInt ∧ x3.toInt ≤ 999) ∧ (0 ≤ x4.toInt ∧ x4.toInt ≤ 999) ∧ (1 ≤ x5.toInt ∧ x5.toInt ≤ 99) ∧ (0 ≤ x6.toInt ∧ x6.toInt ≤ 99)) ∧ (I 77 0).toInt = 10 → Q (.inr "java/lang/IllegalStateException") (n, tg, I, R) (c + 1) (s + 6)) (hQa : ((1 ≤ x1.toInt ∧ x1.toInt ≤ 999) ∧ (0 ≤ x2.toInt ∧ x2.toInt ≤ 999) ∧ (0 ≤ x3.toInt ∧ x3.toInt ≤ 999) ∧ (0 ≤ x4.toInt ∧ x4.toInt ≤ 999) ∧ (1 ≤ x5.toInt ∧ x5.toInt ≤ 99) ∧ (0 ≤ x6.toInt ∧ x6.toInt ≤ 99)) ∧ (I 77 0).toInt < 10 ∧ ((Int32.ofInt 100 * x2).toInt < (Int32.ofInt 33 * x1).toInt ∧ (Int32.ofInt 100 * x3).toInt < (Int32.ofInt 70 * x1).toInt ∧ (Int32.ofInt 100 * x4).toInt ≤ (Int32.ofInt 5 * x1).toInt) → ∀ (v : Int32) (I1 : Nat → Nat → Int32), yCI I1 → yFt I I1 → v = I 77 0 → I1 = yFiD I x1 x4 x5 x6 (Int32.ofInt 1) → Q (.inl (some (.int v))) (n, tg, I1, R) c s) (hQb : ((1 ≤ x1.toInt ∧ x1.toInt ≤ 999) ∧ (0 ≤ x2.toInt ∧ x2.toInt ≤ 999) ∧ (0 ≤ x3.toInt ∧ x3.toInt ≤ 999) ∧ (0 ≤ x4.toInt ∧ x4.toInt ≤ 999) ∧ (1 ≤ x5.toInt ∧ x5.toInt ≤ 99) ∧ (0 ≤ x6.toInt ∧ x6.toInt ≤ 99)) ∧ (I 77 0).toInt < 10 ∧ ¬ ((Int32.ofInt 100 * x2).toInt < (Int32.ofInt 33 * x1).toInt ∧ (Int32.ofInt 100 * x3).toInt < (Int32.ofInt 70 * x1).toInt ∧ (Int32.ofInt 100 * x4).toInt ≤ (Int32.ofInt 5 * x1).toInt) → ∀ (v : Int32) (I1 : Nat → Nat → Int32), yCI I1 → yFt I I1 → v = I 77 0 → I1 = yFiD I x1 x4 x5 x6 (Int32.ofInt 0) → Q (.inl (some (.int v))) (n, tg, I1, R) c s) : yC 138 [.ref 34, .int x1, .int x2, .int x3, .int x4, .int x5, .int x6] (n, tg, I, R) c s Q := by
  have hF : yFt I I := yFt.rf
  refine y_in (M := xm_X8_firm) (ls := [some _, some _, some _, some _, some _, some _, some _, _]) rfl rfl rfl ?_
  refine y_iload_n rfl rfl ?_
  refine y_iconst rfl ?_
  refine y_sip rfl (by decide) ?_
  refine y_static rfl rfl rfl rfl rfl ?_
  refine s_isIn (fun h_1 h_2 => ?_) (fun h_3 => ?_)
  · rw [yz_1] at h_1
    rw [yz_999] at h_2
    refine y_ret1 ?_
    refine y_if_eqF rfl (by decide) ?_
    refine y_iload_n rfl rfl ?_
    refine y_iconst rfl ?_
    refine y_sip rfl (by decide) ?_
    refine y_static rfl rfl rfl rfl rfl ?_
    refine s_isIn (fun h_4 h_5 => ?_) (fun h_6 => ?_)
    · rw [yz_0] at h_4
      rw [yz_999] at h_5
      refine y_ret1 ?_
      refine y_if_eqF rfl (by decide) ?_
      refine y_iload_n rfl rfl ?_
      refine y_iconst rfl ?_
      refine y_sip rfl (by decide) ?_
      refine y_static rfl rfl rfl rfl rfl ?_
      refine s_isIn (fun h_7 h_8 => ?_) (fun h_9 => ?_)
      · rw [yz_0] at h_7
        rw [yz_999] at h_8
        refine y_ret1 ?_
        refine y_if_eqF rfl (by decide) ?_
        refine y_iload rfl rfl ?_
        refine y_iconst rfl ?_
        refine y_sip rfl (by decide) ?_
        refine y_static rfl rfl rfl rfl rfl ?_
        refine s_isIn (fun h_10 h_11 => ?_) (fun h_12 => ?_)
        · rw [yz_0] at h_10
          rw [yz_999] at h_11
          refine y_ret1 ?_
          refine y_if_eqF rfl (by decide) ?_
          refine y_iload rfl rfl ?_
          refine y_iconst rfl ?_
          refine y_bip rfl (by decide) ?_
          refine y_static rfl rfl rfl rfl rfl ?_
          refine s_isIn (fun h_13 h_14 => ?_) (fun h_15 => ?_)
          · rw [yz_1] at h_13
            rw [yz_99] at h_14
            refine y_ret1 ?_
            refine y_if_eqF rfl (by decide) ?_
            refine y_iload rfl rfl ?_
            refine y_iconst rfl ?_
            refine y_bip rfl (by decide) ?_
            refine y_static rfl rfl rfl rfl rfl ?_
            refine s_isIn (fun h_16 h_17 => ?_) (fun h_18 => ?_)
            · rw [yz_0] at h_16
              rw [yz_99] at h_17
              refine y_ret1 ?_
              refine y_if_neT rfl j_X8_firm_78 (by decide) ?_
              refine y_aload_n rfl rfl ?_
              refine y_getR rfl (ySh.t hS rfl) (ySh.n hS rfl) rfl rfl (ySh.r hS rfl) ?_
              refine y_getIv (v := I 77 0) rfl (ySh.t hS rfl) (ySh.n hS rfl) rfl rfl rfl ?_
              refine y_bip rfl (by decide) ?_
              refine y_icmp_lt rfl j_X8_firm_101 (fun h_19 => ?_) (fun h_20 => ?_)
              · rw [yz_10] at h_19
                refine y_bip rfl (by decide) ?_
                refine y_iload_n rfl rfl ?_
                refine y_imul rfl ?_
                refine y_bip rfl (by decide) ?_
                refine y_iload_n rfl rfl ?_
                refine y_imul rfl ?_
                refine y_icmp_ge rfl j_X8_firm_138 (fun h_21 => ?_) (fun h_22 => ?_)
                · refine y_iconst rfl ?_
                  refine y_istore (ls' := [some _, some _, some _, some _, some _, some _, some _, some _]) rfl rfl rfl ?_
                  refine y_aload_n rfl rfl ?_
                  refine y_getR rfl (ySh.t hS rfl) (ySh.n hS rfl) rfl rfl (ySh.r hS rfl) ?_
                  refine y_iload_n rfl rfl ?_
                  refine y_iload rfl rfl ?_
                  refine y_iload rfl rfl ?_
                  refine y_iload rfl rfl ?_
                  refine y_iload rfl rfl ?_
                  refine y_virt rfl rfl rfl rfl rfl (ySh.t hS rfl) (ySh.n hS rfl) ?_
                  refine sx_firmAdd hS hC (by omega) (fun v_f J_f hC hF1 hv_f eJ => ?_)
                  have hF : yFt I J_f := hF1.t
                  refine y_ret1 ?_
                  refine y_ireturn rfl rfl rfl ?_
                  first | (exfalso; omega) | (exact hQb (by omega) _ _ hC hF hv_f eJ)
                · refine y_bip rfl (by decide) ?_
                  refine y_iload_n rfl rfl ?_
                  refine y_imul rfl ?_
                  refine y_bip rfl (by decide) ?_
                  refine y_iload_n rfl rfl ?_
                  refine y_imul rfl ?_
                  refine y_icmp_ge rfl j_X8_firm_138 (fun h_23 => ?_) (fun h_24 => ?_)
                  · refine y_iconst rfl ?_
                    refine y_istore (ls' := [some _, some _, some _, some _, some _, some _, some _, some _]) rfl rfl rfl ?_
                    refine y_aload_n rfl rfl ?_
                    refine y_getR rfl (ySh.t hS rfl) (ySh.n hS rfl) rfl rfl (ySh.r hS rfl) ?_
                    refine y_iload_n rfl rfl ?_
                    refine y_iload rfl rfl ?_
                    refine y_iload rfl rfl ?_
                    refine y_iload rfl rfl ?_
                    refine y_iload rfl rfl ?_
                    refine y_virt rfl rfl rfl rfl rfl (ySh.t hS rfl) (ySh.n hS rfl) ?_
                    refine sx_firmAdd hS hC (by omega) (fun v_f J_f hC hF1 hv_f eJ => ?_)
                    have hF : yFt I J_f := hF1.t
                    refine y_ret1 ?_
                    refine y_ireturn rfl rfl rfl ?_
                    first | (exfalso; omega) | (exact hQb (by omega) _ _ hC hF hv_f eJ)
                  · refine y_bip rfl (by decide) ?_
                    refine y_iload rfl rfl ?_
                    refine y_imul rfl ?_
                    refine y_iconst rfl ?_
                    refine y_iload_n rfl rfl ?_
                    refine y_imul rfl ?_
                    refine y_icmp_gt rfl j_X8_firm_138 (fun h_25 => ?_) (fun h_26 => ?_)
                    · refine y_iconst rfl ?_
                      refine y_istore (ls' := [some _, some _, some _, some _, some _, some _, some _, some _]) rfl rfl rfl ?_
                      refine y_aload_n rfl rfl ?_
                      refine y_getR rfl (ySh.t hS rfl) (ySh.n hS rfl) rfl rfl (ySh.r hS rfl) ?_
                      refine y_iload_n rfl rfl ?_
                      refine y_iload rfl rfl ?_
                      refine y_iload rfl rfl ?_
                      refine y_iload rfl rfl ?_
                      refine y_iload rfl rfl ?_
                      refine y_virt rfl rfl rfl rfl rfl (ySh.t hS rfl) (ySh.n hS rfl) ?_
                      refine sx_firmAdd hS hC (by omega) (fun v_f J_f hC hF1 hv_f eJ => ?_)
                      have hF : yFt I J_f := hF1.t
                      refine y_ret1 ?_
                      refine y_ireturn rfl rfl rfl ?_
                      first | (exfalso; omega) | (exact hQb (by omega) _ _ hC hF hv_f eJ)
                    · refine y_iconst rfl ?_
                      refine y_goto rfl j_X8_firm_139 ?_
                      refine y_istore (ls' := [some _, some _, some _, some _, some _, some _, some _, some _]) rfl rfl rfl ?_
                      refine y_aload_n rfl rfl ?_
                      refine y_getR rfl (ySh.t hS rfl) (ySh.n hS rfl) rfl rfl (ySh.r hS rfl) ?_
                      refine y_iload_n rfl rfl ?_
                      refine y_iload rfl rfl ?_
                      refine y_iload rfl rfl ?_
                      refine y_iload rfl rfl ?_
                      refine y_iload rfl rfl ?_
                      refine y_virt rfl rfl rfl rfl rfl (ySh.t hS rfl) (ySh.n hS rfl) ?_
                      refine sx_firmAdd hS hC (by omega) (fun v_f J_f hC hF1 hv_f eJ => ?_)
                      have hF : yFt I J_f := hF1.t
                      refine y_ret1 ?_
                      refine y_ireturn rfl rfl rfl ?_
                      first | (exfalso; omega) | (exact hQa (by omega) _ _ hC hF hv_f eJ)
              · rw [yz_10] at h_20
                refine y_throw rfl rfl rfl ?_
                exact hE2 (by omega)
            · rw [yz_0] at h_18
              rw [yz_99] at h_18
              refine y_ret1 ?_
              refine y_if_neF rfl (by decide) ?_
              refine y_throw rfl rfl rfl ?_
              exact hE1 (by omega)
          · rw [yz_1] at h_15
            rw [yz_99] at h_15
            refine y_ret1 ?_
            refine y_if_eqT rfl j_X8_firm_67 (by decide) ?_
            refine y_throw rfl rfl rfl ?_
            exact hE1 (by omega)
        · rw [yz_0] at h_12
          rw [yz_999] at h_12
          refine y_ret1 ?_
          refine y_if_eqT rfl j_X8_firm_67 (by decide) ?_
          refine y_throw rfl rfl rfl ?_
          exact hE1 (by omega)
      · rw [yz_0] at h_9
        rw [yz_999] at h_9
        refine y_ret1 ?_
        refine y_if_eqT rfl j_X8_firm_67 (by decide) ?_
        refine y_throw rfl rfl rfl ?_
        exact hE1 (by omega)
    · rw [yz_0] at h_6
      rw [yz_999] at h_6
      refine y_ret1 ?_
      refine y_if_eqT rfl j_X8_firm_67 (by decide) ?_
      refine y_throw rfl rfl rfl ?_
      exact hE1 (by omega)
  · rw [yz_1] at h_3
    rw [yz_999] at h_3
    refine y_ret1 ?_
    refine y_if_eqT rfl j_X8_firm_67 (by decide) ?_
    refine y_throw rfl rfl rfl ?_
    exact hE1 (by omega)
theorem g_invest (hS : ySh n tg R) (hC : yCI I) {x1 : Int32} (hT : 0 ≤ (I 77 2).toInt ∧ (I 77 2).toInt < (Int32.ofInt 1 <<< (I 77 0 &&& 31)).toInt) (hE1 : ¬ (0 ≤ x1.toInt ∧ x1.toInt < (Int32.ofInt 1 <<< (I 77 0 &&& 31)).toInt) → Q (.inr "java/lang/IllegalArgumentException") (n, tg, I, R) (c + 1) (s + 6)) (hE2 : (0 ≤ x1.toInt ∧ x1.toInt < (Int32.ofInt 1 <<< (I 77 0 &&& 31)).toInt) ∧ ¬ (x1 &&& (I 77 1 ^^^ Int32.ofInt (-1))).toInt = 0 → Q (.inr "java/lang/IllegalStateException") (n, tg, I, R) (c + 1) (s + 6)) (hQ : (0 ≤ x1.toInt ∧ x1.toInt < (Int32.ofInt 1 <<< (I 77 0 &&& 31)).toInt) ∧ (x1 &&& (I 77 1 ^^^ Int32.ofInt (-1))).toInt = 0 → ∀ (v : Int32) (I1 : Nat → Nat → Int32), yCI I1 → yFt I I1 → v = yAddC I (Int32.ofInt 8) (I 81 (I 77 2).toInt.toNat - I 81 x1.toInt.toNat) 39 8 → I1 = (upd2 (yAddC I (Int32.ofInt 8) (I 81 (I 77 2).toInt.toNat - I 81 x1.toInt.toNat)) 77 2 x1) → Q (.inl (some (.int v))) (n, tg, I1, R) c s) : yC 139 [.ref 34, .int x1] (n, tg, I, R) c s Q := by
  have hF : yFt I I := yFt.rf
  have hz := (yshl (x := I 77 0) (by omega) (by omega)).1.2
  refine y_in (M := xm_X8_invest) (ls := [some _, some _]) rfl rfl rfl ?_
  refine y_aload_n rfl rfl ?_
  refine y_getR rfl (ySh.t hS rfl) (ySh.n hS rfl) rfl rfl (ySh.r hS rfl) ?_
  refine y_iload_n rfl rfl ?_
  refine y_virt rfl rfl rfl rfl rfl (ySh.t hS rfl) (ySh.n hS rfl) ?_
  refine y_in (M := xm_X1_isSet) (ls := [some _, some _]) rfl rfl rfl ?_
  refine y_iload_n rfl rfl ?_
  refine y_if_lt rfl j_X1_isSet_18 (fun h_1 => ?_) (fun h_2 => ?_)
  · refine y_iconst rfl ?_
    refine y_ireturn rfl rfl rfl ?_
    refine y_ret1 ?_
    refine y_if_neF rfl (by decide) ?_
    refine y_throw rfl rfl rfl ?_
    exact hE1 (by omega)
  · refine y_iload_n rfl rfl ?_
    refine y_iconst rfl ?_
    refine y_aload_n rfl rfl ?_
    refine y_getIv (v := I 77 0) rfl (ySh.t hS rfl) (ySh.n hS rfl) rfl rfl rfl ?_
    refine y_ishl rfl ?_
    refine y_icmp_ge rfl j_X1_isSet_18 (fun h_3 => ?_) (fun h_4 => ?_)
    · refine y_iconst rfl ?_
      refine y_ireturn rfl rfl rfl ?_
      refine y_ret1 ?_
      refine y_if_neF rfl (by decide) ?_
      refine y_throw rfl rfl rfl ?_
      exact hE1 (by omega)
    · refine y_iconst rfl ?_
      refine y_goto rfl j_X1_isSet_19 ?_
      refine y_ireturn rfl rfl rfl ?_
      refine y_ret1 ?_
      refine y_if_neT rfl j_X8_invest_22 (by decide) ?_
      refine y_iload_n rfl rfl ?_
      refine y_aload_n rfl rfl ?_
      refine y_getR rfl (ySh.t hS rfl) (ySh.n hS rfl) rfl rfl (ySh.r hS rfl) ?_
      refine y_getIv (v := I 77 1) rfl (ySh.t hS rfl) (ySh.n hS rfl) rfl rfl rfl ?_
      refine y_iconst rfl ?_
      refine y_ixor rfl ?_
      refine y_iand rfl ?_
      refine y_if_eq rfl j_X8_invest_47 (fun h_5 => ?_) (fun h_6 => ?_)
      · refine y_aload_n rfl rfl ?_
        refine y_getR rfl (ySh.t hS rfl) (ySh.n hS rfl) rfl rfl (ySh.r hS rfl) ?_
        refine y_bip rfl (by decide) ?_
        refine y_aload_n rfl rfl ?_
        refine y_getR rfl (ySh.t hS rfl) (ySh.n hS rfl) rfl rfl (ySh.r hS rfl) ?_
        refine y_aload_n rfl rfl ?_
        refine y_getR rfl (ySh.t hS rfl) (ySh.n hS rfl) rfl rfl (ySh.r hS rfl) ?_
        refine y_getIv (v := I 77 2) rfl (ySh.t hS rfl) (ySh.n hS rfl) rfl rfl rfl ?_
        refine y_virt rfl rfl rfl rfl rfl (ySh.t hS rfl) (ySh.n hS rfl) ?_
        refine y_in (M := xm_X1_prices) (ls := [some _, some _]) rfl rfl rfl ?_
        refine y_aload_n rfl rfl ?_
        refine y_iload_n rfl rfl ?_
        refine y_virt rfl rfl rfl rfl rfl (ySh.t hS rfl) (ySh.n hS rfl) ?_
        refine y_in (M := xm_X1_isSet) (ls := [some _, some _]) rfl rfl rfl ?_
        refine y_iload_n rfl rfl ?_
        refine y_if_lt rfl j_X1_isSet_18 (fun h_7 => ?_) (fun h_8 => ?_)
        · refine y_iconst rfl ?_
          refine y_ireturn rfl rfl rfl ?_
          refine y_ret1 ?_
          refine y_if_eqT rfl j_X1_prices_17 (by decide) ?_
          refine y_iconst rfl ?_
          refine y_ireturn rfl rfl rfl ?_
          refine y_ret1 ?_
          refine y_aload_n rfl rfl ?_
          refine y_getR rfl (ySh.t hS rfl) (ySh.n hS rfl) rfl rfl (ySh.r hS rfl) ?_
          refine y_iload_n rfl rfl ?_
          refine y_virt rfl rfl rfl rfl rfl (ySh.t hS rfl) (ySh.n hS rfl) ?_
          refine y_in (M := xm_X1_prices) (ls := [some _, some _]) rfl rfl rfl ?_
          refine y_aload_n rfl rfl ?_
          refine y_iload_n rfl rfl ?_
          refine y_virt rfl rfl rfl rfl rfl (ySh.t hS rfl) (ySh.n hS rfl) ?_
          refine y_in (M := xm_X1_isSet) (ls := [some _, some _]) rfl rfl rfl ?_
          refine y_iload_n rfl rfl ?_
          refine y_if_lt rfl j_X1_isSet_18 (fun h_9 => ?_) (fun h_10 => ?_)
          · refine y_iconst rfl ?_
            refine y_ireturn rfl rfl rfl ?_
            refine y_ret1 ?_
            refine y_if_eqT rfl j_X1_prices_17 (by decide) ?_
            refine y_iconst rfl ?_
            refine y_ireturn rfl rfl rfl ?_
            refine y_ret1 ?_
            refine y_isub rfl ?_
            refine y_virt rfl rfl rfl rfl rfl (ySh.t hS rfl) (ySh.n hS rfl) ?_
            refine spx_add hS ?_
            refine y_ret0 ?_
            refine y_nameI (fun I11 e11 => ?_)
            have hC : yCI I11 := by rw [e11]; exact yCI.addC hC
            have hF : yFt I I11 := by rw [e11]; exact hF.addC
            refine y_aload_n rfl rfl ?_
            refine y_getR rfl (ySh.t hS rfl) (ySh.n hS rfl) rfl rfl (ySh.r hS rfl) ?_
            refine y_iload_n rfl rfl ?_
            refine y_putI rfl (ySh.t hS rfl) (ySh.n hS rfl) rfl (Nat.le_of_ble_eq_true rfl) rfl rfl ?_
            refine y_nameI (fun I12 e12 => ?_)
            have hC : yCI I12 := by rw [e12]; exact hC
            have hF : yFt I I12 := by rw [e12]; exact hF.upd (by decide)
            refine y_aload_n rfl rfl ?_
            refine y_getR rfl (ySh.t hS rfl) (ySh.n hS rfl) rfl rfl (ySh.r hS rfl) ?_
            refine y_getR rfl (ySh.t hS rfl) (ySh.n hS rfl) rfl rfl (ySh.r hS rfl) ?_
            refine y_bip rfl (by decide) ?_
            refine y_iaload rfl (ySh.t hS rfl) (ySh.n hS rfl) (by decide) (by decide) ?_
            refine y_ireturn rfl rfl rfl ?_
            first | (exfalso; omega) | (exact hQ (by omega) _ _ hC hF (by rw [e12, e11]; first | rfl | exact congrFun (upd2_row (by decide)) 8) (by first | (rw [e12, e11]; done) | (rw [e12, e11]; rfl)))
          · refine y_iload_n rfl rfl ?_
            refine y_iconst rfl ?_
            refine y_aload_n rfl rfl ?_
            refine y_getIv (v := I 77 0) rfl (ySh.t hS rfl) (ySh.n hS rfl) rfl rfl rfl ?_
            refine y_ishl rfl ?_
            refine y_icmp_ge rfl j_X1_isSet_18 (fun h_13 => ?_) (fun h_14 => ?_)
            · refine y_iconst rfl ?_
              refine y_ireturn rfl rfl rfl ?_
              refine y_ret1 ?_
              refine y_if_eqT rfl j_X1_prices_17 (by decide) ?_
              refine y_iconst rfl ?_
              refine y_ireturn rfl rfl rfl ?_
              refine y_ret1 ?_
              refine y_isub rfl ?_
              refine y_virt rfl rfl rfl rfl rfl (ySh.t hS rfl) (ySh.n hS rfl) ?_
              refine spx_add hS ?_
              refine y_ret0 ?_
              refine y_nameI (fun I15 e15 => ?_)
              have hC : yCI I15 := by rw [e15]; exact yCI.addC hC
              have hF : yFt I I15 := by rw [e15]; exact hF.addC
              refine y_aload_n rfl rfl ?_
              refine y_getR rfl (ySh.t hS rfl) (ySh.n hS rfl) rfl rfl (ySh.r hS rfl) ?_
              refine y_iload_n rfl rfl ?_
              refine y_putI rfl (ySh.t hS rfl) (ySh.n hS rfl) rfl (Nat.le_of_ble_eq_true rfl) rfl rfl ?_
              refine y_nameI (fun I16 e16 => ?_)
              have hC : yCI I16 := by rw [e16]; exact hC
              have hF : yFt I I16 := by rw [e16]; exact hF.upd (by decide)
              refine y_aload_n rfl rfl ?_
              refine y_getR rfl (ySh.t hS rfl) (ySh.n hS rfl) rfl rfl (ySh.r hS rfl) ?_
              refine y_getR rfl (ySh.t hS rfl) (ySh.n hS rfl) rfl rfl (ySh.r hS rfl) ?_
              refine y_bip rfl (by decide) ?_
              refine y_iaload rfl (ySh.t hS rfl) (ySh.n hS rfl) (by decide) (by decide) ?_
              refine y_ireturn rfl rfl rfl ?_
              first | (exfalso; omega) | (exact hQ (by omega) _ _ hC hF (by rw [e16, e15]; first | rfl | exact congrFun (upd2_row (by decide)) 8) (by first | (rw [e16, e15]; done) | (rw [e16, e15]; rfl)))
            · refine y_iconst rfl ?_
              refine y_goto rfl j_X1_isSet_19 ?_
              refine y_ireturn rfl rfl rfl ?_
              refine y_ret1 ?_
              refine y_if_eqF rfl (by decide) ?_
              refine y_aload_n rfl rfl ?_
              refine y_getR rfl (ySh.t hS rfl) (ySh.n hS rfl) rfl rfl (ySh.r hS rfl) ?_
              refine y_iload_n rfl rfl ?_
              refine y_ialoadv (J := I 81) rfl (ySh.t hS rfl) (ySh.n hS rfl) (by omega) (by omega) rfl ?_
              refine y_goto rfl j_X1_prices_18 ?_
              refine y_ireturn rfl rfl rfl ?_
              refine y_ret1 ?_
              refine y_isub rfl ?_
              refine y_virt rfl rfl rfl rfl rfl (ySh.t hS rfl) (ySh.n hS rfl) ?_
              refine spx_add hS ?_
              refine y_ret0 ?_
              refine y_nameI (fun I17 e17 => ?_)
              have hC : yCI I17 := by rw [e17]; exact yCI.addC hC
              have hF : yFt I I17 := by rw [e17]; exact hF.addC
              refine y_aload_n rfl rfl ?_
              refine y_getR rfl (ySh.t hS rfl) (ySh.n hS rfl) rfl rfl (ySh.r hS rfl) ?_
              refine y_iload_n rfl rfl ?_
              refine y_putI rfl (ySh.t hS rfl) (ySh.n hS rfl) rfl (Nat.le_of_ble_eq_true rfl) rfl rfl ?_
              refine y_nameI (fun I18 e18 => ?_)
              have hC : yCI I18 := by rw [e18]; exact hC
              have hF : yFt I I18 := by rw [e18]; exact hF.upd (by decide)
              refine y_aload_n rfl rfl ?_
              refine y_getR rfl (ySh.t hS rfl) (ySh.n hS rfl) rfl rfl (ySh.r hS rfl) ?_
              refine y_getR rfl (ySh.t hS rfl) (ySh.n hS rfl) rfl rfl (ySh.r hS rfl) ?_
              refine y_bip rfl (by decide) ?_
              refine y_iaload rfl (ySh.t hS rfl) (ySh.n hS rfl) (by decide) (by decide) ?_
              refine y_ireturn rfl rfl rfl ?_
              first | (exfalso; omega) | (exact hQ (by omega) _ _ hC hF (by rw [e18, e17]; first | rfl | exact congrFun (upd2_row (by decide)) 8) (by first | (rw [e18, e17]; done) | (rw [e18, e17]; rfl)))
        · refine y_iload_n rfl rfl ?_
          refine y_iconst rfl ?_
          refine y_aload_n rfl rfl ?_
          refine y_getIv (v := I 77 0) rfl (ySh.t hS rfl) (ySh.n hS rfl) rfl rfl rfl ?_
          refine y_ishl rfl ?_
          refine y_icmp_ge rfl j_X1_isSet_18 (fun h_19 => ?_) (fun h_20 => ?_)
          · refine y_iconst rfl ?_
            refine y_ireturn rfl rfl rfl ?_
            refine y_ret1 ?_
            refine y_if_eqT rfl j_X1_prices_17 (by decide) ?_
            refine y_iconst rfl ?_
            refine y_ireturn rfl rfl rfl ?_
            refine y_ret1 ?_
            refine y_aload_n rfl rfl ?_
            refine y_getR rfl (ySh.t hS rfl) (ySh.n hS rfl) rfl rfl (ySh.r hS rfl) ?_
            refine y_iload_n rfl rfl ?_
            refine y_virt rfl rfl rfl rfl rfl (ySh.t hS rfl) (ySh.n hS rfl) ?_
            refine y_in (M := xm_X1_prices) (ls := [some _, some _]) rfl rfl rfl ?_
            refine y_aload_n rfl rfl ?_
            refine y_iload_n rfl rfl ?_
            refine y_virt rfl rfl rfl rfl rfl (ySh.t hS rfl) (ySh.n hS rfl) ?_
            refine y_in (M := xm_X1_isSet) (ls := [some _, some _]) rfl rfl rfl ?_
            refine y_iload_n rfl rfl ?_
            refine y_if_lt rfl j_X1_isSet_18 (fun h_21 => ?_) (fun h_22 => ?_)
            · refine y_iconst rfl ?_
              refine y_ireturn rfl rfl rfl ?_
              refine y_ret1 ?_
              refine y_if_eqT rfl j_X1_prices_17 (by decide) ?_
              refine y_iconst rfl ?_
              refine y_ireturn rfl rfl rfl ?_
              refine y_ret1 ?_
              refine y_isub rfl ?_
              refine y_virt rfl rfl rfl rfl rfl (ySh.t hS rfl) (ySh.n hS rfl) ?_
              refine spx_add hS ?_
              refine y_ret0 ?_
              refine y_nameI (fun I23 e23 => ?_)
              have hC : yCI I23 := by rw [e23]; exact yCI.addC hC
              have hF : yFt I I23 := by rw [e23]; exact hF.addC
              refine y_aload_n rfl rfl ?_
              refine y_getR rfl (ySh.t hS rfl) (ySh.n hS rfl) rfl rfl (ySh.r hS rfl) ?_
              refine y_iload_n rfl rfl ?_
              refine y_putI rfl (ySh.t hS rfl) (ySh.n hS rfl) rfl (Nat.le_of_ble_eq_true rfl) rfl rfl ?_
              refine y_nameI (fun I24 e24 => ?_)
              have hC : yCI I24 := by rw [e24]; exact hC
              have hF : yFt I I24 := by rw [e24]; exact hF.upd (by decide)
              refine y_aload_n rfl rfl ?_
              refine y_getR rfl (ySh.t hS rfl) (ySh.n hS rfl) rfl rfl (ySh.r hS rfl) ?_
              refine y_getR rfl (ySh.t hS rfl) (ySh.n hS rfl) rfl rfl (ySh.r hS rfl) ?_
              refine y_bip rfl (by decide) ?_
              refine y_iaload rfl (ySh.t hS rfl) (ySh.n hS rfl) (by decide) (by decide) ?_
              refine y_ireturn rfl rfl rfl ?_
              first | (exfalso; omega) | (exact hQ (by omega) _ _ hC hF (by rw [e24, e23]; first | rfl | exact congrFun (upd2_row (by decide)) 8) (by first | (rw [e24, e23]; done) | (rw [e24, e23]; rfl)))
            · refine y_iload_n rfl rfl ?_
              refine y_iconst rfl ?_
              refine y_aload_n rfl rfl ?_
              refine y_getIv (v := I 77 0) rfl (ySh.t hS rfl) (ySh.n hS rfl) rfl rfl rfl ?_
              refine y_ishl rfl ?_
              refine y_icmp_ge rfl j_X1_isSet_18 (fun h_25 => ?_) (fun h_26 => ?_)
              · refine y_iconst rfl ?_
                refine y_ireturn rfl rfl rfl ?_
                refine y_ret1 ?_
                refine y_if_eqT rfl j_X1_prices_17 (by decide) ?_
                refine y_iconst rfl ?_
                refine y_ireturn rfl rfl rfl ?_
                refine y_ret1 ?_
                refine y_isub rfl ?_
                refine y_virt rfl rfl rfl rfl rfl (ySh.t hS rfl) (ySh.n hS rfl) ?_
                refine spx_add hS ?_
                refine y_ret0 ?_
                refine y_nameI (fun I27 e27 => ?_)
                have hC : yCI I27 := by rw [e27]; exact yCI.addC hC
                have hF : yFt I I27 := by rw [e27]; exact hF.addC
                refine y_aload_n rfl rfl ?_
                refine y_getR rfl (ySh.t hS rfl) (ySh.n hS rfl) rfl rfl (ySh.r hS rfl) ?_
                refine y_iload_n rfl rfl ?_
                refine y_putI rfl (ySh.t hS rfl) (ySh.n hS rfl) rfl (Nat.le_of_ble_eq_true rfl) rfl rfl ?_
                refine y_nameI (fun I28 e28 => ?_)
                have hC : yCI I28 := by rw [e28]; exact hC
                have hF : yFt I I28 := by rw [e28]; exact hF.upd (by decide)
                refine y_aload_n rfl rfl ?_
                refine y_getR rfl (ySh.t hS rfl) (ySh.n hS rfl) rfl rfl (ySh.r hS rfl) ?_
                refine y_getR rfl (ySh.t hS rfl) (ySh.n hS rfl) rfl rfl (ySh.r hS rfl) ?_
                refine y_bip rfl (by decide) ?_
                refine y_iaload rfl (ySh.t hS rfl) (ySh.n hS rfl) (by decide) (by decide) ?_
                refine y_ireturn rfl rfl rfl ?_
                first | (exfalso; omega) | (exact hQ (by omega) _ _ hC hF (by rw [e28, e27]; first | rfl | exact congrFun (upd2_row (by decide)) 8) (by first | (rw [e28, e27]; done) | (rw [e28, e27]; rfl)))
              · refine y_iconst rfl ?_
                refine y_goto rfl j_X1_isSet_19 ?_
                refine y_ireturn rfl rfl rfl ?_
                refine y_ret1 ?_
                refine y_if_eqF rfl (by decide) ?_
                refine y_aload_n rfl rfl ?_
                refine y_getR rfl (ySh.t hS rfl) (ySh.n hS rfl) rfl rfl (ySh.r hS rfl) ?_
                refine y_iload_n rfl rfl ?_
                refine y_ialoadv (J := I 81) rfl (ySh.t hS rfl) (ySh.n hS rfl) (by omega) (by omega) rfl ?_
                refine y_goto rfl j_X1_prices_18 ?_
                refine y_ireturn rfl rfl rfl ?_
                refine y_ret1 ?_
                refine y_isub rfl ?_
                refine y_virt rfl rfl rfl rfl rfl (ySh.t hS rfl) (ySh.n hS rfl) ?_
                refine spx_add hS ?_
                refine y_ret0 ?_
                refine y_nameI (fun I29 e29 => ?_)
                have hC : yCI I29 := by rw [e29]; exact yCI.addC hC
                have hF : yFt I I29 := by rw [e29]; exact hF.addC
                refine y_aload_n rfl rfl ?_
                refine y_getR rfl (ySh.t hS rfl) (ySh.n hS rfl) rfl rfl (ySh.r hS rfl) ?_
                refine y_iload_n rfl rfl ?_
                refine y_putI rfl (ySh.t hS rfl) (ySh.n hS rfl) rfl (Nat.le_of_ble_eq_true rfl) rfl rfl ?_
                refine y_nameI (fun I30 e30 => ?_)
                have hC : yCI I30 := by rw [e30]; exact hC
                have hF : yFt I I30 := by rw [e30]; exact hF.upd (by decide)
                refine y_aload_n rfl rfl ?_
                refine y_getR rfl (ySh.t hS rfl) (ySh.n hS rfl) rfl rfl (ySh.r hS rfl) ?_
                refine y_getR rfl (ySh.t hS rfl) (ySh.n hS rfl) rfl rfl (ySh.r hS rfl) ?_
                refine y_bip rfl (by decide) ?_
                refine y_iaload rfl (ySh.t hS rfl) (ySh.n hS rfl) (by decide) (by decide) ?_
                refine y_ireturn rfl rfl rfl ?_
                first | (exfalso; omega) | (exact hQ (by omega) _ _ hC hF (by rw [e30, e29]; first | rfl | exact congrFun (upd2_row (by decide)) 8) (by first | (rw [e30, e29]; done) | (rw [e30, e29]; rfl)))
          · refine y_iconst rfl ?_
            refine y_goto rfl j_X1_isSet_19 ?_
            refine y_ireturn rfl rfl rfl ?_
            refine y_ret1 ?_
            refine y_if_eqF rfl (by decide) ?_
            refine y_aload_n rfl rfl ?_
            refine y_getR rfl (ySh.t hS rfl) (ySh.n hS rfl) rfl rfl (ySh.r hS rfl) ?_
            refine y_iload_n rfl rfl ?_
            refine y_ialoadv (J := I 81) rfl (ySh.t hS rfl) (ySh.n hS rfl) (by omega) (by omega) rfl ?_
            refine y_goto rfl j_X1_prices_18 ?_
            refine y_ireturn rfl rfl rfl ?_
            refine y_ret1 ?_
            refine y_aload_n rfl rfl ?_
            refine y_getR rfl (ySh.t hS rfl) (ySh.n hS rfl) rfl rfl (ySh.r hS rfl) ?_
            refine y_iload_n rfl rfl ?_
            refine y_virt rfl rfl rfl rfl rfl (ySh.t hS rfl) (ySh.n hS rfl) ?_
            refine y_in (M := xm_X1_prices) (ls := [some _, some _]) rfl rfl rfl ?_
            refine y_aload_n rfl rfl ?_
            refine y_iload_n rfl rfl ?_
            refine y_virt rfl rfl rfl rfl rfl (ySh.t hS rfl) (ySh.n hS rfl) ?_
            refine y_in (M := xm_X1_isSet) (ls := [some _, some _]) rfl rfl rfl ?_
            refine y_iload_n rfl rfl ?_
            refine y_if_lt rfl j_X1_isSet_18 (fun h_31 => ?_) (fun h_32 => ?_)
            · refine y_iconst rfl ?_
              refine y_ireturn rfl rfl rfl ?_
              refine y_ret1 ?_
              refine y_if_eqT rfl j_X1_prices_17 (by decide) ?_
              refine y_iconst rfl ?_
              refine y_ireturn rfl rfl rfl ?_
              refine y_ret1 ?_
              refine y_isub rfl ?_
              refine y_virt rfl rfl rfl rfl rfl (ySh.t hS rfl) (ySh.n hS rfl) ?_
              refine spx_add hS ?_
              refine y_ret0 ?_
              refine y_nameI (fun I33 e33 => ?_)
              have hC : yCI I33 := by rw [e33]; exact yCI.addC hC
              have hF : yFt I I33 := by rw [e33]; exact hF.addC
              refine y_aload_n rfl rfl ?_
              refine y_getR rfl (ySh.t hS rfl) (ySh.n hS rfl) rfl rfl (ySh.r hS rfl) ?_
              refine y_iload_n rfl rfl ?_
              refine y_putI rfl (ySh.t hS rfl) (ySh.n hS rfl) rfl (Nat.le_of_ble_eq_true rfl) rfl rfl ?_
              refine y_nameI (fun I34 e34 => ?_)
              have hC : yCI I34 := by rw [e34]; exact hC
              have hF : yFt I I34 := by rw [e34]; exact hF.upd (by decide)
              refine y_aload_n rfl rfl ?_
              refine y_getR rfl (ySh.t hS rfl) (ySh.n hS rfl) rfl rfl (ySh.r hS rfl) ?_
              refine y_getR rfl (ySh.t hS rfl) (ySh.n hS rfl) rfl rfl (ySh.r hS rfl) ?_
              refine y_bip rfl (by decide) ?_
              refine y_iaload rfl (ySh.t hS rfl) (ySh.n hS rfl) (by decide) (by decide) ?_
              refine y_ireturn rfl rfl rfl ?_
              first | (exfalso; omega) | (exact hQ (by omega) _ _ hC hF (by rw [e34, e33]; first | rfl | exact congrFun (upd2_row (by decide)) 8) (by first | (rw [e34, e33]; done) | (rw [e34, e33]; rfl)))
            · refine y_iload_n rfl rfl ?_
              refine y_iconst rfl ?_
              refine y_aload_n rfl rfl ?_
              refine y_getIv (v := I 77 0) rfl (ySh.t hS rfl) (ySh.n hS rfl) rfl rfl rfl ?_
              refine y_ishl rfl ?_
              refine y_icmp_ge rfl j_X1_isSet_18 (fun h_35 => ?_) (fun h_36 => ?_)
              · refine y_iconst rfl ?_
                refine y_ireturn rfl rfl rfl ?_
                refine y_ret1 ?_
                refine y_if_eqT rfl j_X1_prices_17 (by decide) ?_
                refine y_iconst rfl ?_
                refine y_ireturn rfl rfl rfl ?_
                refine y_ret1 ?_
                refine y_isub rfl ?_
                refine y_virt rfl rfl rfl rfl rfl (ySh.t hS rfl) (ySh.n hS rfl) ?_
                refine spx_add hS ?_
                refine y_ret0 ?_
                refine y_nameI (fun I37 e37 => ?_)
                have hC : yCI I37 := by rw [e37]; exact yCI.addC hC
                have hF : yFt I I37 := by rw [e37]; exact hF.addC
                refine y_aload_n rfl rfl ?_
                refine y_getR rfl (ySh.t hS rfl) (ySh.n hS rfl) rfl rfl (ySh.r hS rfl) ?_
                refine y_iload_n rfl rfl ?_
                refine y_putI rfl (ySh.t hS rfl) (ySh.n hS rfl) rfl (Nat.le_of_ble_eq_true rfl) rfl rfl ?_
                refine y_nameI (fun I38 e38 => ?_)
                have hC : yCI I38 := by rw [e38]; exact hC
                have hF : yFt I I38 := by rw [e38]; exact hF.upd (by decide)
                refine y_aload_n rfl rfl ?_
                refine y_getR rfl (ySh.t hS rfl) (ySh.n hS rfl) rfl rfl (ySh.r hS rfl) ?_
                refine y_getR rfl (ySh.t hS rfl) (ySh.n hS rfl) rfl rfl (ySh.r hS rfl) ?_
                refine y_bip rfl (by decide) ?_
                refine y_iaload rfl (ySh.t hS rfl) (ySh.n hS rfl) (by decide) (by decide) ?_
                refine y_ireturn rfl rfl rfl ?_
                first | (exfalso; omega) | (exact hQ (by omega) _ _ hC hF (by rw [e38, e37]; first | rfl | exact congrFun (upd2_row (by decide)) 8) (by first | (rw [e38, e37]; done) | (rw [e38, e37]; rfl)))
              · refine y_iconst rfl ?_
                refine y_goto rfl j_X1_isSet_19 ?_
                refine y_ireturn rfl rfl rfl ?_
                refine y_ret1 ?_
                refine y_if_eqF rfl (by decide) ?_
                refine y_aload_n rfl rfl ?_
                refine y_getR rfl (ySh.t hS rfl) (ySh.n hS rfl) rfl rfl (ySh.r hS rfl) ?_
                refine y_iload_n rfl rfl ?_
                refine y_ialoadv (J := I 81) rfl (ySh.t hS rfl) (ySh.n hS rfl) (by omega) (by omega) rfl ?_
                refine y_goto rfl j_X1_prices_18 ?_
                refine y_ireturn rfl rfl rfl ?_
                refine y_ret1 ?_
                refine y_isub rfl ?_
                refine y_virt rfl rfl rfl rfl rfl (ySh.t hS rfl) (ySh.n hS rfl) ?_
                refine spx_add hS ?_
                refine y_ret0 ?_
                refine y_nameI (fun I39 e39 => ?_)
                have hC : yCI I39 := by rw [e39]; exact yCI.addC hC
                have hF : yFt I I39 := by rw [e39]; exact hF.addC
                refine y_aload_n rfl rfl ?_
                refine y_getR rfl (ySh.t hS rfl) (ySh.n hS rfl) rfl rfl (ySh.r hS rfl) ?_
                refine y_iload_n rfl rfl ?_
                refine y_putI rfl (ySh.t hS rfl) (ySh.n hS rfl) rfl (Nat.le_of_ble_eq_true rfl) rfl rfl ?_
                refine y_nameI (fun I40 e40 => ?_)
                have hC : yCI I40 := by rw [e40]; exact hC
                have hF : yFt I I40 := by rw [e40]; exact hF.upd (by decide)
                refine y_aload_n rfl rfl ?_
                refine y_getR rfl (ySh.t hS rfl) (ySh.n hS rfl) rfl rfl (ySh.r hS rfl) ?_
                refine y_getR rfl (ySh.t hS rfl) (ySh.n hS rfl) rfl rfl (ySh.r hS rfl) ?_
                refine y_bip rfl (by decide) ?_
                refine y_iaload rfl (ySh.t hS rfl) (ySh.n hS rfl) (by decide) (by decide) ?_
                refine y_ireturn rfl rfl rfl ?_
                first | (exfalso; omega) | (exact hQ (by omega) _ _ hC hF (by rw [e40, e39]; first | rfl | exact congrFun (upd2_row (by decide)) 8) (by first | (rw [e40, e39]; done) | (rw [e40, e39]; rfl)))
      · refine y_throw rfl rfl rfl ?_
        exact hE2 (by omega)
theorem g_dividend (hS : ySh n tg R) (hC : yCI I) {x1 x2 : Int32} (hT : (0 ≤ x1.toInt ∧ x1.toInt < (I 77 0).toInt) → 1 ≤ (I 78 x1.toInt.toNat).toInt ∧ (I 78 x1.toInt.toNat).toInt ≤ 999) (hE0 : ¬ (0 ≤ x1.toInt ∧ x1.toInt < (I 77 0).toInt) → Q (.inr "java/lang/IndexOutOfBoundsException") (n, tg, I, R) (c + 1) (s + 6)) (hE1 : (0 ≤ x1.toInt ∧ x1.toInt < (I 77 0).toInt) ∧ ¬ (0 ≤ x2.toInt ∧ x2.toInt ≤ 999) → Q (.inr "java/lang/IllegalArgumentException") (n, tg, I, R) (c + 1) (s + 6)) (hE2 : (0 ≤ x1.toInt ∧ x1.toInt < (I 77 0).toInt) ∧ (0 ≤ x2.toInt ∧ x2.toInt ≤ 999) ∧ ¬ ((I 77 2 >>> (x1 &&& 31)) &&& Int32.ofInt 1).toInt = 1 → Q (.inr "java/lang/IllegalStateException") (n, tg, I, R) (c + 1) (s + 6)) (hQ : (0 ≤ x1.toInt ∧ x1.toInt < (I 77 0).toInt) ∧ (0 ≤ x2.toInt ∧ x2.toInt ≤ 999) ∧ ((I 77 2 >>> (x1 &&& 31)) &&& Int32.ofInt 1).toInt = 1 → ∀ (v : Int32) (I1 : Nat → Nat → Int32) (t : Int32), yCI I1 → yFt I I1 → t = yTnt (I 78 x1.toInt.toNat) (I 79 x1.toInt.toNat) x2 → v = t → I1 = (upd2 (upd2 (yAddC (yAddC I (Int32.ofInt 8) x2) (Int32.ofInt 8) (-t)) 38 1 (I 38 1 + t)) 80 x1.toInt.toNat (I 80 x1.toInt.toNat + t)) → Q (.inl (some (.int v))) (n, tg, I1, R) c s) : yC 140 [.ref 34, .int x1, .int x2] (n, tg, I, R) c s Q := by
  have hF : yFt I I := yFt.rf
  refine y_in (M := xm_X8_dividend) (ls := [some _, some _, some _, _]) rfl rfl rfl ?_
  refine y_aload_n rfl rfl ?_
  refine y_getR rfl (ySh.t hS rfl) (ySh.n hS rfl) rfl rfl (ySh.r hS rfl) ?_
  refine y_iload_n rfl rfl ?_
  refine y_virt rfl rfl rfl rfl rfl (ySh.t hS rfl) (ySh.n hS rfl) ?_
  refine y_in (M := xm_X1_has) (ls := [some _, some _]) rfl rfl rfl ?_
  refine y_iload_n rfl rfl ?_
  refine y_if_lt rfl j_X1_has_16 (fun h_1 => ?_) (fun h_2 => ?_)
  · refine y_iconst rfl ?_
    refine y_ireturn rfl rfl rfl ?_
    refine y_ret1 ?_
    refine y_if_neF rfl (by decide) ?_
    refine y_throw rfl rfl rfl ?_
    exact hE0 (by omega)
  · refine y_iload_n rfl rfl ?_
    refine y_aload_n rfl rfl ?_
    refine y_getIv (v := I 77 0) rfl (ySh.t hS rfl) (ySh.n hS rfl) rfl rfl rfl ?_
    refine y_icmp_ge rfl j_X1_has_16 (fun h_3 => ?_) (fun h_4 => ?_)
    · refine y_iconst rfl ?_
      refine y_ireturn rfl rfl rfl ?_
      refine y_ret1 ?_
      refine y_if_neF rfl (by decide) ?_
      refine y_throw rfl rfl rfl ?_
      exact hE0 (by omega)
    · refine y_iconst rfl ?_
      refine y_goto rfl j_X1_has_17 ?_
      refine y_ireturn rfl rfl rfl ?_
      refine y_ret1 ?_
      refine y_if_neT rfl j_X8_dividend_22 (by decide) ?_
      refine y_iload_n rfl rfl ?_
      refine y_iconst rfl ?_
      refine y_sip rfl (by decide) ?_
      refine y_static rfl rfl rfl rfl rfl ?_
      refine s_isIn (fun h_5 h_6 => ?_) (fun h_7 => ?_)
      · rw [yz_0] at h_5
        rw [yz_999] at h_6
        refine y_ret1 ?_
        refine y_if_neT rfl j_X8_dividend_44 (by decide) ?_
        refine y_aload_n rfl rfl ?_
        refine y_getR rfl (ySh.t hS rfl) (ySh.n hS rfl) rfl rfl (ySh.r hS rfl) ?_
        refine y_iload_n rfl rfl ?_
        refine y_virt rfl rfl rfl rfl rfl (ySh.t hS rfl) (ySh.n hS rfl) ?_
        refine y_in (M := xm_X1_isHeld) (ls := [some _, some _]) rfl rfl rfl ?_
        refine y_aload_n rfl rfl ?_
        refine y_getIv (v := I 77 2) rfl (ySh.t hS rfl) (ySh.n hS rfl) rfl rfl rfl ?_
        refine y_iload_n rfl rfl ?_
        refine y_ishr rfl ?_
        refine y_iconst rfl ?_
        refine y_iand rfl ?_
        refine y_iconst rfl ?_
        refine y_icmp_ne rfl j_X1_isHeld_16 (fun h_8 => ?_) (fun h_9 => ?_)
        · rw [yz_1] at h_8
          refine y_iconst rfl ?_
          refine y_ireturn rfl rfl rfl ?_
          refine y_ret1 ?_
          refine y_if_neF rfl (by decide) ?_
          refine y_throw rfl rfl rfl ?_
          exact hE2 (by omega)
        · rw [yz_1] at h_9
          refine y_iconst rfl ?_
          refine y_goto rfl j_X1_isHeld_17 ?_
          refine y_ireturn rfl rfl rfl ?_
          refine y_ret1 ?_
          refine y_if_neT rfl j_X8_dividend_66 (by decide) ?_
          refine y_aload_n rfl rfl ?_
          refine y_getR rfl (ySh.t hS rfl) (ySh.n hS rfl) rfl rfl (ySh.r hS rfl) ?_
          refine y_iload_n rfl rfl ?_
          refine y_iload_n rfl rfl ?_
          refine y_virt rfl rfl rfl rfl rfl (ySh.t hS rfl) (ySh.n hS rfl) ?_
          refine y_in (M := xm_X1_tainted) (ls := [some _, some _, some _, _, _]) rfl rfl rfl ?_
          refine y_aload_n rfl rfl ?_
          refine y_getR rfl (ySh.t hS rfl) (ySh.n hS rfl) rfl rfl (ySh.r hS rfl) ?_
          refine y_iload_n rfl rfl ?_
          refine y_ialoadv (J := I 78) rfl (ySh.t hS rfl) (ySh.n hS rfl) (by omega) (by omega) rfl ?_
          refine y_iconst rfl ?_
          refine y_isub rfl ?_
          refine y_istore_n (ls' := [some _, some _, some _, some _, _]) rfl rfl rfl ?_
          refine y_iload_n rfl rfl ?_
          refine y_aload_n rfl rfl ?_
          refine y_getR rfl (ySh.t hS rfl) (ySh.n hS rfl) rfl rfl (ySh.r hS rfl) ?_
          refine y_iload_n rfl rfl ?_
          refine y_ialoadv (J := I 79) rfl (ySh.t hS rfl) (ySh.n hS rfl) (by omega) (by omega) rfl ?_
          refine y_imul rfl ?_
          refine y_istore (ls' := [some _, some _, some _, some _, some _]) rfl rfl rfl ?_
          refine y_iload rfl rfl ?_
          refine y_iload_n rfl rfl ?_
          refine y_iadd rfl ?_
          refine y_i2l rfl ?_
          refine y_lconst rfl ?_
          refine y_aload_n rfl rfl ?_
          refine y_getR rfl (ySh.t hS rfl) (ySh.n hS rfl) rfl rfl (ySh.r hS rfl) ?_
          refine y_iload_n rfl rfl ?_
          refine y_ialoadv (J := I 78) rfl (ySh.t hS rfl) (ySh.n hS rfl) (by omega) (by omega) rfl ?_
          refine y_i2l rfl ?_
          refine y_static rfl rfl rfl rfl rfl ?_
          refine sp_portion ?_
          refine y_ret1 ?_
          refine y_iload_n rfl rfl ?_
          refine y_min rfl rfl ?_
          refine y_ireturn rfl rfl rfl ?_
          refine y_ret1 ?_
          refine y_istore_n (ls' := [some _, some _, some _, some _]) rfl rfl rfl ?_
          refine y_aload_n rfl rfl ?_
          refine y_getR rfl (ySh.t hS rfl) (ySh.n hS rfl) rfl rfl (ySh.r hS rfl) ?_
          refine y_bip rfl (by decide) ?_
          refine y_iload_n rfl rfl ?_
          refine y_virt rfl rfl rfl rfl rfl (ySh.t hS rfl) (ySh.n hS rfl) ?_
          refine spx_add hS ?_
          refine y_ret0 ?_
          refine y_nameI (fun I10 e10 => ?_)
          have hC : yCI I10 := by rw [e10]; exact yCI.addC hC
          have hF : yFt I I10 := by rw [e10]; exact hF.addC
          refine y_aload_n rfl rfl ?_
          refine y_getR rfl (ySh.t hS rfl) (ySh.n hS rfl) rfl rfl (ySh.r hS rfl) ?_
          refine y_bip rfl (by decide) ?_
          refine y_iload_n rfl rfl ?_
          refine y_virt rfl rfl rfl rfl rfl (ySh.t hS rfl) (ySh.n hS rfl) ?_
          refine y_in (M := xm_X4_giveAway) (ls := [some _, some _, some _]) rfl rfl rfl ?_
          refine y_aload_n rfl rfl ?_
          refine y_iload_n rfl rfl ?_
          refine y_iload_n rfl rfl ?_
          refine y_ineg rfl ?_
          refine y_virt rfl rfl rfl rfl rfl (ySh.t hS rfl) (ySh.n hS rfl) ?_
          refine spx_add hS ?_
          refine y_ret0 ?_
          refine y_nameI (fun I11 e11 => ?_)
          have hC : yCI I11 := by rw [e11]; exact yCI.addC hC
          have hF : yFt I I11 := by rw [e11]; exact hF.addC
          refine y_aload_n rfl rfl ?_
          refine y_dup rfl rfl ?_
          refine y_getIv (v := I 38 1) rfl (ySh.t hS rfl) (ySh.n hS rfl) rfl rfl (by rw [e11, yAddC_row (by decide), e10, yAddC_row (by decide)]) ?_
          refine y_iload_n rfl rfl ?_
          refine y_iadd rfl ?_
          refine y_putI rfl (ySh.t hS rfl) (ySh.n hS rfl) rfl (Nat.le_of_ble_eq_true rfl) rfl rfl ?_
          refine y_nameI (fun I12 e12 => ?_)
          have hC : yCI I12 := by rw [e12]; exact hC
          have hF : yFt I I12 := by rw [e12]; exact hF.upd (by decide)
          refine y_return rfl ?_
          refine y_ret0 ?_
          refine y_aload_n rfl rfl ?_
          refine y_getR rfl (ySh.t hS rfl) (ySh.n hS rfl) rfl rfl (ySh.r hS rfl) ?_
          refine y_getR rfl (ySh.t hS rfl) (ySh.n hS rfl) rfl rfl (ySh.r hS rfl) ?_
          refine y_iload_n rfl rfl ?_
          refine y_dup2 rfl rfl rfl ?_
          refine y_ialoadv (J := I 80) rfl (ySh.t hS rfl) (ySh.n hS rfl) (by omega) (by omega) (by rw [e12, upd2_row (by decide), e11, yAddC_row (by decide), e10, yAddC_row (by decide)]) ?_
          refine y_iload_n rfl rfl ?_
          refine y_iadd rfl ?_
          refine y_iastore rfl (ySh.t hS rfl) (ySh.n hS rfl) (Nat.le_of_ble_eq_true rfl) (by omega) (by omega) ?_
          refine y_nameI (fun I13 e13 => ?_)
          have hC : yCI I13 := by rw [e13]; exact hC
          have hF : yFt I I13 := by rw [e13]; exact hF.upd (by decide)
          refine y_iload_n rfl rfl ?_
          refine y_ireturn rfl rfl rfl ?_
          first | (exfalso; omega) | (exact hQ (by omega) _ _ _ hC hF (show _ = yTnt (I 78 x1.toInt.toNat) (I 79 x1.toInt.toNat) x2 by unfold yTnt yMnn; rw [yPor_pl (by omega)]) rfl (by first | (rw [e13, e12, e11, e10]; done) | (rw [e13, e12, e11, e10]; rfl)))
      · rw [yz_0] at h_7
        rw [yz_999] at h_7
        refine y_ret1 ?_
        refine y_if_neF rfl (by decide) ?_
        refine y_throw rfl rfl rfl ?_
        exact hE1 (by omega)
end YXF
