/-! THE BOARD AT A DAY (by ex9w.py) -/
/-- what the words told up to a day say -/
def yHw (I : Nat → Nat → Int32) (R : Nat → Nat → Value) (q d : Int) (j : Nat) : Nat → Int
  | 0 => 1
  | k + 1 => if (I (yAd R 87 k) 0).toInt ≤ d ∧ (I (yAd R 87 k) 2).toInt = q ∧ (I (yAd R 87 k) 1).toInt = (j : Int) then (I (yAd R 87 k) 3).toInt else yHw I R q d j k
theorem yHw_step {I : Nat → Nat → Int32} {R : Nat → Nat → Value} {q d : Int} {j k b : Nat} (hb : b = yAd R 87 k) : yHw I R q d j (k + 1) = if (I b 0).toInt ≤ d ∧ (I b 2).toInt = q ∧ (I b 1).toInt = (j : Int) then (I b 3).toInt else yHw I R q d j k := by subst hb; rfl
theorem yHw_eq {I I' : Nat → Nat → Int32} {R R' : Nat → Nat → Value} {q d : Int} {j : Nat} : ∀ {k : Nat}, (∀ i, i < k → yAd R' 87 i = yAd R 87 i ∧ I' (yAd R 87 i) = I (yAd R 87 i)) → yHw I' R' q d j k = yHw I R q d j k
  | 0, _ => rfl
  | k + 1, h => by
    obtain ⟨h1, h2⟩ := h k (Nat.lt_succ_self k)
    rw [yHw_step h1.symm, yHw_step rfl, h2, yHw_eq (k := k) (fun i hi => h i (by omega))]
/-- no word is younger than the day: all of them count -/
theorem yHw_all {I : Nat → Nat → Int32} {R : Nat → Nat → Value} {q d : Int} {j : Nat} : ∀ {k : Nat}, (∀ i, i < k → (I (yAd R 87 i) 0).toInt ≤ d) → yHw I R q d j k = yHv I R q j k
  | 0, _ => rfl
  | k + 1, h => by
    rw [yHw_step rfl, yHv_step rfl, yHw_all (k := k) (fun i hi => h i (by omega))]
    have hk := h k (Nat.lt_succ_self k)
    by_cases e : (I (yAd R 87 k) 2).toInt = q ∧ (I (yAd R 87 k) 1).toInt = (j : Int)
    · rw [if_pos ⟨hk, e⟩, if_pos e]
    · rw [if_neg (fun h => e h.2), if_neg e]
/-- a word more, younger than the day that is asked for -/
theorem yHw_add {K nb n n1 x : Nat} {tg tg1 : Nat → yT} {I I1 : Nat → Nat → Int32} {R R1 : Nat → Nat → Value} (h : yRI K nb tg I R) (hn : nb ≤ n) (hx : 94 ≤ x) (hxn : x < n) (ha : yAdd n tg I R 87 x n1 tg1 I1 R1) (q d : Int) (j : Nat) (hd : d < (I x 0).toInt) :
    yHw I1 R1 q d j (I1 87 2).toInt.toNat = yHw I R q d j (I 87 2).toInt.toNat := by
  have h0 := h.l87.2.2.2.1
  have hI := ha.I
  have hsz := ha.sz
  obtain ⟨e1, m1, g1, g2, g3, g4, g5, g6, g7, g8, g9, g10, g11, g12, g13, g14, g15, g16⟩ := ha
  have hE : yEl R1 87 = e1 := by unfold yEl; rw [g6]; rfl
  have hAd : ∀ i : Nat, (i : Int) < (I 87 2).toInt → yAd R1 87 i = yAd R 87 i := fun i hi => by
    unfold yAd; rw [hE, g14 i hi]
  have hAx : x = yAd R1 87 (I 87 2).toInt.toNat := by unfold yAd; rw [hE, g15]; rfl
  rw [show (I1 87 2).toInt.toNat = (I 87 2).toInt.toNat + 1 by omega, yHw_step hAx, hI x hxn (by omega), if_neg (fun h => by have := h.1; omega)]
  exact yHw_eq (I := I) (R := R) (fun i hi => ⟨hAd i (by omega), hI _ (by have := (h.l87.2.2.2.2 i (by omega)).2.2.1; omega) (by have := (h.l87.2.2.2.2 i (by omega)).2.1; omega)⟩)
theorem yHw_kp {n n1 : Nat} {tg tg1 : Nat → yT} {I I1 : Nat → Nat → Int32} {R R1 : Nat → Nat → Value} {q d : Int} {j : Nat} (hK : yKp n tg I R n1 tg1 I1 R1) : yHw I1 R1 q d j (I1 87 2).toInt.toNat = yHw I R q d j (I 87 2).toInt.toNat := by
  obtain ⟨-, -, -, h4, h5, h6, h7, -⟩ := hK
  rw [h6]
  exact yHw_eq fun i hi => ⟨yAd_eq h4 h5, h7 i (by omega)⟩
theorem yHw_x {K nb n n1 : Nat} {tg tg1 : Nat → yT} {I I1 : Nat → Nat → Int32} {R R1 : Nat → Nat → Value} {q d : Int} {j : Nat} (h : yRI K nb tg I R) (hn : nb ≤ n) (hX : yX n tg I R n1 tg1 I1 R1) : yHw I1 R1 q d j (I1 87 2).toInt.toNat = yHw I R q d j (I 87 2).toInt.toNat := yHw_kp (yKp.rf.x h hn hX)
section YHW
variable {K nb n : Nat} {tg : Nat → yT} {I : Nat → Nat → Int32} {R : Nat → Nat → Value} {c s : Nat} {Q : yQ}
end YHW
section YHH
variable {K nb n : Nat} {tg : Nat → yT} {I : Nat → Nat → Int32} {R : Nat → Nat → Value} {c s : Nat} {Q : yQ}
theorem h_hold9 (hS0 : ySh n tg R) (hR0 : yRI K n tg I R) (hk6 : K < 600) {x1 x2 x3 : Int32} (hE : ¬ ((0 ≤ x1.toInt ∧ x1.toInt ≤ 4) ∧ (0 ≤ x2.toInt ∧ x2.toInt ≤ 4)) → ∀ (v : Int32) n1 tg1 I1 R1 c1 s1, ySh n1 tg1 R1 → yRI (K + 1) n1 tg1 I1 R1 → yKp n tg I R n1 tg1 I1 R1 → I1 83 0 = Int32.ofInt 1 → (I1 88 2).toInt = (I 88 2).toInt ∧ (I1 89 2).toInt = (I 89 2).toInt ∧ (I1 90 2).toInt = (I 90 2).toInt ∧ (I1 91 2).toInt = (I 91 2).toInt ∧ (I1 92 2).toInt = (I 92 2).toInt → yLk I R R1 → yRf n I R I1 R1 → c1 ≤ c + 0 → s1 ≤ s + 0 → Q (.inl (some (.int v))) (n1, tg1, I1, R1) c1 s1) (hQ : (0 ≤ x1.toInt ∧ x1.toInt ≤ 4) → (0 ≤ x2.toInt ∧ x2.toInt ≤ 4) → ∀ (v : Int32) n1 tg1 I1 R1 c1 s1, ySh n1 tg1 R1 → yRI (K + 1) n1 tg1 I1 R1 → n ≤ n1 → (∀ a, a < n → tg1 a = tg a) → (∀ a, a < 83 → I1 a = I a) → R1 93 = R 93 → I1 83 0 = Int32.ofInt 0 → (∀ (q : Int) (j : Nat), yHv I1 R1 q j (I1 87 2).toInt.toNat = if x2.toInt = q ∧ x1.toInt = (j : Int) then (if x3.toInt = 0 then 0 else 1) else yHv I R q j (I 87 2).toInt.toNat) → v.toInt = ySum (fun j => yHv I1 R1 x2.toInt j (I1 87 2).toInt.toNat) 5 → (I1 88 2).toInt = (I 88 2).toInt ∧ (I1 89 2).toInt = (I 89 2).toInt ∧ (I1 90 2).toInt = (I 90 2).toInt ∧ (I1 91 2).toInt = (I 91 2).toInt ∧ (I1 92 2).toInt = (I 92 2).toInt → yLk I R R1 → yHf n I I1 → (∀ (q d : Int) (j : Nat), d < (I 83 1).toInt → yHw I1 R1 q d j (I1 87 2).toInt.toNat = yHw I R q d j (I 87 2).toInt.toNat) → c1 ≤ c + 4 → s1 ≤ s + 1313 → Q (.inl (some (.int v))) (n1, tg1, I1, R1) c1 s1) : yC 194 [.ref 83, .int x1, .int x2, .int x3] (n, tg, I, R) c s Q := by
  have hno := Nat.le_refl n
  have hn := hno
  have hRo := hR0
  have hK : yKp n tg I R n tg I R := yKp.rf
  have hX : yX n tg I R n tg I R := yX.rf
  have hS := hS0
  have hR := hR0
  have h94 : 94 ≤ n := hS0.1
  have hz : ySz I I := hX.sz h94
  have hxn := hX.1
  have hN := hR0.1
  have hnb : 94 ≤ n := hR0.2.2.2.2.2.2
  have hRF_ : yRf n I R I R := ⟨fun _ _ _ => rfl, fun _ _ => rfl, fun _ _ => rfl⟩
  refine y_in (M := xm_X14_hold) (ls := [some _, some _, some _, some _]) rfl rfl rfl ?_
  refine y_aload_n rfl rfl ?_
  refine y_iload_n rfl rfl ?_
  refine y_iconst rfl ?_
  refine y_iconst rfl ?_
  refine y_static rfl rfl rfl rfl rfl ?_
  refine r_isIn (fun h_1 h_2 => ?_) (fun h_3 => ?_)
  · rw [yz_0] at h_1
    rw [yz_4] at h_2
    refine y_ret1 ?_
    refine y_if_eqF rfl (by decide) ?_
    refine y_iload_n rfl rfl ?_
    refine y_iconst rfl ?_
    refine y_iconst rfl ?_
    refine y_static rfl rfl rfl rfl rfl ?_
    refine r_isIn (fun h_4 h_5 => ?_) (fun h_6 => ?_)
    · rw [yz_0] at h_4
      rw [yz_4] at h_5
      refine y_ret1 ?_
      refine y_if_neT rfl j_X14_hold_23 (by decide) ?_
      refine y_iconst rfl ?_
      refine y_iconst rfl ?_
      refine y_virt rfl rfl rfl rfl rfl (ySh.t hS rfl) (ySh.n hS rfl) ?_
      refine y_in (M := xm_X14_start) (ls := [some _, some _, some _]) rfl rfl rfl ?_
      refine y_aload_n rfl rfl ?_
      refine y_iconst rfl ?_
      refine y_putI rfl (ySh.t hS rfl) (ySh.n hS rfl) rfl (Nat.le_of_ble_eq_true rfl) rfl rfl ?_
      refine y_nameI (fun I7 e7 => ?_)
      have hR1 := (hR0.grow hX).mod0 e7 (by decide) (by decide)
      have hK := (hK.x hRo hno hX).upI (upI e7) (by decide) (by decide) (fun i hi => by have := (hRo.l87.2.2.2.2 i hi).2.1; omega) (by rw [e7, upd2_ne (.inr (by decide))]; exact Int.le_refl _)
      have hth : I7 83 0 = Int32.ofInt (0) := by rw [e7, upd2_self]
      have hzz : ySz8 I I7 := ySz8_of (upI e7) (by rw [e7]; exact ⟨upd2_ne (.inr (by decide)), upd2_ne (.inr (by decide))⟩)
      have hRF_ : yRf n I R I7 R := ⟨fun a ha hq => (upI e7 a hq).trans ((hX.2.1 a (by omega)).2.1.trans (hRF_.1 a ha hq)), fun k hk => (congrFun (congrFun e7 83) k).trans ((upd2_ne (.inr hk)).trans ((congrFun (hX.2.1 83 (by omega)).2.1 k).trans (hRF_.2.1 k hk))), fun a ha => (hX.2.1 a (by omega)).2.2.trans (hRF_.2.2 a ha)⟩
      have hS0 := hS
      have hR0 := hR1
      have hn := Nat.le_refl n
      have h94 := hS0.1
      have hX := @yX.rf n tg I7 R
      have hS := hS0.x hX
      have hR := hR0.x hn hX
      have hz := hX.sz h94
      have hxn := hX.1
      have hN := hR0.1
      have hnb := hR0.2.2.2.2.2.2
      have hthB := hth
      refine y_aload_n rfl rfl ?_
      refine y_iload_n rfl rfl ?_
      refine y_iload_n rfl rfl ?_
      refine y_virt rfl rfl rfl rfl rfl (ySh.t hS rfl) (ySh.n hS rfl) ?_
      refine y_in (M := xm_X14_refuse) (ls := [some _, some _, some _]) rfl rfl rfl ?_
      refine y_iload_n rfl rfl ?_
      refine y_if_eqT rfl j_X14_refuse_16 (by decide) ?_
      refine y_aload_n rfl rfl ?_
      refine y_getIv (v := Int32.ofInt (0)) rfl (ySh.t hS rfl) (ySh.n hS rfl) rfl rfl hth ?_
      refine y_if_leT rfl j_X14_refuse_27 (by decide) ?_
      refine y_iconst rfl ?_
      refine y_ireturn rfl rfl rfl ?_
      refine y_ret1 ?_
      refine y_ireturn rfl rfl rfl ?_
      refine y_ret1 ?_
      refine y_if_eqT rfl j_X14_hold_33 (by decide) ?_
      refine y_aload_n rfl rfl ?_
      refine y_getR rfl (ySh.t hS rfl) (ySh.n hS rfl) rfl rfl (ySh.r hS rfl) ?_
      refine y_iconst rfl ?_
      refine y_newarrL (m := 4) rfl rfl (by decide) (by decide) rfl (fun n8 tg8 I8 R8 hA => ?_)
      have hnA := hA.1
      have ht_f9 : tg8 n = (0, 4) := hA.2.1
      have ha_f9 : n < n8 := by omega
      have hX := hX.trans (hA.x rfl)
      have hS := hS0.x hX
      have hR := hR0.x hn hX
      have hz := hX.sz h94
      have hxn := hX.1
      have hth := (congrFun ((hA.x rfl).2.1 83 (by omega)).2.1 0).trans hth
      refine y_dup rfl rfl ?_
      refine y_iconst rfl ?_
      refine y_aload_n rfl rfl ?_
      refine y_getI rfl (ySh.t hS rfl) (ySh.n hS rfl) rfl rfl ?_
      refine y_iastoreC (j := 0) rfl ht_f9 ha_f9 (Nat.le_trans (by decide) (by omega : 94 ≤ _)) (by decide) (by decide) rfl ?_
      refine y_nameI (fun I10 e10 => ?_)
      have hX := hX.upI (by omega) (upI e10)
      have hS := hS0.x hX
      have hR := hR0.x hn hX
      have hz := hX.sz h94
      have hxn := hX.1
      have hth := (congrFun (upI e10 83 (by omega)) 0).trans hth
      refine y_dup rfl rfl ?_
      refine y_iconst rfl ?_
      refine y_iload_n rfl rfl ?_
      refine y_iastoreC (j := 1) rfl ht_f9 ha_f9 (Nat.le_trans (by decide) (by omega : 94 ≤ _)) (by decide) (by decide) rfl ?_
      refine y_nameI (fun I11 e11 => ?_)
      have hX := hX.upI (by omega) (upI e11)
      have hS := hS0.x hX
      have hR := hR0.x hn hX
      have hz := hX.sz h94
      have hxn := hX.1
      have hth := (congrFun (upI e11 83 (by omega)) 0).trans hth
      refine y_dup rfl rfl ?_
      refine y_iconst rfl ?_
      refine y_iload_n rfl rfl ?_
      refine y_iastoreC (j := 2) rfl ht_f9 ha_f9 (Nat.le_trans (by decide) (by omega : 94 ≤ _)) (by decide) (by decide) rfl ?_
      refine y_nameI (fun I12 e12 => ?_)
      have hX := hX.upI (by omega) (upI e12)
      have hS := hS0.x hX
      have hR := hR0.x hn hX
      have hz := hX.sz h94
      have hxn := hX.1
      have hth := (congrFun (upI e12 83 (by omega)) 0).trans hth
      refine y_dup rfl rfl ?_
      refine y_iconst rfl ?_
      refine y_iload_n rfl rfl ?_
      refine y_static rfl rfl rfl rfl rfl ?_
      refine r_oneE (fun v_one hv_one => ?_)
      refine y_ret1 ?_
      refine y_iastoreC (j := 3) rfl ht_f9 ha_f9 (Nat.le_trans (by decide) (by omega : 94 ≤ _)) (by decide) (by decide) rfl ?_
      refine y_nameI (fun I13 e13 => ?_)
      have hX := hX.upI (by omega) (upI e13)
      have hS := hS0.x hX
      have hR := hR0.x hn hX
      have hz := hX.sz h94
      have hxn := hX.1
      have hth := (congrFun (upI e13 83 (by omega)) 0).trans hth
      refine y_virt rfl rfl rfl rfl rfl (ySh.t hS rfl) (ySh.n hS rfl) ?_
      have hnw : yNw n n8 tg8 n := fun a h1 h2 h3 => hX.2.2 a h1 h2
      have hKo := hK.x hRo hno hX
      refine l_add hS (by decide) (by decide) (ySh.t hS rfl) (Nat.le_trans hn hX.1) hR.l87 (by omega) (by omega) ha_f9 (fun n14 tg14 I14 R14 c_14 s_14 hAd hc_14 hs_14 => ?_)
      have hsA := hAd.sz
      have hnA := hAd.n
      have hsz88 := congrArg Int32.toInt (congrFun (hAd.I 88 (by omega) (by decide)) 2)
      have hsz89 := congrArg Int32.toInt (congrFun (hAd.I 89 (by omega) (by decide)) 2)
      have hsz90 := congrArg Int32.toInt (congrFun (hAd.I 90 (by omega) (by decide)) 2)
      have hsz91 := congrArg Int32.toInt (congrFun (hAd.I 91 (by omega) (by decide)) 2)
      have hsz92 := congrArg Int32.toInt (congrFun (hAd.I 92 (by omega) (by decide)) 2)
      have hLk0 := yAdd.lk hR (Nat.le_trans hn hX.1) hAd (by decide) (by decide)
      have hcs : ∀ l', 87 ≤ l' → l' ≤ 92 → (I13 l' 2).toInt = (I l' 2).toInt := fun l' h1 h2 => by rw [(hX.2.1 l' (by omega)).2.1, upI e7 l' (by omega)]
      have hLk : yLk I R R14 := fun l' h1 h2 i hi => (hLk0.1 l' h1 h2 i (by rw [hcs l' h1 h2]; exact hi)).trans (yAd_eq (hX.2.1 l' (by omega)).2.2 (hX.2.1 _ (by have := hRo.lt6 l' h1 h2; omega)).2.2)
      have hNu : yNum (K + 1) I14 := yNum.add (K := K) hR.1 hAd (by omega) (by decide) (by decide) (Nat.le_succ K) (by omega) (fun _ => by omega) (fun h => by omega) (fun h => by omega) (fun h => by omega) (fun h => by omega) (fun h => by omega)
      have htx : tg14 n = (0, 4) := (hAd.tg _ ha_f9).trans ht_f9
      have hIx := hAd.I _ ha_f9 (by omega)
      have hOb : yOb (K + 1) n14 tg14 I14 R14 n := ⟨fun hq => absurd (show (0 : Nat) = 20 from congrArg Prod.fst (htx.symm.trans hq)) (by decide), fun hq => absurd (show (0 : Nat) = 19 from congrArg Prod.fst (htx.symm.trans hq)) (by decide), fun hq => absurd (show (0 : Nat) = 18 from congrArg Prod.fst (htx.symm.trans hq)) (by decide), fun hq => absurd (show (0 : Nat) = 21 from congrArg Prod.fst (htx.symm.trans hq)) (by decide)⟩
      have h83n : (83 : Nat) ≠ n := by omega
      have hw0 : I13 n 0 = I13 83 1 := by simp [e13, e12, e11, e10, upd2, h83n]
      have hw1 : I13 n 1 = x1 := by simp [e13, e12, e11, e10, upd2]
      have hw2 : I13 n 2 = x2 := by simp [e13, e12, e11, e10, upd2]
      have hw3 : (I13 n 3).toInt = if x3.toInt = 0 then 0 else 1 := by rw [show I13 n 3 = v_one by simp [e13, e12, e11, e10, upd2]]; exact hv_one
      have hwd : (87 : Nat) = 87 → (I13 n 0).toInt ≤ (I13 83 1).toInt ∧ (0 ≤ (I13 n 1).toInt ∧ (I13 n 1).toInt < 5) ∧ ((I13 n 3).toInt = 0 ∨ (I13 n 3).toInt = 1) := fun _ => ⟨by rw [hw0]; exact Int.le_refl _, by rw [hw1]; omega, by rw [hw3]; split <;> simp⟩
      have hR1 : yRI (K + 1) n14 tg14 I14 R14 := yRI.add hR (Nat.le_trans hn hX.1) hAd (by decide) (by decide) rfl (by omega) ha_f9 ht_f9 hnw (Nat.le_succ K) hNu hOb (fun h => absurd h (by decide)) hwd
      have hHv : ∀ (q : Int) (j : Nat), yHv I14 R14 q j (I14 87 2).toInt.toNat = if x2.toInt = q ∧ x1.toInt = (j : Int) then (if x3.toInt = 0 then 0 else 1) else yHv I R q j (I 87 2).toInt.toNat := fun q j => by
        rw [yHv_add hR (Nat.le_trans hn hX.1) (by omega) ha_f9 hAd q j, hw1, hw2, hw3, yHv_kp hKo]
      have hNw : ∀ (q d : Int) (j : Nat), d < (I 83 1).toInt → yHw I14 R14 q d j (I14 87 2).toInt.toNat = yHw I R q d j (I 87 2).toInt.toNat := fun q d j hd => by
        rw [yHw_add hR (Nat.le_trans hn hX.1) (by omega) ha_f9 hAd q d j (by rw [hw0]; have h8_ := hKo.2.2.2.2.2.2.2; omega), yHw_kp hKo]
      have hHf : yHf n I I14 := ⟨fun a ha h3 h7 => (hAd.I a (by omega) h7).trans ((hX.2.1 a (by omega)).2.1.trans (hRF_.1 a ha h3)), fun k hk => (congrFun (hAd.I 83 (by omega) (by decide)) k).trans ((congrFun (hX.2.1 83 (by omega)).2.1 k).trans (hRF_.2.1 k hk))⟩
      have h93 : R14 93 = R 93 := (hAd.R 93 (by omega) (by decide) (by have := hR.zl 87 (by decide) (by decide); omega)).trans (hX.2.1 93 (by omega)).2.2
      have h83 : ∀ a, a < 83 → I14 a = I a := fun a ha => (hAd.I a (by omega) (by omega)).trans (hKo.2.2.1 a ha)
      have htg : ∀ a, a < n → tg14 a = tg a := fun a ha => (hAd.tg a (by omega)).trans (hX.2.1 a ha).1
      have hth := (congrFun (hAd.I 83 (by omega) (by decide)) 0).trans hth
      have hS := hS.add hAd (by decide) (by decide) (hR.zl 87 (by decide) (by decide))
      have hS0 := hS
      have hR0 := hR1
      have hn := Nat.le_refl n14
      have h94 := hS0.1
      have hX := @yX.rf n14 tg14 I14 R14
      have hS := hS0.x hX
      have hR := hR0.x hn hX
      have hz := hX.sz h94
      have hxn := hX.1
      have hN := hR0.1
      have hnb := hR0.2.2.2.2.2.2
      refine y_ret1 ?_
      refine y_pop rfl rfl ?_
      refine y_aload_n rfl rfl ?_
      refine y_iload_n rfl rfl ?_
      refine y_aload_n rfl rfl ?_
      refine y_getI rfl (ySh.t hS rfl) (ySh.n hS rfl) rfl rfl ?_
      refine y_virt rfl rfl rfl rfl rfl (ySh.t hS rfl) (ySh.n hS rfl) ?_
      refine r_forItE hS hR (Nat.le_trans hn hX.1) (Int.le_refl _) (fun v n15 tg15 I15 R15 c_15 s_15 hv hX1 hc_15 hs_15 => ?_)
      have hxn1 := hX1.1
      have hzf := hX1.sz h94
      refine y_ret1 ?_
      refine y_ireturn rfl rfl rfl ?_
      exact hQ ⟨by omega, by omega⟩ ⟨by omega, by omega⟩ _ _ _ _ _ _ _ (hS.x hX1) (hR0.grow hX1) (by omega) (fun a ha => (hX1.2.1 a (by omega)).1.trans (htg a ha)) (fun a ha => (hX1.2.1 a (by omega)).2.1.trans (h83 a ha)) ((hX1.2.1 93 (by omega)).2.2.trans h93) ((congrFun (hX1.2.1 83 (by omega)).2.1 0).trans hth) (fun q j => (yHv_x hR0 hn hX1).trans (hHv q j)) (hv.trans (ySum_eq fun j _ => (yHv_x hR0 hn hX1).symm)) ⟨by omega, by omega, by omega, by omega, by omega⟩ (fun l_ h1_ h2_ i_ hi_ => (yAd_eq (hX1.2.1 l_ (by omega)).2.2 (hX1.2.1 _ (hR0.lt6 l_ h1_ h2_)).2.2).trans (hLk l_ h1_ h2_ i_ hi_)) ⟨fun a ha h3 h7 => (hX1.2.1 a (by omega)).2.1.trans (hHf.1 a ha h3 h7), fun k hk => (congrFun (hX1.2.1 83 (by omega)).2.1 k).trans (hHf.2 k hk)⟩ (fun q d j hd => (yHw_x hR0 hn hX1).trans (hNw q d j hd)) (by omega) (by omega)
    · rw [yz_0] at h_6
      rw [yz_4] at h_6
      refine y_ret1 ?_
      refine y_if_neF rfl (by decide) ?_
      refine y_iconst rfl ?_
      refine y_goto rfl j_X14_hold_24 ?_
      refine y_iconst rfl ?_
      refine y_virt rfl rfl rfl rfl rfl (ySh.t hS rfl) (ySh.n hS rfl) ?_
      refine y_in (M := xm_X14_start) (ls := [some _, some _, some _]) rfl rfl rfl ?_
      refine y_aload_n rfl rfl ?_
      refine y_iconst rfl ?_
      refine y_putI rfl (ySh.t hS rfl) (ySh.n hS rfl) rfl (Nat.le_of_ble_eq_true rfl) rfl rfl ?_
      refine y_nameI (fun I16 e16 => ?_)
      have hR1 := (hR0.grow hX).mod0 e16 (by decide) (by decide)
      have hK := (hK.x hRo hno hX).upI (upI e16) (by decide) (by decide) (fun i hi => by have := (hRo.l87.2.2.2.2 i hi).2.1; omega) (by rw [e16, upd2_ne (.inr (by decide))]; exact Int.le_refl _)
      have hth : I16 83 0 = Int32.ofInt (0) := by rw [e16, upd2_self]
      have hzz : ySz8 I I16 := ySz8_of (upI e16) (by rw [e16]; exact ⟨upd2_ne (.inr (by decide)), upd2_ne (.inr (by decide))⟩)
      have hRF_ : yRf n I R I16 R := ⟨fun a ha hq => (upI e16 a hq).trans ((hX.2.1 a (by omega)).2.1.trans (hRF_.1 a ha hq)), fun k hk => (congrFun (congrFun e16 83) k).trans ((upd2_ne (.inr hk)).trans ((congrFun (hX.2.1 83 (by omega)).2.1 k).trans (hRF_.2.1 k hk))), fun a ha => (hX.2.1 a (by omega)).2.2.trans (hRF_.2.2 a ha)⟩
      have hS0 := hS
      have hR0 := hR1
      have hn := Nat.le_refl n
      have h94 := hS0.1
      have hX := @yX.rf n tg I16 R
      have hS := hS0.x hX
      have hR := hR0.x hn hX
      have hz := hX.sz h94
      have hxn := hX.1
      have hN := hR0.1
      have hnb := hR0.2.2.2.2.2.2
      have hthB := hth
      refine y_aload_n rfl rfl ?_
      refine y_iload_n rfl rfl ?_
      refine y_iload_n rfl rfl ?_
      refine y_virt rfl rfl rfl rfl rfl (ySh.t hS rfl) (ySh.n hS rfl) ?_
      refine y_in (M := xm_X14_refuse) (ls := [some _, some _, some _]) rfl rfl rfl ?_
      refine y_iload_n rfl rfl ?_
      refine y_if_eqF rfl (by decide) ?_
      refine y_aload_n rfl rfl ?_
      refine y_getIv (v := Int32.ofInt (0)) rfl (ySh.t hS rfl) (ySh.n hS rfl) rfl rfl hth ?_
      refine y_if_neF rfl (by decide) ?_
      refine y_aload_n rfl rfl ?_
      refine y_iload_n rfl rfl ?_
      refine y_putI rfl (ySh.t hS rfl) (ySh.n hS rfl) rfl (Nat.le_of_ble_eq_true rfl) rfl rfl ?_
      refine y_nameI (fun I17 e17 => ?_)
      have hR1 := (hR0.grow hX).mod0 e17 (by decide) (by decide)
      have hK := (hK.x hRo hno hX).upI (upI e17) (by decide) (by decide) (fun i hi => by have := (hRo.l87.2.2.2.2 i hi).2.1; omega) (by rw [e17, upd2_ne (.inr (by decide))]; exact Int.le_refl _)
      have hth : I17 83 0 = Int32.ofInt (1) := by rw [e17, upd2_self]
      have hzz : ySz8 I16 I17 := ySz8_of (upI e17) (by rw [e17]; exact ⟨upd2_ne (.inr (by decide)), upd2_ne (.inr (by decide))⟩)
      have hRF_ : yRf n I R I17 R := ⟨fun a ha hq => (upI e17 a hq).trans ((hX.2.1 a (by omega)).2.1.trans (hRF_.1 a ha hq)), fun k hk => (congrFun (congrFun e17 83) k).trans ((upd2_ne (.inr hk)).trans ((congrFun (hX.2.1 83 (by omega)).2.1 k).trans (hRF_.2.1 k hk))), fun a ha => (hX.2.1 a (by omega)).2.2.trans (hRF_.2.2 a ha)⟩
      have hS0 := hS
      have hR0 := hR1
      have hn := Nat.le_refl n
      have h94 := hS0.1
      have hX := @yX.rf n tg I17 R
      have hS := hS0.x hX
      have hR := hR0.x hn hX
      have hz := hX.sz h94
      have hxn := hX.1
      have hN := hR0.1
      have hnb := hR0.2.2.2.2.2.2
      have hthB := hth
      refine y_aload_n rfl rfl ?_
      refine y_getIv (v := Int32.ofInt (1)) rfl (ySh.t hS rfl) (ySh.n hS rfl) rfl rfl hth ?_
      refine y_if_leF rfl (by decide) ?_
      refine y_iconst rfl ?_
      refine y_goto rfl j_X14_refuse_28 ?_
      refine y_ireturn rfl rfl rfl ?_
      refine y_ret1 ?_
      refine y_ireturn rfl rfl rfl ?_
      refine y_ret1 ?_
      refine y_if_eqF rfl (by decide) ?_
      refine y_iconst rfl ?_
      refine y_ireturn rfl rfl rfl ?_
      exact hE (by omega) _ _ _ _ _ _ _ hS ((hR0.grow hX).up (Nat.le_succ K) hk6) (hK.x hRo hno hX) hth ⟨by omega, by omega, by omega, by omega, by omega⟩ yLk.rf hRF_ (by omega) (by omega)
  · rw [yz_0] at h_3
    rw [yz_4] at h_3
    refine y_ret1 ?_
    refine y_if_eqT rfl j_X14_hold_19 (by decide) ?_
    refine y_iconst rfl ?_
    refine y_goto rfl j_X14_hold_24 ?_
    refine y_iconst rfl ?_
    refine y_virt rfl rfl rfl rfl rfl (ySh.t hS rfl) (ySh.n hS rfl) ?_
    refine y_in (M := xm_X14_start) (ls := [some _, some _, some _]) rfl rfl rfl ?_
    refine y_aload_n rfl rfl ?_
    refine y_iconst rfl ?_
    refine y_putI rfl (ySh.t hS rfl) (ySh.n hS rfl) rfl (Nat.le_of_ble_eq_true rfl) rfl rfl ?_
    refine y_nameI (fun I18 e18 => ?_)
    have hR1 := (hR0.grow hX).mod0 e18 (by decide) (by decide)
    have hK := (hK.x hRo hno hX).upI (upI e18) (by decide) (by decide) (fun i hi => by have := (hRo.l87.2.2.2.2 i hi).2.1; omega) (by rw [e18, upd2_ne (.inr (by decide))]; exact Int.le_refl _)
    have hth : I18 83 0 = Int32.ofInt (0) := by rw [e18, upd2_self]
    have hzz : ySz8 I I18 := ySz8_of (upI e18) (by rw [e18]; exact ⟨upd2_ne (.inr (by decide)), upd2_ne (.inr (by decide))⟩)
    have hRF_ : yRf n I R I18 R := ⟨fun a ha hq => (upI e18 a hq).trans ((hX.2.1 a (by omega)).2.1.trans (hRF_.1 a ha hq)), fun k hk => (congrFun (congrFun e18 83) k).trans ((upd2_ne (.inr hk)).trans ((congrFun (hX.2.1 83 (by omega)).2.1 k).trans (hRF_.2.1 k hk))), fun a ha => (hX.2.1 a (by omega)).2.2.trans (hRF_.2.2 a ha)⟩
    have hS0 := hS
    have hR0 := hR1
    have hn := Nat.le_refl n
    have h94 := hS0.1
    have hX := @yX.rf n tg I18 R
    have hS := hS0.x hX
    have hR := hR0.x hn hX
    have hz := hX.sz h94
    have hxn := hX.1
    have hN := hR0.1
    have hnb := hR0.2.2.2.2.2.2
    have hthB := hth
    refine y_aload_n rfl rfl ?_
    refine y_iload_n rfl rfl ?_
    refine y_iload_n rfl rfl ?_
    refine y_virt rfl rfl rfl rfl rfl (ySh.t hS rfl) (ySh.n hS rfl) ?_
    refine y_in (M := xm_X14_refuse) (ls := [some _, some _, some _]) rfl rfl rfl ?_
    refine y_iload_n rfl rfl ?_
    refine y_if_eqF rfl (by decide) ?_
    refine y_aload_n rfl rfl ?_
    refine y_getIv (v := Int32.ofInt (0)) rfl (ySh.t hS rfl) (ySh.n hS rfl) rfl rfl hth ?_
    refine y_if_neF rfl (by decide) ?_
    refine y_aload_n rfl rfl ?_
    refine y_iload_n rfl rfl ?_
    refine y_putI rfl (ySh.t hS rfl) (ySh.n hS rfl) rfl (Nat.le_of_ble_eq_true rfl) rfl rfl ?_
    refine y_nameI (fun I19 e19 => ?_)
    have hR1 := (hR0.grow hX).mod0 e19 (by decide) (by decide)
    have hK := (hK.x hRo hno hX).upI (upI e19) (by decide) (by decide) (fun i hi => by have := (hRo.l87.2.2.2.2 i hi).2.1; omega) (by rw [e19, upd2_ne (.inr (by decide))]; exact Int.le_refl _)
    have hth : I19 83 0 = Int32.ofInt (1) := by rw [e19, upd2_self]
    have hzz : ySz8 I18 I19 := ySz8_of (upI e19) (by rw [e19]; exact ⟨upd2_ne (.inr (by decide)), upd2_ne (.inr (by decide))⟩)
    have hRF_ : yRf n I R I19 R := ⟨fun a ha hq => (upI e19 a hq).trans ((hX.2.1 a (by omega)).2.1.trans (hRF_.1 a ha hq)), fun k hk => (congrFun (congrFun e19 83) k).trans ((upd2_ne (.inr hk)).trans ((congrFun (hX.2.1 83 (by omega)).2.1 k).trans (hRF_.2.1 k hk))), fun a ha => (hX.2.1 a (by omega)).2.2.trans (hRF_.2.2 a ha)⟩
    have hS0 := hS
    have hR0 := hR1
    have hn := Nat.le_refl n
    have h94 := hS0.1
    have hX := @yX.rf n tg I19 R
    have hS := hS0.x hX
    have hR := hR0.x hn hX
    have hz := hX.sz h94
    have hxn := hX.1
    have hN := hR0.1
    have hnb := hR0.2.2.2.2.2.2
    have hthB := hth
    refine y_aload_n rfl rfl ?_
    refine y_getIv (v := Int32.ofInt (1)) rfl (ySh.t hS rfl) (ySh.n hS rfl) rfl rfl hth ?_
    refine y_if_leF rfl (by decide) ?_
    refine y_iconst rfl ?_
    refine y_goto rfl j_X14_refuse_28 ?_
    refine y_ireturn rfl rfl rfl ?_
    refine y_ret1 ?_
    refine y_ireturn rfl rfl rfl ?_
    refine y_ret1 ?_
    refine y_if_eqF rfl (by decide) ?_
    refine y_iconst rfl ?_
    refine y_ireturn rfl rfl rfl ?_
    exact hE (by omega) _ _ _ _ _ _ _ hS ((hR0.grow hX).up (Nat.le_succ K) hk6) (hK.x hRo hno hX) hth ⟨by omega, by omega, by omega, by omega, by omega⟩ yLk.rf hRF_ (by omega) (by omega)
end YHH
/-! THE RELATION, THE LAST: the board's past, parts paid (rel9o.lean) -/
/-- parts paid are at most the parts -/
def yPdd (I : Nat → Nat → Int32) : Prop := ∀ j : Nat, (j : Int) < (I 48 0).toInt → (I 55 j).toInt ≤ (I 54 j).toInt
/-- what was allowed at the days that are over -/
def yP9 (I : Nat → Nat → Int32) (R : Nat → Nat → Value) : Prop := ∀ d : Nat, (d : Int) < (I 34 8).toInt → ∀ q : Nat, q < 5 → (((I 37 d >>> (Int32.ofInt (q : Int) &&& 31)) &&& Int32.ofInt 1).toInt = 1 ↔ 3 ≤ ySum (fun j => yHw I R (q : Int) (d : Int) j (I 87 2).toInt.toNat) 5)
def yR9 (K : Nat) (I : Nat → Nat → Int32) (R : Nat → Nat → Value) : Prop := yR8 K I R ∧ yP9 I R ∧ yPdd I
section YR9F
variable {K K1 n n1 : Nat} {tg tg1 : Nat → yT} {I I1 I' : Nat → Nat → Int32} {R R1 R' : Nat → Nat → Value}
theorem yRf.row (hr : yRf n I R I' R') (hR : yRI K n tg I R) {l j : Nat} (h1 : 87 ≤ l) (h2 : l ≤ 92) (hj : (j : Int) < (I l 2).toInt) : yAd R' l j = yAd R l j ∧ I' (yAd R l j) = I (yAd R l j) := by
  refine ⟨yLk.oldR hR hr.2.2 l h1 h2 j hj, hr.1 _ ?_ ?_⟩
  · rcases (by omega : l = 87 ∨ l = 88 ∨ l = 89 ∨ l = 90 ∨ l = 91 ∨ l = 92) with rfl | rfl | rfl | rfl | rfl | rfl
    · exact (hR.l87.2.2.2.2 j hj).2.2.1
    · exact (hR.l88.2.2.2.2 j hj).2.2.1
    · exact (hR.l89.2.2.2.2 j hj).2.2.1
    · exact (hR.l90.2.2.2.2 j hj).2.2.1
    · exact (hR.l91.2.2.2.2 j hj).2.2.1
    · exact (hR.l92.2.2.2.2 j hj).2.2.1
  · have := hR.lo h1 h2 hj rfl
    omega
theorem yRf.lo (hr : yRf n I R I' R') (h94 : 94 ≤ n) {a : Nat} (h1 : 84 ≤ a) (h2 : a ≤ 92) : I' a = I a := hr.1 a (by omega) (by omega)
theorem yHw_rf {q d : Int} {j : Nat} (hr : yRf n I R I' R') (hR : yRI K n tg I R) : yHw I' R' q d j (I' 87 2).toInt.toNat = yHw I R q d j (I 87 2).toInt.toNat := by
  rw [hr.lo hR.2.2.2.2.2.2 (a := 87) (by decide) (by decide)]
  exact yHw_eq fun i hi => hr.row hR (by decide) (by decide) (by omega)
theorem yR9.out {k : Nat} {v : Value} (h : yR9 K I R) (h3 : yRI K1 n tg I R) : yR9 K I (upd2 R 93 k v) := by
  refine ⟨h.1.out h3, fun d hd q hq => ?_, h.2.2⟩
  rw [ySum_eq (fun j _ => yHw_eq (I := I) (R := R) (I' := I) (R' := upd2 R 93 k v) (q := (q : Int)) (d := (d : Int)) (j := j) (k := (I 87 2).toInt.toNat) (fun i hi => ⟨yLk.out h3 87 (by decide) (by decide) i (by omega), rfl⟩))]
  exact h.2.1 d hd q hq
theorem yR9.rf {K2 : Nat} (h : yR9 K I R) (h7 : yR7 I1 R1) (h3 : yRI K2 n tg I R) (hr : yRf n I R I1 R1) (hK : K ≤ K1) : yR9 K1 I1 R1 := by
  have h94 := h3.2.2.2.2.2.2
  have lo : ∀ a, a < 83 → I1 a = I a := fun a ha => hr.1 a (by omega) (by omega)
  refine ⟨h.1.rf h7 h3 hr hK, fun d hd q hq => ?_, fun j hj => ?_⟩
  · rw [lo 34 (by decide)] at hd
    rw [lo 37 (by decide), ySum_eq (fun j _ => yHw_rf (q := (q : Int)) (d := (d : Int)) (j := j) hr h3)]
    exact h.2.1 d hd q hq
  · rw [lo 48 (by decide)] at hj
    rw [lo 54 (by decide), lo 55 (by decide)]; exact h.2.2 j hj
end YR9F
