/-! WHAT IS TOLD IS THE SAME (rel9t.lean) -/
section YTD9
variable {K K1 n : Nat} {tg : Nat → yT} {I I1 : Nat → Nat → Int32} {R R1 : Nat → Nat → Value}
theorem yRf.fr (hr : yRf n I R I1 R1) (hR : yRI K1 n tg I R) : mFr I I1 R R1 := by
  refine ⟨by rw [hr.lo hR.2.2.2.2.2.2 (a := 92) (by decide) (by decide)], fun k hk => ?_⟩
  obtain ⟨e1, e2⟩ := hr.row hR (l := 92) (by decide) (by decide) hk
  rw [e1, e2]
theorem mBv_cg (hr : yRf n I R I1 R1) (hR : yRI K1 n tg I R) {x1 x2 : Int32} (h0 : 0 ≤ (I 92 2).toInt) : mBv I1 R1 x1 x2 = mBv I R x1 x2 := by
  have hf := hr.fr hR
  have e92 := hr.lo hR.2.2.2.2.2.2 (a := 92) (by decide) (by decide)
  unfold mBv
  rw [e92, hf.cl (by omega), hf.be, hf.sum]
theorem yHv_rf {q : Int} {j : Nat} (hr : yRf n I R I1 R1) (hR : yRI K1 n tg I R) : yHv I1 R1 q j (I1 87 2).toInt.toNat = yHv I R q j (I 87 2).toInt.toNat := by
  rw [hr.lo hR.2.2.2.2.2.2 (a := 87) (by decide) (by decide)]
  exact yHv_eq fun i hi => hr.row hR (by decide) (by decide) (by omega)
/-- what the reference tells, in a world in which thrown alone has changed, is what the class tells -/
theorem yTd_of (h : yR8 K I R) (hP : yPdd I) (hR : yRI K1 n tg I R) (hC : yCI I) (hr : yRf n I R I1 R1) : yTd I I1 R1 := by
  have h94 := hR.2.2.2.2.2.2
  have h6 : yR6 I R := h.1.1
  have h5 : yR5 I R := h.1.1.1
  have hf7 : yF7 I R := h.1.2
  obtain ⟨r1, r2, r3, r4, r5, r6, r7, r8⟩ := h5.1.1
  have hlo : ∀ {a : Nat}, 84 ≤ a → a ≤ 92 → I1 a = I a := fun h1 h2 => hr.lo h94 h1 h2
  have e88 := hlo (a := 88) (by decide) (by decide)
  have e89 := hlo (a := 89) (by decide) (by decide)
  have e90 := hlo (a := 90) (by decide) (by decide)
  have e91 := hlo (a := 91) (by decide) (by decide)
  have e92 := hlo (a := 92) (by decide) (by decide)
  have hc := hC
  refine ⟨⟨by rw [hr.2.1 8 (by decide)]; omega, by rw [e88]; omega, by rw [e89]; omega, by rw [e90]; omega, by rw [e91]; omega, by rw [e92]; omega⟩, fun w => (mHo_cg hr hR).trans (ho_eq h hP hR (by omega)).symm, ⟨(mPd_of h5 hR).rf hR hr, fun x w h0 h1 => (mOPv_cg hr hR).trans (op_eq h hP hR h0 h1 (by omega)).symm⟩, ?_, ?_, ?_, ?_, ?_, ?_, ?_, (mSnd_cg hr hR).trans (snd_eq h hR).symm⟩
  · intro x h0 h1
    refine ⟨?_, fun b hb w _ _ => ?_⟩
    · have hl := h5.1.lf x
      rw [yLv_in ⟨h0, h1⟩] at hl
      refine hl.cg (by rw [e90]) fun i hi => ?_
      obtain ⟨q1, q2⟩ := hr.row hR (l := 90) (by decide) (by decide) hi
      exact ⟨q1, by rw [q2], by rw [q2]⟩
    · obtain ⟨q1, q2⟩ := hr.row hR (l := 88) (j := x.toInt.toNat) (by decide) (by decide) (by omega)
      rw [q1] at hb
      obtain ⟨-, t0, t1, t2, t3, t4, t5⟩ := tie_th0 h5.1 hR (x := x.toInt.toNat) (by omega) hb
      have q3 : I1 b = I b := by rw [hb]; exact q2
      rw [q3]
      unfold yOT
      simp only [t0, t1, t2, t3, t4, t5]
  · intro x h0 h1 b hb
    obtain ⟨q1, q2⟩ := hr.row hR (l := 89) (j := x.toInt.toNat) (by decide) (by decide) (by omega)
    rw [q1] at hb
    have q3 : I1 b = I b := by rw [hb]; exact q2
    rw [q3]
    exact ⟨paym_prem h5 hR b hb ⟨h0, by omega⟩, fun w _ _ => yOS_cg (tie_sa0 h5 hR (x := x.toInt.toNat) (by omega) hb).2⟩
  · intro x h0 h1 b hb w _ _
    obtain ⟨q1, q2⟩ := hr.row hR (l := 90) (j := x.toInt.toNat) (by decide) (by decide) (by omega)
    rw [q1] at hb
    have q3 : I1 b = I b := by rw [hb]; exact q2
    rw [q3]
    obtain ⟨⟨-, t0, t1, t5⟩, t6, t7, t8⟩ := tie_le6 h6 hR (x := x.toInt.toNat) (by omega) hb
    have t8 : I b 4 + Int32.ofInt 30 * (I b 6 + Int32.ofInt 1) = I 66 x.toInt.toNat := (yext t8).symm
    rw [t8]
    unfold yOL
    simp only [yLc]
    simp [t0, t1, t5, t6, t7]
  · intro x h0 h1 b hb f p hf hp
    obtain ⟨q1, -⟩ := hr.row hR (l := 91) (j := x.toInt.toNat) (by decide) (by decide) (by omega)
    rw [q1] at hb
    obtain ⟨-, p0, p1, p2⟩ := hR.l91.2.2.2.2 x.toInt.toNat (by omega)
    have w := (hR.ven p0 p1 p2 (j := f) hf).2.1
    rw [hb, hr.1 (yAd R 91 x.toInt.toNat + 1 + f) w (by omega)]
    exact ((h.2.2.1.1 x.toInt.toNat (by omega)).1 f hf p hp).symm
  · intro x h0 h1 b hb w _ _
    obtain ⟨q1, q2⟩ := hr.row hR (l := 92) (j := x.toInt.toNat) (by decide) (by decide) (by omega)
    rw [q1] at hb
    have q3 : I1 b = I b := by rw [hb]; exact q2
    rw [q3, hr.2.1 7 (by decide), hf7.ofFirm h0 (by omega) (by omega) hb]
    unfold yOF
    simp only [(hr.fr hR).rc (k := x.toInt.toNat) (by omega)]
  · intro q h0 h1
    have ha := h5.1.2.1.al hR (q := q.toInt.toNat) (by omega)
    rw [show ((q.toInt.toNat : Nat) : Int) = q.toInt by omega] at ha
    rw [ySum_eq (fun j _ => yHv_rf (q := q.toInt) (j := j) hr hR), ha]
  · have hn : (I 77 0).toInt = (I 92 2).toInt := by omega
    exact ⟨(mBv_cg hr hR (by omega)).trans (hf7.bv hn (by omega) (by omega)).symm, (mBv_cg hr hR (by omega)).trans (hf7.bv hn (by omega) (by omega)).symm⟩
end YTD9
section YDH9
variable {K n : Nat} {tg : Nat → yT} {C I : Nat → Nat → Int32} {R : Nat → Nat → Value} {c s : Nat} {Q : yQ}
theorem h_digest9 (hS0 : ySh n tg R) (hR0 : yRI K n tg I R) (hk6 : K < 600) (hE : ∀ I1 R1, yRf n I R I1 R1 → yTd C I1 R1) (hC : yCI C) (hQ1 : ySnd C → ∀ (v : Int64) n1 tg1 I1 R1 c1 s1, ySh n1 tg1 R1 → yRI (K + 1) n1 tg1 I1 R1 → yKp n tg I R n1 tg1 I1 R1 → v = dAdd (yDgt C) (Int32.ofInt 1).toInt64 → yRf n I R I1 R1 → c1 ≤ c + 651 → s1 ≤ s + 4015 → Q (.inl (some (.long v))) (n1, tg1, I1, R1) c1 s1) (hQ0 : ¬ ySnd C → ∀ (v : Int64) n1 tg1 I1 R1 c1 s1, ySh n1 tg1 R1 → yRI (K + 1) n1 tg1 I1 R1 → yKp n tg I R n1 tg1 I1 R1 → v = dAdd (yDgt C) (Int32.ofInt 0).toInt64 → yRf n I R I1 R1 → c1 ≤ c + 651 → s1 ≤ s + 4015 → Q (.inl (some (.long v))) (n1, tg1, I1, R1) c1 s1) : yC 250 [.ref 83] (n, tg, I, R) c s Q := by
  have hno := Nat.le_refl n
  have hn := hno
  have hRo := hR0
  have hK : yKp n tg I R n tg I R := yKp.rf
  have hX : yX n tg I R n tg I R := yX.rf
  have hS := hS0
  have hR := hR0
  have h94 : 94 ≤ n := hS0.1
  have hz : ySz I I := hX.sz h94
  have hxn := hX.1
  have hN := hR0.1
  have hnb : 94 ≤ n := hR0.2.2.2.2.2.2
  refine y_in (M := xm_X14_digest) (ls := [some _, _, _, _, _, _]) rfl rfl rfl ?_
  refine y_aload_n rfl rfl ?_
  refine y_iconst rfl ?_
  refine y_putI rfl (ySh.t hS rfl) (ySh.n hS rfl) rfl (Nat.le_of_ble_eq_true rfl) rfl rfl ?_
  refine y_nameI (fun I1 e1 => ?_)
  have hR1 := (hR0.grow hX).mod0 e1 (by decide) (by decide)
  have hK := (hK.x hRo hno hX).upI (upI e1) (by decide) (by decide) (fun i hi => by have := (hRo.l87.2.2.2.2 i hi).2.1; omega) (by rw [e1, upd2_ne (.inr (by decide))]; exact Int.le_refl _)
  have hth : I1 83 0 = Int32.ofInt (0) := by rw [e1, upd2_self]
  have hzz : ySz8 I I1 := ySz8_of (upI e1) (by rw [e1]; exact ⟨upd2_ne (.inr (by decide)), upd2_ne (.inr (by decide))⟩)
  have hS0 := hS
  have hR0 := hR1
  have hn := Nat.le_refl n
  have h94 := hS0.1
  have hX := @yX.rf n tg I1 R
  have hS := hS0.x hX
  have hR := hR0.x hn hX
  have hz := hX.sz h94
  have hxn := hX.1
  have hN := hR0.1
  have hnb := hR0.2.2.2.2.2.2
  have hthB := hth
  exact s_digest9 hS0 hR0 hn (fun n1 tg1 I1 R1 hX2 => hE _ _ ⟨fun q_ hq_ h83 => (hX2.2.1 q_ (by omega)).2.1.trans (by rw [e1]; exact (upd2_row h83)), fun k hk => (congrFun (hX2.2.1 83 (by omega)).2.1 k).trans (by rw [e1]; exact (upd2_ne (.inr hk))), fun q_ hq_ => (hX2.2.1 q_ (by omega)).2.2⟩) hC (fun hs_ v n1 tg1 I1 R1 c1 s1 hv hX2 hc hs => hQ1 hs_ _ _ _ _ _ _ _ (hS0.x hX2) ((hR0.grow hX2).up (Nat.le_succ K) hk6) (hK.x hRo hno hX2) hv ⟨fun q_ hq_ h83 => (hX2.2.1 q_ (by omega)).2.1.trans (by rw [e1]; exact (upd2_row h83)), fun k hk => (congrFun (hX2.2.1 83 (by omega)).2.1 k).trans (by rw [e1]; exact (upd2_ne (.inr hk))), fun q_ hq_ => (hX2.2.1 q_ (by omega)).2.2⟩ (by omega) (by omega)) (fun hs_ v n1 tg1 I1 R1 c1 s1 hv hX2 hc hs => hQ0 hs_ _ _ _ _ _ _ _ (hS0.x hX2) ((hR0.grow hX2).up (Nat.le_succ K) hk6) (hK.x hRo hno hX2) hv ⟨fun q_ hq_ h83 => (hX2.2.1 q_ (by omega)).2.1.trans (by rw [e1]; exact (upd2_row h83)), fun k hk => (congrFun (hX2.2.1 83 (by omega)).2.1 k).trans (by rw [e1]; exact (upd2_ne (.inr hk))), fun q_ hq_ => (hX2.2.1 q_ (by omega)).2.2⟩ (by omega) (by omega))
end YDH9
