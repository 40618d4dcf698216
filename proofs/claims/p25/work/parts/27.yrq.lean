/-! THE REFERENCE: loops that change (by gen27.py) -/
theorem ySum_set {f g : Nat → Int} {j0 : Nat} : ∀ {k : Nat}, j0 < k → (∀ j, j ≠ j0 → g j = f j) → ySum g k = ySum f k - f j0 + g j0
  | 0, h, _ => absurd h (Nat.not_lt_zero _)
  | k + 1, h, hg => by
    show ySum g k + g k = ySum f k + f k - f j0 + g j0
    by_cases hj : j0 = k
    · subst hj
      rw [ySum_eq (f := g) (g := f) (fun j hj => hg j (by omega))]
      omega
    · rw [ySum_set (k := k) (by omega) hg, hg k (Ne.symm hj)]
      omega
theorem yKp.trans {n n1 n2 : Nat} {tg tg1 tg2 : Nat → yT} {I I1 I2 : Nat → Nat → Int32} {R R1 R2 : Nat → Nat → Value} (h : yKp n tg I R n1 tg1 I1 R1) (h2 : yKp n1 tg1 I1 R1 n2 tg2 I2 R2) : yKp n tg I R n2 tg2 I2 R2 := by
  obtain ⟨a1, a2, a3, a4, a5, a6, a7, a8⟩ := h
  obtain ⟨b1, b2, b3, b4, b5, b6, b7, b8⟩ := h2
  have hE : yEl R1 87 = yEl R 87 := yEl_eq a4
  refine ⟨by omega, fun a ha => (b2 a (by omega)).trans (a2 a ha), fun a ha => (b3 a ha).trans (a3 a ha), b4.trans a4, ?_, b6.trans a6, fun i hi => ?_, by omega⟩
  · rw [← hE, b5, hE]; exact a5
  · have := b7 i (by rw [a6]; exact hi)
    rw [show yAd R1 87 i = yAd R 87 i from yAd_eq a4 a5] at this
    exact this.trans (a7 i hi)
theorem yRI.cap {K nb : Nat} {tg : Nat → yT} {I : Nat → Nat → Int32} {R : Nat → Nat → Value} (h : yRI K nb tg I R) {b : Nat} (h1 : 94 ≤ b) (h2 : b < nb) (h3 : tg b = (21, 0)) : (∀ j, j < 9 → 0 ≤ (I (b + 2) j).toInt) ∧ ySum (fun j => (I (b + 2) j).toInt) 9 ≤ 999 * (K : Int) := ((h.2.2.2.1 b h1 h2).2.2.2 h3).2.2.2.2.2.2
theorem yRI.capJ {K nb : Nat} {tg : Nat → yT} {I I' : Nat → Nat → Int32} {R : Nat → Nat → Value} (h : yRI K nb tg I R) {b k : Nat} {x : Int32} (h1 : 94 ≤ b) (h2 : b < nb) (h3 : tg b = (21, 0)) (hk : k < 9) (hx : 0 ≤ x.toInt ∧ x.toInt ≤ 999) (e : I' = upd2 I (b + 1 + 1) k x) (hk6 : K + 1 ≤ 600) : yRI (K + 1) nb tg I' R := by
  obtain ⟨q1, q2⟩ := h.cap h1 h2 h3
  have e : I' = upd2 I (b + 2) k x := e
  have hs := ySum_set (f := fun j => (I (b + 2) j).toInt) (g := fun j => (I' (b + 2) j).toInt) (j0 := k) (k := 9) hk (fun j hj => by rw [e, upd2_ne (.inr hj)])
  have hk0 := q1 k hk
  have hk1 : (I' (b + 2) k).toInt = x.toInt := by rw [e, upd2_self]
  refine (h.up (Nat.le_succ K) hk6).upC h1 h2 h3 (upI e) (fun j hj => ?_) (by rw [hs]; show _ - (I (b + 2) k).toInt + (I' (b + 2) k).toInt ≤ _; omega)
  by_cases hjk : j = k
  · rw [hjk]; omega
  · rw [e, upd2_ne (.inr hjk)]; exact q1 j hj
theorem yRI.capB1 {K nb : Nat} {tg : Nat → yT} {I I' : Nat → Nat → Int32} {R : Nat → Nat → Value} (h : yRI K nb tg I R) {b k : Nat} {x : Int32} (h1 : 94 ≤ b) (h2 : b < nb) (h3 : tg b = (21, 0)) (hk : k < 9) (hx : 0 ≤ x.toInt ∧ x.toInt ≤ (I (b + 1 + 1) k).toInt) (e : I' = upd2 I (b + 1 + 1) k (I (b + 1 + 1) k - x)) : yRI K nb tg I' R ∧ ySum (fun j => (I' (b + 2) j).toInt) 9 + x.toInt ≤ 999 * (K : Int) ∧ ∀ j, j < 9 → 0 ≤ (I' (b + 2) j).toInt := by
  obtain ⟨q1, q2⟩ := h.cap h1 h2 h3
  have e : I' = upd2 I (b + 2) k (I (b + 2) k - x) := e
  have hx : 0 ≤ x.toInt ∧ x.toInt ≤ (I (b + 2) k).toInt := hx
  have hb := (I (b + 2) k).toInt_lt
  have hs := ySum_set (f := fun j => (I (b + 2) j).toInt) (g := fun j => (I' (b + 2) j).toInt) (j0 := k) (k := 9) hk (fun j hj => by rw [e, upd2_ne (.inr hj)])
  have hk1 : (I' (b + 2) k).toInt = (I (b + 2) k).toInt - x.toInt := by rw [e, upd2_self, ysub (by omega) (by omega)]
  have hn : ∀ j, j < 9 → 0 ≤ (I' (b + 2) j).toInt := fun j hj => by
    by_cases hjk : j = k
    · rw [hjk]; omega
    · rw [e, upd2_ne (.inr hjk)]; exact q1 j hj
  have hs2 : ySum (fun j => (I' (b + 2) j).toInt) 9 = ySum (fun j => (I (b + 2) j).toInt) 9 - (I (b + 2) k).toInt + (I' (b + 2) k).toInt := hs
  exact ⟨h.upC h1 h2 h3 (upI e) hn (by omega), by omega, hn⟩
theorem ySum_le {f : Nat → Int} : ∀ {k : Nat}, (∀ j, j < k → 0 ≤ f j) → ∀ j, j < k → f j ≤ ySum f k
  | 0, _, j, hj => absurd hj (Nat.not_lt_zero _)
  | k + 1, h, j, hj => by
    have h0 : ∀ m, (∀ j, j < m → 0 ≤ f j) → 0 ≤ ySum f m := by
      intro m
      induction m with
      | zero => intro _; exact Int.le_refl 0
      | succ m ih => intro hm; show 0 ≤ ySum f m + f m; have := ih (fun j hj => hm j (by omega)); have := hm m (by omega); omega
    show f j ≤ ySum f k + f k
    by_cases hjk : j = k
    · rw [hjk]; have := h0 k (fun j hj => h j (by omega)); omega
    · have := ySum_le (k := k) (fun j hj => h j (by omega)) j (by omega); have := h k (by omega); omega
theorem yRI.capB2 {K nb : Nat} {tg : Nat → yT} {I I' : Nat → Nat → Int32} {R : Nat → Nat → Value} (h : yRI K nb tg I R) {b k : Nat} {x : Int32} (h1 : 94 ≤ b) (h2 : b < nb) (h3 : tg b = (21, 0)) (hk : k < 9) (hx : 0 ≤ x.toInt) (hsum : ySum (fun j => (I (b + 2) j).toInt) 9 + x.toInt ≤ 999 * (K : Int)) (e : I' = upd2 I (b + 1 + 1) k (I (b + 1 + 1) k + x)) : yRI K nb tg I' R := by
  obtain ⟨q1, q2⟩ := h.cap h1 h2 h3
  have e : I' = upd2 I (b + 2) k (I (b + 2) k + x) := e
  have hK := h.1.2.2.2.2.2.2.2.2
  have hle := ySum_le q1 k hk
  have hle : (I (b + 2) k).toInt ≤ ySum (fun j => (I (b + 2) j).toInt) 9 := hle
  have hk0 := q1 k hk
  have hs := ySum_set (f := fun j => (I (b + 2) j).toInt) (g := fun j => (I' (b + 2) j).toInt) (j0 := k) (k := 9) hk (fun j hj => by rw [e, upd2_ne (.inr hj)])
  have hk1 : (I' (b + 2) k).toInt = (I (b + 2) k).toInt + x.toInt := by rw [e, upd2_self, yadd (by omega) (by omega)]
  have hs2 : ySum (fun j => (I' (b + 2) j).toInt) 9 = ySum (fun j => (I (b + 2) j).toInt) 9 - (I (b + 2) k).toInt + (I' (b + 2) k).toInt := hs
  refine h.upC h1 h2 h3 (upI e) (fun j hj => ?_) (by omega)
  by_cases hjk : j = k
  · rw [hjk]; omega
  · rw [e, upd2_ne (.inr hjk)]; exact q1 j hj
theorem yAdd.R {n n1 : Nat} {tg tg1 : Nat → yT} {I I1 : Nat → Nat → Int32} {R R1 : Nat → Nat → Value} {l x : Nat} (h : yAdd n tg I R l x n1 tg1 I1 R1) : ∀ a, a < n → a ≠ l → (a ≠ yEl R l ∨ yEl R l < 94) → R1 a = R a := by obtain ⟨e1, m1, g1, g2, g3, g4, g5, -⟩ := h; exact g5
section YRQ
variable {K nb n : Nat} {tg : Nat → yT} {I : Nat → Nat → Int32} {R : Nat → Nat → Value} {c s : Nat} {Q : yQ}
theorem lm_share (hRo : yRI K n tg I R) (hno : n ≤ n) {x1 x2 x3 : Int32} {md : Nat} (hQ : ∀ (v : Int32) n1 tg1 I1 R1, ySh n1 tg1 R1 → yRI K n1 tg1 I1 R1 → yKp n tg I R n1 tg1 I1 R1 → Q (.inl (some (.int v))) (n1, tg1, I1, R1) c s) : ∀ (m : Nat) (x5 : Int32) (x6 : Int32) (n1 : Nat) (tg1 : Nat → yT) (I1 : Nat → Nat → Int32) (R1 : Nat → Nat → Value), ySh n1 tg1 R1 → yRI K n1 tg1 I1 R1 → yKp n tg I R n1 tg1 I1 R1 → tg1 md = (0, 11) → md < n1 → (0 ≤ x6.toInt) → (x6.toInt ≤ 8) → 8 - x6.toInt < m → yW xm_X14_share xc_X14_share_72 [some (.ref 83), some (.int x1), some (.int x2), some (.int x3), some (.ref md), some (.int x5), some (.int x6)] [] (n1, tg1, I1, R1) c s Q := by
  intro m
  induction m with
  | zero => intro x5 x6 n1 tg1 I1 R1 hS0 hR0 hK ht_pa ha_pa i0 i1 hm; have hN := hR0.1; exfalso; omega
  | succ m ih =>
    intro x5 x6 n1 tg1 I1 R1 hS0 hR0 hK ht_pa ha_pa i0 i1 hm
    have hn := Nat.le_refl n1
    have hX := @yX.rf n1 tg1 I1 R1
    have hS := hS0
    have hR := hR0
    have h94 : 94 ≤ n1 := hS0.1
    have hz : ySz I1 I1 := hX.sz h94
    have hxn := hX.1
    have hN := hR0.1
    have hnb : 94 ≤ n1 := hR0.2.2.2.2.2.2
    refine y_iload rfl rfl ?_
    refine y_bip rfl (by decide) ?_
    refine y_icmp_ge rfl j_X14_share_118 (fun h_1 => ?_) (fun h_2 => ?_)
    · rw [yz_8] at h_1
      refine y_aload_n rfl rfl ?_
      refine y_getR rfl (ySh.t hS rfl) (ySh.n hS rfl) rfl rfl (ySh.r hS rfl) ?_
      refine y_bip rfl (by decide) ?_
      refine y_dup2 rfl rfl rfl ?_
      refine y_ialoadC (j := 8) rfl (ySh.t hS rfl) (ySh.n hS rfl) (by decide) (by decide) rfl ?_
      refine y_aload rfl rfl ?_
      refine y_bip rfl (by decide) ?_
      refine y_ialoadC (j := 8) rfl ht_pa ha_pa (by decide) (by decide) rfl ?_
      refine y_iadd rfl ?_
      refine y_iastoreC (j := 8) rfl (ySh.t hS rfl) (ySh.n hS rfl) (Nat.le_of_ble_eq_true rfl) (by decide) (by decide) rfl ?_
      refine y_nameI (fun I3 e3 => ?_)
      have hR1 := (hR0.grow hX).arr e3 (by decide)
      have hK := (hK.x hRo hno hX).upI (upI e3) (by decide) (by decide) (fun i hi => by have := (hRo.l87.2.2.2.2 i hi).2.1; omega) (by rw [e3, upd2_ne (.inl (by omega))]; exact Int.le_refl _)
      have hzz : ySz I1 I3 := ySz_ofE (upI e3) (by omega)
      have hS0 := hS
      have hR0 := hR1
      have hn := Nat.le_refl n1
      have h94 := hS0.1
      have hX := @yX.rf n1 tg1 I3 R1
      have hS := hS0.x hX
      have hR := hR0.x hn hX
      have hz := hX.sz h94
      have hxn := hX.1
      have hN := hR0.1
      have hnb := hR0.2.2.2.2.2.2
      refine y_aload_n rfl rfl ?_
      refine y_dup rfl rfl ?_
      refine y_getI rfl (ySh.t hS rfl) (ySh.n hS rfl) rfl rfl ?_
      refine y_aload rfl rfl ?_
      refine y_bip rfl (by decide) ?_
      refine y_ialoadC (j := 9) rfl ht_pa ha_pa (by decide) (by decide) rfl ?_
      refine y_iadd rfl ?_
      refine y_putI rfl (ySh.t hS rfl) (ySh.n hS rfl) rfl (Nat.le_of_ble_eq_true rfl) rfl rfl ?_
      refine y_nameI (fun I4 e4 => ?_)
      have hR1 := (hR0.grow hX).mod0 e4 (by decide) (by decide)
      have hK := (hK.x hRo hno hX).upI (upI e4) (by decide) (by decide) (fun i hi => by have := (hRo.l87.2.2.2.2 i hi).2.1; omega) (by rw [e4, upd2_ne (.inr (by decide))]; exact Int.le_refl _)
      have hzz : ySz I3 I4 := ySz_ofM (upI e4) (by rw [e4]; exact ⟨upd2_ne (.inr (by decide)), upd2_ne (.inr (by decide)), upd2_ne (.inr (by decide))⟩)
      have hS0 := hS
      have hR0 := hR1
      have hn := Nat.le_refl n1
      have h94 := hS0.1
      have hX := @yX.rf n1 tg1 I4 R1
      have hS := hS0.x hX
      have hR := hR0.x hn hX
      have hz := hX.sz h94
      have hxn := hX.1
      have hN := hR0.1
      have hnb := hR0.2.2.2.2.2.2
      refine y_aload_n rfl rfl ?_
      refine y_dup rfl rfl ?_
      refine y_getI rfl (ySh.t hS rfl) (ySh.n hS rfl) rfl rfl ?_
      refine y_aload rfl rfl ?_
      refine y_bip rfl (by decide) ?_
      refine y_ialoadC (j := 10) rfl ht_pa ha_pa (by decide) (by decide) rfl ?_
      refine y_iadd rfl ?_
      refine y_putI rfl (ySh.t hS rfl) (ySh.n hS rfl) rfl (Nat.le_of_ble_eq_true rfl) rfl rfl ?_
      refine y_nameI (fun I5 e5 => ?_)
      have hR1 := (hR0.grow hX).mod0 e5 (by decide) (by decide)
      have hK := (hK.x hRo hno hX).upI (upI e5) (by decide) (by decide) (fun i hi => by have := (hRo.l87.2.2.2.2 i hi).2.1; omega) (by rw [e5, upd2_ne (.inr (by decide))]; exact Int.le_refl _)
      have hzz : ySz I4 I5 := ySz_ofM (upI e5) (by rw [e5]; exact ⟨upd2_ne (.inr (by decide)), upd2_ne (.inr (by decide)), upd2_ne (.inr (by decide))⟩)
      have hS0 := hS
      have hR0 := hR1
      have hn := Nat.le_refl n1
      have h94 := hS0.1
      have hX := @yX.rf n1 tg1 I5 R1
      have hS := hS0.x hX
      have hR := hR0.x hn hX
      have hz := hX.sz h94
      have hxn := hX.1
      have hN := hR0.1
      have hnb := hR0.2.2.2.2.2.2
      refine y_iload rfl rfl ?_
      refine y_ireturn rfl rfl rfl ?_
      exact hQ _ _ _ _ _ hS (hR0.grow hX) (hK.x hRo hno hX)
    · rw [yz_8] at h_2
      refine y_aload_n rfl rfl ?_
      refine y_getR rfl (ySh.t hS rfl) (ySh.n hS rfl) rfl rfl (ySh.r hS rfl) ?_
      refine y_iload rfl rfl ?_
      refine y_dup2 rfl rfl rfl ?_
      refine y_iaload rfl (ySh.t hS rfl) (ySh.n hS rfl) (by omega) (by omega) ?_
      refine y_aload rfl rfl ?_
      refine y_iload rfl rfl ?_
      refine y_iaload rfl ht_pa ha_pa (by omega) (by omega) ?_
      refine y_iadd rfl ?_
      refine y_iastore rfl (ySh.t hS rfl) (ySh.n hS rfl) (Nat.le_of_ble_eq_true rfl) (by omega) (by omega) ?_
      refine y_nameI (fun I6 e6 => ?_)
      have hR1 := (hR0.grow hX).arr e6 (by decide)
      have hK := (hK.x hRo hno hX).upI (upI e6) (by decide) (by decide) (fun i hi => by have := (hRo.l87.2.2.2.2 i hi).2.1; omega) (by rw [e6, upd2_ne (.inl (by omega))]; exact Int.le_refl _)
      have hzz : ySz I1 I6 := ySz_ofE (upI e6) (by omega)
      have hS0 := hS
      have hR0 := hR1
      have hn := Nat.le_refl n1
      have h94 := hS0.1
      have hX := @yX.rf n1 tg1 I6 R1
      have hS := hS0.x hX
      have hR := hR0.x hn hX
      have hz := hX.sz h94
      have hxn := hX.1
      have hN := hR0.1
      have hnb := hR0.2.2.2.2.2.2
      refine y_iload rfl rfl ?_
      refine y_aload rfl rfl ?_
      refine y_iload rfl rfl ?_
      refine y_iaload rfl ht_pa ha_pa (by omega) (by omega) ?_
      refine y_iadd rfl ?_
      refine y_istore (ls' := [some _, some _, some _, some _, some _, some _, some _]) rfl rfl rfl ?_
      refine y_aload_n rfl rfl ?_
      refine y_getR rfl (ySh.t hS rfl) (ySh.n hS rfl) rfl rfl (ySh.r hS rfl) ?_
      refine y_iload rfl rfl ?_
      refine y_iconst rfl ?_
      refine y_iastore rfl (ySh.t hS rfl) (ySh.n hS rfl) (Nat.le_of_ble_eq_true rfl) (by omega) (by omega) ?_
      refine y_nameI (fun I7 e7 => ?_)
      have hR1 := (hR0.grow hX).arr e7 (by decide)
      have hK := (hK.x hRo hno hX).upI (upI e7) (by decide) (by decide) (fun i hi => by have := (hRo.l87.2.2.2.2 i hi).2.1; omega) (by rw [e7, upd2_ne (.inl (by omega))]; exact Int.le_refl _)
      have hzz : ySz I6 I7 := ySz_ofE (upI e7) (by omega)
      have hS0 := hS
      have hR0 := hR1
      have hn := Nat.le_refl n1
      have h94 := hS0.1
      have hX := @yX.rf n1 tg1 I7 R1
      have hS := hS0.x hX
      have hR := hR0.x hn hX
      have hz := hX.sz h94
      have hxn := hX.1
      have hN := hR0.1
      have hnb := hR0.2.2.2.2.2.2
      refine y_iinc (ls' := [some _, some _, some _, some _, some _, some _, some _]) rfl rfl rfl rfl ?_
      refine y_goto rfl j_X14_share_72 ?_
      exact ih _ _ _ _ _ _ hS (hR0.grow hX) (hK.x hRo hno hX) ht_pa ha_pa  (by first | omega | (rw [yinc (by omega)]; omega)) (by first | omega | (rw [yinc (by omega)]; omega)) (by first | omega | (rw [yinc (by omega)]; omega))
theorem n_share (hS0 : ySh n tg R) (hR0 : yRI K n tg I R) (hk6 : K < 600) {x1 x2 x3 : Int32} (hQ : ∀ (v : Int32) n1 tg1 I1 R1 c1 s1, ySh n1 tg1 R1 → yRI (K + 1) n1 tg1 I1 R1 → yKp n tg I R n1 tg1 I1 R1 → c1 ≤ c + 3 → s1 ≤ s + 20 → Q (.inl (some (.int v))) (n1, tg1, I1, R1) c1 s1) : yC 218 [.ref 83, .int x1, .int x2, .int x3] (n, tg, I, R) c s Q := by
  have hno := Nat.le_refl n
  have hn := hno
  have hRo := hR0
  have hK : yKp n tg I R n tg I R := yKp.rf
  have hX : yX n tg I R n tg I R := yX.rf
  have hS := hS0
  have hR := hR0
  have h94 : 94 ≤ n := hS0.1
  have hz : ySz I I := hX.sz h94
  have hxn := hX.1
  have hN := hR0.1
  have hnb : 94 ≤ n := hR0.2.2.2.2.2.2
  refine y_in (M := xm_X14_share) (ls := [some _, some _, some _, some _, _, _, _]) rfl rfl rfl ?_
  refine y_aload_n rfl rfl ?_
  refine y_iload_n rfl rfl ?_
  refine y_iconst rfl ?_
  refine y_sip rfl (by decide) ?_
  refine y_static rfl rfl rfl rfl rfl ?_
  refine r_isIn (fun h_1 h_2 => ?_) (fun h_3 => ?_)
  · rw [yz_0] at h_1
    rw [yz_9999] at h_2
    refine y_ret1 ?_
    refine y_if_eqF rfl (by decide) ?_
    refine y_iload_n rfl rfl ?_
    refine y_iconst rfl ?_
    refine y_sip rfl (by decide) ?_
    refine y_static rfl rfl rfl rfl rfl ?_
    refine r_isIn (fun h_4 h_5 => ?_) (fun h_6 => ?_)
    · rw [yz_0] at h_4
      rw [yz_999] at h_5
      refine y_ret1 ?_
      refine y_if_eqF rfl (by decide) ?_
      refine y_iload_n rfl rfl ?_
      refine y_iconst rfl ?_
      refine y_bip rfl (by decide) ?_
      refine y_static rfl rfl rfl rfl rfl ?_
      refine r_isIn (fun h_7 h_8 => ?_) (fun h_9 => ?_)
      · rw [yz_0] at h_7
        rw [yz_50] at h_8
        refine y_ret1 ?_
        refine y_if_neT rfl j_X14_share_37 (by decide) ?_
        refine y_iconst rfl ?_
        refine y_iconst rfl ?_
        refine y_virt rfl rfl rfl rfl rfl (ySh.t hS rfl) (ySh.n hS rfl) ?_
        refine y_in (M := xm_X14_start) (ls := [some _, some _, some _]) rfl rfl rfl ?_
        refine y_aload_n rfl rfl ?_
        refine y_iconst rfl ?_
        refine y_putI rfl (ySh.t hS rfl) (ySh.n hS rfl) rfl (Nat.le_of_ble_eq_true rfl) rfl rfl ?_
        refine y_nameI (fun I10 e10 => ?_)
        have hR1 := (hR0.grow hX).mod0 e10 (by decide) (by decide)
        have hK := (hK.x hRo hno hX).upI (upI e10) (by decide) (by decide) (fun i hi => by have := (hRo.l87.2.2.2.2 i hi).2.1; omega) (by rw [e10, upd2_ne (.inr (by decide))]; exact Int.le_refl _)
        have hth : I10 83 0 = Int32.ofInt (0) := by rw [e10, upd2_self]
        have hzz : ySz8 I I10 := ySz8_of (upI e10) (by rw [e10]; exact ⟨upd2_ne (.inr (by decide)), upd2_ne (.inr (by decide))⟩)
        have hS0 := hS
        have hR0 := hR1
        have hn := Nat.le_refl n
        have h94 := hS0.1
        have hX := @yX.rf n tg I10 R
        have hS := hS0.x hX
        have hR := hR0.x hn hX
        have hz := hX.sz h94
        have hxn := hX.1
        have hN := hR0.1
        have hnb := hR0.2.2.2.2.2.2
        have hthB := hth
        refine y_aload_n rfl rfl ?_
        refine y_iload_n rfl rfl ?_
        refine y_iload_n rfl rfl ?_
        refine y_virt rfl rfl rfl rfl rfl (ySh.t hS rfl) (ySh.n hS rfl) ?_
        refine y_in (M := xm_X14_refuse) (ls := [some _, some _, some _]) rfl rfl rfl ?_
        refine y_iload_n rfl rfl ?_
        refine y_if_eqT rfl j_X14_refuse_16 (by decide) ?_
        refine y_aload_n rfl rfl ?_
        refine y_getIv (v := Int32.ofInt (0)) rfl (ySh.t hS rfl) (ySh.n hS rfl) rfl rfl hth ?_
        refine y_if_leT rfl j_X14_refuse_27 (by decide) ?_
        refine y_iconst rfl ?_
        refine y_ireturn rfl rfl rfl ?_
        refine y_ret1 ?_
        refine y_ireturn rfl rfl rfl ?_
        refine y_ret1 ?_
        refine y_if_eqT rfl j_X14_share_47 (by decide) ?_
        refine y_aload_n rfl rfl ?_
        refine y_iload_n rfl rfl ?_
        refine y_putI rfl (ySh.t hS rfl) (ySh.n hS rfl) rfl (Nat.le_of_ble_eq_true rfl) rfl rfl ?_
        refine y_nameI (fun I11 e11 => ?_)
        have hR1 := (hR0.grow hX).mod0 e11 (by decide) (by decide)
        have hK := (hK.x hRo hno hX).upI (upI e11) (by decide) (by decide) (fun i hi => by have := (hRo.l87.2.2.2.2 i hi).2.1; omega) (by rw [e11, upd2_ne (.inr (by decide))]; exact Int.le_refl _)
        have hth := (show I11 83 0 = I10 83 0 by rw [e11, upd2_ne (.inr (by decide))]).trans hth
        have hzz : ySz I10 I11 := ySz_ofM (upI e11) (by rw [e11]; exact ⟨upd2_ne (.inr (by decide)), upd2_ne (.inr (by decide)), upd2_ne (.inr (by decide))⟩)
        have hS0 := hS
        have hR0 := hR1
        have hn := Nat.le_refl n
        have h94 := hS0.1
        have hX := @yX.rf n tg I11 R
        have hS := hS0.x hX
        have hR := hR0.x hn hX
        have hz := hX.sz h94
        have hxn := hX.1
        have hN := hR0.1
        have hnb := hR0.2.2.2.2.2.2
        have hthB := hth
        refine y_aload_n rfl rfl ?_
        refine y_iload_n rfl rfl ?_
        refine y_putI rfl (ySh.t hS rfl) (ySh.n hS rfl) rfl (Nat.le_of_ble_eq_true rfl) rfl rfl ?_
        refine y_nameI (fun I12 e12 => ?_)
        have hR1 := (hR0.grow hX).mod0 e12 (by decide) (by decide)
        have hK := (hK.x hRo hno hX).upI (upI e12) (by decide) (by decide) (fun i hi => by have := (hRo.l87.2.2.2.2 i hi).2.1; omega) (by rw [e12, upd2_ne (.inr (by decide))]; exact Int.le_refl _)
        have hth := (show I12 83 0 = I11 83 0 by rw [e12, upd2_ne (.inr (by decide))]).trans hth
        have hzz : ySz I11 I12 := ySz_ofM (upI e12) (by rw [e12]; exact ⟨upd2_ne (.inr (by decide)), upd2_ne (.inr (by decide)), upd2_ne (.inr (by decide))⟩)
        have hS0 := hS
        have hR0 := hR1
        have hn := Nat.le_refl n
        have h94 := hS0.1
        have hX := @yX.rf n tg I12 R
        have hS := hS0.x hX
        have hR := hR0.x hn hX
        have hz := hX.sz h94
        have hxn := hX.1
        have hN := hR0.1
        have hnb := hR0.2.2.2.2.2.2
        have hthB := hth
        refine y_aload_n rfl rfl ?_
        refine y_iload_n rfl rfl ?_
        refine y_iload_n rfl rfl ?_
        refine y_iload_n rfl rfl ?_
        refine y_virt rfl rfl rfl rfl rfl (ySh.t hS rfl) (ySh.n hS rfl) ?_
        refine r_shared hS hR (Nat.le_trans hn hX.1) (fun bs_13 n13 tg13 I13 R13 c_13 s_13 hX1 hfb ha_f13 ht_f13 hc_13 hs_13 => ?_)
        have hnA := hX1.1
        have hX := hX.trans hX1
        have hS := hS0.x hX
        have hR := hR0.x hn hX
        have hz := hX.sz h94
        have hxn := hX.1
        have hth := (congrFun (hX1.2.1 83 (by omega)).2.1 0).trans hth
        refine y_ret1 ?_
        refine y_astore (ls' := [some _, some _, some _, some _, some _, _, _]) rfl rfl rfl ?_
        refine y_iconst rfl ?_
        refine y_istore (ls' := [some _, some _, some _, some _, some _, some _, _]) rfl rfl rfl ?_
        refine y_iconst rfl ?_
        refine y_istore (ls' := [some _, some _, some _, some _, some _, some _, some _]) rfl rfl rfl ?_
        exact lm_share hRo hno (fun v n1 tg1 I1 R1 h1 h2 h3 => hQ _ _ _ _ _ _ _ h1 (h2.up (Nat.le_succ K) hk6) h3 (by omega) (by omega)) 100 _ _ _ _ _ _ hS (hR0.grow hX) (hK.x hRo hno hX) ht_f13 ha_f13 (by decide) (by decide) (by decide)
      · rw [yz_0] at h_9
        rw [yz_50] at h_9
        refine y_ret1 ?_
        refine y_if_neF rfl (by decide) ?_
        refine y_iconst rfl ?_
        refine y_goto rfl j_X14_share_38 ?_
        refine y_iconst rfl ?_
        refine y_virt rfl rfl rfl rfl rfl (ySh.t hS rfl) (ySh.n hS rfl) ?_
        refine y_in (M := xm_X14_start) (ls := [some _, some _, some _]) rfl rfl rfl ?_
        refine y_aload_n rfl rfl ?_
        refine y_iconst rfl ?_
        refine y_putI rfl (ySh.t hS rfl) (ySh.n hS rfl) rfl (Nat.le_of_ble_eq_true rfl) rfl rfl ?_
        refine y_nameI (fun I14 e14 => ?_)
        have hR1 := (hR0.grow hX).mod0 e14 (by decide) (by decide)
        have hK := (hK.x hRo hno hX).upI (upI e14) (by decide) (by decide) (fun i hi => by have := (hRo.l87.2.2.2.2 i hi).2.1; omega) (by rw [e14, upd2_ne (.inr (by decide))]; exact Int.le_refl _)
        have hth : I14 83 0 = Int32.ofInt (0) := by rw [e14, upd2_self]
        have hzz : ySz8 I I14 := ySz8_of (upI e14) (by rw [e14]; exact ⟨upd2_ne (.inr (by decide)), upd2_ne (.inr (by decide))⟩)
        have hS0 := hS
        have hR0 := hR1
        have hn := Nat.le_refl n
        have h94 := hS0.1
        have hX := @yX.rf n tg I14 R
        have hS := hS0.x hX
        have hR := hR0.x hn hX
        have hz := hX.sz h94
        have hxn := hX.1
        have hN := hR0.1
        have hnb := hR0.2.2.2.2.2.2
        have hthB := hth
        refine y_aload_n rfl rfl ?_
        refine y_iload_n rfl rfl ?_
        refine y_iload_n rfl rfl ?_
        refine y_virt rfl rfl rfl rfl rfl (ySh.t hS rfl) (ySh.n hS rfl) ?_
        refine y_in (M := xm_X14_refuse) (ls := [some _, some _, some _]) rfl rfl rfl ?_
        refine y_iload_n rfl rfl ?_
        refine y_if_eqF rfl (by decide) ?_
        refine y_aload_n rfl rfl ?_
        refine y_getIv (v := Int32.ofInt (0)) rfl (ySh.t hS rfl) (ySh.n hS rfl) rfl rfl hth ?_
        refine y_if_neF rfl (by decide) ?_
        refine y_aload_n rfl rfl ?_
        refine y_iload_n rfl rfl ?_
        refine y_putI rfl (ySh.t hS rfl) (ySh.n hS rfl) rfl (Nat.le_of_ble_eq_true rfl) rfl rfl ?_
        refine y_nameI (fun I15 e15 => ?_)
        have hR1 := (hR0.grow hX).mod0 e15 (by decide) (by decide)
        have hK := (hK.x hRo hno hX).upI (upI e15) (by decide) (by decide) (fun i hi => by have := (hRo.l87.2.2.2.2 i hi).2.1; omega) (by rw [e15, upd2_ne (.inr (by decide))]; exact Int.le_refl _)
        have hth : I15 83 0 = Int32.ofInt (1) := by rw [e15, upd2_self]
        have hzz : ySz8 I14 I15 := ySz8_of (upI e15) (by rw [e15]; exact ⟨upd2_ne (.inr (by decide)), upd2_ne (.inr (by decide))⟩)
        have hS0 := hS
        have hR0 := hR1
        have hn := Nat.le_refl n
        have h94 := hS0.1
        have hX := @yX.rf n tg I15 R
        have hS := hS0.x hX
        have hR := hR0.x hn hX
        have hz := hX.sz h94
        have hxn := hX.1
        have hN := hR0.1
        have hnb := hR0.2.2.2.2.2.2
        have hthB := hth
        refine y_aload_n rfl rfl ?_
        refine y_getIv (v := Int32.ofInt (1)) rfl (ySh.t hS rfl) (ySh.n hS rfl) rfl rfl hth ?_
        refine y_if_leF rfl (by decide) ?_
        refine y_iconst rfl ?_
        refine y_goto rfl j_X14_refuse_28 ?_
        refine y_ireturn rfl rfl rfl ?_
        refine y_ret1 ?_
        refine y_ireturn rfl rfl rfl ?_
        refine y_ret1 ?_
        refine y_if_eqF rfl (by decide) ?_
        refine y_iconst rfl ?_
        refine y_ireturn rfl rfl rfl ?_
        exact hQ _ _ _ _ _ _ _ hS ((hR0.grow hX).up (Nat.le_succ K) hk6) (hK.x hRo hno hX) (by omega) (by omega)
    · rw [yz_0] at h_6
      rw [yz_999] at h_6
      refine y_ret1 ?_
      refine y_if_eqT rfl j_X14_share_33 (by decide) ?_
      refine y_iconst rfl ?_
      refine y_goto rfl j_X14_share_38 ?_
      refine y_iconst rfl ?_
      refine y_virt rfl rfl rfl rfl rfl (ySh.t hS rfl) (ySh.n hS rfl) ?_
      refine y_in (M := xm_X14_start) (ls := [some _, some _, some _]) rfl rfl rfl ?_
      refine y_aload_n rfl rfl ?_
      refine y_iconst rfl ?_
      refine y_putI rfl (ySh.t hS rfl) (ySh.n hS rfl) rfl (Nat.le_of_ble_eq_true rfl) rfl rfl ?_
      refine y_nameI (fun I16 e16 => ?_)
      have hR1 := (hR0.grow hX).mod0 e16 (by decide) (by decide)
      have hK := (hK.x hRo hno hX).upI (upI e16) (by decide) (by decide) (fun i hi => by have := (hRo.l87.2.2.2.2 i hi).2.1; omega) (by rw [e16, upd2_ne (.inr (by decide))]; exact Int.le_refl _)
      have hth : I16 83 0 = Int32.ofInt (0) := by rw [e16, upd2_self]
      have hzz : ySz8 I I16 := ySz8_of (upI e16) (by rw [e16]; exact ⟨upd2_ne (.inr (by decide)), upd2_ne (.inr (by decide))⟩)
      have hS0 := hS
      have hR0 := hR1
      have hn := Nat.le_refl n
      have h94 := hS0.1
      have hX := @yX.rf n tg I16 R
      have hS := hS0.x hX
      have hR := hR0.x hn hX
      have hz := hX.sz h94
      have hxn := hX.1
      have hN := hR0.1
      have hnb := hR0.2.2.2.2.2.2
      have hthB := hth
      refine y_aload_n rfl rfl ?_
      refine y_iload_n rfl rfl ?_
      refine y_iload_n rfl rfl ?_
      refine y_virt rfl rfl rfl rfl rfl (ySh.t hS rfl) (ySh.n hS rfl) ?_
      refine y_in (M := xm_X14_refuse) (ls := [some _, some _, some _]) rfl rfl rfl ?_
      refine y_iload_n rfl rfl ?_
      refine y_if_eqF rfl (by decide) ?_
      refine y_aload_n rfl rfl ?_
      refine y_getIv (v := Int32.ofInt (0)) rfl (ySh.t hS rfl) (ySh.n hS rfl) rfl rfl hth ?_
      refine y_if_neF rfl (by decide) ?_
      refine y_aload_n rfl rfl ?_
      refine y_iload_n rfl rfl ?_
      refine y_putI rfl (ySh.t hS rfl) (ySh.n hS rfl) rfl (Nat.le_of_ble_eq_true rfl) rfl rfl ?_
      refine y_nameI (fun I17 e17 => ?_)
      have hR1 := (hR0.grow hX).mod0 e17 (by decide) (by decide)
      have hK := (hK.x hRo hno hX).upI (upI e17) (by decide) (by decide) (fun i hi => by have := (hRo.l87.2.2.2.2 i hi).2.1; omega) (by rw [e17, upd2_ne (.inr (by decide))]; exact Int.le_refl _)
      have hth : I17 83 0 = Int32.ofInt (1) := by rw [e17, upd2_self]
      have hzz : ySz8 I16 I17 := ySz8_of (upI e17) (by rw [e17]; exact ⟨upd2_ne (.inr (by decide)), upd2_ne (.inr (by decide))⟩)
      have hS0 := hS
      have hR0 := hR1
      have hn := Nat.le_refl n
      have h94 := hS0.1
      have hX := @yX.rf n tg I17 R
      have hS := hS0.x hX
      have hR := hR0.x hn hX
      have hz := hX.sz h94
      have hxn := hX.1
      have hN := hR0.1
      have hnb := hR0.2.2.2.2.2.2
      have hthB := hth
      refine y_aload_n rfl rfl ?_
      refine y_getIv (v := Int32.ofInt (1)) rfl (ySh.t hS rfl) (ySh.n hS rfl) rfl rfl hth ?_
      refine y_if_leF rfl (by decide) ?_
      refine y_iconst rfl ?_
      refine y_goto rfl j_X14_refuse_28 ?_
      refine y_ireturn rfl rfl rfl ?_
      refine y_ret1 ?_
      refine y_ireturn rfl rfl rfl ?_
      refine y_ret1 ?_
      refine y_if_eqF rfl (by decide) ?_
      refine y_iconst rfl ?_
      refine y_ireturn rfl rfl rfl ?_
      exact hQ _ _ _ _ _ _ _ hS ((hR0.grow hX).up (Nat.le_succ K) hk6) (hK.x hRo hno hX) (by omega) (by omega)
  · rw [yz_0] at h_3
    rw [yz_9999] at h_3
    refine y_ret1 ?_
    refine y_if_eqT rfl j_X14_share_33 (by decide) ?_
    refine y_iconst rfl ?_
    refine y_goto rfl j_X14_share_38 ?_
    refine y_iconst rfl ?_
    refine y_virt rfl rfl rfl rfl rfl (ySh.t hS rfl) (ySh.n hS rfl) ?_
    refine y_in (M := xm_X14_start) (ls := [some _, some _, some _]) rfl rfl rfl ?_
    refine y_aload_n rfl rfl ?_
    refine y_iconst rfl ?_
    refine y_putI rfl (ySh.t hS rfl) (ySh.n hS rfl) rfl (Nat.le_of_ble_eq_true rfl) rfl rfl ?_
    refine y_nameI (fun I18 e18 => ?_)
    have hR1 := (hR0.grow hX).mod0 e18 (by decide) (by decide)
    have hK := (hK.x hRo hno hX).upI (upI e18) (by decide) (by decide) (fun i hi => by have := (hRo.l87.2.2.2.2 i hi).2.1; omega) (by rw [e18, upd2_ne (.inr (by decide))]; exact Int.le_refl _)
    have hth : I18 83 0 = Int32.ofInt (0) := by rw [e18, upd2_self]
    have hzz : ySz8 I I18 := ySz8_of (upI e18) (by rw [e18]; exact ⟨upd2_ne (.inr (by decide)), upd2_ne (.inr (by decide))⟩)
    have hS0 := hS
    have hR0 := hR1
    have hn := Nat.le_refl n
    have h94 := hS0.1
    have hX := @yX.rf n tg I18 R
    have hS := hS0.x hX
    have hR := hR0.x hn hX
    have hz := hX.sz h94
    have hxn := hX.1
    have hN := hR0.1
    have hnb := hR0.2.2.2.2.2.2
    have hthB := hth
    refine y_aload_n rfl rfl ?_
    refine y_iload_n rfl rfl ?_
    refine y_iload_n rfl rfl ?_
    refine y_virt rfl rfl rfl rfl rfl (ySh.t hS rfl) (ySh.n hS rfl) ?_
    refine y_in (M := xm_X14_refuse) (ls := [some _, some _, some _]) rfl rfl rfl ?_
    refine y_iload_n rfl rfl ?_
    refine y_if_eqF rfl (by decide) ?_
    refine y_aload_n rfl rfl ?_
    refine y_getIv (v := Int32.ofInt (0)) rfl (ySh.t hS rfl) (ySh.n hS rfl) rfl rfl hth ?_
    refine y_if_neF rfl (by decide) ?_
    refine y_aload_n rfl rfl ?_
    refine y_iload_n rfl rfl ?_
    refine y_putI rfl (ySh.t hS rfl) (ySh.n hS rfl) rfl (Nat.le_of_ble_eq_true rfl) rfl rfl ?_
    refine y_nameI (fun I19 e19 => ?_)
    have hR1 := (hR0.grow hX).mod0 e19 (by decide) (by decide)
    have hK := (hK.x hRo hno hX).upI (upI e19) (by decide) (by decide) (fun i hi => by have := (hRo.l87.2.2.2.2 i hi).2.1; omega) (by rw [e19, upd2_ne (.inr (by decide))]; exact Int.le_refl _)
    have hth : I19 83 0 = Int32.ofInt (1) := by rw [e19, upd2_self]
    have hzz : ySz8 I18 I19 := ySz8_of (upI e19) (by rw [e19]; exact ⟨upd2_ne (.inr (by decide)), upd2_ne (.inr (by decide))⟩)
    have hS0 := hS
    have hR0 := hR1
    have hn := Nat.le_refl n
    have h94 := hS0.1
    have hX := @yX.rf n tg I19 R
    have hS := hS0.x hX
    have hR := hR0.x hn hX
    have hz := hX.sz h94
    have hxn := hX.1
    have hN := hR0.1
    have hnb := hR0.2.2.2.2.2.2
    have hthB := hth
    refine y_aload_n rfl rfl ?_
    refine y_getIv (v := Int32.ofInt (1)) rfl (ySh.t hS rfl) (ySh.n hS rfl) rfl rfl hth ?_
    refine y_if_leF rfl (by decide) ?_
    refine y_iconst rfl ?_
    refine y_goto rfl j_X14_refuse_28 ?_
    refine y_ireturn rfl rfl rfl ?_
    refine y_ret1 ?_
    refine y_ireturn rfl rfl rfl ?_
    refine y_ret1 ?_
    refine y_if_eqF rfl (by decide) ?_
    refine y_iconst rfl ?_
    refine y_ireturn rfl rfl rfl ?_
    exact hQ _ _ _ _ _ _ _ hS ((hR0.grow hX).up (Nat.le_succ K) hk6) (hK.x hRo hno hX) (by omega) (by omega)
theorem lm_profit (hRo : yRI K n tg I R) (hno : n ≤ n) {x2 : Int32} {bv : Nat} (hlo_bv : 94 ≤ bv) (hQ : ∀ n1 tg1 I1 R1, ySh n1 tg1 R1 → yRI K n1 tg1 I1 R1 → yKp n tg I R n1 tg1 I1 R1 → Q (.inl none) (n1, tg1, I1, R1) c s) : ∀ (m : Nat) (x3 : Int32) (x4 : Int32) (n1 : Nat) (tg1 : Nat → yT) (I1 : Nat → Nat → Int32) (R1 : Nat → Nat → Value), ySh n1 tg1 R1 → yRI K n1 tg1 I1 R1 → yKp n tg I R n1 tg1 I1 R1 → tg1 bv = (21, 0) → bv < n1 → (0 ≤ x4.toInt) → (x4.toInt ≤ 9) → 9 - x4.toInt < m → yW xm_X14_profit xc_X14_profit_5 [some (.ref 83), some (.ref bv), some (.int x2), some (.int x3), some (.int x4), none] [] (n1, tg1, I1, R1) c s Q := by
  intro m
  induction m with
  | zero => intro x3 x4 n1 tg1 I1 R1 hS0 hR0 hK ht_bv hb_bv i0 i1 hm; have hN := hR0.1; exfalso; omega
  | succ m ih =>
    intro x3 x4 n1 tg1 I1 R1 hS0 hR0 hK ht_bv hb_bv i0 i1 hm
    have hn := Nat.le_refl n1
    have hX := @yX.rf n1 tg1 I1 R1
    have hS := hS0
    have hR := hR0
    have h94 : 94 ≤ n1 := hS0.1
    have hz : ySz I1 I1 := hX.sz h94
    have hxn := hX.1
    have hN := hR0.1
    have hnb : 94 ≤ n1 := hR0.2.2.2.2.2.2
    have hb0_bv := hb_bv
    refine y_iload rfl rfl ?_
    refine y_bip rfl (by decide) ?_
    refine y_icmp_gt rfl j_X14_profit_72 (fun h_1 => ?_) (fun h_2 => ?_)
    · rw [yz_8] at h_1
      refine y_return rfl ?_
      exact hQ _ _ _ _ hS (hR0.grow hX) (hK.x hRo hno hX)
    · rw [yz_8] at h_2
      refine y_iload rfl rfl ?_
      refine y_bip rfl (by decide) ?_
      refine y_icmp_ne rfl j_X14_profit_23 (fun h_3 => ?_) (fun h_4 => ?_)
      · rw [yz_8] at h_3
        refine y_iload_n rfl rfl ?_
        refine y_aload_n rfl rfl ?_
        obtain ⟨hR_v5, hb_v5, ht_v5⟩ := hR0.ven hlo_bv hb0_bv ht_bv (j := 2) (by decide)
        have hb0_v5 := hb_v5
        have hb_v5 := Nat.lt_of_lt_of_le hb_v5 hn
        have hlo_v5 : 94 ≤ bv + 1 + 2 := by omega
        have hR2_v5 := (congrFun (hX.2.1 bv hb_bv).2.2 2).trans hR_v5
        refine y_getR rfl ((hX.2.1 _ hb_bv).1.trans ht_bv) (Nat.lt_of_lt_of_le hb_bv hX.1) rfl rfl hR2_v5 ?_
        refine y_iload rfl rfl ?_
        refine y_iaload rfl ((hX.2.1 _ hb_v5).1.trans ht_v5) (Nat.lt_of_lt_of_le hb_v5 hX.1) (by omega) (by omega) ?_
        refine y_imul rfl ?_
        refine y_bip rfl (by decide) ?_
        refine y_idiv rfl (by decide) ?_
        refine y_istore (ls' := [some _, some _, some _, some _, some _, some _]) rfl rfl rfl ?_
        refine y_iload_n rfl rfl ?_
        refine y_iload rfl rfl ?_
        refine y_isub rfl ?_
        refine y_istore_n (ls' := [some _, some _, some _, some _, some _, some _]) rfl rfl rfl ?_
        refine y_aload_n rfl rfl ?_
        obtain ⟨hR_v6, hb_v6, ht_v6⟩ := hR0.ven hlo_bv hb0_bv ht_bv (j := 3) (by decide)
        have hb0_v6 := hb_v6
        have hb_v6 := Nat.lt_of_lt_of_le hb_v6 hn
        have hlo_v6 : 94 ≤ bv + 1 + 3 := by omega
        have hR2_v6 := (congrFun (hX.2.1 bv hb_bv).2.2 3).trans hR_v6
        refine y_getR rfl ((hX.2.1 _ hb_bv).1.trans ht_bv) (Nat.lt_of_lt_of_le hb_bv hX.1) rfl rfl hR2_v6 ?_
        refine y_iload rfl rfl ?_
        refine y_dup2 rfl rfl rfl ?_
        refine y_iaload rfl ((hX.2.1 _ hb_v6).1.trans ht_v6) (Nat.lt_of_lt_of_le hb_v6 hX.1) (by omega) (by omega) ?_
        refine y_iload rfl rfl ?_
        refine y_iadd rfl ?_
        refine y_iastore rfl ((hX.2.1 _ hb_v6).1.trans ht_v6) (Nat.lt_of_lt_of_le hb_v6 hX.1) (Nat.le_trans (by decide) (by omega : 94 ≤ _)) (by omega) (by omega) ?_
        refine y_nameI (fun I7 e7 => ?_)
        have hR1 := (hR0.grow hX).upV hlo_bv (by omega) ((hX.2.1 _ hb_bv).1.trans ht_bv) (j := 3) (by decide) e7
        have hK := (hK.x hRo hno hX).upE hRo hno (upI e7) (by omega) (by omega) (by rw [((hX.2.1 _ hb_v6).1.trans ht_v6)]; decide) (by rw [e7, upd2_ne (.inl (by omega))]; exact Int.le_refl _)
        have hzz : ySz I1 I7 := ySz_ofE (upI e7) (by omega)
        have hS0 := hS
        have hR0 := hR1
        have ht_bv := (hX.2.1 _ hb_bv).1.trans ht_bv
        have hb_bv := Nat.lt_of_lt_of_le hb_bv hX.1
        have hb0_bv := hb_bv
        have ht_v5 := (hX.2.1 _ hb_v5).1.trans ht_v5
        have hb_v5 := Nat.lt_of_lt_of_le hb_v5 hX.1
        have hb0_v5 := hb_v5
        have ht_v6 := (hX.2.1 _ hb_v6).1.trans ht_v6
        have hb_v6 := Nat.lt_of_lt_of_le hb_v6 hX.1
        have hb0_v6 := hb_v6
        have hn := Nat.le_refl n1
        have h94 := hS0.1
        have hX := @yX.rf n1 tg1 I7 R1
        have hS := hS0.x hX
        have hR := hR0.x hn hX
        have hz := hX.sz h94
        have hxn := hX.1
        have hN := hR0.1
        have hnb := hR0.2.2.2.2.2.2
        refine y_aload_n rfl rfl ?_
        refine y_getR rfl (ySh.t hS rfl) (ySh.n hS rfl) rfl rfl (ySh.r hS rfl) ?_
        refine y_iload rfl rfl ?_
        refine y_dup2 rfl rfl rfl ?_
        refine y_iaload rfl (ySh.t hS rfl) (ySh.n hS rfl) (by omega) (by omega) ?_
        refine y_iload rfl rfl ?_
        refine y_iadd rfl ?_
        refine y_iastore rfl (ySh.t hS rfl) (ySh.n hS rfl) (Nat.le_of_ble_eq_true rfl) (by omega) (by omega) ?_
        refine y_nameI (fun I8 e8 => ?_)
        have hR1 := (hR0.grow hX).arr e8 (by decide)
        have hK := (hK.x hRo hno hX).upI (upI e8) (by decide) (by decide) (fun i hi => by have := (hRo.l87.2.2.2.2 i hi).2.1; omega) (by rw [e8, upd2_ne (.inl (by omega))]; exact Int.le_refl _)
        have hzz : ySz I7 I8 := ySz_ofE (upI e8) (by omega)
        have hS0 := hS
        have hR0 := hR1
        have ht_bv := (hX.2.1 _ hb_bv).1.trans ht_bv
        have hb_bv := Nat.lt_of_lt_of_le hb_bv hX.1
        have hb0_bv := hb_bv
        have ht_v5 := (hX.2.1 _ hb_v5).1.trans ht_v5
        have hb_v5 := Nat.lt_of_lt_of_le hb_v5 hX.1
        have hb0_v5 := hb_v5
        have ht_v6 := (hX.2.1 _ hb_v6).1.trans ht_v6
        have hb_v6 := Nat.lt_of_lt_of_le hb_v6 hX.1
        have hb0_v6 := hb_v6
        have hn := Nat.le_refl n1
        have h94 := hS0.1
        have hX := @yX.rf n1 tg1 I8 R1
        have hS := hS0.x hX
        have hR := hR0.x hn hX
        have hz := hX.sz h94
        have hxn := hX.1
        have hN := hR0.1
        have hnb := hR0.2.2.2.2.2.2
        refine y_iinc (ls' := [some _, some _, some _, some _, some _, some _]) rfl rfl rfl rfl ?_
        refine y_goto rfl j_X14_profit_5 ?_
        refine y_fgt (ls := [some _, some _, some _, some _, some _, none]) ⟨rfl, rfl, rfl, rfl, rfl, trivial⟩ ?_
        exact ih _ _ _ _ _ _ hS (hR0.grow hX) (hK.x hRo hno hX)  ((hX.2.1 _ hb_bv).1.trans ht_bv) (Nat.lt_of_lt_of_le hb_bv hX.1) (by first | omega | (rw [yinc (by omega)]; omega)) (by first | omega | (rw [yinc (by omega)]; omega)) (by first | omega | (rw [yinc (by omega)]; omega))
      · rw [yz_8] at h_4
        refine y_iload_n rfl rfl ?_
        refine y_goto rfl j_X14_profit_35 ?_
        refine y_istore (ls' := [some _, some _, some _, some _, some _, some _]) rfl rfl rfl ?_
        refine y_iload_n rfl rfl ?_
        refine y_iload rfl rfl ?_
        refine y_isub rfl ?_
        refine y_istore_n (ls' := [some _, some _, some _, some _, some _, some _]) rfl rfl rfl ?_
        refine y_aload_n rfl rfl ?_
        obtain ⟨hR_v9, hb_v9, ht_v9⟩ := hR0.ven hlo_bv hb0_bv ht_bv (j := 3) (by decide)
        have hb0_v9 := hb_v9
        have hb_v9 := Nat.lt_of_lt_of_le hb_v9 hn
        have hlo_v9 : 94 ≤ bv + 1 + 3 := by omega
        have hR2_v9 := (congrFun (hX.2.1 bv hb_bv).2.2 3).trans hR_v9
        refine y_getR rfl ((hX.2.1 _ hb_bv).1.trans ht_bv) (Nat.lt_of_lt_of_le hb_bv hX.1) rfl rfl hR2_v9 ?_
        refine y_iload rfl rfl ?_
        refine y_dup2 rfl rfl rfl ?_
        refine y_iaload rfl ((hX.2.1 _ hb_v9).1.trans ht_v9) (Nat.lt_of_lt_of_le hb_v9 hX.1) (by omega) (by omega) ?_
        refine y_iload rfl rfl ?_
        refine y_iadd rfl ?_
        refine y_iastore rfl ((hX.2.1 _ hb_v9).1.trans ht_v9) (Nat.lt_of_lt_of_le hb_v9 hX.1) (Nat.le_trans (by decide) (by omega : 94 ≤ _)) (by omega) (by omega) ?_
        refine y_nameI (fun I10 e10 => ?_)
        have hR1 := (hR0.grow hX).upV hlo_bv (by omega) ((hX.2.1 _ hb_bv).1.trans ht_bv) (j := 3) (by decide) e10
        have hK := (hK.x hRo hno hX).upE hRo hno (upI e10) (by omega) (by omega) (by rw [((hX.2.1 _ hb_v9).1.trans ht_v9)]; decide) (by rw [e10, upd2_ne (.inl (by omega))]; exact Int.le_refl _)
        have hzz : ySz I1 I10 := ySz_ofE (upI e10) (by omega)
        have hS0 := hS
        have hR0 := hR1
        have ht_bv := (hX.2.1 _ hb_bv).1.trans ht_bv
        have hb_bv := Nat.lt_of_lt_of_le hb_bv hX.1
        have hb0_bv := hb_bv
        have ht_v9 := (hX.2.1 _ hb_v9).1.trans ht_v9
        have hb_v9 := Nat.lt_of_lt_of_le hb_v9 hX.1
        have hb0_v9 := hb_v9
        have hn := Nat.le_refl n1
        have h94 := hS0.1
        have hX := @yX.rf n1 tg1 I10 R1
        have hS := hS0.x hX
        have hR := hR0.x hn hX
        have hz := hX.sz h94
        have hxn := hX.1
        have hN := hR0.1
        have hnb := hR0.2.2.2.2.2.2
        refine y_aload_n rfl rfl ?_
        refine y_getR rfl (ySh.t hS rfl) (ySh.n hS rfl) rfl rfl (ySh.r hS rfl) ?_
        refine y_iload rfl rfl ?_
        refine y_dup2 rfl rfl rfl ?_
        refine y_iaload rfl (ySh.t hS rfl) (ySh.n hS rfl) (by omega) (by omega) ?_
        refine y_iload rfl rfl ?_
        refine y_iadd rfl ?_
        refine y_iastore rfl (ySh.t hS rfl) (ySh.n hS rfl) (Nat.le_of_ble_eq_true rfl) (by omega) (by omega) ?_
        refine y_nameI (fun I11 e11 => ?_)
        have hR1 := (hR0.grow hX).arr e11 (by decide)
        have hK := (hK.x hRo hno hX).upI (upI e11) (by decide) (by decide) (fun i hi => by have := (hRo.l87.2.2.2.2 i hi).2.1; omega) (by rw [e11, upd2_ne (.inl (by omega))]; exact Int.le_refl _)
        have hzz : ySz I10 I11 := ySz_ofE (upI e11) (by omega)
        have hS0 := hS
        have hR0 := hR1
        have ht_bv := (hX.2.1 _ hb_bv).1.trans ht_bv
        have hb_bv := Nat.lt_of_lt_of_le hb_bv hX.1
        have hb0_bv := hb_bv
        have ht_v9 := (hX.2.1 _ hb_v9).1.trans ht_v9
        have hb_v9 := Nat.lt_of_lt_of_le hb_v9 hX.1
        have hb0_v9 := hb_v9
        have hn := Nat.le_refl n1
        have h94 := hS0.1
        have hX := @yX.rf n1 tg1 I11 R1
        have hS := hS0.x hX
        have hR := hR0.x hn hX
        have hz := hX.sz h94
        have hxn := hX.1
        have hN := hR0.1
        have hnb := hR0.2.2.2.2.2.2
        refine y_iinc (ls' := [some _, some _, some _, some _, some _, some _]) rfl rfl rfl rfl ?_
        refine y_goto rfl j_X14_profit_5 ?_
        refine y_fgt (ls := [some _, some _, some _, some _, some _, none]) ⟨rfl, rfl, rfl, rfl, rfl, trivial⟩ ?_
        exact ih _ _ _ _ _ _ hS (hR0.grow hX) (hK.x hRo hno hX)  ((hX.2.1 _ hb_bv).1.trans ht_bv) (Nat.lt_of_lt_of_le hb_bv hX.1) (by first | omega | (rw [yinc (by omega)]; omega)) (by first | omega | (rw [yinc (by omega)]; omega)) (by first | omega | (rw [yinc (by omega)]; omega))
theorem h_profit (hS0 : ySh n tg R) (hR0 : yRI K n tg I R) {x2 : Int32} {bv : Nat} (hlo_bv : 94 ≤ bv) (hb_bv : bv < n) (ht_bv : tg bv = (21, 0)) (hQ : ∀ n1 tg1 I1 R1, ySh n1 tg1 R1 → yRI K n1 tg1 I1 R1 → yKp n tg I R n1 tg1 I1 R1 → Q (.inl none) (n1, tg1, I1, R1) c s) : yC 214 [.ref 83, .ref bv, .int x2] (n, tg, I, R) c s Q := by
  refine y_in (M := xm_X14_profit) (ls := [some _, some _, some _, _, _, _]) rfl rfl rfl ?_
  refine y_iload_n rfl rfl ?_
  refine y_istore_n (ls' := [some _, some _, some _, some _, _, _]) rfl rfl rfl ?_
  refine y_iconst rfl ?_
  refine y_istore (ls' := [some _, some _, some _, some _, some _, _]) rfl rfl rfl ?_
  exact lm_profit hR0 (Nat.le_refl n) hlo_bv hQ 100 _ _ _ _ _ _ hS0 hR0 yKp.rf ht_bv hb_bv (by decide) (by decide) (by decide)
theorem n_join (hS0 : ySh n tg R) (hR0 : yRI K n tg I R) (hk6 : K < 600) {x1 x2 x3 x4 : Int32} (hQ : ∀ (v : Int32) n1 tg1 I1 R1 c1 s1, ySh n1 tg1 R1 → yRI (K + 1) n1 tg1 I1 R1 → yKp n tg I R n1 tg1 I1 R1 → c1 ≤ c + 0 → s1 ≤ s + 0 → Q (.inl (some (.int v))) (n1, tg1, I1, R1) c1 s1) : yC 212 [.ref 83, .int x1, .int x2, .int x3, .int x4] (n, tg, I, R) c s Q := by
  have hno := Nat.le_refl n
  have hn := hno
  have hRo := hR0
  have hK : yKp n tg I R n tg I R := yKp.rf
  have hX : yX n tg I R n tg I R := yX.rf
  have hS := hS0
  have hR := hR0
  have h94 : 94 ≤ n := hS0.1
  have hz : ySz I I := hX.sz h94
  have hxn := hX.1
  have hN := hR0.1
  have hnb : 94 ≤ n := hR0.2.2.2.2.2.2
  refine y_in (M := xm_X14_join) (ls := [some _, some _, some _, some _, some _, _, _]) rfl rfl rfl ?_
  refine y_aload_n rfl rfl ?_
  refine y_aload_n rfl rfl ?_
  refine y_iload_n rfl rfl ?_
  refine y_virt rfl rfl rfl rfl rfl (ySh.t hS rfl) (ySh.n hS rfl) ?_
  refine y_in (M := xm_X14_isNoVenture) (ls := [some _, some _]) rfl rfl rfl ?_
  refine y_iload_n rfl rfl ?_
  refine y_iconst rfl ?_
  refine y_aload_n rfl rfl ?_
  refine y_getR rfl (ySh.t hS rfl) (ySh.n hS rfl) rfl rfl (ySh.r hS rfl) ?_
  refine y_virt rfl rfl rfl rfl rfl (ySh.t hS rfl) (ySh.n hS rfl) ?_
  refine y_in (M := xm_Jx4a65c_size_8abf5) (ls := [some _]) rfl rfl rfl ?_
  refine y_aload_n rfl rfl ?_
  refine y_getI rfl (ySh.t hS rfl) (ySh.n hS rfl) rfl rfl ?_
  refine y_ireturn rfl rfl rfl ?_
  refine y_ret1 ?_
  refine y_iconst rfl ?_
  refine y_isub rfl ?_
  refine y_static rfl rfl rfl rfl rfl ?_
  refine r_isIn (fun h_1 h_2 => ?_) (fun h_3 => ?_)
  · rw [yz_0] at h_1
    try rw [ysub (by rw [yz_1]; omega) (by rw [yz_1]; omega), yz_1] at h_2
    refine y_ret1 ?_
    refine y_if_neT rfl j_X14_isNoVenture_21 (by decide) ?_
    refine y_iconst rfl ?_
    refine y_ireturn rfl rfl rfl ?_
    refine y_ret1 ?_
    refine y_if_neF rfl (by decide) ?_
    refine y_aload_n rfl rfl ?_
    refine y_iload_n rfl rfl ?_
    refine y_virt rfl rfl rfl rfl rfl (ySh.t hS rfl) (ySh.n hS rfl) ?_
    refine y_in (M := xm_X14_isNoOne) (ls := [some _, some _]) rfl rfl rfl ?_
    refine y_iload_n rfl rfl ?_
    refine y_iconst rfl ?_
    refine y_icmp_eq rfl j_X14_isNoOne_17 (fun h_4 => ?_) (fun h_5 => ?_)
    · rw [yz_m1] at h_4
      refine y_iconst rfl ?_
      refine y_ireturn rfl rfl rfl ?_
      refine y_ret1 ?_
      refine y_if_eqT rfl j_X14_join_21 (by decide) ?_
      refine y_iconst rfl ?_
      refine y_iconst rfl ?_
      refine y_virt rfl rfl rfl rfl rfl (ySh.t hS rfl) (ySh.n hS rfl) ?_
      refine y_in (M := xm_X14_start) (ls := [some _, some _, some _]) rfl rfl rfl ?_
      refine y_aload_n rfl rfl ?_
      refine y_iconst rfl ?_
      refine y_putI rfl (ySh.t hS rfl) (ySh.n hS rfl) rfl (Nat.le_of_ble_eq_true rfl) rfl rfl ?_
      refine y_nameI (fun I6 e6 => ?_)
      have hR1 := (hR0.grow hX).mod0 e6 (by decide) (by decide)
      have hK := (hK.x hRo hno hX).upI (upI e6) (by decide) (by decide) (fun i hi => by have := (hRo.l87.2.2.2.2 i hi).2.1; omega) (by rw [e6, upd2_ne (.inr (by decide))]; exact Int.le_refl _)
      have hth : I6 83 0 = Int32.ofInt (0) := by rw [e6, upd2_self]
      have hzz : ySz8 I I6 := ySz8_of (upI e6) (by rw [e6]; exact ⟨upd2_ne (.inr (by decide)), upd2_ne (.inr (by decide))⟩)
      have hS0 := hS
      have hR0 := hR1
      have hn := Nat.le_refl n
      have h94 := hS0.1
      have hX := @yX.rf n tg I6 R
      have hS := hS0.x hX
      have hR := hR0.x hn hX
      have hz := hX.sz h94
      have hxn := hX.1
      have hN := hR0.1
      have hnb := hR0.2.2.2.2.2.2
      have hthB := hth
      refine y_aload_n rfl rfl ?_
      refine y_iload_n rfl rfl ?_
      refine y_iload_n rfl rfl ?_
      refine y_virt rfl rfl rfl rfl rfl (ySh.t hS rfl) (ySh.n hS rfl) ?_
      refine y_in (M := xm_X14_refuse) (ls := [some _, some _, some _]) rfl rfl rfl ?_
      refine y_iload_n rfl rfl ?_
      refine y_if_eqT rfl j_X14_refuse_16 (by decide) ?_
      refine y_aload_n rfl rfl ?_
      refine y_getIv (v := Int32.ofInt (0)) rfl (ySh.t hS rfl) (ySh.n hS rfl) rfl rfl hth ?_
      refine y_if_leT rfl j_X14_refuse_27 (by decide) ?_
      refine y_iconst rfl ?_
      refine y_ireturn rfl rfl rfl ?_
      refine y_ret1 ?_
      refine y_ireturn rfl rfl rfl ?_
      refine y_ret1 ?_
      refine y_if_neF rfl (by decide) ?_
      refine y_aload_n rfl rfl ?_
      refine y_iload_n rfl rfl ?_
      refine y_iconst rfl ?_
      refine y_sip rfl (by decide) ?_
      refine y_static rfl rfl rfl rfl rfl ?_
      refine r_isIn (fun h_7 h_8 => ?_) (fun h_9 => ?_)
      · rw [yz_1] at h_7
        rw [yz_999] at h_8
        refine y_ret1 ?_
        refine y_if_eqF rfl (by decide) ?_
        refine y_iload rfl rfl ?_
        refine y_iconst rfl ?_
        refine y_bip rfl (by decide) ?_
        refine y_static rfl rfl rfl rfl rfl ?_
        refine r_isIn (fun h_10 h_11 => ?_) (fun h_12 => ?_)
        · rw [yz_0] at h_10
          rw [yz_100] at h_11
          refine y_ret1 ?_
          refine y_if_neT rfl j_X14_join_56 (by decide) ?_
          refine y_iconst rfl ?_
          refine y_iconst rfl ?_
          refine y_virt rfl rfl rfl rfl rfl (ySh.t hS rfl) (ySh.n hS rfl) ?_
          refine y_in (M := xm_X14_refuse) (ls := [some _, some _, some _]) rfl rfl rfl ?_
          refine y_iload_n rfl rfl ?_
          refine y_if_eqT rfl j_X14_refuse_16 (by decide) ?_
          refine y_aload_n rfl rfl ?_
          refine y_getIv (v := Int32.ofInt (0)) rfl (ySh.t hS rfl) (ySh.n hS rfl) rfl rfl hth ?_
          refine y_if_leT rfl j_X14_refuse_27 (by decide) ?_
          refine y_iconst rfl ?_
          refine y_ireturn rfl rfl rfl ?_
          refine y_ret1 ?_
          refine y_if_eqT rfl j_X14_join_66 (by decide) ?_
          refine y_aload_n rfl rfl ?_
          refine y_getR rfl (ySh.t hS rfl) (ySh.n hS rfl) rfl rfl (ySh.r hS rfl) ?_
          refine y_iload_n rfl rfl ?_
          refine y_virt rfl rfl rfl rfl rfl (ySh.t hS rfl) (ySh.n hS rfl) ?_
          refine l_get (nb := n) (ySh.t hS rfl) (ySh.n hS rfl) (Nat.le_trans hn hX.1) hR.l91 (by omega) (by omega) (fun b13 eb_b13 hlo_b13 hb0_b13 ht_b13 => ?_)
          have hb_b13 := Nat.lt_of_lt_of_le hb0_b13 hn
          replace ht_b13 := (hX.2.1 _ hb_b13).1.symm.trans ht_b13
          refine y_ret1 ?_
          refine y_cast rfl ((hX.2.1 _ hb_b13).1.trans ht_b13) (Nat.lt_of_lt_of_le hb_b13 hX.1) ?_
          refine y_astore (ls' := [some _, some _, some _, some _, some _, some _, _]) rfl rfl rfl ?_
          refine y_iload_n rfl rfl ?_
          refine y_static rfl rfl rfl rfl rfl ?_
          refine y_in (M := xm_X14_seat) (ls := [some _]) rfl rfl rfl ?_
          refine y_iload_n rfl rfl ?_
          refine y_iconst rfl ?_
          refine y_icmp_ne rfl j_X14_seat_10 (fun h_14 => ?_) (fun h_15 => ?_)
          · rw [yz_m1] at h_14
            refine y_iload_n rfl rfl ?_
            refine y_ireturn rfl rfl rfl ?_
            refine y_ret1 ?_
            refine y_istore (ls' := [some _, some _, some _, some _, some _, some _, some _]) rfl rfl rfl ?_
            refine y_aload_n rfl rfl ?_
            refine y_aload rfl rfl ?_
            obtain ⟨hR_v16, hb_v16, ht_v16⟩ := hR0.ven hlo_b13 hb0_b13 ht_b13 (j := 0) (by decide)
            have hb0_v16 := hb_v16
            have hb_v16 := Nat.lt_of_lt_of_le hb_v16 hn
            have hlo_v16 : 94 ≤ b13 + 1 + 0 := by omega
            have hR2_v16 := (congrFun (hX.2.1 b13 hb_b13).2.2 0).trans hR_v16
            refine y_getR rfl ((hX.2.1 _ hb_b13).1.trans ht_b13) (Nat.lt_of_lt_of_le hb_b13 hX.1) rfl rfl hR2_v16 ?_
            refine y_iload rfl rfl ?_
            refine y_baload rfl ((hX.2.1 _ hb_v16).1.trans ht_v16) rfl (Nat.lt_of_lt_of_le hb_v16 hX.1) (by omega) (by omega) ?_
            refine y_if_ne rfl j_X14_join_126 (fun h_17 => ?_) (fun h_18 => ?_)
            · refine y_iconst rfl ?_
              refine y_goto rfl j_X14_join_131 ?_
              refine y_iconst rfl ?_
              refine y_virt rfl rfl rfl rfl rfl (ySh.t hS rfl) (ySh.n hS rfl) ?_
              refine y_in (M := xm_X14_refuse) (ls := [some _, some _, some _]) rfl rfl rfl ?_
              refine y_iload_n rfl rfl ?_
              refine y_if_eqF rfl (by decide) ?_
              refine y_aload_n rfl rfl ?_
              refine y_getIv (v := Int32.ofInt (0)) rfl (ySh.t hS rfl) (ySh.n hS rfl) rfl rfl hth ?_
              refine y_if_neF rfl (by decide) ?_
              refine y_aload_n rfl rfl ?_
              refine y_iload_n rfl rfl ?_
              refine y_putI rfl (ySh.t hS rfl) (ySh.n hS rfl) rfl (Nat.le_of_ble_eq_true rfl) rfl rfl ?_
              refine y_nameI (fun I19 e19 => ?_)
              have hR1 := (hR0.grow hX).mod0 e19 (by decide) (by decide)
              have hK := (hK.x hRo hno hX).upI (upI e19) (by decide) (by decide) (fun i hi => by have := (hRo.l87.2.2.2.2 i hi).2.1; omega) (by rw [e19, upd2_ne (.inr (by decide))]; exact Int.le_refl _)
              have hth : I19 83 0 = Int32.ofInt (3) := by rw [e19, upd2_self]
              have hzz : ySz8 I6 I19 := ySz8_of (upI e19) (by rw [e19]; exact ⟨upd2_ne (.inr (by decide)), upd2_ne (.inr (by decide))⟩)
              have hS0 := hS
              have hR0 := hR1
              have ht_b13 := (hX.2.1 _ hb_b13).1.trans ht_b13
              have hb_b13 := Nat.lt_of_lt_of_le hb_b13 hX.1
              have hb0_b13 := hb_b13
              have ht_v16 := (hX.2.1 _ hb_v16).1.trans ht_v16
              have hb_v16 := Nat.lt_of_lt_of_le hb_v16 hX.1
              have hb0_v16 := hb_v16
              have hn := Nat.le_refl n
              have h94 := hS0.1
              have hX := @yX.rf n tg I19 R
              have hS := hS0.x hX
              have hR := hR0.x hn hX
              have hz := hX.sz h94
              have hxn := hX.1
              have hN := hR0.1
              have hnb := hR0.2.2.2.2.2.2
              have hthB := hth
              refine y_aload_n rfl rfl ?_
              refine y_getIv (v := Int32.ofInt (3)) rfl (ySh.t hS rfl) (ySh.n hS rfl) rfl rfl hth ?_
              refine y_if_leF rfl (by decide) ?_
              refine y_iconst rfl ?_
              refine y_goto rfl j_X14_refuse_28 ?_
              refine y_ireturn rfl rfl rfl ?_
              refine y_ret1 ?_
              refine y_if_eqF rfl (by decide) ?_
              refine y_iconst rfl ?_
              refine y_ireturn rfl rfl rfl ?_
              exact hQ _ _ _ _ _ _ _ hS ((hR0.grow hX).up (Nat.le_succ K) hk6) (hK.x hRo hno hX) (by omega) (by omega)
            · refine y_aload_n rfl rfl ?_
              refine y_getR rfl (ySh.t hS rfl) (ySh.n hS rfl) rfl rfl (ySh.r hS rfl) ?_
              refine y_iload rfl rfl ?_
              refine y_iaload rfl (ySh.t hS rfl) (ySh.n hS rfl) (by omega) (by omega) ?_
              refine y_iload_n rfl rfl ?_
              refine y_icmp_lt rfl j_X14_join_126 (fun h_20 => ?_) (fun h_21 => ?_)
              · refine y_iconst rfl ?_
                refine y_goto rfl j_X14_join_131 ?_
                refine y_iconst rfl ?_
                refine y_virt rfl rfl rfl rfl rfl (ySh.t hS rfl) (ySh.n hS rfl) ?_
                refine y_in (M := xm_X14_refuse) (ls := [some _, some _, some _]) rfl rfl rfl ?_
                refine y_iload_n rfl rfl ?_
                refine y_if_eqF rfl (by decide) ?_
                refine y_aload_n rfl rfl ?_
                refine y_getIv (v := Int32.ofInt (0)) rfl (ySh.t hS rfl) (ySh.n hS rfl) rfl rfl hth ?_
                refine y_if_neF rfl (by decide) ?_
                refine y_aload_n rfl rfl ?_
                refine y_iload_n rfl rfl ?_
                refine y_putI rfl (ySh.t hS rfl) (ySh.n hS rfl) rfl (Nat.le_of_ble_eq_true rfl) rfl rfl ?_
                refine y_nameI (fun I22 e22 => ?_)
                have hR1 := (hR0.grow hX).mod0 e22 (by decide) (by decide)
                have hK := (hK.x hRo hno hX).upI (upI e22) (by decide) (by decide) (fun i hi => by have := (hRo.l87.2.2.2.2 i hi).2.1; omega) (by rw [e22, upd2_ne (.inr (by decide))]; exact Int.le_refl _)
                have hth : I22 83 0 = Int32.ofInt (3) := by rw [e22, upd2_self]
                have hzz : ySz8 I6 I22 := ySz8_of (upI e22) (by rw [e22]; exact ⟨upd2_ne (.inr (by decide)), upd2_ne (.inr (by decide))⟩)
                have hS0 := hS
                have hR0 := hR1
                have ht_b13 := (hX.2.1 _ hb_b13).1.trans ht_b13
                have hb_b13 := Nat.lt_of_lt_of_le hb_b13 hX.1
                have hb0_b13 := hb_b13
                have ht_v16 := (hX.2.1 _ hb_v16).1.trans ht_v16
                have hb_v16 := Nat.lt_of_lt_of_le hb_v16 hX.1
                have hb0_v16 := hb_v16
                have hn := Nat.le_refl n
                have h94 := hS0.1
                have hX := @yX.rf n tg I22 R
                have hS := hS0.x hX
                have hR := hR0.x hn hX
                have hz := hX.sz h94
                have hxn := hX.1
                have hN := hR0.1
                have hnb := hR0.2.2.2.2.2.2
                have hthB := hth
                refine y_aload_n rfl rfl ?_
                refine y_getIv (v := Int32.ofInt (3)) rfl (ySh.t hS rfl) (ySh.n hS rfl) rfl rfl hth ?_
                refine y_if_leF rfl (by decide) ?_
                refine y_iconst rfl ?_
                refine y_goto rfl j_X14_refuse_28 ?_
                refine y_ireturn rfl rfl rfl ?_
                refine y_ret1 ?_
                refine y_if_eqF rfl (by decide) ?_
                refine y_iconst rfl ?_
                refine y_ireturn rfl rfl rfl ?_
                exact hQ _ _ _ _ _ _ _ hS ((hR0.grow hX).up (Nat.le_succ K) hk6) (hK.x hRo hno hX) (by omega) (by omega)
              · refine y_aload rfl rfl ?_
                refine y_aload rfl rfl ?_
                obtain ⟨hR_v23, hb_v23, ht_v23⟩ := hR0.ven hlo_b13 hb0_b13 ht_b13 (j := 2) (by decide)
                have hb0_v23 := hb_v23
                have hb_v23 := Nat.lt_of_lt_of_le hb_v23 hn
                have hlo_v23 : 94 ≤ b13 + 1 + 2 := by omega
                have hR2_v23 := (congrFun (hX.2.1 b13 hb_b13).2.2 2).trans hR_v23
                refine y_getR rfl ((hX.2.1 _ hb_b13).1.trans ht_b13) (Nat.lt_of_lt_of_le hb_b13 hX.1) rfl rfl hR2_v23 ?_
                refine y_virt rfl rfl rfl rfl rfl ((hX.2.1 _ hb_b13).1.trans ht_b13) (Nat.lt_of_lt_of_le hb_b13 hX.1) ?_
                refine r_all ((hX.2.1 _ hb_v23).1.trans ht_v23) (Nat.lt_of_lt_of_le hb_v23 hX.1) (fun v_ => ?_)
                refine y_ret1 ?_
                refine y_iload rfl rfl ?_
                refine y_iadd rfl ?_
                refine y_bip rfl (by decide) ?_
                refine y_icmp_le rfl j_X14_join_130 (fun h_24 => ?_) (fun h_25 => ?_)
                · rw [yz_100] at h_24
                  refine y_iconst rfl ?_
                  refine y_iconst rfl ?_
                  refine y_virt rfl rfl rfl rfl rfl (ySh.t hS rfl) (ySh.n hS rfl) ?_
                  refine y_in (M := xm_X14_refuse) (ls := [some _, some _, some _]) rfl rfl rfl ?_
                  refine y_iload_n rfl rfl ?_
                  refine y_if_eqT rfl j_X14_refuse_16 (by decide) ?_
                  refine y_aload_n rfl rfl ?_
                  refine y_getIv (v := Int32.ofInt (0)) rfl (ySh.t hS rfl) (ySh.n hS rfl) rfl rfl hth ?_
                  refine y_if_leT rfl j_X14_refuse_27 (by decide) ?_
                  refine y_iconst rfl ?_
                  refine y_ireturn rfl rfl rfl ?_
                  refine y_ret1 ?_
                  refine y_if_eqT rfl j_X14_join_140 (by decide) ?_
                  refine y_aload rfl rfl ?_
                  obtain ⟨hR_v26, hb_v26, ht_v26⟩ := hR0.ven hlo_b13 hb0_b13 ht_b13 (j := 0) (by decide)
                  have hb0_v26 := hb_v26
                  have hb_v26 := Nat.lt_of_lt_of_le hb_v26 hn
                  have hlo_v26 : 94 ≤ b13 + 1 + 0 := by omega
                  have hR2_v26 := (congrFun (hX.2.1 b13 hb_b13).2.2 0).trans hR_v26
                  refine y_getR rfl ((hX.2.1 _ hb_b13).1.trans ht_b13) (Nat.lt_of_lt_of_le hb_b13 hX.1) rfl rfl hR2_v26 ?_
                  refine y_iload rfl rfl ?_
                  refine y_iconst rfl ?_
                  refine y_zastore rfl ((hX.2.1 _ hb_v26).1.trans ht_v26) (Nat.lt_of_lt_of_le hb_v26 hX.1) (Nat.le_trans (by decide) (by omega : 94 ≤ _)) (by omega) (by omega) rfl ?_
                  refine y_nameI (fun I27 e27 => ?_)
                  have hR1 := (hR0.grow hX).upV hlo_b13 (by omega) ((hX.2.1 _ hb_b13).1.trans ht_b13) (j := 0) (by decide) e27
                  have hK := (hK.x hRo hno hX).upE hRo hno (upI e27) (by omega) (by omega) (by rw [((hX.2.1 _ hb_v26).1.trans ht_v26)]; decide) (by rw [e27, upd2_ne (.inl (by omega))]; exact Int.le_refl _)
                  have hth := (show I27 83 0 = I6 83 0 by rw [e27, upd2_ne (.inl (by omega))]).trans hth
                  have hzz : ySz I6 I27 := ySz_ofE (upI e27) (by omega)
                  have hS0 := hS
                  have hR0 := hR1
                  have ht_b13 := (hX.2.1 _ hb_b13).1.trans ht_b13
                  have hb_b13 := Nat.lt_of_lt_of_le hb_b13 hX.1
                  have hb0_b13 := hb_b13
                  have ht_v16 := (hX.2.1 _ hb_v16).1.trans ht_v16
                  have hb_v16 := Nat.lt_of_lt_of_le hb_v16 hX.1
                  have hb0_v16 := hb_v16
                  have ht_v23 := (hX.2.1 _ hb_v23).1.trans ht_v23
                  have hb_v23 := Nat.lt_of_lt_of_le hb_v23 hX.1
                  have hb0_v23 := hb_v23
                  have ht_v26 := (hX.2.1 _ hb_v26).1.trans ht_v26
                  have hb_v26 := Nat.lt_of_lt_of_le hb_v26 hX.1
                  have hb0_v26 := hb_v26
                  have hn := Nat.le_refl n
                  have h94 := hS0.1
                  have hX := @yX.rf n tg I27 R
                  have hS := hS0.x hX
                  have hR := hR0.x hn hX
                  have hz := hX.sz h94
                  have hxn := hX.1
                  have hN := hR0.1
                  have hnb := hR0.2.2.2.2.2.2
                  have hthB := hth
                  refine y_aload rfl rfl ?_
                  obtain ⟨hR_v28, hb_v28, ht_v28⟩ := hR0.ven hlo_b13 hb0_b13 ht_b13 (j := 1) (by decide)
                  have hb0_v28 := hb_v28
                  have hb_v28 := Nat.lt_of_lt_of_le hb_v28 hn
                  have hlo_v28 : 94 ≤ b13 + 1 + 1 := by omega
                  have hR2_v28 := (congrFun (hX.2.1 b13 hb_b13).2.2 1).trans hR_v28
                  refine y_getR rfl ((hX.2.1 _ hb_b13).1.trans ht_b13) (Nat.lt_of_lt_of_le hb_b13 hX.1) rfl rfl hR2_v28 ?_
                  refine y_iload rfl rfl ?_
                  refine y_iload_n rfl rfl ?_
                  refine y_iastore rfl ((hX.2.1 _ hb_v28).1.trans ht_v28) (Nat.lt_of_lt_of_le hb_v28 hX.1) (Nat.le_trans (by decide) (by omega : 94 ≤ _)) (by omega) (by omega) ?_
                  refine y_nameI (fun I29 e29 => ?_)
                  have hR1 := (hR0.grow hX).capJ hlo_b13 (by omega) ((hX.2.1 _ hb_b13).1.trans ht_b13) (by omega) ⟨by omega, by omega⟩ e29 hk6
                  have hK := (hK.x hRo hno hX).upE hRo hno (upI e29) (by omega) (by omega) (by rw [((hX.2.1 _ hb_v28).1.trans ht_v28)]; decide) (by rw [e29, upd2_ne (.inl (by omega))]; exact Int.le_refl _)
                  have hth := (show I29 83 0 = I27 83 0 by rw [e29, upd2_ne (.inl (by omega))]).trans hth
                  have hzz : ySz I27 I29 := ySz_ofE (upI e29) (by omega)
                  have hS0 := hS
                  have hR0 := hR1
                  have ht_b13 := (hX.2.1 _ hb_b13).1.trans ht_b13
                  have hb_b13 := Nat.lt_of_lt_of_le hb_b13 hX.1
                  have hb0_b13 := hb_b13
                  have ht_v16 := (hX.2.1 _ hb_v16).1.trans ht_v16
                  have hb_v16 := Nat.lt_of_lt_of_le hb_v16 hX.1
                  have hb0_v16 := hb_v16
                  have ht_v23 := (hX.2.1 _ hb_v23).1.trans ht_v23
                  have hb_v23 := Nat.lt_of_lt_of_le hb_v23 hX.1
                  have hb0_v23 := hb_v23
                  have ht_v26 := (hX.2.1 _ hb_v26).1.trans ht_v26
                  have hb_v26 := Nat.lt_of_lt_of_le hb_v26 hX.1
                  have hb0_v26 := hb_v26
                  have ht_v28 := (hX.2.1 _ hb_v28).1.trans ht_v28
                  have hb_v28 := Nat.lt_of_lt_of_le hb_v28 hX.1
                  have hb0_v28 := hb_v28
                  have hn := Nat.le_refl n
                  have h94 := hS0.1
                  have hX := @yX.rf n tg I29 R
                  have hS := hS0.x hX
                  have hR := hR0.x hn hX
                  have hz := hX.sz h94
                  have hxn := hX.1
                  have hN := hR0.1
                  have hnb := hR0.2.2.2.2.2.2
                  have hthB := hth
                  refine y_aload rfl rfl ?_
                  obtain ⟨hR_v30, hb_v30, ht_v30⟩ := hR0.ven hlo_b13 hb0_b13 ht_b13 (j := 2) (by decide)
                  have hb0_v30 := hb_v30
                  have hb_v30 := Nat.lt_of_lt_of_le hb_v30 hn
                  have hlo_v30 : 94 ≤ b13 + 1 + 2 := by omega
                  have hR2_v30 := (congrFun (hX.2.1 b13 hb_b13).2.2 2).trans hR_v30
                  refine y_getR rfl ((hX.2.1 _ hb_b13).1.trans ht_b13) (Nat.lt_of_lt_of_le hb_b13 hX.1) rfl rfl hR2_v30 ?_
                  refine y_iload rfl rfl ?_
                  refine y_iload rfl rfl ?_
                  refine y_iastore rfl ((hX.2.1 _ hb_v30).1.trans ht_v30) (Nat.lt_of_lt_of_le hb_v30 hX.1) (Nat.le_trans (by decide) (by omega : 94 ≤ _)) (by omega) (by omega) ?_
                  refine y_nameI (fun I31 e31 => ?_)
                  have hR1 := (hR0.grow hX).upV hlo_b13 (by omega) ((hX.2.1 _ hb_b13).1.trans ht_b13) (j := 2) (by decide) e31
                  have hK := (hK.x hRo hno hX).upE hRo hno (upI e31) (by omega) (by omega) (by rw [((hX.2.1 _ hb_v30).1.trans ht_v30)]; decide) (by rw [e31, upd2_ne (.inl (by omega))]; exact Int.le_refl _)
                  have hth := (show I31 83 0 = I29 83 0 by rw [e31, upd2_ne (.inl (by omega))]).trans hth
                  have hzz : ySz I29 I31 := ySz_ofE (upI e31) (by omega)
                  have hS0 := hS
                  have hR0 := hR1
                  have ht_b13 := (hX.2.1 _ hb_b13).1.trans ht_b13
                  have hb_b13 := Nat.lt_of_lt_of_le hb_b13 hX.1
                  have hb0_b13 := hb_b13
                  have ht_v16 := (hX.2.1 _ hb_v16).1.trans ht_v16
                  have hb_v16 := Nat.lt_of_lt_of_le hb_v16 hX.1
                  have hb0_v16 := hb_v16
                  have ht_v23 := (hX.2.1 _ hb_v23).1.trans ht_v23
                  have hb_v23 := Nat.lt_of_lt_of_le hb_v23 hX.1
                  have hb0_v23 := hb_v23
                  have ht_v26 := (hX.2.1 _ hb_v26).1.trans ht_v26
                  have hb_v26 := Nat.lt_of_lt_of_le hb_v26 hX.1
                  have hb0_v26 := hb_v26
                  have ht_v28 := (hX.2.1 _ hb_v28).1.trans ht_v28
                  have hb_v28 := Nat.lt_of_lt_of_le hb_v28 hX.1
                  have hb0_v28 := hb_v28
                  have ht_v30 := (hX.2.1 _ hb_v30).1.trans ht_v30
                  have hb_v30 := Nat.lt_of_lt_of_le hb_v30 hX.1
                  have hb0_v30 := hb_v30
                  have hn := Nat.le_refl n
                  have h94 := hS0.1
                  have hX := @yX.rf n tg I31 R
                  have hS := hS0.x hX
                  have hR := hR0.x hn hX
                  have hz := hX.sz h94
                  have hxn := hX.1
                  have hN := hR0.1
                  have hnb := hR0.2.2.2.2.2.2
                  have hthB := hth
                  refine y_aload_n rfl rfl ?_
                  refine y_getR rfl (ySh.t hS rfl) (ySh.n hS rfl) rfl rfl (ySh.r hS rfl) ?_
                  refine y_iload rfl rfl ?_
                  refine y_dup2 rfl rfl rfl ?_
                  refine y_iaload rfl (ySh.t hS rfl) (ySh.n hS rfl) (by omega) (by omega) ?_
                  refine y_iload_n rfl rfl ?_
                  refine y_isub rfl ?_
                  refine y_iastore rfl (ySh.t hS rfl) (ySh.n hS rfl) (Nat.le_of_ble_eq_true rfl) (by omega) (by omega) ?_
                  refine y_nameI (fun I32 e32 => ?_)
                  have hR1 := (hR0.grow hX).arr e32 (by decide)
                  have hK := (hK.x hRo hno hX).upI (upI e32) (by decide) (by decide) (fun i hi => by have := (hRo.l87.2.2.2.2 i hi).2.1; omega) (by rw [e32, upd2_ne (.inl (by omega))]; exact Int.le_refl _)
                  have hth := (show I32 83 0 = I31 83 0 by rw [e32, upd2_ne (.inl (by omega))]).trans hth
                  have hzz : ySz I31 I32 := ySz_ofE (upI e32) (by omega)
                  have hS0 := hS
                  have hR0 := hR1
                  have ht_b13 := (hX.2.1 _ hb_b13).1.trans ht_b13
                  have hb_b13 := Nat.lt_of_lt_of_le hb_b13 hX.1
                  have hb0_b13 := hb_b13
                  have ht_v16 := (hX.2.1 _ hb_v16).1.trans ht_v16
                  have hb_v16 := Nat.lt_of_lt_of_le hb_v16 hX.1
                  have hb0_v16 := hb_v16
                  have ht_v23 := (hX.2.1 _ hb_v23).1.trans ht_v23
                  have hb_v23 := Nat.lt_of_lt_of_le hb_v23 hX.1
                  have hb0_v23 := hb_v23
                  have ht_v26 := (hX.2.1 _ hb_v26).1.trans ht_v26
                  have hb_v26 := Nat.lt_of_lt_of_le hb_v26 hX.1
                  have hb0_v26 := hb_v26
                  have ht_v28 := (hX.2.1 _ hb_v28).1.trans ht_v28
                  have hb_v28 := Nat.lt_of_lt_of_le hb_v28 hX.1
                  have hb0_v28 := hb_v28
                  have ht_v30 := (hX.2.1 _ hb_v30).1.trans ht_v30
                  have hb_v30 := Nat.lt_of_lt_of_le hb_v30 hX.1
                  have hb0_v30 := hb_v30
                  have hn := Nat.le_refl n
                  have h94 := hS0.1
                  have hX := @yX.rf n tg I32 R
                  have hS := hS0.x hX
                  have hR := hR0.x hn hX
                  have hz := hX.sz h94
                  have hxn := hX.1
                  have hN := hR0.1
                  have hnb := hR0.2.2.2.2.2.2
                  have hthB := hth
                  refine y_aload rfl rfl ?_
                  refine y_aload rfl rfl ?_
                  obtain ⟨hR_v33, hb_v33, ht_v33⟩ := hR0.ven hlo_b13 hb0_b13 ht_b13 (j := 2) (by decide)
                  have hb0_v33 := hb_v33
                  have hb_v33 := Nat.lt_of_lt_of_le hb_v33 hn
                  have hlo_v33 : 94 ≤ b13 + 1 + 2 := by omega
                  have hR2_v33 := (congrFun (hX.2.1 b13 hb_b13).2.2 2).trans hR_v33
                  refine y_getR rfl ((hX.2.1 _ hb_b13).1.trans ht_b13) (Nat.lt_of_lt_of_le hb_b13 hX.1) rfl rfl hR2_v33 ?_
                  refine y_virt rfl rfl rfl rfl rfl ((hX.2.1 _ hb_b13).1.trans ht_b13) (Nat.lt_of_lt_of_le hb_b13 hX.1) ?_
                  refine r_all ((hX.2.1 _ hb_v33).1.trans ht_v33) (Nat.lt_of_lt_of_le hb_v33 hX.1) (fun v_ => ?_)
                  refine y_ret1 ?_
                  refine y_ireturn rfl rfl rfl ?_
                  exact hQ _ _ _ _ _ _ _ hS (hR0.grow hX) (hK.x hRo hno hX) (by omega) (by omega)
                · rw [yz_100] at h_25
                  refine y_iconst rfl ?_
                  refine y_goto rfl j_X14_join_131 ?_
                  refine y_iconst rfl ?_
                  refine y_virt rfl rfl rfl rfl rfl (ySh.t hS rfl) (ySh.n hS rfl) ?_
                  refine y_in (M := xm_X14_refuse) (ls := [some _, some _, some _]) rfl rfl rfl ?_
                  refine y_iload_n rfl rfl ?_
                  refine y_if_eqF rfl (by decide) ?_
                  refine y_aload_n rfl rfl ?_
                  refine y_getIv (v := Int32.ofInt (0)) rfl (ySh.t hS rfl) (ySh.n hS rfl) rfl rfl hth ?_
                  refine y_if_neF rfl (by decide) ?_
                  refine y_aload_n rfl rfl ?_
                  refine y_iload_n rfl rfl ?_
                  refine y_putI rfl (ySh.t hS rfl) (ySh.n hS rfl) rfl (Nat.le_of_ble_eq_true rfl) rfl rfl ?_
                  refine y_nameI (fun I34 e34 => ?_)
                  have hR1 := (hR0.grow hX).mod0 e34 (by decide) (by decide)
                  have hK := (hK.x hRo hno hX).upI (upI e34) (by decide) (by decide) (fun i hi => by have := (hRo.l87.2.2.2.2 i hi).2.1; omega) (by rw [e34, upd2_ne (.inr (by decide))]; exact Int.le_refl _)
                  have hth : I34 83 0 = Int32.ofInt (3) := by rw [e34, upd2_self]
                  have hzz : ySz8 I6 I34 := ySz8_of (upI e34) (by rw [e34]; exact ⟨upd2_ne (.inr (by decide)), upd2_ne (.inr (by decide))⟩)
                  have hS0 := hS
                  have hR0 := hR1
                  have ht_b13 := (hX.2.1 _ hb_b13).1.trans ht_b13
                  have hb_b13 := Nat.lt_of_lt_of_le hb_b13 hX.1
                  have hb0_b13 := hb_b13
                  have ht_v16 := (hX.2.1 _ hb_v16).1.trans ht_v16
                  have hb_v16 := Nat.lt_of_lt_of_le hb_v16 hX.1
                  have hb0_v16 := hb_v16
                  have ht_v23 := (hX.2.1 _ hb_v23).1.trans ht_v23
                  have hb_v23 := Nat.lt_of_lt_of_le hb_v23 hX.1
                  have hb0_v23 := hb_v23
                  have hn := Nat.le_refl n
                  have h94 := hS0.1
                  have hX := @yX.rf n tg I34 R
                  have hS := hS0.x hX
                  have hR := hR0.x hn hX
                  have hz := hX.sz h94
                  have hxn := hX.1
                  have hN := hR0.1
                  have hnb := hR0.2.2.2.2.2.2
                  have hthB := hth
                  refine y_aload_n rfl rfl ?_
                  refine y_getIv (v := Int32.ofInt (3)) rfl (ySh.t hS rfl) (ySh.n hS rfl) rfl rfl hth ?_
                  refine y_if_leF rfl (by decide) ?_
                  refine y_iconst rfl ?_
                  refine y_goto rfl j_X14_refuse_28 ?_
                  refine y_ireturn rfl rfl rfl ?_
                  refine y_ret1 ?_
                  refine y_if_eqF rfl (by decide) ?_
                  refine y_iconst rfl ?_
                  refine y_ireturn rfl rfl rfl ?_
                  exact hQ _ _ _ _ _ _ _ hS ((hR0.grow hX).up (Nat.le_succ K) hk6) (hK.x hRo hno hX) (by omega) (by omega)
          · rw [yz_m1] at h_15
            refine y_bip rfl (by decide) ?_
            refine y_goto rfl j_X14_seat_11 ?_
            refine y_ireturn rfl rfl rfl ?_
            refine y_ret1 ?_
            refine y_istore (ls' := [some _, some _, some _, some _, some _, some _, some _]) rfl rfl rfl ?_
            refine y_aload_n rfl rfl ?_
            refine y_aload rfl rfl ?_
            obtain ⟨hR_v35, hb_v35, ht_v35⟩ := hR0.ven hlo_b13 hb0_b13 ht_b13 (j := 0) (by decide)
            have hb0_v35 := hb_v35
            have hb_v35 := Nat.lt_of_lt_of_le hb_v35 hn
            have hlo_v35 : 94 ≤ b13 + 1 + 0 := by omega
            have hR2_v35 := (congrFun (hX.2.1 b13 hb_b13).2.2 0).trans hR_v35
            refine y_getR rfl ((hX.2.1 _ hb_b13).1.trans ht_b13) (Nat.lt_of_lt_of_le hb_b13 hX.1) rfl rfl hR2_v35 ?_
            refine y_iload rfl rfl ?_
            refine y_baload rfl ((hX.2.1 _ hb_v35).1.trans ht_v35) rfl (Nat.lt_of_lt_of_le hb_v35 hX.1) (by decide) (by decide) ?_
            refine y_if_ne rfl j_X14_join_126 (fun h_36 => ?_) (fun h_37 => ?_)
            · refine y_iconst rfl ?_
              refine y_goto rfl j_X14_join_131 ?_
              refine y_iconst rfl ?_
              refine y_virt rfl rfl rfl rfl rfl (ySh.t hS rfl) (ySh.n hS rfl) ?_
              refine y_in (M := xm_X14_refuse) (ls := [some _, some _, some _]) rfl rfl rfl ?_
              refine y_iload_n rfl rfl ?_
              refine y_if_eqF rfl (by decide) ?_
              refine y_aload_n rfl rfl ?_
              refine y_getIv (v := Int32.ofInt (0)) rfl (ySh.t hS rfl) (ySh.n hS rfl) rfl rfl hth ?_
              refine y_if_neF rfl (by decide) ?_
              refine y_aload_n rfl rfl ?_
              refine y_iload_n rfl rfl ?_
              refine y_putI rfl (ySh.t hS rfl) (ySh.n hS rfl) rfl (Nat.le_of_ble_eq_true rfl) rfl rfl ?_
              refine y_nameI (fun I38 e38 => ?_)
              have hR1 := (hR0.grow hX).mod0 e38 (by decide) (by decide)
              have hK := (hK.x hRo hno hX).upI (upI e38) (by decide) (by decide) (fun i hi => by have := (hRo.l87.2.2.2.2 i hi).2.1; omega) (by rw [e38, upd2_ne (.inr (by decide))]; exact Int.le_refl _)
              have hth : I38 83 0 = Int32.ofInt (3) := by rw [e38, upd2_self]
              have hzz : ySz8 I6 I38 := ySz8_of (upI e38) (by rw [e38]; exact ⟨upd2_ne (.inr (by decide)), upd2_ne (.inr (by decide))⟩)
              have hS0 := hS
              have hR0 := hR1
              have ht_b13 := (hX.2.1 _ hb_b13).1.trans ht_b13
              have hb_b13 := Nat.lt_of_lt_of_le hb_b13 hX.1
              have hb0_b13 := hb_b13
              have ht_v35 := (hX.2.1 _ hb_v35).1.trans ht_v35
              have hb_v35 := Nat.lt_of_lt_of_le hb_v35 hX.1
              have hb0_v35 := hb_v35
              have hn := Nat.le_refl n
              have h94 := hS0.1
              have hX := @yX.rf n tg I38 R
              have hS := hS0.x hX
              have hR := hR0.x hn hX
              have hz := hX.sz h94
              have hxn := hX.1
              have hN := hR0.1
              have hnb := hR0.2.2.2.2.2.2
              have hthB := hth
              refine y_aload_n rfl rfl ?_
              refine y_getIv (v := Int32.ofInt (3)) rfl (ySh.t hS rfl) (ySh.n hS rfl) rfl rfl hth ?_
              refine y_if_leF rfl (by decide) ?_
              refine y_iconst rfl ?_
              refine y_goto rfl j_X14_refuse_28 ?_
              refine y_ireturn rfl rfl rfl ?_
              refine y_ret1 ?_
              refine y_if_eqF rfl (by decide) ?_
              refine y_iconst rfl ?_
              refine y_ireturn rfl rfl rfl ?_
              exact hQ _ _ _ _ _ _ _ hS ((hR0.grow hX).up (Nat.le_succ K) hk6) (hK.x hRo hno hX) (by omega) (by omega)
            · refine y_aload_n rfl rfl ?_
              refine y_getR rfl (ySh.t hS rfl) (ySh.n hS rfl) rfl rfl (ySh.r hS rfl) ?_
              refine y_iload rfl rfl ?_
              refine y_ialoadC (j := 8) rfl (ySh.t hS rfl) (ySh.n hS rfl) (by decide) (by decide) rfl ?_
              refine y_iload_n rfl rfl ?_
              refine y_icmp_lt rfl j_X14_join_126 (fun h_39 => ?_) (fun h_40 => ?_)
              · refine y_iconst rfl ?_
                refine y_goto rfl j_X14_join_131 ?_
                refine y_iconst rfl ?_
                refine y_virt rfl rfl rfl rfl rfl (ySh.t hS rfl) (ySh.n hS rfl) ?_
                refine y_in (M := xm_X14_refuse) (ls := [some _, some _, some _]) rfl rfl rfl ?_
                refine y_iload_n rfl rfl ?_
                refine y_if_eqF rfl (by decide) ?_
                refine y_aload_n rfl rfl ?_
                refine y_getIv (v := Int32.ofInt (0)) rfl (ySh.t hS rfl) (ySh.n hS rfl) rfl rfl hth ?_
                refine y_if_neF rfl (by decide) ?_
                refine y_aload_n rfl rfl ?_
                refine y_iload_n rfl rfl ?_
                refine y_putI rfl (ySh.t hS rfl) (ySh.n hS rfl) rfl (Nat.le_of_ble_eq_true rfl) rfl rfl ?_
                refine y_nameI (fun I41 e41 => ?_)
                have hR1 := (hR0.grow hX).mod0 e41 (by decide) (by decide)
                have hK := (hK.x hRo hno hX).upI (upI e41) (by decide) (by decide) (fun i hi => by have := (hRo.l87.2.2.2.2 i hi).2.1; omega) (by rw [e41, upd2_ne (.inr (by decide))]; exact Int.le_refl _)
                have hth : I41 83 0 = Int32.ofInt (3) := by rw [e41, upd2_self]
                have hzz : ySz8 I6 I41 := ySz8_of (upI e41) (by rw [e41]; exact ⟨upd2_ne (.inr (by decide)), upd2_ne (.inr (by decide))⟩)
                have hS0 := hS
                have hR0 := hR1
                have ht_b13 := (hX.2.1 _ hb_b13).1.trans ht_b13
                have hb_b13 := Nat.lt_of_lt_of_le hb_b13 hX.1
                have hb0_b13 := hb_b13
                have ht_v35 := (hX.2.1 _ hb_v35).1.trans ht_v35
                have hb_v35 := Nat.lt_of_lt_of_le hb_v35 hX.1
                have hb0_v35 := hb_v35
                have hn := Nat.le_refl n
                have h94 := hS0.1
                have hX := @yX.rf n tg I41 R
                have hS := hS0.x hX
                have hR := hR0.x hn hX
                have hz := hX.sz h94
                have hxn := hX.1
                have hN := hR0.1
                have hnb := hR0.2.2.2.2.2.2
                have hthB := hth
                refine y_aload_n rfl rfl ?_
                refine y_getIv (v := Int32.ofInt (3)) rfl (ySh.t hS rfl) (ySh.n hS rfl) rfl rfl hth ?_
                refine y_if_leF rfl (by decide) ?_
                refine y_iconst rfl ?_
                refine y_goto rfl j_X14_refuse_28 ?_
                refine y_ireturn rfl rfl rfl ?_
                refine y_ret1 ?_
                refine y_if_eqF rfl (by decide) ?_
                refine y_iconst rfl ?_
                refine y_ireturn rfl rfl rfl ?_
                exact hQ _ _ _ _ _ _ _ hS ((hR0.grow hX).up (Nat.le_succ K) hk6) (hK.x hRo hno hX) (by omega) (by omega)
              · refine y_aload rfl rfl ?_
                refine y_aload rfl rfl ?_
                obtain ⟨hR_v42, hb_v42, ht_v42⟩ := hR0.ven hlo_b13 hb0_b13 ht_b13 (j := 2) (by decide)
                have hb0_v42 := hb_v42
                have hb_v42 := Nat.lt_of_lt_of_le hb_v42 hn
                have hlo_v42 : 94 ≤ b13 + 1 + 2 := by omega
                have hR2_v42 := (congrFun (hX.2.1 b13 hb_b13).2.2 2).trans hR_v42
                refine y_getR rfl ((hX.2.1 _ hb_b13).1.trans ht_b13) (Nat.lt_of_lt_of_le hb_b13 hX.1) rfl rfl hR2_v42 ?_
                refine y_virt rfl rfl rfl rfl rfl ((hX.2.1 _ hb_b13).1.trans ht_b13) (Nat.lt_of_lt_of_le hb_b13 hX.1) ?_
                refine r_all ((hX.2.1 _ hb_v42).1.trans ht_v42) (Nat.lt_of_lt_of_le hb_v42 hX.1) (fun v_ => ?_)
                refine y_ret1 ?_
                refine y_iload rfl rfl ?_
                refine y_iadd rfl ?_
                refine y_bip rfl (by decide) ?_
                refine y_icmp_le rfl j_X14_join_130 (fun h_43 => ?_) (fun h_44 => ?_)
                · rw [yz_100] at h_43
                  refine y_iconst rfl ?_
                  refine y_iconst rfl ?_
                  refine y_virt rfl rfl rfl rfl rfl (ySh.t hS rfl) (ySh.n hS rfl) ?_
                  refine y_in (M := xm_X14_refuse) (ls := [some _, some _, some _]) rfl rfl rfl ?_
                  refine y_iload_n rfl rfl ?_
                  refine y_if_eqT rfl j_X14_refuse_16 (by decide) ?_
                  refine y_aload_n rfl rfl ?_
                  refine y_getIv (v := Int32.ofInt (0)) rfl (ySh.t hS rfl) (ySh.n hS rfl) rfl rfl hth ?_
                  refine y_if_leT rfl j_X14_refuse_27 (by decide) ?_
                  refine y_iconst rfl ?_
                  refine y_ireturn rfl rfl rfl ?_
                  refine y_ret1 ?_
                  refine y_if_eqT rfl j_X14_join_140 (by decide) ?_
                  refine y_aload rfl rfl ?_
                  obtain ⟨hR_v45, hb_v45, ht_v45⟩ := hR0.ven hlo_b13 hb0_b13 ht_b13 (j := 0) (by decide)
                  have hb0_v45 := hb_v45
                  have hb_v45 := Nat.lt_of_lt_of_le hb_v45 hn
                  have hlo_v45 : 94 ≤ b13 + 1 + 0 := by omega
                  have hR2_v45 := (congrFun (hX.2.1 b13 hb_b13).2.2 0).trans hR_v45
                  refine y_getR rfl ((hX.2.1 _ hb_b13).1.trans ht_b13) (Nat.lt_of_lt_of_le hb_b13 hX.1) rfl rfl hR2_v45 ?_
                  refine y_iload rfl rfl ?_
                  refine y_iconst rfl ?_
                  refine y_zastore rfl ((hX.2.1 _ hb_v45).1.trans ht_v45) (Nat.lt_of_lt_of_le hb_v45 hX.1) (Nat.le_trans (by decide) (by omega : 94 ≤ _)) (by decide) (by decide) rfl ?_
                  refine y_nameI (fun I46 e46 => ?_)
                  have hR1 := (hR0.grow hX).upV hlo_b13 (by omega) ((hX.2.1 _ hb_b13).1.trans ht_b13) (j := 0) (by decide) e46
                  have hK := (hK.x hRo hno hX).upE hRo hno (upI e46) (by omega) (by omega) (by rw [((hX.2.1 _ hb_v45).1.trans ht_v45)]; decide) (by rw [e46, upd2_ne (.inl (by omega))]; exact Int.le_refl _)
                  have hth := (show I46 83 0 = I6 83 0 by rw [e46, upd2_ne (.inl (by omega))]).trans hth
                  have hzz : ySz I6 I46 := ySz_ofE (upI e46) (by omega)
                  have hS0 := hS
                  have hR0 := hR1
                  have ht_b13 := (hX.2.1 _ hb_b13).1.trans ht_b13
                  have hb_b13 := Nat.lt_of_lt_of_le hb_b13 hX.1
                  have hb0_b13 := hb_b13
                  have ht_v35 := (hX.2.1 _ hb_v35).1.trans ht_v35
                  have hb_v35 := Nat.lt_of_lt_of_le hb_v35 hX.1
                  have hb0_v35 := hb_v35
                  have ht_v42 := (hX.2.1 _ hb_v42).1.trans ht_v42
                  have hb_v42 := Nat.lt_of_lt_of_le hb_v42 hX.1
                  have hb0_v42 := hb_v42
                  have ht_v45 := (hX.2.1 _ hb_v45).1.trans ht_v45
                  have hb_v45 := Nat.lt_of_lt_of_le hb_v45 hX.1
                  have hb0_v45 := hb_v45
                  have hn := Nat.le_refl n
                  have h94 := hS0.1
                  have hX := @yX.rf n tg I46 R
                  have hS := hS0.x hX
                  have hR := hR0.x hn hX
                  have hz := hX.sz h94
                  have hxn := hX.1
                  have hN := hR0.1
                  have hnb := hR0.2.2.2.2.2.2
                  have hthB := hth
                  refine y_aload rfl rfl ?_
                  obtain ⟨hR_v47, hb_v47, ht_v47⟩ := hR0.ven hlo_b13 hb0_b13 ht_b13 (j := 1) (by decide)
                  have hb0_v47 := hb_v47
                  have hb_v47 := Nat.lt_of_lt_of_le hb_v47 hn
                  have hlo_v47 : 94 ≤ b13 + 1 + 1 := by omega
                  have hR2_v47 := (congrFun (hX.2.1 b13 hb_b13).2.2 1).trans hR_v47
                  refine y_getR rfl ((hX.2.1 _ hb_b13).1.trans ht_b13) (Nat.lt_of_lt_of_le hb_b13 hX.1) rfl rfl hR2_v47 ?_
                  refine y_iload rfl rfl ?_
                  refine y_iload_n rfl rfl ?_
                  refine y_iastoreC (j := 8) rfl ((hX.2.1 _ hb_v47).1.trans ht_v47) (Nat.lt_of_lt_of_le hb_v47 hX.1) (Nat.le_trans (by decide) (by omega : 94 ≤ _)) (by decide) (by decide) rfl ?_
                  refine y_nameI (fun I48 e48 => ?_)
                  have hR1 := (hR0.grow hX).capJ hlo_b13 (by omega) ((hX.2.1 _ hb_b13).1.trans ht_b13) (by omega) ⟨by omega, by omega⟩ e48 hk6
                  have hK := (hK.x hRo hno hX).upE hRo hno (upI e48) (by omega) (by omega) (by rw [((hX.2.1 _ hb_v47).1.trans ht_v47)]; decide) (by rw [e48, upd2_ne (.inl (by omega))]; exact Int.le_refl _)
                  have hth := (show I48 83 0 = I46 83 0 by rw [e48, upd2_ne (.inl (by omega))]).trans hth
                  have hzz : ySz I46 I48 := ySz_ofE (upI e48) (by omega)
                  have hS0 := hS
                  have hR0 := hR1
                  have ht_b13 := (hX.2.1 _ hb_b13).1.trans ht_b13
                  have hb_b13 := Nat.lt_of_lt_of_le hb_b13 hX.1
                  have hb0_b13 := hb_b13
                  have ht_v35 := (hX.2.1 _ hb_v35).1.trans ht_v35
                  have hb_v35 := Nat.lt_of_lt_of_le hb_v35 hX.1
                  have hb0_v35 := hb_v35
                  have ht_v42 := (hX.2.1 _ hb_v42).1.trans ht_v42
                  have hb_v42 := Nat.lt_of_lt_of_le hb_v42 hX.1
                  have hb0_v42 := hb_v42
                  have ht_v45 := (hX.2.1 _ hb_v45).1.trans ht_v45
                  have hb_v45 := Nat.lt_of_lt_of_le hb_v45 hX.1
                  have hb0_v45 := hb_v45
                  have ht_v47 := (hX.2.1 _ hb_v47).1.trans ht_v47
                  have hb_v47 := Nat.lt_of_lt_of_le hb_v47 hX.1
                  have hb0_v47 := hb_v47
                  have hn := Nat.le_refl n
                  have h94 := hS0.1
                  have hX := @yX.rf n tg I48 R
                  have hS := hS0.x hX
                  have hR := hR0.x hn hX
                  have hz := hX.sz h94
                  have hxn := hX.1
                  have hN := hR0.1
                  have hnb := hR0.2.2.2.2.2.2
                  have hthB := hth
                  refine y_aload rfl rfl ?_
                  obtain ⟨hR_v49, hb_v49, ht_v49⟩ := hR0.ven hlo_b13 hb0_b13 ht_b13 (j := 2) (by decide)
                  have hb0_v49 := hb_v49
                  have hb_v49 := Nat.lt_of_lt_of_le hb_v49 hn
                  have hlo_v49 : 94 ≤ b13 + 1 + 2 := by omega
                  have hR2_v49 := (congrFun (hX.2.1 b13 hb_b13).2.2 2).trans hR_v49
                  refine y_getR rfl ((hX.2.1 _ hb_b13).1.trans ht_b13) (Nat.lt_of_lt_of_le hb_b13 hX.1) rfl rfl hR2_v49 ?_
                  refine y_iload rfl rfl ?_
                  refine y_iload rfl rfl ?_
                  refine y_iastoreC (j := 8) rfl ((hX.2.1 _ hb_v49).1.trans ht_v49) (Nat.lt_of_lt_of_le hb_v49 hX.1) (Nat.le_trans (by decide) (by omega : 94 ≤ _)) (by decide) (by decide) rfl ?_
                  refine y_nameI (fun I50 e50 => ?_)
                  have hR1 := (hR0.grow hX).upV hlo_b13 (by omega) ((hX.2.1 _ hb_b13).1.trans ht_b13) (j := 2) (by decide) e50
                  have hK := (hK.x hRo hno hX).upE hRo hno (upI e50) (by omega) (by omega) (by rw [((hX.2.1 _ hb_v49).1.trans ht_v49)]; decide) (by rw [e50, upd2_ne (.inl (by omega))]; exact Int.le_refl _)
                  have hth := (show I50 83 0 = I48 83 0 by rw [e50, upd2_ne (.inl (by omega))]).trans hth
                  have hzz : ySz I48 I50 := ySz_ofE (upI e50) (by omega)
                  have hS0 := hS
                  have hR0 := hR1
                  have ht_b13 := (hX.2.1 _ hb_b13).1.trans ht_b13
                  have hb_b13 := Nat.lt_of_lt_of_le hb_b13 hX.1
                  have hb0_b13 := hb_b13
                  have ht_v35 := (hX.2.1 _ hb_v35).1.trans ht_v35
                  have hb_v35 := Nat.lt_of_lt_of_le hb_v35 hX.1
                  have hb0_v35 := hb_v35
                  have ht_v42 := (hX.2.1 _ hb_v42).1.trans ht_v42
                  have hb_v42 := Nat.lt_of_lt_of_le hb_v42 hX.1
                  have hb0_v42 := hb_v42
                  have ht_v45 := (hX.2.1 _ hb_v45).1.trans ht_v45
                  have hb_v45 := Nat.lt_of_lt_of_le hb_v45 hX.1
                  have hb0_v45 := hb_v45
                  have ht_v47 := (hX.2.1 _ hb_v47).1.trans ht_v47
                  have hb_v47 := Nat.lt_of_lt_of_le hb_v47 hX.1
                  have hb0_v47 := hb_v47
                  have ht_v49 := (hX.2.1 _ hb_v49).1.trans ht_v49
                  have hb_v49 := Nat.lt_of_lt_of_le hb_v49 hX.1
                  have hb0_v49 := hb_v49
                  have hn := Nat.le_refl n
                  have h94 := hS0.1
                  have hX := @yX.rf n tg I50 R
                  have hS := hS0.x hX
                  have hR := hR0.x hn hX
                  have hz := hX.sz h94
                  have hxn := hX.1
                  have hN := hR0.1
                  have hnb := hR0.2.2.2.2.2.2
                  have hthB := hth
                  refine y_aload_n rfl rfl ?_
                  refine y_getR rfl (ySh.t hS rfl) (ySh.n hS rfl) rfl rfl (ySh.r hS rfl) ?_
                  refine y_iload rfl rfl ?_
                  refine y_dup2 rfl rfl rfl ?_
                  refine y_ialoadC (j := 8) rfl (ySh.t hS rfl) (ySh.n hS rfl) (by decide) (by decide) rfl ?_
                  refine y_iload_n rfl rfl ?_
                  refine y_isub rfl ?_
                  refine y_iastoreC (j := 8) rfl (ySh.t hS rfl) (ySh.n hS rfl) (Nat.le_of_ble_eq_true rfl) (by decide) (by decide) rfl ?_
                  refine y_nameI (fun I51 e51 => ?_)
                  have hR1 := (hR0.grow hX).arr e51 (by decide)
                  have hK := (hK.x hRo hno hX).upI (upI e51) (by decide) (by decide) (fun i hi => by have := (hRo.l87.2.2.2.2 i hi).2.1; omega) (by rw [e51, upd2_ne (.inl (by omega))]; exact Int.le_refl _)
                  have hth := (show I51 83 0 = I50 83 0 by rw [e51, upd2_ne (.inl (by omega))]).trans hth
                  have hzz : ySz I50 I51 := ySz_ofE (upI e51) (by omega)
                  have hS0 := hS
                  have hR0 := hR1
                  have ht_b13 := (hX.2.1 _ hb_b13).1.trans ht_b13
                  have hb_b13 := Nat.lt_of_lt_of_le hb_b13 hX.1
                  have hb0_b13 := hb_b13
                  have ht_v35 := (hX.2.1 _ hb_v35).1.trans ht_v35
                  have hb_v35 := Nat.lt_of_lt_of_le hb_v35 hX.1
                  have hb0_v35 := hb_v35
                  have ht_v42 := (hX.2.1 _ hb_v42).1.trans ht_v42
                  have hb_v42 := Nat.lt_of_lt_of_le hb_v42 hX.1
                  have hb0_v42 := hb_v42
                  have ht_v45 := (hX.2.1 _ hb_v45).1.trans ht_v45
                  have hb_v45 := Nat.lt_of_lt_of_le hb_v45 hX.1
                  have hb0_v45 := hb_v45
                  have ht_v47 := (hX.2.1 _ hb_v47).1.trans ht_v47
                  have hb_v47 := Nat.lt_of_lt_of_le hb_v47 hX.1
                  have hb0_v47 := hb_v47
                  have ht_v49 := (hX.2.1 _ hb_v49).1.trans ht_v49
                  have hb_v49 := Nat.lt_of_lt_of_le hb_v49 hX.1
                  have hb0_v49 := hb_v49
                  have hn := Nat.le_refl n
                  have h94 := hS0.1
                  have hX := @yX.rf n tg I51 R
                  have hS := hS0.x hX
                  have hR := hR0.x hn hX
                  have hz := hX.sz h94
                  have hxn := hX.1
                  have hN := hR0.1
                  have hnb := hR0.2.2.2.2.2.2
                  have hthB := hth
                  refine y_aload rfl rfl ?_
                  refine y_aload rfl rfl ?_
                  obtain ⟨hR_v52, hb_v52, ht_v52⟩ := hR0.ven hlo_b13 hb0_b13 ht_b13 (j := 2) (by decide)
                  have hb0_v52 := hb_v52
                  have hb_v52 := Nat.lt_of_lt_of_le hb_v52 hn
                  have hlo_v52 : 94 ≤ b13 + 1 + 2 := by omega
                  have hR2_v52 := (congrFun (hX.2.1 b13 hb_b13).2.2 2).trans hR_v52
                  refine y_getR rfl ((hX.2.1 _ hb_b13).1.trans ht_b13) (Nat.lt_of_lt_of_le hb_b13 hX.1) rfl rfl hR2_v52 ?_
                  refine y_virt rfl rfl rfl rfl rfl ((hX.2.1 _ hb_b13).1.trans ht_b13) (Nat.lt_of_lt_of_le hb_b13 hX.1) ?_
                  refine r_all ((hX.2.1 _ hb_v52).1.trans ht_v52) (Nat.lt_of_lt_of_le hb_v52 hX.1) (fun v_ => ?_)
                  refine y_ret1 ?_
                  refine y_ireturn rfl rfl rfl ?_
                  exact hQ _ _ _ _ _ _ _ hS (hR0.grow hX) (hK.x hRo hno hX) (by omega) (by omega)
                · rw [yz_100] at h_44
                  refine y_iconst rfl ?_
                  refine y_goto rfl j_X14_join_131 ?_
                  refine y_iconst rfl ?_
                  refine y_virt rfl rfl rfl rfl rfl (ySh.t hS rfl) (ySh.n hS rfl) ?_
                  refine y_in (M := xm_X14_refuse) (ls := [some _, some _, some _]) rfl rfl rfl ?_
                  refine y_iload_n rfl rfl ?_
                  refine y_if_eqF rfl (by decide) ?_
                  refine y_aload_n rfl rfl ?_
                  refine y_getIv (v := Int32.ofInt (0)) rfl (ySh.t hS rfl) (ySh.n hS rfl) rfl rfl hth ?_
                  refine y_if_neF rfl (by decide) ?_
                  refine y_aload_n rfl rfl ?_
                  refine y_iload_n rfl rfl ?_
                  refine y_putI rfl (ySh.t hS rfl) (ySh.n hS rfl) rfl (Nat.le_of_ble_eq_true rfl) rfl rfl ?_
                  refine y_nameI (fun I53 e53 => ?_)
                  have hR1 := (hR0.grow hX).mod0 e53 (by decide) (by decide)
                  have hK := (hK.x hRo hno hX).upI (upI e53) (by decide) (by decide) (fun i hi => by have := (hRo.l87.2.2.2.2 i hi).2.1; omega) (by rw [e53, upd2_ne (.inr (by decide))]; exact Int.le_refl _)
                  have hth : I53 83 0 = Int32.ofInt (3) := by rw [e53, upd2_self]
                  have hzz : ySz8 I6 I53 := ySz8_of (upI e53) (by rw [e53]; exact ⟨upd2_ne (.inr (by decide)), upd2_ne (.inr (by decide))⟩)
                  have hS0 := hS
                  have hR0 := hR1
                  have ht_b13 := (hX.2.1 _ hb_b13).1.trans ht_b13
                  have hb_b13 := Nat.lt_of_lt_of_le hb_b13 hX.1
                  have hb0_b13 := hb_b13
                  have ht_v35 := (hX.2.1 _ hb_v35).1.trans ht_v35
                  have hb_v35 := Nat.lt_of_lt_of_le hb_v35 hX.1
                  have hb0_v35 := hb_v35
                  have ht_v42 := (hX.2.1 _ hb_v42).1.trans ht_v42
                  have hb_v42 := Nat.lt_of_lt_of_le hb_v42 hX.1
                  have hb0_v42 := hb_v42
                  have hn := Nat.le_refl n
                  have h94 := hS0.1
                  have hX := @yX.rf n tg I53 R
                  have hS := hS0.x hX
                  have hR := hR0.x hn hX
                  have hz := hX.sz h94
                  have hxn := hX.1
                  have hN := hR0.1
                  have hnb := hR0.2.2.2.2.2.2
                  have hthB := hth
                  refine y_aload_n rfl rfl ?_
                  refine y_getIv (v := Int32.ofInt (3)) rfl (ySh.t hS rfl) (ySh.n hS rfl) rfl rfl hth ?_
                  refine y_if_leF rfl (by decide) ?_
                  refine y_iconst rfl ?_
                  refine y_goto rfl j_X14_refuse_28 ?_
                  refine y_ireturn rfl rfl rfl ?_
                  refine y_ret1 ?_
                  refine y_if_eqF rfl (by decide) ?_
                  refine y_iconst rfl ?_
                  refine y_ireturn rfl rfl rfl ?_
                  exact hQ _ _ _ _ _ _ _ hS ((hR0.grow hX).up (Nat.le_succ K) hk6) (hK.x hRo hno hX) (by omega) (by omega)
        · rw [yz_0] at h_12
          rw [yz_100] at h_12
          refine y_ret1 ?_
          refine y_if_neF rfl (by decide) ?_
          refine y_iconst rfl ?_
          refine y_goto rfl j_X14_join_57 ?_
          refine y_iconst rfl ?_
          refine y_virt rfl rfl rfl rfl rfl (ySh.t hS rfl) (ySh.n hS rfl) ?_
          refine y_in (M := xm_X14_refuse) (ls := [some _, some _, some _]) rfl rfl rfl ?_
          refine y_iload_n rfl rfl ?_
          refine y_if_eqF rfl (by decide) ?_
          refine y_aload_n rfl rfl ?_
          refine y_getIv (v := Int32.ofInt (0)) rfl (ySh.t hS rfl) (ySh.n hS rfl) rfl rfl hth ?_
          refine y_if_neF rfl (by decide) ?_
          refine y_aload_n rfl rfl ?_
          refine y_iload_n rfl rfl ?_
          refine y_putI rfl (ySh.t hS rfl) (ySh.n hS rfl) rfl (Nat.le_of_ble_eq_true rfl) rfl rfl ?_
          refine y_nameI (fun I54 e54 => ?_)
          have hR1 := (hR0.grow hX).mod0 e54 (by decide) (by decide)
          have hK := (hK.x hRo hno hX).upI (upI e54) (by decide) (by decide) (fun i hi => by have := (hRo.l87.2.2.2.2 i hi).2.1; omega) (by rw [e54, upd2_ne (.inr (by decide))]; exact Int.le_refl _)
          have hth : I54 83 0 = Int32.ofInt (2) := by rw [e54, upd2_self]
          have hzz : ySz8 I6 I54 := ySz8_of (upI e54) (by rw [e54]; exact ⟨upd2_ne (.inr (by decide)), upd2_ne (.inr (by decide))⟩)
          have hS0 := hS
          have hR0 := hR1
          have hn := Nat.le_refl n
          have h94 := hS0.1
          have hX := @yX.rf n tg I54 R
          have hS := hS0.x hX
          have hR := hR0.x hn hX
          have hz := hX.sz h94
          have hxn := hX.1
          have hN := hR0.1
          have hnb := hR0.2.2.2.2.2.2
          have hthB := hth
          refine y_aload_n rfl rfl ?_
          refine y_getIv (v := Int32.ofInt (2)) rfl (ySh.t hS rfl) (ySh.n hS rfl) rfl rfl hth ?_
          refine y_if_leF rfl (by decide) ?_
          refine y_iconst rfl ?_
          refine y_goto rfl j_X14_refuse_28 ?_
          refine y_ireturn rfl rfl rfl ?_
          refine y_ret1 ?_
          refine y_if_eqF rfl (by decide) ?_
          refine y_iconst rfl ?_
          refine y_ireturn rfl rfl rfl ?_
          exact hQ _ _ _ _ _ _ _ hS ((hR0.grow hX).up (Nat.le_succ K) hk6) (hK.x hRo hno hX) (by omega) (by omega)
      · rw [yz_1] at h_9
        rw [yz_999] at h_9
        refine y_ret1 ?_
        refine y_if_eqT rfl j_X14_join_52 (by decide) ?_
        refine y_iconst rfl ?_
        refine y_goto rfl j_X14_join_57 ?_
        refine y_iconst rfl ?_
        refine y_virt rfl rfl rfl rfl rfl (ySh.t hS rfl) (ySh.n hS rfl) ?_
        refine y_in (M := xm_X14_refuse) (ls := [some _, some _, some _]) rfl rfl rfl ?_
        refine y_iload_n rfl rfl ?_
        refine y_if_eqF rfl (by decide) ?_
        refine y_aload_n rfl rfl ?_
        refine y_getIv (v := Int32.ofInt (0)) rfl (ySh.t hS rfl) (ySh.n hS rfl) rfl rfl hth ?_
        refine y_if_neF rfl (by decide) ?_
        refine y_aload_n rfl rfl ?_
        refine y_iload_n rfl rfl ?_
        refine y_putI rfl (ySh.t hS rfl) (ySh.n hS rfl) rfl (Nat.le_of_ble_eq_true rfl) rfl rfl ?_
        refine y_nameI (fun I55 e55 => ?_)
        have hR1 := (hR0.grow hX).mod0 e55 (by decide) (by decide)
        have hK := (hK.x hRo hno hX).upI (upI e55) (by decide) (by decide) (fun i hi => by have := (hRo.l87.2.2.2.2 i hi).2.1; omega) (by rw [e55, upd2_ne (.inr (by decide))]; exact Int.le_refl _)
        have hth : I55 83 0 = Int32.ofInt (2) := by rw [e55, upd2_self]
        have hzz : ySz8 I6 I55 := ySz8_of (upI e55) (by rw [e55]; exact ⟨upd2_ne (.inr (by decide)), upd2_ne (.inr (by decide))⟩)
        have hS0 := hS
        have hR0 := hR1
        have hn := Nat.le_refl n
        have h94 := hS0.1
        have hX := @yX.rf n tg I55 R
        have hS := hS0.x hX
        have hR := hR0.x hn hX
        have hz := hX.sz h94
        have hxn := hX.1
        have hN := hR0.1
        have hnb := hR0.2.2.2.2.2.2
        have hthB := hth
        refine y_aload_n rfl rfl ?_
        refine y_getIv (v := Int32.ofInt (2)) rfl (ySh.t hS rfl) (ySh.n hS rfl) rfl rfl hth ?_
        refine y_if_leF rfl (by decide) ?_
        refine y_iconst rfl ?_
        refine y_goto rfl j_X14_refuse_28 ?_
        refine y_ireturn rfl rfl rfl ?_
        refine y_ret1 ?_
        refine y_if_eqF rfl (by decide) ?_
        refine y_iconst rfl ?_
        refine y_ireturn rfl rfl rfl ?_
        exact hQ _ _ _ _ _ _ _ hS ((hR0.grow hX).up (Nat.le_succ K) hk6) (hK.x hRo hno hX) (by omega) (by omega)
    · rw [yz_m1] at h_5
      refine y_aload_n rfl rfl ?_
      refine y_iload_n rfl rfl ?_
      refine y_virt rfl rfl rfl rfl rfl (ySh.t hS rfl) (ySh.n hS rfl) ?_
      refine y_in (M := xm_X14_isNobody) (ls := [some _, some _]) rfl rfl rfl ?_
      refine y_iload_n rfl rfl ?_
      refine y_iconst rfl ?_
      refine y_aload_n rfl rfl ?_
      refine y_getI rfl (ySh.t hS rfl) (ySh.n hS rfl) rfl rfl ?_
      refine y_iconst rfl ?_
      refine y_isub rfl ?_
      refine y_static rfl rfl rfl rfl rfl ?_
      refine r_isIn (fun h_56 h_57 => ?_) (fun h_58 => ?_)
      · rw [yz_0] at h_56
        try rw [ysub (by rw [yz_1]; omega) (by rw [yz_1]; omega), yz_1] at h_57
        refine y_ret1 ?_
        refine y_if_neT rfl j_X14_isNobody_18 (by decide) ?_
        refine y_iconst rfl ?_
        refine y_ireturn rfl rfl rfl ?_
        refine y_ret1 ?_
        refine y_if_eqT rfl j_X14_isNoOne_17 (by decide) ?_
        refine y_iconst rfl ?_
        refine y_ireturn rfl rfl rfl ?_
        refine y_ret1 ?_
        refine y_if_eqT rfl j_X14_join_21 (by decide) ?_
        refine y_iconst rfl ?_
        refine y_iconst rfl ?_
        refine y_virt rfl rfl rfl rfl rfl (ySh.t hS rfl) (ySh.n hS rfl) ?_
        refine y_in (M := xm_X14_start) (ls := [some _, some _, some _]) rfl rfl rfl ?_
        refine y_aload_n rfl rfl ?_
        refine y_iconst rfl ?_
        refine y_putI rfl (ySh.t hS rfl) (ySh.n hS rfl) rfl (Nat.le_of_ble_eq_true rfl) rfl rfl ?_
        refine y_nameI (fun I59 e59 => ?_)
        have hR1 := (hR0.grow hX).mod0 e59 (by decide) (by decide)
        have hK := (hK.x hRo hno hX).upI (upI e59) (by decide) (by decide) (fun i hi => by have := (hRo.l87.2.2.2.2 i hi).2.1; omega) (by rw [e59, upd2_ne (.inr (by decide))]; exact Int.le_refl _)
        have hth : I59 83 0 = Int32.ofInt (0) := by rw [e59, upd2_self]
        have hzz : ySz8 I I59 := ySz8_of (upI e59) (by rw [e59]; exact ⟨upd2_ne (.inr (by decide)), upd2_ne (.inr (by decide))⟩)
        have hS0 := hS
        have hR0 := hR1
        have hn := Nat.le_refl n
        have h94 := hS0.1
        have hX := @yX.rf n tg I59 R
        have hS := hS0.x hX
        have hR := hR0.x hn hX
        have hz := hX.sz h94
        have hxn := hX.1
        have hN := hR0.1
        have hnb := hR0.2.2.2.2.2.2
        have hthB := hth
        refine y_aload_n rfl rfl ?_
        refine y_iload_n rfl rfl ?_
        refine y_iload_n rfl rfl ?_
        refine y_virt rfl rfl rfl rfl rfl (ySh.t hS rfl) (ySh.n hS rfl) ?_
        refine y_in (M := xm_X14_refuse) (ls := [some _, some _, some _]) rfl rfl rfl ?_
        refine y_iload_n rfl rfl ?_
        refine y_if_eqT rfl j_X14_refuse_16 (by decide) ?_
        refine y_aload_n rfl rfl ?_
        refine y_getIv (v := Int32.ofInt (0)) rfl (ySh.t hS rfl) (ySh.n hS rfl) rfl rfl hth ?_
        refine y_if_leT rfl j_X14_refuse_27 (by decide) ?_
        refine y_iconst rfl ?_
        refine y_ireturn rfl rfl rfl ?_
        refine y_ret1 ?_
        refine y_ireturn rfl rfl rfl ?_
        refine y_ret1 ?_
        refine y_if_neF rfl (by decide) ?_
        refine y_aload_n rfl rfl ?_
        refine y_iload_n rfl rfl ?_
        refine y_iconst rfl ?_
        refine y_sip rfl (by decide) ?_
        refine y_static rfl rfl rfl rfl rfl ?_
        refine r_isIn (fun h_60 h_61 => ?_) (fun h_62 => ?_)
        · rw [yz_1] at h_60
          rw [yz_999] at h_61
          refine y_ret1 ?_
          refine y_if_eqF rfl (by decide) ?_
          refine y_iload rfl rfl ?_
          refine y_iconst rfl ?_
          refine y_bip rfl (by decide) ?_
          refine y_static rfl rfl rfl rfl rfl ?_
          refine r_isIn (fun h_63 h_64 => ?_) (fun h_65 => ?_)
          · rw [yz_0] at h_63
            rw [yz_100] at h_64
            refine y_ret1 ?_
            refine y_if_neT rfl j_X14_join_56 (by decide) ?_
            refine y_iconst rfl ?_
            refine y_iconst rfl ?_
            refine y_virt rfl rfl rfl rfl rfl (ySh.t hS rfl) (ySh.n hS rfl) ?_
            refine y_in (M := xm_X14_refuse) (ls := [some _, some _, some _]) rfl rfl rfl ?_
            refine y_iload_n rfl rfl ?_
            refine y_if_eqT rfl j_X14_refuse_16 (by decide) ?_
            refine y_aload_n rfl rfl ?_
            refine y_getIv (v := Int32.ofInt (0)) rfl (ySh.t hS rfl) (ySh.n hS rfl) rfl rfl hth ?_
            refine y_if_leT rfl j_X14_refuse_27 (by decide) ?_
            refine y_iconst rfl ?_
            refine y_ireturn rfl rfl rfl ?_
            refine y_ret1 ?_
            refine y_if_eqT rfl j_X14_join_66 (by decide) ?_
            refine y_aload_n rfl rfl ?_
            refine y_getR rfl (ySh.t hS rfl) (ySh.n hS rfl) rfl rfl (ySh.r hS rfl) ?_
            refine y_iload_n rfl rfl ?_
            refine y_virt rfl rfl rfl rfl rfl (ySh.t hS rfl) (ySh.n hS rfl) ?_
            refine l_get (nb := n) (ySh.t hS rfl) (ySh.n hS rfl) (Nat.le_trans hn hX.1) hR.l91 (by omega) (by omega) (fun b66 eb_b66 hlo_b66 hb0_b66 ht_b66 => ?_)
            have hb_b66 := Nat.lt_of_lt_of_le hb0_b66 hn
            replace ht_b66 := (hX.2.1 _ hb_b66).1.symm.trans ht_b66
            refine y_ret1 ?_
            refine y_cast rfl ((hX.2.1 _ hb_b66).1.trans ht_b66) (Nat.lt_of_lt_of_le hb_b66 hX.1) ?_
            refine y_astore (ls' := [some _, some _, some _, some _, some _, some _, _]) rfl rfl rfl ?_
            refine y_iload_n rfl rfl ?_
            refine y_static rfl rfl rfl rfl rfl ?_
            refine y_in (M := xm_X14_seat) (ls := [some _]) rfl rfl rfl ?_
            refine y_iload_n rfl rfl ?_
            refine y_iconst rfl ?_
            refine y_icmp_ne rfl j_X14_seat_10 (fun h_67 => ?_) (fun h_68 => ?_)
            · rw [yz_m1] at h_67
              refine y_iload_n rfl rfl ?_
              refine y_ireturn rfl rfl rfl ?_
              refine y_ret1 ?_
              refine y_istore (ls' := [some _, some _, some _, some _, some _, some _, some _]) rfl rfl rfl ?_
              refine y_aload_n rfl rfl ?_
              refine y_aload rfl rfl ?_
              obtain ⟨hR_v69, hb_v69, ht_v69⟩ := hR0.ven hlo_b66 hb0_b66 ht_b66 (j := 0) (by decide)
              have hb0_v69 := hb_v69
              have hb_v69 := Nat.lt_of_lt_of_le hb_v69 hn
              have hlo_v69 : 94 ≤ b66 + 1 + 0 := by omega
              have hR2_v69 := (congrFun (hX.2.1 b66 hb_b66).2.2 0).trans hR_v69
              refine y_getR rfl ((hX.2.1 _ hb_b66).1.trans ht_b66) (Nat.lt_of_lt_of_le hb_b66 hX.1) rfl rfl hR2_v69 ?_
              refine y_iload rfl rfl ?_
              refine y_baload rfl ((hX.2.1 _ hb_v69).1.trans ht_v69) rfl (Nat.lt_of_lt_of_le hb_v69 hX.1) (by omega) (by omega) ?_
              refine y_if_ne rfl j_X14_join_126 (fun h_70 => ?_) (fun h_71 => ?_)
              · refine y_iconst rfl ?_
                refine y_goto rfl j_X14_join_131 ?_
                refine y_iconst rfl ?_
                refine y_virt rfl rfl rfl rfl rfl (ySh.t hS rfl) (ySh.n hS rfl) ?_
                refine y_in (M := xm_X14_refuse) (ls := [some _, some _, some _]) rfl rfl rfl ?_
                refine y_iload_n rfl rfl ?_
                refine y_if_eqF rfl (by decide) ?_
                refine y_aload_n rfl rfl ?_
                refine y_getIv (v := Int32.ofInt (0)) rfl (ySh.t hS rfl) (ySh.n hS rfl) rfl rfl hth ?_
                refine y_if_neF rfl (by decide) ?_
                refine y_aload_n rfl rfl ?_
                refine y_iload_n rfl rfl ?_
                refine y_putI rfl (ySh.t hS rfl) (ySh.n hS rfl) rfl (Nat.le_of_ble_eq_true rfl) rfl rfl ?_
                refine y_nameI (fun I72 e72 => ?_)
                have hR1 := (hR0.grow hX).mod0 e72 (by decide) (by decide)
                have hK := (hK.x hRo hno hX).upI (upI e72) (by decide) (by decide) (fun i hi => by have := (hRo.l87.2.2.2.2 i hi).2.1; omega) (by rw [e72, upd2_ne (.inr (by decide))]; exact Int.le_refl _)
                have hth : I72 83 0 = Int32.ofInt (3) := by rw [e72, upd2_self]
                have hzz : ySz8 I59 I72 := ySz8_of (upI e72) (by rw [e72]; exact ⟨upd2_ne (.inr (by decide)), upd2_ne (.inr (by decide))⟩)
                have hS0 := hS
                have hR0 := hR1
                have ht_b66 := (hX.2.1 _ hb_b66).1.trans ht_b66
                have hb_b66 := Nat.lt_of_lt_of_le hb_b66 hX.1
                have hb0_b66 := hb_b66
                have ht_v69 := (hX.2.1 _ hb_v69).1.trans ht_v69
                have hb_v69 := Nat.lt_of_lt_of_le hb_v69 hX.1
                have hb0_v69 := hb_v69
                have hn := Nat.le_refl n
                have h94 := hS0.1
                have hX := @yX.rf n tg I72 R
                have hS := hS0.x hX
                have hR := hR0.x hn hX
                have hz := hX.sz h94
                have hxn := hX.1
                have hN := hR0.1
                have hnb := hR0.2.2.2.2.2.2
                have hthB := hth
                refine y_aload_n rfl rfl ?_
                refine y_getIv (v := Int32.ofInt (3)) rfl (ySh.t hS rfl) (ySh.n hS rfl) rfl rfl hth ?_
                refine y_if_leF rfl (by decide) ?_
                refine y_iconst rfl ?_
                refine y_goto rfl j_X14_refuse_28 ?_
                refine y_ireturn rfl rfl rfl ?_
                refine y_ret1 ?_
                refine y_if_eqF rfl (by decide) ?_
                refine y_iconst rfl ?_
                refine y_ireturn rfl rfl rfl ?_
                exact hQ _ _ _ _ _ _ _ hS ((hR0.grow hX).up (Nat.le_succ K) hk6) (hK.x hRo hno hX) (by omega) (by omega)
              · refine y_aload_n rfl rfl ?_
                refine y_getR rfl (ySh.t hS rfl) (ySh.n hS rfl) rfl rfl (ySh.r hS rfl) ?_
                refine y_iload rfl rfl ?_
                refine y_iaload rfl (ySh.t hS rfl) (ySh.n hS rfl) (by omega) (by omega) ?_
                refine y_iload_n rfl rfl ?_
                refine y_icmp_lt rfl j_X14_join_126 (fun h_73 => ?_) (fun h_74 => ?_)
                · refine y_iconst rfl ?_
                  refine y_goto rfl j_X14_join_131 ?_
                  refine y_iconst rfl ?_
                  refine y_virt rfl rfl rfl rfl rfl (ySh.t hS rfl) (ySh.n hS rfl) ?_
                  refine y_in (M := xm_X14_refuse) (ls := [some _, some _, some _]) rfl rfl rfl ?_
                  refine y_iload_n rfl rfl ?_
                  refine y_if_eqF rfl (by decide) ?_
                  refine y_aload_n rfl rfl ?_
                  refine y_getIv (v := Int32.ofInt (0)) rfl (ySh.t hS rfl) (ySh.n hS rfl) rfl rfl hth ?_
                  refine y_if_neF rfl (by decide) ?_
                  refine y_aload_n rfl rfl ?_
                  refine y_iload_n rfl rfl ?_
                  refine y_putI rfl (ySh.t hS rfl) (ySh.n hS rfl) rfl (Nat.le_of_ble_eq_true rfl) rfl rfl ?_
                  refine y_nameI (fun I75 e75 => ?_)
                  have hR1 := (hR0.grow hX).mod0 e75 (by decide) (by decide)
                  have hK := (hK.x hRo hno hX).upI (upI e75) (by decide) (by decide) (fun i hi => by have := (hRo.l87.2.2.2.2 i hi).2.1; omega) (by rw [e75, upd2_ne (.inr (by decide))]; exact Int.le_refl _)
                  have hth : I75 83 0 = Int32.ofInt (3) := by rw [e75, upd2_self]
                  have hzz : ySz8 I59 I75 := ySz8_of (upI e75) (by rw [e75]; exact ⟨upd2_ne (.inr (by decide)), upd2_ne (.inr (by decide))⟩)
                  have hS0 := hS
                  have hR0 := hR1
                  have ht_b66 := (hX.2.1 _ hb_b66).1.trans ht_b66
                  have hb_b66 := Nat.lt_of_lt_of_le hb_b66 hX.1
                  have hb0_b66 := hb_b66
                  have ht_v69 := (hX.2.1 _ hb_v69).1.trans ht_v69
                  have hb_v69 := Nat.lt_of_lt_of_le hb_v69 hX.1
                  have hb0_v69 := hb_v69
                  have hn := Nat.le_refl n
                  have h94 := hS0.1
                  have hX := @yX.rf n tg I75 R
                  have hS := hS0.x hX
                  have hR := hR0.x hn hX
                  have hz := hX.sz h94
                  have hxn := hX.1
                  have hN := hR0.1
                  have hnb := hR0.2.2.2.2.2.2
                  have hthB := hth
                  refine y_aload_n rfl rfl ?_
                  refine y_getIv (v := Int32.ofInt (3)) rfl (ySh.t hS rfl) (ySh.n hS rfl) rfl rfl hth ?_
                  refine y_if_leF rfl (by decide) ?_
                  refine y_iconst rfl ?_
                  refine y_goto rfl j_X14_refuse_28 ?_
                  refine y_ireturn rfl rfl rfl ?_
                  refine y_ret1 ?_
                  refine y_if_eqF rfl (by decide) ?_
                  refine y_iconst rfl ?_
                  refine y_ireturn rfl rfl rfl ?_
                  exact hQ _ _ _ _ _ _ _ hS ((hR0.grow hX).up (Nat.le_succ K) hk6) (hK.x hRo hno hX) (by omega) (by omega)
                · refine y_aload rfl rfl ?_
                  refine y_aload rfl rfl ?_
                  obtain ⟨hR_v76, hb_v76, ht_v76⟩ := hR0.ven hlo_b66 hb0_b66 ht_b66 (j := 2) (by decide)
                  have hb0_v76 := hb_v76
                  have hb_v76 := Nat.lt_of_lt_of_le hb_v76 hn
                  have hlo_v76 : 94 ≤ b66 + 1 + 2 := by omega
                  have hR2_v76 := (congrFun (hX.2.1 b66 hb_b66).2.2 2).trans hR_v76
                  refine y_getR rfl ((hX.2.1 _ hb_b66).1.trans ht_b66) (Nat.lt_of_lt_of_le hb_b66 hX.1) rfl rfl hR2_v76 ?_
                  refine y_virt rfl rfl rfl rfl rfl ((hX.2.1 _ hb_b66).1.trans ht_b66) (Nat.lt_of_lt_of_le hb_b66 hX.1) ?_
                  refine r_all ((hX.2.1 _ hb_v76).1.trans ht_v76) (Nat.lt_of_lt_of_le hb_v76 hX.1) (fun v_ => ?_)
                  refine y_ret1 ?_
                  refine y_iload rfl rfl ?_
                  refine y_iadd rfl ?_
                  refine y_bip rfl (by decide) ?_
                  refine y_icmp_le rfl j_X14_join_130 (fun h_77 => ?_) (fun h_78 => ?_)
                  · rw [yz_100] at h_77
                    refine y_iconst rfl ?_
                    refine y_iconst rfl ?_
                    refine y_virt rfl rfl rfl rfl rfl (ySh.t hS rfl) (ySh.n hS rfl) ?_
                    refine y_in (M := xm_X14_refuse) (ls := [some _, some _, some _]) rfl rfl rfl ?_
                    refine y_iload_n rfl rfl ?_
                    refine y_if_eqT rfl j_X14_refuse_16 (by decide) ?_
                    refine y_aload_n rfl rfl ?_
                    refine y_getIv (v := Int32.ofInt (0)) rfl (ySh.t hS rfl) (ySh.n hS rfl) rfl rfl hth ?_
                    refine y_if_leT rfl j_X14_refuse_27 (by decide) ?_
                    refine y_iconst rfl ?_
                    refine y_ireturn rfl rfl rfl ?_
                    refine y_ret1 ?_
                    refine y_if_eqT rfl j_X14_join_140 (by decide) ?_
                    refine y_aload rfl rfl ?_
                    obtain ⟨hR_v79, hb_v79, ht_v79⟩ := hR0.ven hlo_b66 hb0_b66 ht_b66 (j := 0) (by decide)
                    have hb0_v79 := hb_v79
                    have hb_v79 := Nat.lt_of_lt_of_le hb_v79 hn
                    have hlo_v79 : 94 ≤ b66 + 1 + 0 := by omega
                    have hR2_v79 := (congrFun (hX.2.1 b66 hb_b66).2.2 0).trans hR_v79
                    refine y_getR rfl ((hX.2.1 _ hb_b66).1.trans ht_b66) (Nat.lt_of_lt_of_le hb_b66 hX.1) rfl rfl hR2_v79 ?_
                    refine y_iload rfl rfl ?_
                    refine y_iconst rfl ?_
                    refine y_zastore rfl ((hX.2.1 _ hb_v79).1.trans ht_v79) (Nat.lt_of_lt_of_le hb_v79 hX.1) (Nat.le_trans (by decide) (by omega : 94 ≤ _)) (by omega) (by omega) rfl ?_
                    refine y_nameI (fun I80 e80 => ?_)
                    have hR1 := (hR0.grow hX).upV hlo_b66 (by omega) ((hX.2.1 _ hb_b66).1.trans ht_b66) (j := 0) (by decide) e80
                    have hK := (hK.x hRo hno hX).upE hRo hno (upI e80) (by omega) (by omega) (by rw [((hX.2.1 _ hb_v79).1.trans ht_v79)]; decide) (by rw [e80, upd2_ne (.inl (by omega))]; exact Int.le_refl _)
                    have hth := (show I80 83 0 = I59 83 0 by rw [e80, upd2_ne (.inl (by omega))]).trans hth
                    have hzz : ySz I59 I80 := ySz_ofE (upI e80) (by omega)
                    have hS0 := hS
                    have hR0 := hR1
                    have ht_b66 := (hX.2.1 _ hb_b66).1.trans ht_b66
                    have hb_b66 := Nat.lt_of_lt_of_le hb_b66 hX.1
                    have hb0_b66 := hb_b66
                    have ht_v69 := (hX.2.1 _ hb_v69).1.trans ht_v69
                    have hb_v69 := Nat.lt_of_lt_of_le hb_v69 hX.1
                    have hb0_v69 := hb_v69
                    have ht_v76 := (hX.2.1 _ hb_v76).1.trans ht_v76
                    have hb_v76 := Nat.lt_of_lt_of_le hb_v76 hX.1
                    have hb0_v76 := hb_v76
                    have ht_v79 := (hX.2.1 _ hb_v79).1.trans ht_v79
                    have hb_v79 := Nat.lt_of_lt_of_le hb_v79 hX.1
                    have hb0_v79 := hb_v79
                    have hn := Nat.le_refl n
                    have h94 := hS0.1
                    have hX := @yX.rf n tg I80 R
                    have hS := hS0.x hX
                    have hR := hR0.x hn hX
                    have hz := hX.sz h94
                    have hxn := hX.1
                    have hN := hR0.1
                    have hnb := hR0.2.2.2.2.2.2
                    have hthB := hth
                    refine y_aload rfl rfl ?_
                    obtain ⟨hR_v81, hb_v81, ht_v81⟩ := hR0.ven hlo_b66 hb0_b66 ht_b66 (j := 1) (by decide)
                    have hb0_v81 := hb_v81
                    have hb_v81 := Nat.lt_of_lt_of_le hb_v81 hn
                    have hlo_v81 : 94 ≤ b66 + 1 + 1 := by omega
                    have hR2_v81 := (congrFun (hX.2.1 b66 hb_b66).2.2 1).trans hR_v81
                    refine y_getR rfl ((hX.2.1 _ hb_b66).1.trans ht_b66) (Nat.lt_of_lt_of_le hb_b66 hX.1) rfl rfl hR2_v81 ?_
                    refine y_iload rfl rfl ?_
                    refine y_iload_n rfl rfl ?_
                    refine y_iastore rfl ((hX.2.1 _ hb_v81).1.trans ht_v81) (Nat.lt_of_lt_of_le hb_v81 hX.1) (Nat.le_trans (by decide) (by omega : 94 ≤ _)) (by omega) (by omega) ?_
                    refine y_nameI (fun I82 e82 => ?_)
                    have hR1 := (hR0.grow hX).capJ hlo_b66 (by omega) ((hX.2.1 _ hb_b66).1.trans ht_b66) (by omega) ⟨by omega, by omega⟩ e82 hk6
                    have hK := (hK.x hRo hno hX).upE hRo hno (upI e82) (by omega) (by omega) (by rw [((hX.2.1 _ hb_v81).1.trans ht_v81)]; decide) (by rw [e82, upd2_ne (.inl (by omega))]; exact Int.le_refl _)
                    have hth := (show I82 83 0 = I80 83 0 by rw [e82, upd2_ne (.inl (by omega))]).trans hth
                    have hzz : ySz I80 I82 := ySz_ofE (upI e82) (by omega)
                    have hS0 := hS
                    have hR0 := hR1
                    have ht_b66 := (hX.2.1 _ hb_b66).1.trans ht_b66
                    have hb_b66 := Nat.lt_of_lt_of_le hb_b66 hX.1
                    have hb0_b66 := hb_b66
                    have ht_v69 := (hX.2.1 _ hb_v69).1.trans ht_v69
                    have hb_v69 := Nat.lt_of_lt_of_le hb_v69 hX.1
                    have hb0_v69 := hb_v69
                    have ht_v76 := (hX.2.1 _ hb_v76).1.trans ht_v76
                    have hb_v76 := Nat.lt_of_lt_of_le hb_v76 hX.1
                    have hb0_v76 := hb_v76
                    have ht_v79 := (hX.2.1 _ hb_v79).1.trans ht_v79
                    have hb_v79 := Nat.lt_of_lt_of_le hb_v79 hX.1
                    have hb0_v79 := hb_v79
                    have ht_v81 := (hX.2.1 _ hb_v81).1.trans ht_v81
                    have hb_v81 := Nat.lt_of_lt_of_le hb_v81 hX.1
                    have hb0_v81 := hb_v81
                    have hn := Nat.le_refl n
                    have h94 := hS0.1
                    have hX := @yX.rf n tg I82 R
                    have hS := hS0.x hX
                    have hR := hR0.x hn hX
                    have hz := hX.sz h94
                    have hxn := hX.1
                    have hN := hR0.1
                    have hnb := hR0.2.2.2.2.2.2
                    have hthB := hth
                    refine y_aload rfl rfl ?_
                    obtain ⟨hR_v83, hb_v83, ht_v83⟩ := hR0.ven hlo_b66 hb0_b66 ht_b66 (j := 2) (by decide)
                    have hb0_v83 := hb_v83
                    have hb_v83 := Nat.lt_of_lt_of_le hb_v83 hn
                    have hlo_v83 : 94 ≤ b66 + 1 + 2 := by omega
                    have hR2_v83 := (congrFun (hX.2.1 b66 hb_b66).2.2 2).trans hR_v83
                    refine y_getR rfl ((hX.2.1 _ hb_b66).1.trans ht_b66) (Nat.lt_of_lt_of_le hb_b66 hX.1) rfl rfl hR2_v83 ?_
                    refine y_iload rfl rfl ?_
                    refine y_iload rfl rfl ?_
                    refine y_iastore rfl ((hX.2.1 _ hb_v83).1.trans ht_v83) (Nat.lt_of_lt_of_le hb_v83 hX.1) (Nat.le_trans (by decide) (by omega : 94 ≤ _)) (by omega) (by omega) ?_
                    refine y_nameI (fun I84 e84 => ?_)
                    have hR1 := (hR0.grow hX).upV hlo_b66 (by omega) ((hX.2.1 _ hb_b66).1.trans ht_b66) (j := 2) (by decide) e84
                    have hK := (hK.x hRo hno hX).upE hRo hno (upI e84) (by omega) (by omega) (by rw [((hX.2.1 _ hb_v83).1.trans ht_v83)]; decide) (by rw [e84, upd2_ne (.inl (by omega))]; exact Int.le_refl _)
                    have hth := (show I84 83 0 = I82 83 0 by rw [e84, upd2_ne (.inl (by omega))]).trans hth
                    have hzz : ySz I82 I84 := ySz_ofE (upI e84) (by omega)
                    have hS0 := hS
                    have hR0 := hR1
                    have ht_b66 := (hX.2.1 _ hb_b66).1.trans ht_b66
                    have hb_b66 := Nat.lt_of_lt_of_le hb_b66 hX.1
                    have hb0_b66 := hb_b66
                    have ht_v69 := (hX.2.1 _ hb_v69).1.trans ht_v69
                    have hb_v69 := Nat.lt_of_lt_of_le hb_v69 hX.1
                    have hb0_v69 := hb_v69
                    have ht_v76 := (hX.2.1 _ hb_v76).1.trans ht_v76
                    have hb_v76 := Nat.lt_of_lt_of_le hb_v76 hX.1
                    have hb0_v76 := hb_v76
                    have ht_v79 := (hX.2.1 _ hb_v79).1.trans ht_v79
                    have hb_v79 := Nat.lt_of_lt_of_le hb_v79 hX.1
                    have hb0_v79 := hb_v79
                    have ht_v81 := (hX.2.1 _ hb_v81).1.trans ht_v81
                    have hb_v81 := Nat.lt_of_lt_of_le hb_v81 hX.1
                    have hb0_v81 := hb_v81
                    have ht_v83 := (hX.2.1 _ hb_v83).1.trans ht_v83
                    have hb_v83 := Nat.lt_of_lt_of_le hb_v83 hX.1
                    have hb0_v83 := hb_v83
                    have hn := Nat.le_refl n
                    have h94 := hS0.1
                    have hX := @yX.rf n tg I84 R
                    have hS := hS0.x hX
                    have hR := hR0.x hn hX
                    have hz := hX.sz h94
                    have hxn := hX.1
                    have hN := hR0.1
                    have hnb := hR0.2.2.2.2.2.2
                    have hthB := hth
                    refine y_aload_n rfl rfl ?_
                    refine y_getR rfl (ySh.t hS rfl) (ySh.n hS rfl) rfl rfl (ySh.r hS rfl) ?_
                    refine y_iload rfl rfl ?_
                    refine y_dup2 rfl rfl rfl ?_
                    refine y_iaload rfl (ySh.t hS rfl) (ySh.n hS rfl) (by omega) (by omega) ?_
                    refine y_iload_n rfl rfl ?_
                    refine y_isub rfl ?_
                    refine y_iastore rfl (ySh.t hS rfl) (ySh.n hS rfl) (Nat.le_of_ble_eq_true rfl) (by omega) (by omega) ?_
                    refine y_nameI (fun I85 e85 => ?_)
                    have hR1 := (hR0.grow hX).arr e85 (by decide)
                    have hK := (hK.x hRo hno hX).upI (upI e85) (by decide) (by decide) (fun i hi => by have := (hRo.l87.2.2.2.2 i hi).2.1; omega) (by rw [e85, upd2_ne (.inl (by omega))]; exact Int.le_refl _)
                    have hth := (show I85 83 0 = I84 83 0 by rw [e85, upd2_ne (.inl (by omega))]).trans hth
                    have hzz : ySz I84 I85 := ySz_ofE (upI e85) (by omega)
                    have hS0 := hS
                    have hR0 := hR1
                    have ht_b66 := (hX.2.1 _ hb_b66).1.trans ht_b66
                    have hb_b66 := Nat.lt_of_lt_of_le hb_b66 hX.1
                    have hb0_b66 := hb_b66
                    have ht_v69 := (hX.2.1 _ hb_v69).1.trans ht_v69
                    have hb_v69 := Nat.lt_of_lt_of_le hb_v69 hX.1
                    have hb0_v69 := hb_v69
                    have ht_v76 := (hX.2.1 _ hb_v76).1.trans ht_v76
                    have hb_v76 := Nat.lt_of_lt_of_le hb_v76 hX.1
                    have hb0_v76 := hb_v76
                    have ht_v79 := (hX.2.1 _ hb_v79).1.trans ht_v79
                    have hb_v79 := Nat.lt_of_lt_of_le hb_v79 hX.1
                    have hb0_v79 := hb_v79
                    have ht_v81 := (hX.2.1 _ hb_v81).1.trans ht_v81
                    have hb_v81 := Nat.lt_of_lt_of_le hb_v81 hX.1
                    have hb0_v81 := hb_v81
                    have ht_v83 := (hX.2.1 _ hb_v83).1.trans ht_v83
                    have hb_v83 := Nat.lt_of_lt_of_le hb_v83 hX.1
                    have hb0_v83 := hb_v83
                    have hn := Nat.le_refl n
                    have h94 := hS0.1
                    have hX := @yX.rf n tg I85 R
                    have hS := hS0.x hX
                    have hR := hR0.x hn hX
                    have hz := hX.sz h94
                    have hxn := hX.1
                    have hN := hR0.1
                    have hnb := hR0.2.2.2.2.2.2
                    have hthB := hth
                    refine y_aload rfl rfl ?_
                    refine y_aload rfl rfl ?_
                    obtain ⟨hR_v86, hb_v86, ht_v86⟩ := hR0.ven hlo_b66 hb0_b66 ht_b66 (j := 2) (by decide)
                    have hb0_v86 := hb_v86
                    have hb_v86 := Nat.lt_of_lt_of_le hb_v86 hn
                    have hlo_v86 : 94 ≤ b66 + 1 + 2 := by omega
                    have hR2_v86 := (congrFun (hX.2.1 b66 hb_b66).2.2 2).trans hR_v86
                    refine y_getR rfl ((hX.2.1 _ hb_b66).1.trans ht_b66) (Nat.lt_of_lt_of_le hb_b66 hX.1) rfl rfl hR2_v86 ?_
                    refine y_virt rfl rfl rfl rfl rfl ((hX.2.1 _ hb_b66).1.trans ht_b66) (Nat.lt_of_lt_of_le hb_b66 hX.1) ?_
                    refine r_all ((hX.2.1 _ hb_v86).1.trans ht_v86) (Nat.lt_of_lt_of_le hb_v86 hX.1) (fun v_ => ?_)
                    refine y_ret1 ?_
                    refine y_ireturn rfl rfl rfl ?_
                    exact hQ _ _ _ _ _ _ _ hS (hR0.grow hX) (hK.x hRo hno hX) (by omega) (by omega)
                  · rw [yz_100] at h_78
                    refine y_iconst rfl ?_
                    refine y_goto rfl j_X14_join_131 ?_
                    refine y_iconst rfl ?_
                    refine y_virt rfl rfl rfl rfl rfl (ySh.t hS rfl) (ySh.n hS rfl) ?_
                    refine y_in (M := xm_X14_refuse) (ls := [some _, some _, some _]) rfl rfl rfl ?_
                    refine y_iload_n rfl rfl ?_
                    refine y_if_eqF rfl (by decide) ?_
                    refine y_aload_n rfl rfl ?_
                    refine y_getIv (v := Int32.ofInt (0)) rfl (ySh.t hS rfl) (ySh.n hS rfl) rfl rfl hth ?_
                    refine y_if_neF rfl (by decide) ?_
                    refine y_aload_n rfl rfl ?_
                    refine y_iload_n rfl rfl ?_
                    refine y_putI rfl (ySh.t hS rfl) (ySh.n hS rfl) rfl (Nat.le_of_ble_eq_true rfl) rfl rfl ?_
                    refine y_nameI (fun I87 e87 => ?_)
                    have hR1 := (hR0.grow hX).mod0 e87 (by decide) (by decide)
                    have hK := (hK.x hRo hno hX).upI (upI e87) (by decide) (by decide) (fun i hi => by have := (hRo.l87.2.2.2.2 i hi).2.1; omega) (by rw [e87, upd2_ne (.inr (by decide))]; exact Int.le_refl _)
                    have hth : I87 83 0 = Int32.ofInt (3) := by rw [e87, upd2_self]
                    have hzz : ySz8 I59 I87 := ySz8_of (upI e87) (by rw [e87]; exact ⟨upd2_ne (.inr (by decide)), upd2_ne (.inr (by decide))⟩)
                    have hS0 := hS
                    have hR0 := hR1
                    have ht_b66 := (hX.2.1 _ hb_b66).1.trans ht_b66
                    have hb_b66 := Nat.lt_of_lt_of_le hb_b66 hX.1
                    have hb0_b66 := hb_b66
                    have ht_v69 := (hX.2.1 _ hb_v69).1.trans ht_v69
                    have hb_v69 := Nat.lt_of_lt_of_le hb_v69 hX.1
                    have hb0_v69 := hb_v69
                    have ht_v76 := (hX.2.1 _ hb_v76).1.trans ht_v76
                    have hb_v76 := Nat.lt_of_lt_of_le hb_v76 hX.1
                    have hb0_v76 := hb_v76
                    have hn := Nat.le_refl n
                    have h94 := hS0.1
                    have hX := @yX.rf n tg I87 R
                    have hS := hS0.x hX
                    have hR := hR0.x hn hX
                    have hz := hX.sz h94
                    have hxn := hX.1
                    have hN := hR0.1
                    have hnb := hR0.2.2.2.2.2.2
                    have hthB := hth
                    refine y_aload_n rfl rfl ?_
                    refine y_getIv (v := Int32.ofInt (3)) rfl (ySh.t hS rfl) (ySh.n hS rfl) rfl rfl hth ?_
                    refine y_if_leF rfl (by decide) ?_
                    refine y_iconst rfl ?_
                    refine y_goto rfl j_X14_refuse_28 ?_
                    refine y_ireturn rfl rfl rfl ?_
                    refine y_ret1 ?_
                    refine y_if_eqF rfl (by decide) ?_
                    refine y_iconst rfl ?_
                    refine y_ireturn rfl rfl rfl ?_
                    exact hQ _ _ _ _ _ _ _ hS ((hR0.grow hX).up (Nat.le_succ K) hk6) (hK.x hRo hno hX) (by omega) (by omega)
            · rw [yz_m1] at h_68
              refine y_bip rfl (by decide) ?_
              refine y_goto rfl j_X14_seat_11 ?_
              refine y_ireturn rfl rfl rfl ?_
              refine y_ret1 ?_
              refine y_istore (ls' := [some _, some _, some _, some _, some _, some _, some _]) rfl rfl rfl ?_
              refine y_aload_n rfl rfl ?_
              refine y_aload rfl rfl ?_
              obtain ⟨hR_v88, hb_v88, ht_v88⟩ := hR0.ven hlo_b66 hb0_b66 ht_b66 (j := 0) (by decide)
              have hb0_v88 := hb_v88
              have hb_v88 := Nat.lt_of_lt_of_le hb_v88 hn
              have hlo_v88 : 94 ≤ b66 + 1 + 0 := by omega
              have hR2_v88 := (congrFun (hX.2.1 b66 hb_b66).2.2 0).trans hR_v88
              refine y_getR rfl ((hX.2.1 _ hb_b66).1.trans ht_b66) (Nat.lt_of_lt_of_le hb_b66 hX.1) rfl rfl hR2_v88 ?_
              refine y_iload rfl rfl ?_
              refine y_baload rfl ((hX.2.1 _ hb_v88).1.trans ht_v88) rfl (Nat.lt_of_lt_of_le hb_v88 hX.1) (by decide) (by decide) ?_
              refine y_if_ne rfl j_X14_join_126 (fun h_89 => ?_) (fun h_90 => ?_)
              · refine y_iconst rfl ?_
                refine y_goto rfl j_X14_join_131 ?_
                refine y_iconst rfl ?_
                refine y_virt rfl rfl rfl rfl rfl (ySh.t hS rfl) (ySh.n hS rfl) ?_
                refine y_in (M := xm_X14_refuse) (ls := [some _, some _, some _]) rfl rfl rfl ?_
                refine y_iload_n rfl rfl ?_
                refine y_if_eqF rfl (by decide) ?_
                refine y_aload_n rfl rfl ?_
                refine y_getIv (v := Int32.ofInt (0)) rfl (ySh.t hS rfl) (ySh.n hS rfl) rfl rfl hth ?_
                refine y_if_neF rfl (by decide) ?_
                refine y_aload_n rfl rfl ?_
                refine y_iload_n rfl rfl ?_
                refine y_putI rfl (ySh.t hS rfl) (ySh.n hS rfl) rfl (Nat.le_of_ble_eq_true rfl) rfl rfl ?_
                refine y_nameI (fun I91 e91 => ?_)
                have hR1 := (hR0.grow hX).mod0 e91 (by decide) (by decide)
                have hK := (hK.x hRo hno hX).upI (upI e91) (by decide) (by decide) (fun i hi => by have := (hRo.l87.2.2.2.2 i hi).2.1; omega) (by rw [e91, upd2_ne (.inr (by decide))]; exact Int.le_refl _)
                have hth : I91 83 0 = Int32.ofInt (3) := by rw [e91, upd2_self]
                have hzz : ySz8 I59 I91 := ySz8_of (upI e91) (by rw [e91]; exact ⟨upd2_ne (.inr (by decide)), upd2_ne (.inr (by decide))⟩)
                have hS0 := hS
                have hR0 := hR1
                have ht_b66 := (hX.2.1 _ hb_b66).1.trans ht_b66
                have hb_b66 := Nat.lt_of_lt_of_le hb_b66 hX.1
                have hb0_b66 := hb_b66
                have ht_v88 := (hX.2.1 _ hb_v88).1.trans ht_v88
                have hb_v88 := Nat.lt_of_lt_of_le hb_v88 hX.1
                have hb0_v88 := hb_v88
                have hn := Nat.le_refl n
                have h94 := hS0.1
                have hX := @yX.rf n tg I91 R
                have hS := hS0.x hX
                have hR := hR0.x hn hX
                have hz := hX.sz h94
                have hxn := hX.1
                have hN := hR0.1
                have hnb := hR0.2.2.2.2.2.2
                have hthB := hth
                refine y_aload_n rfl rfl ?_
                refine y_getIv (v := Int32.ofInt (3)) rfl (ySh.t hS rfl) (ySh.n hS rfl) rfl rfl hth ?_
                refine y_if_leF rfl (by decide) ?_
                refine y_iconst rfl ?_
                refine y_goto rfl j_X14_refuse_28 ?_
                refine y_ireturn rfl rfl rfl ?_
                refine y_ret1 ?_
                refine y_if_eqF rfl (by decide) ?_
                refine y_iconst rfl ?_
                refine y_ireturn rfl rfl rfl ?_
                exact hQ _ _ _ _ _ _ _ hS ((hR0.grow hX).up (Nat.le_succ K) hk6) (hK.x hRo hno hX) (by omega) (by omega)
              · refine y_aload_n rfl rfl ?_
                refine y_getR rfl (ySh.t hS rfl) (ySh.n hS rfl) rfl rfl (ySh.r hS rfl) ?_
                refine y_iload rfl rfl ?_
                refine y_ialoadC (j := 8) rfl (ySh.t hS rfl) (ySh.n hS rfl) (by decide) (by decide) rfl ?_
                refine y_iload_n rfl rfl ?_
                refine y_icmp_lt rfl j_X14_join_126 (fun h_92 => ?_) (fun h_93 => ?_)
                · refine y_iconst rfl ?_
                  refine y_goto rfl j_X14_join_131 ?_
                  refine y_iconst rfl ?_
                  refine y_virt rfl rfl rfl rfl rfl (ySh.t hS rfl) (ySh.n hS rfl) ?_
                  refine y_in (M := xm_X14_refuse) (ls := [some _, some _, some _]) rfl rfl rfl ?_
                  refine y_iload_n rfl rfl ?_
                  refine y_if_eqF rfl (by decide) ?_
                  refine y_aload_n rfl rfl ?_
                  refine y_getIv (v := Int32.ofInt (0)) rfl (ySh.t hS rfl) (ySh.n hS rfl) rfl rfl hth ?_
                  refine y_if_neF rfl (by decide) ?_
                  refine y_aload_n rfl rfl ?_
                  refine y_iload_n rfl rfl ?_
                  refine y_putI rfl (ySh.t hS rfl) (ySh.n hS rfl) rfl (Nat.le_of_ble_eq_true rfl) rfl rfl ?_
                  refine y_nameI (fun I94 e94 => ?_)
                  have hR1 := (hR0.grow hX).mod0 e94 (by decide) (by decide)
                  have hK := (hK.x hRo hno hX).upI (upI e94) (by decide) (by decide) (fun i hi => by have := (hRo.l87.2.2.2.2 i hi).2.1; omega) (by rw [e94, upd2_ne (.inr (by decide))]; exact Int.le_refl _)
                  have hth : I94 83 0 = Int32.ofInt (3) := by rw [e94, upd2_self]
                  have hzz : ySz8 I59 I94 := ySz8_of (upI e94) (by rw [e94]; exact ⟨upd2_ne (.inr (by decide)), upd2_ne (.inr (by decide))⟩)
                  have hS0 := hS
                  have hR0 := hR1
                  have ht_b66 := (hX.2.1 _ hb_b66).1.trans ht_b66
                  have hb_b66 := Nat.lt_of_lt_of_le hb_b66 hX.1
                  have hb0_b66 := hb_b66
                  have ht_v88 := (hX.2.1 _ hb_v88).1.trans ht_v88
                  have hb_v88 := Nat.lt_of_lt_of_le hb_v88 hX.1
                  have hb0_v88 := hb_v88
                  have hn := Nat.le_refl n
                  have h94 := hS0.1
                  have hX := @yX.rf n tg I94 R
                  have hS := hS0.x hX
                  have hR := hR0.x hn hX
                  have hz := hX.sz h94
                  have hxn := hX.1
                  have hN := hR0.1
                  have hnb := hR0.2.2.2.2.2.2
                  have hthB := hth
                  refine y_aload_n rfl rfl ?_
                  refine y_getIv (v := Int32.ofInt (3)) rfl (ySh.t hS rfl) (ySh.n hS rfl) rfl rfl hth ?_
                  refine y_if_leF rfl (by decide) ?_
                  refine y_iconst rfl ?_
                  refine y_goto rfl j_X14_refuse_28 ?_
                  refine y_ireturn rfl rfl rfl ?_
                  refine y_ret1 ?_
                  refine y_if_eqF rfl (by decide) ?_
                  refine y_iconst rfl ?_
                  refine y_ireturn rfl rfl rfl ?_
                  exact hQ _ _ _ _ _ _ _ hS ((hR0.grow hX).up (Nat.le_succ K) hk6) (hK.x hRo hno hX) (by omega) (by omega)
                · refine y_aload rfl rfl ?_
                  refine y_aload rfl rfl ?_
                  obtain ⟨hR_v95, hb_v95, ht_v95⟩ := hR0.ven hlo_b66 hb0_b66 ht_b66 (j := 2) (by decide)
                  have hb0_v95 := hb_v95
                  have hb_v95 := Nat.lt_of_lt_of_le hb_v95 hn
                  have hlo_v95 : 94 ≤ b66 + 1 + 2 := by omega
                  have hR2_v95 := (congrFun (hX.2.1 b66 hb_b66).2.2 2).trans hR_v95
                  refine y_getR rfl ((hX.2.1 _ hb_b66).1.trans ht_b66) (Nat.lt_of_lt_of_le hb_b66 hX.1) rfl rfl hR2_v95 ?_
                  refine y_virt rfl rfl rfl rfl rfl ((hX.2.1 _ hb_b66).1.trans ht_b66) (Nat.lt_of_lt_of_le hb_b66 hX.1) ?_
                  refine r_all ((hX.2.1 _ hb_v95).1.trans ht_v95) (Nat.lt_of_lt_of_le hb_v95 hX.1) (fun v_ => ?_)
                  refine y_ret1 ?_
                  refine y_iload rfl rfl ?_
                  refine y_iadd rfl ?_
                  refine y_bip rfl (by decide) ?_
                  refine y_icmp_le rfl j_X14_join_130 (fun h_96 => ?_) (fun h_97 => ?_)
                  · rw [yz_100] at h_96
                    refine y_iconst rfl ?_
                    refine y_iconst rfl ?_
                    refine y_virt rfl rfl rfl rfl rfl (ySh.t hS rfl) (ySh.n hS rfl) ?_
                    refine y_in (M := xm_X14_refuse) (ls := [some _, some _, some _]) rfl rfl rfl ?_
                    refine y_iload_n rfl rfl ?_
                    refine y_if_eqT rfl j_X14_refuse_16 (by decide) ?_
                    refine y_aload_n rfl rfl ?_
                    refine y_getIv (v := Int32.ofInt (0)) rfl (ySh.t hS rfl) (ySh.n hS rfl) rfl rfl hth ?_
                    refine y_if_leT rfl j_X14_refuse_27 (by decide) ?_
                    refine y_iconst rfl ?_
                    refine y_ireturn rfl rfl rfl ?_
                    refine y_ret1 ?_
                    refine y_if_eqT rfl j_X14_join_140 (by decide) ?_
                    refine y_aload rfl rfl ?_
                    obtain ⟨hR_v98, hb_v98, ht_v98⟩ := hR0.ven hlo_b66 hb0_b66 ht_b66 (j := 0) (by decide)
                    have hb0_v98 := hb_v98
                    have hb_v98 := Nat.lt_of_lt_of_le hb_v98 hn
                    have hlo_v98 : 94 ≤ b66 + 1 + 0 := by omega
                    have hR2_v98 := (congrFun (hX.2.1 b66 hb_b66).2.2 0).trans hR_v98
                    refine y_getR rfl ((hX.2.1 _ hb_b66).1.trans ht_b66) (Nat.lt_of_lt_of_le hb_b66 hX.1) rfl rfl hR2_v98 ?_
                    refine y_iload rfl rfl ?_
                    refine y_iconst rfl ?_
                    refine y_zastore rfl ((hX.2.1 _ hb_v98).1.trans ht_v98) (Nat.lt_of_lt_of_le hb_v98 hX.1) (Nat.le_trans (by decide) (by omega : 94 ≤ _)) (by decide) (by decide) rfl ?_
                    refine y_nameI (fun I99 e99 => ?_)
                    have hR1 := (hR0.grow hX).upV hlo_b66 (by omega) ((hX.2.1 _ hb_b66).1.trans ht_b66) (j := 0) (by decide) e99
                    have hK := (hK.x hRo hno hX).upE hRo hno (upI e99) (by omega) (by omega) (by rw [((hX.2.1 _ hb_v98).1.trans ht_v98)]; decide) (by rw [e99, upd2_ne (.inl (by omega))]; exact Int.le_refl _)
                    have hth := (show I99 83 0 = I59 83 0 by rw [e99, upd2_ne (.inl (by omega))]).trans hth
                    have hzz : ySz I59 I99 := ySz_ofE (upI e99) (by omega)
                    have hS0 := hS
                    have hR0 := hR1
                    have ht_b66 := (hX.2.1 _ hb_b66).1.trans ht_b66
                    have hb_b66 := Nat.lt_of_lt_of_le hb_b66 hX.1
                    have hb0_b66 := hb_b66
                    have ht_v88 := (hX.2.1 _ hb_v88).1.trans ht_v88
                    have hb_v88 := Nat.lt_of_lt_of_le hb_v88 hX.1
                    have hb0_v88 := hb_v88
                    have ht_v95 := (hX.2.1 _ hb_v95).1.trans ht_v95
                    have hb_v95 := Nat.lt_of_lt_of_le hb_v95 hX.1
                    have hb0_v95 := hb_v95
                    have ht_v98 := (hX.2.1 _ hb_v98).1.trans ht_v98
                    have hb_v98 := Nat.lt_of_lt_of_le hb_v98 hX.1
                    have hb0_v98 := hb_v98
                    have hn := Nat.le_refl n
                    have h94 := hS0.1
                    have hX := @yX.rf n tg I99 R
                    have hS := hS0.x hX
                    have hR := hR0.x hn hX
                    have hz := hX.sz h94
                    have hxn := hX.1
                    have hN := hR0.1
                    have hnb := hR0.2.2.2.2.2.2
                    have hthB := hth
                    refine y_aload rfl rfl ?_
                    obtain ⟨hR_v100, hb_v100, ht_v100⟩ := hR0.ven hlo_b66 hb0_b66 ht_b66 (j := 1) (by decide)
                    have hb0_v100 := hb_v100
                    have hb_v100 := Nat.lt_of_lt_of_le hb_v100 hn
                    have hlo_v100 : 94 ≤ b66 + 1 + 1 := by omega
                    have hR2_v100 := (congrFun (hX.2.1 b66 hb_b66).2.2 1).trans hR_v100
                    refine y_getR rfl ((hX.2.1 _ hb_b66).1.trans ht_b66) (Nat.lt_of_lt_of_le hb_b66 hX.1) rfl rfl hR2_v100 ?_
                    refine y_iload rfl rfl ?_
                    refine y_iload_n rfl rfl ?_
                    refine y_iastoreC (j := 8) rfl ((hX.2.1 _ hb_v100).1.trans ht_v100) (Nat.lt_of_lt_of_le hb_v100 hX.1) (Nat.le_trans (by decide) (by omega : 94 ≤ _)) (by decide) (by decide) rfl ?_
                    refine y_nameI (fun I101 e101 => ?_)
                    have hR1 := (hR0.grow hX).capJ hlo_b66 (by omega) ((hX.2.1 _ hb_b66).1.trans ht_b66) (by omega) ⟨by omega, by omega⟩ e101 hk6
                    have hK := (hK.x hRo hno hX).upE hRo hno (upI e101) (by omega) (by omega) (by rw [((hX.2.1 _ hb_v100).1.trans ht_v100)]; decide) (by rw [e101, upd2_ne (.inl (by omega))]; exact Int.le_refl _)
                    have hth := (show I101 83 0 = I99 83 0 by rw [e101, upd2_ne (.inl (by omega))]).trans hth
                    have hzz : ySz I99 I101 := ySz_ofE (upI e101) (by omega)
                    have hS0 := hS
                    have hR0 := hR1
                    have ht_b66 := (hX.2.1 _ hb_b66).1.trans ht_b66
                    have hb_b66 := Nat.lt_of_lt_of_le hb_b66 hX.1
                    have hb0_b66 := hb_b66
                    have ht_v88 := (hX.2.1 _ hb_v88).1.trans ht_v88
                    have hb_v88 := Nat.lt_of_lt_of_le hb_v88 hX.1
                    have hb0_v88 := hb_v88
                    have ht_v95 := (hX.2.1 _ hb_v95).1.trans ht_v95
                    have hb_v95 := Nat.lt_of_lt_of_le hb_v95 hX.1
                    have hb0_v95 := hb_v95
                    have ht_v98 := (hX.2.1 _ hb_v98).1.trans ht_v98
                    have hb_v98 := Nat.lt_of_lt_of_le hb_v98 hX.1
                    have hb0_v98 := hb_v98
                    have ht_v100 := (hX.2.1 _ hb_v100).1.trans ht_v100
                    have hb_v100 := Nat.lt_of_lt_of_le hb_v100 hX.1
                    have hb0_v100 := hb_v100
                    have hn := Nat.le_refl n
                    have h94 := hS0.1
                    have hX := @yX.rf n tg I101 R
                    have hS := hS0.x hX
                    have hR := hR0.x hn hX
                    have hz := hX.sz h94
                    have hxn := hX.1
                    have hN := hR0.1
                    have hnb := hR0.2.2.2.2.2.2
                    have hthB := hth
                    refine y_aload rfl rfl ?_
                    obtain ⟨hR_v102, hb_v102, ht_v102⟩ := hR0.ven hlo_b66 hb0_b66 ht_b66 (j := 2) (by decide)
                    have hb0_v102 := hb_v102
                    have hb_v102 := Nat.lt_of_lt_of_le hb_v102 hn
                    have hlo_v102 : 94 ≤ b66 + 1 + 2 := by omega
                    have hR2_v102 := (congrFun (hX.2.1 b66 hb_b66).2.2 2).trans hR_v102
                    refine y_getR rfl ((hX.2.1 _ hb_b66).1.trans ht_b66) (Nat.lt_of_lt_of_le hb_b66 hX.1) rfl rfl hR2_v102 ?_
                    refine y_iload rfl rfl ?_
                    refine y_iload rfl rfl ?_
                    refine y_iastoreC (j := 8) rfl ((hX.2.1 _ hb_v102).1.trans ht_v102) (Nat.lt_of_lt_of_le hb_v102 hX.1) (Nat.le_trans (by decide) (by omega : 94 ≤ _)) (by decide) (by decide) rfl ?_
                    refine y_nameI (fun I103 e103 => ?_)
                    have hR1 := (hR0.grow hX).upV hlo_b66 (by omega) ((hX.2.1 _ hb_b66).1.trans ht_b66) (j := 2) (by decide) e103
                    have hK := (hK.x hRo hno hX).upE hRo hno (upI e103) (by omega) (by omega) (by rw [((hX.2.1 _ hb_v102).1.trans ht_v102)]; decide) (by rw [e103, upd2_ne (.inl (by omega))]; exact Int.le_refl _)
                    have hth := (show I103 83 0 = I101 83 0 by rw [e103, upd2_ne (.inl (by omega))]).trans hth
                    have hzz : ySz I101 I103 := ySz_ofE (upI e103) (by omega)
                    have hS0 := hS
                    have hR0 := hR1
                    have ht_b66 := (hX.2.1 _ hb_b66).1.trans ht_b66
                    have hb_b66 := Nat.lt_of_lt_of_le hb_b66 hX.1
                    have hb0_b66 := hb_b66
                    have ht_v88 := (hX.2.1 _ hb_v88).1.trans ht_v88
                    have hb_v88 := Nat.lt_of_lt_of_le hb_v88 hX.1
                    have hb0_v88 := hb_v88
                    have ht_v95 := (hX.2.1 _ hb_v95).1.trans ht_v95
                    have hb_v95 := Nat.lt_of_lt_of_le hb_v95 hX.1
                    have hb0_v95 := hb_v95
                    have ht_v98 := (hX.2.1 _ hb_v98).1.trans ht_v98
                    have hb_v98 := Nat.lt_of_lt_of_le hb_v98 hX.1
                    have hb0_v98 := hb_v98
                    have ht_v100 := (hX.2.1 _ hb_v100).1.trans ht_v100
                    have hb_v100 := Nat.lt_of_lt_of_le hb_v100 hX.1
                    have hb0_v100 := hb_v100
                    have ht_v102 := (hX.2.1 _ hb_v102).1.trans ht_v102
                    have hb_v102 := Nat.lt_of_lt_of_le hb_v102 hX.1
                    have hb0_v102 := hb_v102
                    have hn := Nat.le_refl n
                    have h94 := hS0.1
                    have hX := @yX.rf n tg I103 R
                    have hS := hS0.x hX
                    have hR := hR0.x hn hX
                    have hz := hX.sz h94
                    have hxn := hX.1
                    have hN := hR0.1
                    have hnb := hR0.2.2.2.2.2.2
                    have hthB := hth
                    refine y_aload_n rfl rfl ?_
                    refine y_getR rfl (ySh.t hS rfl) (ySh.n hS rfl) rfl rfl (ySh.r hS rfl) ?_
                    refine y_iload rfl rfl ?_
                    refine y_dup2 rfl rfl rfl ?_
                    refine y_ialoadC (j := 8) rfl (ySh.t hS rfl) (ySh.n hS rfl) (by decide) (by decide) rfl ?_
                    refine y_iload_n rfl rfl ?_
                    refine y_isub rfl ?_
                    refine y_iastoreC (j := 8) rfl (ySh.t hS rfl) (ySh.n hS rfl) (Nat.le_of_ble_eq_true rfl) (by decide) (by decide) rfl ?_
                    refine y_nameI (fun I104 e104 => ?_)
                    have hR1 := (hR0.grow hX).arr e104 (by decide)
                    have hK := (hK.x hRo hno hX).upI (upI e104) (by decide) (by decide) (fun i hi => by have := (hRo.l87.2.2.2.2 i hi).2.1; omega) (by rw [e104, upd2_ne (.inl (by omega))]; exact Int.le_refl _)
                    have hth := (show I104 83 0 = I103 83 0 by rw [e104, upd2_ne (.inl (by omega))]).trans hth
                    have hzz : ySz I103 I104 := ySz_ofE (upI e104) (by omega)
                    have hS0 := hS
                    have hR0 := hR1
                    have ht_b66 := (hX.2.1 _ hb_b66).1.trans ht_b66
                    have hb_b66 := Nat.lt_of_lt_of_le hb_b66 hX.1
                    have hb0_b66 := hb_b66
                    have ht_v88 := (hX.2.1 _ hb_v88).1.trans ht_v88
                    have hb_v88 := Nat.lt_of_lt_of_le hb_v88 hX.1
                    have hb0_v88 := hb_v88
                    have ht_v95 := (hX.2.1 _ hb_v95).1.trans ht_v95
                    have hb_v95 := Nat.lt_of_lt_of_le hb_v95 hX.1
                    have hb0_v95 := hb_v95
                    have ht_v98 := (hX.2.1 _ hb_v98).1.trans ht_v98
                    have hb_v98 := Nat.lt_of_lt_of_le hb_v98 hX.1
                    have hb0_v98 := hb_v98
                    have ht_v100 := (hX.2.1 _ hb_v100).1.trans ht_v100
                    have hb_v100 := Nat.lt_of_lt_of_le hb_v100 hX.1
                    have hb0_v100 := hb_v100
                    have ht_v102 := (hX.2.1 _ hb_v102).1.trans ht_v102
                    have hb_v102 := Nat.lt_of_lt_of_le hb_v102 hX.1
                    have hb0_v102 := hb_v102
                    have hn := Nat.le_refl n
                    have h94 := hS0.1
                    have hX := @yX.rf n tg I104 R
                    have hS := hS0.x hX
                    have hR := hR0.x hn hX
                    have hz := hX.sz h94
                    have hxn := hX.1
                    have hN := hR0.1
                    have hnb := hR0.2.2.2.2.2.2
                    have hthB := hth
                    refine y_aload rfl rfl ?_
                    refine y_aload rfl rfl ?_
                    obtain ⟨hR_v105, hb_v105, ht_v105⟩ := hR0.ven hlo_b66 hb0_b66 ht_b66 (j := 2) (by decide)
                    have hb0_v105 := hb_v105
                    have hb_v105 := Nat.lt_of_lt_of_le hb_v105 hn
                    have hlo_v105 : 94 ≤ b66 + 1 + 2 := by omega
                    have hR2_v105 := (congrFun (hX.2.1 b66 hb_b66).2.2 2).trans hR_v105
                    refine y_getR rfl ((hX.2.1 _ hb_b66).1.trans ht_b66) (Nat.lt_of_lt_of_le hb_b66 hX.1) rfl rfl hR2_v105 ?_
                    refine y_virt rfl rfl rfl rfl rfl ((hX.2.1 _ hb_b66).1.trans ht_b66) (Nat.lt_of_lt_of_le hb_b66 hX.1) ?_
                    refine r_all ((hX.2.1 _ hb_v105).1.trans ht_v105) (Nat.lt_of_lt_of_le hb_v105 hX.1) (fun v_ => ?_)
                    refine y_ret1 ?_
                    refine y_ireturn rfl rfl rfl ?_
                    exact hQ _ _ _ _ _ _ _ hS (hR0.grow hX) (hK.x hRo hno hX) (by omega) (by omega)
                  · rw [yz_100] at h_97
                    refine y_iconst rfl ?_
                    refine y_goto rfl j_X14_join_131 ?_
                    refine y_iconst rfl ?_
                    refine y_virt rfl rfl rfl rfl rfl (ySh.t hS rfl) (ySh.n hS rfl) ?_
                    refine y_in (M := xm_X14_refuse) (ls := [some _, some _, some _]) rfl rfl rfl ?_
                    refine y_iload_n rfl rfl ?_
                    refine y_if_eqF rfl (by decide) ?_
                    refine y_aload_n rfl rfl ?_
                    refine y_getIv (v := Int32.ofInt (0)) rfl (ySh.t hS rfl) (ySh.n hS rfl) rfl rfl hth ?_
                    refine y_if_neF rfl (by decide) ?_
                    refine y_aload_n rfl rfl ?_
                    refine y_iload_n rfl rfl ?_
                    refine y_putI rfl (ySh.t hS rfl) (ySh.n hS rfl) rfl (Nat.le_of_ble_eq_true rfl) rfl rfl ?_
                    refine y_nameI (fun I106 e106 => ?_)
                    have hR1 := (hR0.grow hX).mod0 e106 (by decide) (by decide)
                    have hK := (hK.x hRo hno hX).upI (upI e106) (by decide) (by decide) (fun i hi => by have := (hRo.l87.2.2.2.2 i hi).2.1; omega) (by rw [e106, upd2_ne (.inr (by decide))]; exact Int.le_refl _)
                    have hth : I106 83 0 = Int32.ofInt (3) := by rw [e106, upd2_self]
                    have hzz : ySz8 I59 I106 := ySz8_of (upI e106) (by rw [e106]; exact ⟨upd2_ne (.inr (by decide)), upd2_ne (.inr (by decide))⟩)
                    have hS0 := hS
                    have hR0 := hR1
                    have ht_b66 := (hX.2.1 _ hb_b66).1.trans ht_b66
                    have hb_b66 := Nat.lt_of_lt_of_le hb_b66 hX.1
                    have hb0_b66 := hb_b66
                    have ht_v88 := (hX.2.1 _ hb_v88).1.trans ht_v88
                    have hb_v88 := Nat.lt_of_lt_of_le hb_v88 hX.1
                    have hb0_v88 := hb_v88
                    have ht_v95 := (hX.2.1 _ hb_v95).1.trans ht_v95
                    have hb_v95 := Nat.lt_of_lt_of_le hb_v95 hX.1
                    have hb0_v95 := hb_v95
                    have hn := Nat.le_refl n
                    have h94 := hS0.1
                    have hX := @yX.rf n tg I106 R
                    have hS := hS0.x hX
                    have hR := hR0.x hn hX
                    have hz := hX.sz h94
                    have hxn := hX.1
                    have hN := hR0.1
                    have hnb := hR0.2.2.2.2.2.2
                    have hthB := hth
                    refine y_aload_n rfl rfl ?_
                    refine y_getIv (v := Int32.ofInt (3)) rfl (ySh.t hS rfl) (ySh.n hS rfl) rfl rfl hth ?_
                    refine y_if_leF rfl (by decide) ?_
                    refine y_iconst rfl ?_
                    refine y_goto rfl j_X14_refuse_28 ?_
                    refine y_ireturn rfl rfl rfl ?_
                    refine y_ret1 ?_
                    refine y_if_eqF rfl (by decide) ?_
                    refine y_iconst rfl ?_
                    refine y_ireturn rfl rfl rfl ?_
                    exact hQ _ _ _ _ _ _ _ hS ((hR0.grow hX).up (Nat.le_succ K) hk6) (hK.x hRo hno hX) (by omega) (by omega)
          · rw [yz_0] at h_65
            rw [yz_100] at h_65
            refine y_ret1 ?_
            refine y_if_neF rfl (by decide) ?_
            refine y_iconst rfl ?_
            refine y_goto rfl j_X14_join_57 ?_
            refine y_iconst rfl ?_
            refine y_virt rfl rfl rfl rfl rfl (ySh.t hS rfl) (ySh.n hS rfl) ?_
            refine y_in (M := xm_X14_refuse) (ls := [some _, some _, some _]) rfl rfl rfl ?_
            refine y_iload_n rfl rfl ?_
            refine y_if_eqF rfl (by decide) ?_
            refine y_aload_n rfl rfl ?_
            refine y_getIv (v := Int32.ofInt (0)) rfl (ySh.t hS rfl) (ySh.n hS rfl) rfl rfl hth ?_
            refine y_if_neF rfl (by decide) ?_
            refine y_aload_n rfl rfl ?_
            refine y_iload_n rfl rfl ?_
            refine y_putI rfl (ySh.t hS rfl) (ySh.n hS rfl) rfl (Nat.le_of_ble_eq_true rfl) rfl rfl ?_
            refine y_nameI (fun I107 e107 => ?_)
            have hR1 := (hR0.grow hX).mod0 e107 (by decide) (by decide)
            have hK := (hK.x hRo hno hX).upI (upI e107) (by decide) (by decide) (fun i hi => by have := (hRo.l87.2.2.2.2 i hi).2.1; omega) (by rw [e107, upd2_ne (.inr (by decide))]; exact Int.le_refl _)
            have hth : I107 83 0 = Int32.ofInt (2) := by rw [e107, upd2_self]
            have hzz : ySz8 I59 I107 := ySz8_of (upI e107) (by rw [e107]; exact ⟨upd2_ne (.inr (by decide)), upd2_ne (.inr (by decide))⟩)
            have hS0 := hS
            have hR0 := hR1
            have hn := Nat.le_refl n
            have h94 := hS0.1
            have hX := @yX.rf n tg I107 R
            have hS := hS0.x hX
            have hR := hR0.x hn hX
            have hz := hX.sz h94
            have hxn := hX.1
            have hN := hR0.1
            have hnb := hR0.2.2.2.2.2.2
            have hthB := hth
            refine y_aload_n rfl rfl ?_
            refine y_getIv (v := Int32.ofInt (2)) rfl (ySh.t hS rfl) (ySh.n hS rfl) rfl rfl hth ?_
            refine y_if_leF rfl (by decide) ?_
            refine y_iconst rfl ?_
            refine y_goto rfl j_X14_refuse_28 ?_
            refine y_ireturn rfl rfl rfl ?_
            refine y_ret1 ?_
            refine y_if_eqF rfl (by decide) ?_
            refine y_iconst rfl ?_
            refine y_ireturn rfl rfl rfl ?_
            exact hQ _ _ _ _ _ _ _ hS ((hR0.grow hX).up (Nat.le_succ K) hk6) (hK.x hRo hno hX) (by omega) (by omega)
        · rw [yz_1] at h_62
          rw [yz_999] at h_62
          refine y_ret1 ?_
          refine y_if_eqT rfl j_X14_join_52 (by decide) ?_
          refine y_iconst rfl ?_
          refine y_goto rfl j_X14_join_57 ?_
          refine y_iconst rfl ?_
          refine y_virt rfl rfl rfl rfl rfl (ySh.t hS rfl) (ySh.n hS rfl) ?_
          refine y_in (M := xm_X14_refuse) (ls := [some _, some _, some _]) rfl rfl rfl ?_
          refine y_iload_n rfl rfl ?_
          refine y_if_eqF rfl (by decide) ?_
          refine y_aload_n rfl rfl ?_
          refine y_getIv (v := Int32.ofInt (0)) rfl (ySh.t hS rfl) (ySh.n hS rfl) rfl rfl hth ?_
          refine y_if_neF rfl (by decide) ?_
          refine y_aload_n rfl rfl ?_
          refine y_iload_n rfl rfl ?_
          refine y_putI rfl (ySh.t hS rfl) (ySh.n hS rfl) rfl (Nat.le_of_ble_eq_true rfl) rfl rfl ?_
          refine y_nameI (fun I108 e108 => ?_)
          have hR1 := (hR0.grow hX).mod0 e108 (by decide) (by decide)
          have hK := (hK.x hRo hno hX).upI (upI e108) (by decide) (by decide) (fun i hi => by have := (hRo.l87.2.2.2.2 i hi).2.1; omega) (by rw [e108, upd2_ne (.inr (by decide))]; exact Int.le_refl _)
          have hth : I108 83 0 = Int32.ofInt (2) := by rw [e108, upd2_self]
          have hzz : ySz8 I59 I108 := ySz8_of (upI e108) (by rw [e108]; exact ⟨upd2_ne (.inr (by decide)), upd2_ne (.inr (by decide))⟩)
          have hS0 := hS
          have hR0 := hR1
          have hn := Nat.le_refl n
          have h94 := hS0.1
          have hX := @yX.rf n tg I108 R
          have hS := hS0.x hX
          have hR := hR0.x hn hX
          have hz := hX.sz h94
          have hxn := hX.1
          have hN := hR0.1
          have hnb := hR0.2.2.2.2.2.2
          have hthB := hth
          refine y_aload_n rfl rfl ?_
          refine y_getIv (v := Int32.ofInt (2)) rfl (ySh.t hS rfl) (ySh.n hS rfl) rfl rfl hth ?_
          refine y_if_leF rfl (by decide) ?_
          refine y_iconst rfl ?_
          refine y_goto rfl j_X14_refuse_28 ?_
          refine y_ireturn rfl rfl rfl ?_
          refine y_ret1 ?_
          refine y_if_eqF rfl (by decide) ?_
          refine y_iconst rfl ?_
          refine y_ireturn rfl rfl rfl ?_
          exact hQ _ _ _ _ _ _ _ hS ((hR0.grow hX).up (Nat.le_succ K) hk6) (hK.x hRo hno hX) (by omega) (by omega)
      · rw [yz_0] at h_58
        try rw [ysub (by rw [yz_1]; omega) (by rw [yz_1]; omega), yz_1] at h_58
        refine y_ret1 ?_
        refine y_if_neF rfl (by decide) ?_
        refine y_iconst rfl ?_
        refine y_goto rfl j_X14_isNobody_19 ?_
        refine y_ireturn rfl rfl rfl ?_
        refine y_ret1 ?_
        refine y_if_eqF rfl (by decide) ?_
        refine y_iconst rfl ?_
        refine y_goto rfl j_X14_isNoOne_18 ?_
        refine y_ireturn rfl rfl rfl ?_
        refine y_ret1 ?_
        refine y_if_eqF rfl (by decide) ?_
        refine y_iconst rfl ?_
        refine y_goto rfl j_X14_join_22 ?_
        refine y_iconst rfl ?_
        refine y_virt rfl rfl rfl rfl rfl (ySh.t hS rfl) (ySh.n hS rfl) ?_
        refine y_in (M := xm_X14_start) (ls := [some _, some _, some _]) rfl rfl rfl ?_
        refine y_aload_n rfl rfl ?_
        refine y_iconst rfl ?_
        refine y_putI rfl (ySh.t hS rfl) (ySh.n hS rfl) rfl (Nat.le_of_ble_eq_true rfl) rfl rfl ?_
        refine y_nameI (fun I109 e109 => ?_)
        have hR1 := (hR0.grow hX).mod0 e109 (by decide) (by decide)
        have hK := (hK.x hRo hno hX).upI (upI e109) (by decide) (by decide) (fun i hi => by have := (hRo.l87.2.2.2.2 i hi).2.1; omega) (by rw [e109, upd2_ne (.inr (by decide))]; exact Int.le_refl _)
        have hth : I109 83 0 = Int32.ofInt (0) := by rw [e109, upd2_self]
        have hzz : ySz8 I I109 := ySz8_of (upI e109) (by rw [e109]; exact ⟨upd2_ne (.inr (by decide)), upd2_ne (.inr (by decide))⟩)
        have hS0 := hS
        have hR0 := hR1
        have hn := Nat.le_refl n
        have h94 := hS0.1
        have hX := @yX.rf n tg I109 R
        have hS := hS0.x hX
        have hR := hR0.x hn hX
        have hz := hX.sz h94
        have hxn := hX.1
        have hN := hR0.1
        have hnb := hR0.2.2.2.2.2.2
        have hthB := hth
        refine y_aload_n rfl rfl ?_
        refine y_iload_n rfl rfl ?_
        refine y_iload_n rfl rfl ?_
        refine y_virt rfl rfl rfl rfl rfl (ySh.t hS rfl) (ySh.n hS rfl) ?_
        refine y_in (M := xm_X14_refuse) (ls := [some _, some _, some _]) rfl rfl rfl ?_
        refine y_iload_n rfl rfl ?_
        refine y_if_eqF rfl (by decide) ?_
        refine y_aload_n rfl rfl ?_
        refine y_getIv (v := Int32.ofInt (0)) rfl (ySh.t hS rfl) (ySh.n hS rfl) rfl rfl hth ?_
        refine y_if_neF rfl (by decide) ?_
        refine y_aload_n rfl rfl ?_
        refine y_iload_n rfl rfl ?_
        refine y_putI rfl (ySh.t hS rfl) (ySh.n hS rfl) rfl (Nat.le_of_ble_eq_true rfl) rfl rfl ?_
        refine y_nameI (fun I110 e110 => ?_)
        have hR1 := (hR0.grow hX).mod0 e110 (by decide) (by decide)
        have hK := (hK.x hRo hno hX).upI (upI e110) (by decide) (by decide) (fun i hi => by have := (hRo.l87.2.2.2.2 i hi).2.1; omega) (by rw [e110, upd2_ne (.inr (by decide))]; exact Int.le_refl _)
        have hth : I110 83 0 = Int32.ofInt (1) := by rw [e110, upd2_self]
        have hzz : ySz8 I109 I110 := ySz8_of (upI e110) (by rw [e110]; exact ⟨upd2_ne (.inr (by decide)), upd2_ne (.inr (by decide))⟩)
        have hS0 := hS
        have hR0 := hR1
        have hn := Nat.le_refl n
        have h94 := hS0.1
        have hX := @yX.rf n tg I110 R
        have hS := hS0.x hX
        have hR := hR0.x hn hX
        have hz := hX.sz h94
        have hxn := hX.1
        have hN := hR0.1
        have hnb := hR0.2.2.2.2.2.2
        have hthB := hth
        refine y_aload_n rfl rfl ?_
        refine y_getIv (v := Int32.ofInt (1)) rfl (ySh.t hS rfl) (ySh.n hS rfl) rfl rfl hth ?_
        refine y_if_leF rfl (by decide) ?_
        refine y_iconst rfl ?_
        refine y_goto rfl j_X14_refuse_28 ?_
        refine y_ireturn rfl rfl rfl ?_
        refine y_ret1 ?_
        refine y_ireturn rfl rfl rfl ?_
        refine y_ret1 ?_
        refine y_if_neT rfl j_X14_join_64 (by decide) ?_
        refine y_iconst rfl ?_
        refine y_ireturn rfl rfl rfl ?_
        exact hQ _ _ _ _ _ _ _ hS ((hR0.grow hX).up (Nat.le_succ K) hk6) (hK.x hRo hno hX) (by omega) (by omega)
  · rw [yz_0] at h_3
    try rw [ysub (by rw [yz_1]; omega) (by rw [yz_1]; omega), yz_1] at h_3
    refine y_ret1 ?_
    refine y_if_neF rfl (by decide) ?_
    refine y_iconst rfl ?_
    refine y_goto rfl j_X14_isNoVenture_22 ?_
    refine y_ireturn rfl rfl rfl ?_
    refine y_ret1 ?_
    refine y_if_neT rfl j_X14_join_17 (by decide) ?_
    refine y_iconst rfl ?_
    refine y_goto rfl j_X14_join_22 ?_
    refine y_iconst rfl ?_
    refine y_virt rfl rfl rfl rfl rfl (ySh.t hS rfl) (ySh.n hS rfl) ?_
    refine y_in (M := xm_X14_start) (ls := [some _, some _, some _]) rfl rfl rfl ?_
    refine y_aload_n rfl rfl ?_
    refine y_iconst rfl ?_
    refine y_putI rfl (ySh.t hS rfl) (ySh.n hS rfl) rfl (Nat.le_of_ble_eq_true rfl) rfl rfl ?_
    refine y_nameI (fun I111 e111 => ?_)
    have hR1 := (hR0.grow hX).mod0 e111 (by decide) (by decide)
    have hK := (hK.x hRo hno hX).upI (upI e111) (by decide) (by decide) (fun i hi => by have := (hRo.l87.2.2.2.2 i hi).2.1; omega) (by rw [e111, upd2_ne (.inr (by decide))]; exact Int.le_refl _)
    have hth : I111 83 0 = Int32.ofInt (0) := by rw [e111, upd2_self]
    have hzz : ySz8 I I111 := ySz8_of (upI e111) (by rw [e111]; exact ⟨upd2_ne (.inr (by decide)), upd2_ne (.inr (by decide))⟩)
    have hS0 := hS
    have hR0 := hR1
    have hn := Nat.le_refl n
    have h94 := hS0.1
    have hX := @yX.rf n tg I111 R
    have hS := hS0.x hX
    have hR := hR0.x hn hX
    have hz := hX.sz h94
    have hxn := hX.1
    have hN := hR0.1
    have hnb := hR0.2.2.2.2.2.2
    have hthB := hth
    refine y_aload_n rfl rfl ?_
    refine y_iload_n rfl rfl ?_
    refine y_iload_n rfl rfl ?_
    refine y_virt rfl rfl rfl rfl rfl (ySh.t hS rfl) (ySh.n hS rfl) ?_
    refine y_in (M := xm_X14_refuse) (ls := [some _, some _, some _]) rfl rfl rfl ?_
    refine y_iload_n rfl rfl ?_
    refine y_if_eqF rfl (by decide) ?_
    refine y_aload_n rfl rfl ?_
    refine y_getIv (v := Int32.ofInt (0)) rfl (ySh.t hS rfl) (ySh.n hS rfl) rfl rfl hth ?_
    refine y_if_neF rfl (by decide) ?_
    refine y_aload_n rfl rfl ?_
    refine y_iload_n rfl rfl ?_
    refine y_putI rfl (ySh.t hS rfl) (ySh.n hS rfl) rfl (Nat.le_of_ble_eq_true rfl) rfl rfl ?_
    refine y_nameI (fun I112 e112 => ?_)
    have hR1 := (hR0.grow hX).mod0 e112 (by decide) (by decide)
    have hK := (hK.x hRo hno hX).upI (upI e112) (by decide) (by decide) (fun i hi => by have := (hRo.l87.2.2.2.2 i hi).2.1; omega) (by rw [e112, upd2_ne (.inr (by decide))]; exact Int.le_refl _)
    have hth : I112 83 0 = Int32.ofInt (1) := by rw [e112, upd2_self]
    have hzz : ySz8 I111 I112 := ySz8_of (upI e112) (by rw [e112]; exact ⟨upd2_ne (.inr (by decide)), upd2_ne (.inr (by decide))⟩)
    have hS0 := hS
    have hR0 := hR1
    have hn := Nat.le_refl n
    have h94 := hS0.1
    have hX := @yX.rf n tg I112 R
    have hS := hS0.x hX
    have hR := hR0.x hn hX
    have hz := hX.sz h94
    have hxn := hX.1
    have hN := hR0.1
    have hnb := hR0.2.2.2.2.2.2
    have hthB := hth
    refine y_aload_n rfl rfl ?_
    refine y_getIv (v := Int32.ofInt (1)) rfl (ySh.t hS rfl) (ySh.n hS rfl) rfl rfl hth ?_
    refine y_if_leF rfl (by decide) ?_
    refine y_iconst rfl ?_
    refine y_goto rfl j_X14_refuse_28 ?_
    refine y_ireturn rfl rfl rfl ?_
    refine y_ret1 ?_
    refine y_ireturn rfl rfl rfl ?_
    refine y_ret1 ?_
    refine y_if_neT rfl j_X14_join_64 (by decide) ?_
    refine y_iconst rfl ?_
    refine y_ireturn rfl rfl rfl ?_
    exact hQ _ _ _ _ _ _ _ hS ((hR0.grow hX).up (Nat.le_succ K) hk6) (hK.x hRo hno hX) (by omega) (by omega)
theorem n_buyOut (hS0 : ySh n tg R) (hR0 : yRI K n tg I R) (hk6 : K < 600) {x1 x2 x3 x4 : Int32} (hQ : ∀ (v : Int32) n1 tg1 I1 R1 c1 s1, ySh n1 tg1 R1 → yRI (K + 1) n1 tg1 I1 R1 → yKp n tg I R n1 tg1 I1 R1 → c1 ≤ c + 0 → s1 ≤ s + 0 → Q (.inl (some (.int v))) (n1, tg1, I1, R1) c1 s1) : yC 215 [.ref 83, .int x1, .int x2, .int x3, .int x4] (n, tg, I, R) c s Q := by
  have hno := Nat.le_refl n
  have hn := hno
  have hRo := hR0
  have hK : yKp n tg I R n tg I R := yKp.rf
  have hX : yX n tg I R n tg I R := yX.rf
  have hS := hS0
  have hR := hR0
  have h94 : 94 ≤ n := hS0.1
  have hz : ySz I I := hX.sz h94
  have hxn := hX.1
  have hN := hR0.1
  have hnb : 94 ≤ n := hR0.2.2.2.2.2.2
  refine y_in (M := xm_X14_buyOut) (ls := [some _, some _, some _, some _, some _, _, _, _]) rfl rfl rfl ?_
  refine y_aload_n rfl rfl ?_
  refine y_aload_n rfl rfl ?_
  refine y_iload_n rfl rfl ?_
  refine y_virt rfl rfl rfl rfl rfl (ySh.t hS rfl) (ySh.n hS rfl) ?_
  refine y_in (M := xm_X14_isNoVenture) (ls := [some _, some _]) rfl rfl rfl ?_
  refine y_iload_n rfl rfl ?_
  refine y_iconst rfl ?_
  refine y_aload_n rfl rfl ?_
  refine y_getR rfl (ySh.t hS rfl) (ySh.n hS rfl) rfl rfl (ySh.r hS rfl) ?_
  refine y_virt rfl rfl rfl rfl rfl (ySh.t hS rfl) (ySh.n hS rfl) ?_
  refine y_in (M := xm_Jx4a65c_size_8abf5) (ls := [some _]) rfl rfl rfl ?_
  refine y_aload_n rfl rfl ?_
  refine y_getI rfl (ySh.t hS rfl) (ySh.n hS rfl) rfl rfl ?_
  refine y_ireturn rfl rfl rfl ?_
  refine y_ret1 ?_
  refine y_iconst rfl ?_
  refine y_isub rfl ?_
  refine y_static rfl rfl rfl rfl rfl ?_
  refine r_isIn (fun h_1 h_2 => ?_) (fun h_3 => ?_)
  · rw [yz_0] at h_1
    try rw [ysub (by rw [yz_1]; omega) (by rw [yz_1]; omega), yz_1] at h_2
    refine y_ret1 ?_
    refine y_if_neT rfl j_X14_isNoVenture_21 (by decide) ?_
    refine y_iconst rfl ?_
    refine y_ireturn rfl rfl rfl ?_
    refine y_ret1 ?_
    refine y_if_neF rfl (by decide) ?_
    refine y_aload_n rfl rfl ?_
    refine y_iload_n rfl rfl ?_
    refine y_virt rfl rfl rfl rfl rfl (ySh.t hS rfl) (ySh.n hS rfl) ?_
    refine y_in (M := xm_X14_isNoOne) (ls := [some _, some _]) rfl rfl rfl ?_
    refine y_iload_n rfl rfl ?_
    refine y_iconst rfl ?_
    refine y_icmp_eq rfl j_X14_isNoOne_17 (fun h_4 => ?_) (fun h_5 => ?_)
    · rw [yz_m1] at h_4
      refine y_iconst rfl ?_
      refine y_ireturn rfl rfl rfl ?_
      refine y_ret1 ?_
      refine y_if_neF rfl (by decide) ?_
      refine y_aload_n rfl rfl ?_
      refine y_iload_n rfl rfl ?_
      refine y_virt rfl rfl rfl rfl rfl (ySh.t hS rfl) (ySh.n hS rfl) ?_
      refine y_in (M := xm_X14_isNoOne) (ls := [some _, some _]) rfl rfl rfl ?_
      refine y_iload_n rfl rfl ?_
      refine y_iconst rfl ?_
      refine y_icmp_eq rfl j_X14_isNoOne_17 (fun h_6 => ?_) (fun h_7 => ?_)
      · rw [yz_m1] at h_6
        refine y_iconst rfl ?_
        refine y_ireturn rfl rfl rfl ?_
        refine y_ret1 ?_
        refine y_if_eqT rfl j_X14_buyOut_29 (by decide) ?_
        refine y_iconst rfl ?_
        refine y_iconst rfl ?_
        refine y_virt rfl rfl rfl rfl rfl (ySh.t hS rfl) (ySh.n hS rfl) ?_
        refine y_in (M := xm_X14_start) (ls := [some _, some _, some _]) rfl rfl rfl ?_
        refine y_aload_n rfl rfl ?_
        refine y_iconst rfl ?_
        refine y_putI rfl (ySh.t hS rfl) (ySh.n hS rfl) rfl (Nat.le_of_ble_eq_true rfl) rfl rfl ?_
        refine y_nameI (fun I8 e8 => ?_)
        have hR1 := (hR0.grow hX).mod0 e8 (by decide) (by decide)
        have hK := (hK.x hRo hno hX).upI (upI e8) (by decide) (by decide) (fun i hi => by have := (hRo.l87.2.2.2.2 i hi).2.1; omega) (by rw [e8, upd2_ne (.inr (by decide))]; exact Int.le_refl _)
        have hth : I8 83 0 = Int32.ofInt (0) := by rw [e8, upd2_self]
        have hzz : ySz8 I I8 := ySz8_of (upI e8) (by rw [e8]; exact ⟨upd2_ne (.inr (by decide)), upd2_ne (.inr (by decide))⟩)
        have hS0 := hS
        have hR0 := hR1
        have hn := Nat.le_refl n
        have h94 := hS0.1
        have hX := @yX.rf n tg I8 R
        have hS := hS0.x hX
        have hR := hR0.x hn hX
        have hz := hX.sz h94
        have hxn := hX.1
        have hN := hR0.1
        have hnb := hR0.2.2.2.2.2.2
        have hthB := hth
        refine y_aload_n rfl rfl ?_
        refine y_iload_n rfl rfl ?_
        refine y_iload_n rfl rfl ?_
        refine y_virt rfl rfl rfl rfl rfl (ySh.t hS rfl) (ySh.n hS rfl) ?_
        refine y_in (M := xm_X14_refuse) (ls := [some _, some _, some _]) rfl rfl rfl ?_
        refine y_iload_n rfl rfl ?_
        refine y_if_eqT rfl j_X14_refuse_16 (by decide) ?_
        refine y_aload_n rfl rfl ?_
        refine y_getIv (v := Int32.ofInt (0)) rfl (ySh.t hS rfl) (ySh.n hS rfl) rfl rfl hth ?_
        refine y_if_leT rfl j_X14_refuse_27 (by decide) ?_
        refine y_iconst rfl ?_
        refine y_ireturn rfl rfl rfl ?_
        refine y_ret1 ?_
        refine y_ireturn rfl rfl rfl ?_
        refine y_ret1 ?_
        refine y_if_neF rfl (by decide) ?_
        refine y_aload_n rfl rfl ?_
        refine y_iload_n rfl rfl ?_
        refine y_iload_n rfl rfl ?_
        refine y_icmp_eq rfl j_X14_buyOut_55 (fun h_9 => ?_) (fun h_10 => ?_)
        · refine y_iconst rfl ?_
          refine y_goto rfl j_X14_buyOut_60 ?_
          refine y_iconst rfl ?_
          refine y_virt rfl rfl rfl rfl rfl (ySh.t hS rfl) (ySh.n hS rfl) ?_
          refine y_in (M := xm_X14_refuse) (ls := [some _, some _, some _]) rfl rfl rfl ?_
          refine y_iload_n rfl rfl ?_
          refine y_if_eqF rfl (by decide) ?_
          refine y_aload_n rfl rfl ?_
          refine y_getIv (v := Int32.ofInt (0)) rfl (ySh.t hS rfl) (ySh.n hS rfl) rfl rfl hth ?_
          refine y_if_neF rfl (by decide) ?_
          refine y_aload_n rfl rfl ?_
          refine y_iload_n rfl rfl ?_
          refine y_putI rfl (ySh.t hS rfl) (ySh.n hS rfl) rfl (Nat.le_of_ble_eq_true rfl) rfl rfl ?_
          refine y_nameI (fun I11 e11 => ?_)
          have hR1 := (hR0.grow hX).mod0 e11 (by decide) (by decide)
          have hK := (hK.x hRo hno hX).upI (upI e11) (by decide) (by decide) (fun i hi => by have := (hRo.l87.2.2.2.2 i hi).2.1; omega) (by rw [e11, upd2_ne (.inr (by decide))]; exact Int.le_refl _)
          have hth : I11 83 0 = Int32.ofInt (2) := by rw [e11, upd2_self]
          have hzz : ySz8 I8 I11 := ySz8_of (upI e11) (by rw [e11]; exact ⟨upd2_ne (.inr (by decide)), upd2_ne (.inr (by decide))⟩)
          have hS0 := hS
          have hR0 := hR1
          have hn := Nat.le_refl n
          have h94 := hS0.1
          have hX := @yX.rf n tg I11 R
          have hS := hS0.x hX
          have hR := hR0.x hn hX
          have hz := hX.sz h94
          have hxn := hX.1
          have hN := hR0.1
          have hnb := hR0.2.2.2.2.2.2
          have hthB := hth
          refine y_aload_n rfl rfl ?_
          refine y_getIv (v := Int32.ofInt (2)) rfl (ySh.t hS rfl) (ySh.n hS rfl) rfl rfl hth ?_
          refine y_if_leF rfl (by decide) ?_
          refine y_iconst rfl ?_
          refine y_goto rfl j_X14_refuse_28 ?_
          refine y_ireturn rfl rfl rfl ?_
          refine y_ret1 ?_
          refine y_if_eqF rfl (by decide) ?_
          refine y_iconst rfl ?_
          refine y_ireturn rfl rfl rfl ?_
          exact hQ _ _ _ _ _ _ _ hS ((hR0.grow hX).up (Nat.le_succ K) hk6) (hK.x hRo hno hX) (by omega) (by omega)
        · refine y_iload rfl rfl ?_
          refine y_iconst rfl ?_
          refine y_sip rfl (by decide) ?_
          refine y_static rfl rfl rfl rfl rfl ?_
          refine r_isIn (fun h_12 h_13 => ?_) (fun h_14 => ?_)
          · rw [yz_1] at h_12
            rw [yz_999] at h_13
            refine y_ret1 ?_
            refine y_if_neT rfl j_X14_buyOut_59 (by decide) ?_
            refine y_iconst rfl ?_
            refine y_iconst rfl ?_
            refine y_virt rfl rfl rfl rfl rfl (ySh.t hS rfl) (ySh.n hS rfl) ?_
            refine y_in (M := xm_X14_refuse) (ls := [some _, some _, some _]) rfl rfl rfl ?_
            refine y_iload_n rfl rfl ?_
            refine y_if_eqT rfl j_X14_refuse_16 (by decide) ?_
            refine y_aload_n rfl rfl ?_
            refine y_getIv (v := Int32.ofInt (0)) rfl (ySh.t hS rfl) (ySh.n hS rfl) rfl rfl hth ?_
            refine y_if_leT rfl j_X14_refuse_27 (by decide) ?_
            refine y_iconst rfl ?_
            refine y_ireturn rfl rfl rfl ?_
            refine y_ret1 ?_
            refine y_if_eqT rfl j_X14_buyOut_69 (by decide) ?_
            refine y_aload_n rfl rfl ?_
            refine y_getR rfl (ySh.t hS rfl) (ySh.n hS rfl) rfl rfl (ySh.r hS rfl) ?_
            refine y_iload_n rfl rfl ?_
            refine y_virt rfl rfl rfl rfl rfl (ySh.t hS rfl) (ySh.n hS rfl) ?_
            refine l_get (nb := n) (ySh.t hS rfl) (ySh.n hS rfl) (Nat.le_trans hn hX.1) hR.l91 (by omega) (by omega) (fun b15 eb_b15 hlo_b15 hb0_b15 ht_b15 => ?_)
            have hb_b15 := Nat.lt_of_lt_of_le hb0_b15 hn
            replace ht_b15 := (hX.2.1 _ hb_b15).1.symm.trans ht_b15
            refine y_ret1 ?_
            refine y_cast rfl ((hX.2.1 _ hb_b15).1.trans ht_b15) (Nat.lt_of_lt_of_le hb_b15 hX.1) ?_
            refine y_astore (ls' := [some _, some _, some _, some _, some _, some _, _, _]) rfl rfl rfl ?_
            refine y_iload_n rfl rfl ?_
            refine y_static rfl rfl rfl rfl rfl ?_
            refine y_in (M := xm_X14_seat) (ls := [some _]) rfl rfl rfl ?_
            refine y_iload_n rfl rfl ?_
            refine y_iconst rfl ?_
            refine y_icmp_ne rfl j_X14_seat_10 (fun h_16 => ?_) (fun h_17 => ?_)
            · rw [yz_m1] at h_16
              refine y_iload_n rfl rfl ?_
              refine y_ireturn rfl rfl rfl ?_
              refine y_ret1 ?_
              refine y_istore (ls' := [some _, some _, some _, some _, some _, some _, some _, _]) rfl rfl rfl ?_
              refine y_iload_n rfl rfl ?_
              refine y_static rfl rfl rfl rfl rfl ?_
              refine y_in (M := xm_X14_seat) (ls := [some _]) rfl rfl rfl ?_
              refine y_iload_n rfl rfl ?_
              refine y_iconst rfl ?_
              refine y_icmp_ne rfl j_X14_seat_10 (fun h_18 => ?_) (fun h_19 => ?_)
              · rw [yz_m1] at h_18
                refine y_iload_n rfl rfl ?_
                refine y_ireturn rfl rfl rfl ?_
                refine y_ret1 ?_
                refine y_istore (ls' := [some _, some _, some _, some _, some _, some _, some _, some _]) rfl rfl rfl ?_
                refine y_aload_n rfl rfl ?_
                refine y_aload rfl rfl ?_
                obtain ⟨hR_v20, hb_v20, ht_v20⟩ := hR0.ven hlo_b15 hb0_b15 ht_b15 (j := 0) (by decide)
                have hb0_v20 := hb_v20
                have hb_v20 := Nat.lt_of_lt_of_le hb_v20 hn
                have hlo_v20 : 94 ≤ b15 + 1 + 0 := by omega
                have hR2_v20 := (congrFun (hX.2.1 b15 hb_b15).2.2 0).trans hR_v20
                refine y_getR rfl ((hX.2.1 _ hb_b15).1.trans ht_b15) (Nat.lt_of_lt_of_le hb_b15 hX.1) rfl rfl hR2_v20 ?_
                refine y_iload rfl rfl ?_
                refine y_baload rfl ((hX.2.1 _ hb_v20).1.trans ht_v20) rfl (Nat.lt_of_lt_of_le hb_v20 hX.1) (by omega) (by omega) ?_
                refine y_if_eq rfl j_X14_buyOut_142 (fun h_21 => ?_) (fun h_22 => ?_)
                · refine y_iconst rfl ?_
                  refine y_goto rfl j_X14_buyOut_147 ?_
                  refine y_iconst rfl ?_
                  refine y_virt rfl rfl rfl rfl rfl (ySh.t hS rfl) (ySh.n hS rfl) ?_
                  refine y_in (M := xm_X14_refuse) (ls := [some _, some _, some _]) rfl rfl rfl ?_
                  refine y_iload_n rfl rfl ?_
                  refine y_if_eqF rfl (by decide) ?_
                  refine y_aload_n rfl rfl ?_
                  refine y_getIv (v := Int32.ofInt (0)) rfl (ySh.t hS rfl) (ySh.n hS rfl) rfl rfl hth ?_
                  refine y_if_neF rfl (by decide) ?_
                  refine y_aload_n rfl rfl ?_
                  refine y_iload_n rfl rfl ?_
                  refine y_putI rfl (ySh.t hS rfl) (ySh.n hS rfl) rfl (Nat.le_of_ble_eq_true rfl) rfl rfl ?_
                  refine y_nameI (fun I23 e23 => ?_)
                  have hR1 := (hR0.grow hX).mod0 e23 (by decide) (by decide)
                  have hK := (hK.x hRo hno hX).upI (upI e23) (by decide) (by decide) (fun i hi => by have := (hRo.l87.2.2.2.2 i hi).2.1; omega) (by rw [e23, upd2_ne (.inr (by decide))]; exact Int.le_refl _)
                  have hth : I23 83 0 = Int32.ofInt (3) := by rw [e23, upd2_self]
                  have hzz : ySz8 I8 I23 := ySz8_of (upI e23) (by rw [e23]; exact ⟨upd2_ne (.inr (by decide)), upd2_ne (.inr (by decide))⟩)
                  have hS0 := hS
                  have hR0 := hR1
                  have ht_b15 := (hX.2.1 _ hb_b15).1.trans ht_b15
                  have hb_b15 := Nat.lt_of_lt_of_le hb_b15 hX.1
                  have hb0_b15 := hb_b15
                  have ht_v20 := (hX.2.1 _ hb_v20).1.trans ht_v20
                  have hb_v20 := Nat.lt_of_lt_of_le hb_v20 hX.1
                  have hb0_v20 := hb_v20
                  have hn := Nat.le_refl n
                  have h94 := hS0.1
                  have hX := @yX.rf n tg I23 R
                  have hS := hS0.x hX
                  have hR := hR0.x hn hX
                  have hz := hX.sz h94
                  have hxn := hX.1
                  have hN := hR0.1
                  have hnb := hR0.2.2.2.2.2.2
                  have hthB := hth
                  refine y_aload_n rfl rfl ?_
                  refine y_getIv (v := Int32.ofInt (3)) rfl (ySh.t hS rfl) (ySh.n hS rfl) rfl rfl hth ?_
                  refine y_if_leF rfl (by decide) ?_
                  refine y_iconst rfl ?_
                  refine y_goto rfl j_X14_refuse_28 ?_
                  refine y_ireturn rfl rfl rfl ?_
                  refine y_ret1 ?_
                  refine y_if_eqF rfl (by decide) ?_
                  refine y_iconst rfl ?_
                  refine y_ireturn rfl rfl rfl ?_
                  exact hQ _ _ _ _ _ _ _ hS ((hR0.grow hX).up (Nat.le_succ K) hk6) (hK.x hRo hno hX) (by omega) (by omega)
                · refine y_aload rfl rfl ?_
                  obtain ⟨hR_v24, hb_v24, ht_v24⟩ := hR0.ven hlo_b15 hb0_b15 ht_b15 (j := 0) (by decide)
                  have hb0_v24 := hb_v24
                  have hb_v24 := Nat.lt_of_lt_of_le hb_v24 hn
                  have hlo_v24 : 94 ≤ b15 + 1 + 0 := by omega
                  have hR2_v24 := (congrFun (hX.2.1 b15 hb_b15).2.2 0).trans hR_v24
                  refine y_getR rfl ((hX.2.1 _ hb_b15).1.trans ht_b15) (Nat.lt_of_lt_of_le hb_b15 hX.1) rfl rfl hR2_v24 ?_
                  refine y_iload rfl rfl ?_
                  refine y_baload rfl ((hX.2.1 _ hb_v24).1.trans ht_v24) rfl (Nat.lt_of_lt_of_le hb_v24 hX.1) (by omega) (by omega) ?_
                  refine y_if_eq rfl j_X14_buyOut_142 (fun h_25 => ?_) (fun h_26 => ?_)
                  · refine y_iconst rfl ?_
                    refine y_goto rfl j_X14_buyOut_147 ?_
                    refine y_iconst rfl ?_
                    refine y_virt rfl rfl rfl rfl rfl (ySh.t hS rfl) (ySh.n hS rfl) ?_
                    refine y_in (M := xm_X14_refuse) (ls := [some _, some _, some _]) rfl rfl rfl ?_
                    refine y_iload_n rfl rfl ?_
                    refine y_if_eqF rfl (by decide) ?_
                    refine y_aload_n rfl rfl ?_
                    refine y_getIv (v := Int32.ofInt (0)) rfl (ySh.t hS rfl) (ySh.n hS rfl) rfl rfl hth ?_
                    refine y_if_neF rfl (by decide) ?_
                    refine y_aload_n rfl rfl ?_
                    refine y_iload_n rfl rfl ?_
                    refine y_putI rfl (ySh.t hS rfl) (ySh.n hS rfl) rfl (Nat.le_of_ble_eq_true rfl) rfl rfl ?_
                    refine y_nameI (fun I27 e27 => ?_)
                    have hR1 := (hR0.grow hX).mod0 e27 (by decide) (by decide)
                    have hK := (hK.x hRo hno hX).upI (upI e27) (by decide) (by decide) (fun i hi => by have := (hRo.l87.2.2.2.2 i hi).2.1; omega) (by rw [e27, upd2_ne (.inr (by decide))]; exact Int.le_refl _)
                    have hth : I27 83 0 = Int32.ofInt (3) := by rw [e27, upd2_self]
                    have hzz : ySz8 I8 I27 := ySz8_of (upI e27) (by rw [e27]; exact ⟨upd2_ne (.inr (by decide)), upd2_ne (.inr (by decide))⟩)
                    have hS0 := hS
                    have hR0 := hR1
                    have ht_b15 := (hX.2.1 _ hb_b15).1.trans ht_b15
                    have hb_b15 := Nat.lt_of_lt_of_le hb_b15 hX.1
                    have hb0_b15 := hb_b15
                    have ht_v20 := (hX.2.1 _ hb_v20).1.trans ht_v20
                    have hb_v20 := Nat.lt_of_lt_of_le hb_v20 hX.1
                    have hb0_v20 := hb_v20
                    have ht_v24 := (hX.2.1 _ hb_v24).1.trans ht_v24
                    have hb_v24 := Nat.lt_of_lt_of_le hb_v24 hX.1
                    have hb0_v24 := hb_v24
                    have hn := Nat.le_refl n
                    have h94 := hS0.1
                    have hX := @yX.rf n tg I27 R
                    have hS := hS0.x hX
                    have hR := hR0.x hn hX
                    have hz := hX.sz h94
                    have hxn := hX.1
                    have hN := hR0.1
                    have hnb := hR0.2.2.2.2.2.2
                    have hthB := hth
                    refine y_aload_n rfl rfl ?_
                    refine y_getIv (v := Int32.ofInt (3)) rfl (ySh.t hS rfl) (ySh.n hS rfl) rfl rfl hth ?_
                    refine y_if_leF rfl (by decide) ?_
                    refine y_iconst rfl ?_
                    refine y_goto rfl j_X14_refuse_28 ?_
                    refine y_ireturn rfl rfl rfl ?_
                    refine y_ret1 ?_
                    refine y_if_eqF rfl (by decide) ?_
                    refine y_iconst rfl ?_
                    refine y_ireturn rfl rfl rfl ?_
                    exact hQ _ _ _ _ _ _ _ hS ((hR0.grow hX).up (Nat.le_succ K) hk6) (hK.x hRo hno hX) (by omega) (by omega)
                  · refine y_aload rfl rfl ?_
                    obtain ⟨hR_v28, hb_v28, ht_v28⟩ := hR0.ven hlo_b15 hb0_b15 ht_b15 (j := 1) (by decide)
                    have hb0_v28 := hb_v28
                    have hb_v28 := Nat.lt_of_lt_of_le hb_v28 hn
                    have hlo_v28 : 94 ≤ b15 + 1 + 1 := by omega
                    have hR2_v28 := (congrFun (hX.2.1 b15 hb_b15).2.2 1).trans hR_v28
                    refine y_getR rfl ((hX.2.1 _ hb_b15).1.trans ht_b15) (Nat.lt_of_lt_of_le hb_b15 hX.1) rfl rfl hR2_v28 ?_
                    refine y_iload rfl rfl ?_
                    refine y_iaload rfl ((hX.2.1 _ hb_v28).1.trans ht_v28) (Nat.lt_of_lt_of_le hb_v28 hX.1) (by omega) (by omega) ?_
                    refine y_iload rfl rfl ?_
                    refine y_icmp_lt rfl j_X14_buyOut_142 (fun h_29 => ?_) (fun h_30 => ?_)
                    · refine y_iconst rfl ?_
                      refine y_goto rfl j_X14_buyOut_147 ?_
                      refine y_iconst rfl ?_
                      refine y_virt rfl rfl rfl rfl rfl (ySh.t hS rfl) (ySh.n hS rfl) ?_
                      refine y_in (M := xm_X14_refuse) (ls := [some _, some _, some _]) rfl rfl rfl ?_
                      refine y_iload_n rfl rfl ?_
                      refine y_if_eqF rfl (by decide) ?_
                      refine y_aload_n rfl rfl ?_
                      refine y_getIv (v := Int32.ofInt (0)) rfl (ySh.t hS rfl) (ySh.n hS rfl) rfl rfl hth ?_
                      refine y_if_neF rfl (by decide) ?_
                      refine y_aload_n rfl rfl ?_
                      refine y_iload_n rfl rfl ?_
                      refine y_putI rfl (ySh.t hS rfl) (ySh.n hS rfl) rfl (Nat.le_of_ble_eq_true rfl) rfl rfl ?_
                      refine y_nameI (fun I31 e31 => ?_)
                      have hR1 := (hR0.grow hX).mod0 e31 (by decide) (by decide)
                      have hK := (hK.x hRo hno hX).upI (upI e31) (by decide) (by decide) (fun i hi => by have := (hRo.l87.2.2.2.2 i hi).2.1; omega) (by rw [e31, upd2_ne (.inr (by decide))]; exact Int.le_refl _)
                      have hth : I31 83 0 = Int32.ofInt (3) := by rw [e31, upd2_self]
                      have hzz : ySz8 I8 I31 := ySz8_of (upI e31) (by rw [e31]; exact ⟨upd2_ne (.inr (by decide)), upd2_ne (.inr (by decide))⟩)
                      have hS0 := hS
                      have hR0 := hR1
                      have ht_b15 := (hX.2.1 _ hb_b15).1.trans ht_b15
                      have hb_b15 := Nat.lt_of_lt_of_le hb_b15 hX.1
                      have hb0_b15 := hb_b15
                      have ht_v20 := (hX.2.1 _ hb_v20).1.trans ht_v20
                      have hb_v20 := Nat.lt_of_lt_of_le hb_v20 hX.1
                      have hb0_v20 := hb_v20
                      have ht_v24 := (hX.2.1 _ hb_v24).1.trans ht_v24
                      have hb_v24 := Nat.lt_of_lt_of_le hb_v24 hX.1
                      have hb0_v24 := hb_v24
                      have ht_v28 := (hX.2.1 _ hb_v28).1.trans ht_v28
                      have hb_v28 := Nat.lt_of_lt_of_le hb_v28 hX.1
                      have hb0_v28 := hb_v28
                      have hn := Nat.le_refl n
                      have h94 := hS0.1
                      have hX := @yX.rf n tg I31 R
                      have hS := hS0.x hX
                      have hR := hR0.x hn hX
                      have hz := hX.sz h94
                      have hxn := hX.1
                      have hN := hR0.1
                      have hnb := hR0.2.2.2.2.2.2
                      have hthB := hth
                      refine y_aload_n rfl rfl ?_
                      refine y_getIv (v := Int32.ofInt (3)) rfl (ySh.t hS rfl) (ySh.n hS rfl) rfl rfl hth ?_
                      refine y_if_leF rfl (by decide) ?_
                      refine y_iconst rfl ?_
                      refine y_goto rfl j_X14_refuse_28 ?_
                      refine y_ireturn rfl rfl rfl ?_
                      refine y_ret1 ?_
                      refine y_if_eqF rfl (by decide) ?_
                      refine y_iconst rfl ?_
                      refine y_ireturn rfl rfl rfl ?_
                      exact hQ _ _ _ _ _ _ _ hS ((hR0.grow hX).up (Nat.le_succ K) hk6) (hK.x hRo hno hX) (by omega) (by omega)
                    · refine y_aload_n rfl rfl ?_
                      refine y_getR rfl (ySh.t hS rfl) (ySh.n hS rfl) rfl rfl (ySh.r hS rfl) ?_
                      refine y_iload rfl rfl ?_
                      refine y_iaload rfl (ySh.t hS rfl) (ySh.n hS rfl) (by omega) (by omega) ?_
                      refine y_iload rfl rfl ?_
                      refine y_icmp_ge rfl j_X14_buyOut_146 (fun h_32 => ?_) (fun h_33 => ?_)
                      · refine y_iconst rfl ?_
                        refine y_iconst rfl ?_
                        refine y_virt rfl rfl rfl rfl rfl (ySh.t hS rfl) (ySh.n hS rfl) ?_
                        refine y_in (M := xm_X14_refuse) (ls := [some _, some _, some _]) rfl rfl rfl ?_
                        refine y_iload_n rfl rfl ?_
                        refine y_if_eqT rfl j_X14_refuse_16 (by decide) ?_
                        refine y_aload_n rfl rfl ?_
                        refine y_getIv (v := Int32.ofInt (0)) rfl (ySh.t hS rfl) (ySh.n hS rfl) rfl rfl hth ?_
                        refine y_if_leT rfl j_X14_refuse_27 (by decide) ?_
                        refine y_iconst rfl ?_
                        refine y_ireturn rfl rfl rfl ?_
                        refine y_ret1 ?_
                        refine y_if_eqT rfl j_X14_buyOut_156 (by decide) ?_
                        refine y_aload rfl rfl ?_
                        obtain ⟨hR_v34, hb_v34, ht_v34⟩ := hR0.ven hlo_b15 hb0_b15 ht_b15 (j := 1) (by decide)
                        have hb0_v34 := hb_v34
                        have hb_v34 := Nat.lt_of_lt_of_le hb_v34 hn
                        have hlo_v34 : 94 ≤ b15 + 1 + 1 := by omega
                        have hR2_v34 := (congrFun (hX.2.1 b15 hb_b15).2.2 1).trans hR_v34
                        refine y_getR rfl ((hX.2.1 _ hb_b15).1.trans ht_b15) (Nat.lt_of_lt_of_le hb_b15 hX.1) rfl rfl hR2_v34 ?_
                        refine y_iload rfl rfl ?_
                        refine y_dup2 rfl rfl rfl ?_
                        refine y_iaload rfl ((hX.2.1 _ hb_v34).1.trans ht_v34) (Nat.lt_of_lt_of_le hb_v34 hX.1) (by omega) (by omega) ?_
                        refine y_iload rfl rfl ?_
                        refine y_isub rfl ?_
                        refine y_iastore rfl ((hX.2.1 _ hb_v34).1.trans ht_v34) (Nat.lt_of_lt_of_le hb_v34 hX.1) (Nat.le_trans (by decide) (by omega : 94 ≤ _)) (by omega) (by omega) ?_
                        refine y_nameI (fun I35 e35 => ?_)
                        have hB1 := (hR0.grow hX).capB1 hlo_b15 (by omega) ((hX.2.1 _ hb_b15).1.trans ht_b15) (by omega) ⟨by omega, by omega⟩ e35
                        have hR1 := hB1.1
                        have hK := (hK.x hRo hno hX).upE hRo hno (upI e35) (by omega) (by omega) (by rw [((hX.2.1 _ hb_v34).1.trans ht_v34)]; decide) (by rw [e35, upd2_ne (.inl (by omega))]; exact Int.le_refl _)
                        have hth := (show I35 83 0 = I8 83 0 by rw [e35, upd2_ne (.inl (by omega))]).trans hth
                        have hzz : ySz I8 I35 := ySz_ofE (upI e35) (by omega)
                        have hS0 := hS
                        have hR0 := hR1
                        have ht_b15 := (hX.2.1 _ hb_b15).1.trans ht_b15
                        have hb_b15 := Nat.lt_of_lt_of_le hb_b15 hX.1
                        have hb0_b15 := hb_b15
                        have ht_v20 := (hX.2.1 _ hb_v20).1.trans ht_v20
                        have hb_v20 := Nat.lt_of_lt_of_le hb_v20 hX.1
                        have hb0_v20 := hb_v20
                        have ht_v24 := (hX.2.1 _ hb_v24).1.trans ht_v24
                        have hb_v24 := Nat.lt_of_lt_of_le hb_v24 hX.1
                        have hb0_v24 := hb_v24
                        have ht_v28 := (hX.2.1 _ hb_v28).1.trans ht_v28
                        have hb_v28 := Nat.lt_of_lt_of_le hb_v28 hX.1
                        have hb0_v28 := hb_v28
                        have ht_v34 := (hX.2.1 _ hb_v34).1.trans ht_v34
                        have hb_v34 := Nat.lt_of_lt_of_le hb_v34 hX.1
                        have hb0_v34 := hb_v34
                        have hn := Nat.le_refl n
                        have h94 := hS0.1
                        have hX := @yX.rf n tg I35 R
                        have hS := hS0.x hX
                        have hR := hR0.x hn hX
                        have hz := hX.sz h94
                        have hxn := hX.1
                        have hN := hR0.1
                        have hnb := hR0.2.2.2.2.2.2
                        have hthB := hth
                        refine y_aload rfl rfl ?_
                        obtain ⟨hR_v36, hb_v36, ht_v36⟩ := hR0.ven hlo_b15 hb0_b15 ht_b15 (j := 1) (by decide)
                        have hb0_v36 := hb_v36
                        have hb_v36 := Nat.lt_of_lt_of_le hb_v36 hn
                        have hlo_v36 : 94 ≤ b15 + 1 + 1 := by omega
                        have hR2_v36 := (congrFun (hX.2.1 b15 hb_b15).2.2 1).trans hR_v36
                        refine y_getR rfl ((hX.2.1 _ hb_b15).1.trans ht_b15) (Nat.lt_of_lt_of_le hb_b15 hX.1) rfl rfl hR2_v36 ?_
                        refine y_iload rfl rfl ?_
                        refine y_dup2 rfl rfl rfl ?_
                        refine y_iaload rfl ((hX.2.1 _ hb_v36).1.trans ht_v36) (Nat.lt_of_lt_of_le hb_v36 hX.1) (by omega) (by omega) ?_
                        refine y_iload rfl rfl ?_
                        refine y_iadd rfl ?_
                        refine y_iastore rfl ((hX.2.1 _ hb_v36).1.trans ht_v36) (Nat.lt_of_lt_of_le hb_v36 hX.1) (Nat.le_trans (by decide) (by omega : 94 ≤ _)) (by omega) (by omega) ?_
                        refine y_nameI (fun I37 e37 => ?_)
                        have hR1 := (hR0.grow hX).capB2 hlo_b15 (by omega) ((hX.2.1 _ hb_b15).1.trans ht_b15) (by omega) (by omega) hB1.2.1 e37
                        have hK := (hK.x hRo hno hX).upE hRo hno (upI e37) (by omega) (by omega) (by rw [((hX.2.1 _ hb_v36).1.trans ht_v36)]; decide) (by rw [e37, upd2_ne (.inl (by omega))]; exact Int.le_refl _)
                        have hth := (show I37 83 0 = I35 83 0 by rw [e37, upd2_ne (.inl (by omega))]).trans hth
                        have hzz : ySz I35 I37 := ySz_ofE (upI e37) (by omega)
                        have hS0 := hS
                        have hR0 := hR1
                        have ht_b15 := (hX.2.1 _ hb_b15).1.trans ht_b15
                        have hb_b15 := Nat.lt_of_lt_of_le hb_b15 hX.1
                        have hb0_b15 := hb_b15
                        have ht_v20 := (hX.2.1 _ hb_v20).1.trans ht_v20
                        have hb_v20 := Nat.lt_of_lt_of_le hb_v20 hX.1
                        have hb0_v20 := hb_v20
                        have ht_v24 := (hX.2.1 _ hb_v24).1.trans ht_v24
                        have hb_v24 := Nat.lt_of_lt_of_le hb_v24 hX.1
                        have hb0_v24 := hb_v24
                        have ht_v28 := (hX.2.1 _ hb_v28).1.trans ht_v28
                        have hb_v28 := Nat.lt_of_lt_of_le hb_v28 hX.1
                        have hb0_v28 := hb_v28
                        have ht_v34 := (hX.2.1 _ hb_v34).1.trans ht_v34
                        have hb_v34 := Nat.lt_of_lt_of_le hb_v34 hX.1
                        have hb0_v34 := hb_v34
                        have ht_v36 := (hX.2.1 _ hb_v36).1.trans ht_v36
                        have hb_v36 := Nat.lt_of_lt_of_le hb_v36 hX.1
                        have hb0_v36 := hb_v36
                        have hn := Nat.le_refl n
                        have h94 := hS0.1
                        have hX := @yX.rf n tg I37 R
                        have hS := hS0.x hX
                        have hR := hR0.x hn hX
                        have hz := hX.sz h94
                        have hxn := hX.1
                        have hN := hR0.1
                        have hnb := hR0.2.2.2.2.2.2
                        have hthB := hth
                        refine y_aload_n rfl rfl ?_
                        refine y_getR rfl (ySh.t hS rfl) (ySh.n hS rfl) rfl rfl (ySh.r hS rfl) ?_
                        refine y_iload rfl rfl ?_
                        refine y_dup2 rfl rfl rfl ?_
                        refine y_iaload rfl (ySh.t hS rfl) (ySh.n hS rfl) (by omega) (by omega) ?_
                        refine y_iload rfl rfl ?_
                        refine y_iadd rfl ?_
                        refine y_iastore rfl (ySh.t hS rfl) (ySh.n hS rfl) (Nat.le_of_ble_eq_true rfl) (by omega) (by omega) ?_
                        refine y_nameI (fun I38 e38 => ?_)
                        have hR1 := (hR0.grow hX).arr e38 (by decide)
                        have hK := (hK.x hRo hno hX).upI (upI e38) (by decide) (by decide) (fun i hi => by have := (hRo.l87.2.2.2.2 i hi).2.1; omega) (by rw [e38, upd2_ne (.inl (by omega))]; exact Int.le_refl _)
                        have hth := (show I38 83 0 = I37 83 0 by rw [e38, upd2_ne (.inl (by omega))]).trans hth
                        have hzz : ySz I37 I38 := ySz_ofE (upI e38) (by omega)
                        have hS0 := hS
                        have hR0 := hR1
                        have ht_b15 := (hX.2.1 _ hb_b15).1.trans ht_b15
                        have hb_b15 := Nat.lt_of_lt_of_le hb_b15 hX.1
                        have hb0_b15 := hb_b15
                        have ht_v20 := (hX.2.1 _ hb_v20).1.trans ht_v20
                        have hb_v20 := Nat.lt_of_lt_of_le hb_v20 hX.1
                        have hb0_v20 := hb_v20
                        have ht_v24 := (hX.2.1 _ hb_v24).1.trans ht_v24
                        have hb_v24 := Nat.lt_of_lt_of_le hb_v24 hX.1
                        have hb0_v24 := hb_v24
                        have ht_v28 := (hX.2.1 _ hb_v28).1.trans ht_v28
                        have hb_v28 := Nat.lt_of_lt_of_le hb_v28 hX.1
                        have hb0_v28 := hb_v28
                        have ht_v34 := (hX.2.1 _ hb_v34).1.trans ht_v34
                        have hb_v34 := Nat.lt_of_lt_of_le hb_v34 hX.1
                        have hb0_v34 := hb_v34
                        have ht_v36 := (hX.2.1 _ hb_v36).1.trans ht_v36
                        have hb_v36 := Nat.lt_of_lt_of_le hb_v36 hX.1
                        have hb0_v36 := hb_v36
                        have hn := Nat.le_refl n
                        have h94 := hS0.1
                        have hX := @yX.rf n tg I38 R
                        have hS := hS0.x hX
                        have hR := hR0.x hn hX
                        have hz := hX.sz h94
                        have hxn := hX.1
                        have hN := hR0.1
                        have hnb := hR0.2.2.2.2.2.2
                        have hthB := hth
                        refine y_aload_n rfl rfl ?_
                        refine y_getR rfl (ySh.t hS rfl) (ySh.n hS rfl) rfl rfl (ySh.r hS rfl) ?_
                        refine y_iload rfl rfl ?_
                        refine y_dup2 rfl rfl rfl ?_
                        refine y_iaload rfl (ySh.t hS rfl) (ySh.n hS rfl) (by omega) (by omega) ?_
                        refine y_iload rfl rfl ?_
                        refine y_isub rfl ?_
                        refine y_iastore rfl (ySh.t hS rfl) (ySh.n hS rfl) (Nat.le_of_ble_eq_true rfl) (by omega) (by omega) ?_
                        refine y_nameI (fun I39 e39 => ?_)
                        have hR1 := (hR0.grow hX).arr e39 (by decide)
                        have hK := (hK.x hRo hno hX).upI (upI e39) (by decide) (by decide) (fun i hi => by have := (hRo.l87.2.2.2.2 i hi).2.1; omega) (by rw [e39, upd2_ne (.inl (by omega))]; exact Int.le_refl _)
                        have hth := (show I39 83 0 = I38 83 0 by rw [e39, upd2_ne (.inl (by omega))]).trans hth
                        have hzz : ySz I38 I39 := ySz_ofE (upI e39) (by omega)
                        have hS0 := hS
                        have hR0 := hR1
                        have ht_b15 := (hX.2.1 _ hb_b15).1.trans ht_b15
                        have hb_b15 := Nat.lt_of_lt_of_le hb_b15 hX.1
                        have hb0_b15 := hb_b15
                        have ht_v20 := (hX.2.1 _ hb_v20).1.trans ht_v20
                        have hb_v20 := Nat.lt_of_lt_of_le hb_v20 hX.1
                        have hb0_v20 := hb_v20
                        have ht_v24 := (hX.2.1 _ hb_v24).1.trans ht_v24
                        have hb_v24 := Nat.lt_of_lt_of_le hb_v24 hX.1
                        have hb0_v24 := hb_v24
                        have ht_v28 := (hX.2.1 _ hb_v28).1.trans ht_v28
                        have hb_v28 := Nat.lt_of_lt_of_le hb_v28 hX.1
                        have hb0_v28 := hb_v28
                        have ht_v34 := (hX.2.1 _ hb_v34).1.trans ht_v34
                        have hb_v34 := Nat.lt_of_lt_of_le hb_v34 hX.1
                        have hb0_v34 := hb_v34
                        have ht_v36 := (hX.2.1 _ hb_v36).1.trans ht_v36
                        have hb_v36 := Nat.lt_of_lt_of_le hb_v36 hX.1
                        have hb0_v36 := hb_v36
                        have hn := Nat.le_refl n
                        have h94 := hS0.1
                        have hX := @yX.rf n tg I39 R
                        have hS := hS0.x hX
                        have hR := hR0.x hn hX
                        have hz := hX.sz h94
                        have hxn := hX.1
                        have hN := hR0.1
                        have hnb := hR0.2.2.2.2.2.2
                        have hthB := hth
                        refine y_aload rfl rfl ?_
                        obtain ⟨hR_v40, hb_v40, ht_v40⟩ := hR0.ven hlo_b15 hb0_b15 ht_b15 (j := 1) (by decide)
                        have hb0_v40 := hb_v40
                        have hb_v40 := Nat.lt_of_lt_of_le hb_v40 hn
                        have hlo_v40 : 94 ≤ b15 + 1 + 1 := by omega
                        have hR2_v40 := (congrFun (hX.2.1 b15 hb_b15).2.2 1).trans hR_v40
                        refine y_getR rfl ((hX.2.1 _ hb_b15).1.trans ht_b15) (Nat.lt_of_lt_of_le hb_b15 hX.1) rfl rfl hR2_v40 ?_
                        refine y_iload rfl rfl ?_
                        refine y_iaload rfl ((hX.2.1 _ hb_v40).1.trans ht_v40) (Nat.lt_of_lt_of_le hb_v40 hX.1) (by omega) (by omega) ?_
                        refine y_ireturn rfl rfl rfl ?_
                        exact hQ _ _ _ _ _ _ _ hS ((hR0.grow hX).up (Nat.le_succ K) hk6) (hK.x hRo hno hX) (by omega) (by omega)
                      · refine y_iconst rfl ?_
                        refine y_goto rfl j_X14_buyOut_147 ?_
                        refine y_iconst rfl ?_
                        refine y_virt rfl rfl rfl rfl rfl (ySh.t hS rfl) (ySh.n hS rfl) ?_
                        refine y_in (M := xm_X14_refuse) (ls := [some _, some _, some _]) rfl rfl rfl ?_
                        refine y_iload_n rfl rfl ?_
                        refine y_if_eqF rfl (by decide) ?_
                        refine y_aload_n rfl rfl ?_
                        refine y_getIv (v := Int32.ofInt (0)) rfl (ySh.t hS rfl) (ySh.n hS rfl) rfl rfl hth ?_
                        refine y_if_neF rfl (by decide) ?_
                        refine y_aload_n rfl rfl ?_
                        refine y_iload_n rfl rfl ?_
                        refine y_putI rfl (ySh.t hS rfl) (ySh.n hS rfl) rfl (Nat.le_of_ble_eq_true rfl) rfl rfl ?_
                        refine y_nameI (fun I41 e41 => ?_)
                        have hR1 := (hR0.grow hX).mod0 e41 (by decide) (by decide)
                        have hK := (hK.x hRo hno hX).upI (upI e41) (by decide) (by decide) (fun i hi => by have := (hRo.l87.2.2.2.2 i hi).2.1; omega) (by rw [e41, upd2_ne (.inr (by decide))]; exact Int.le_refl _)
                        have hth : I41 83 0 = Int32.ofInt (3) := by rw [e41, upd2_self]
                        have hzz : ySz8 I8 I41 := ySz8_of (upI e41) (by rw [e41]; exact ⟨upd2_ne (.inr (by decide)), upd2_ne (.inr (by decide))⟩)
                        have hS0 := hS
                        have hR0 := hR1
                        have ht_b15 := (hX.2.1 _ hb_b15).1.trans ht_b15
                        have hb_b15 := Nat.lt_of_lt_of_le hb_b15 hX.1
                        have hb0_b15 := hb_b15
                        have ht_v20 := (hX.2.1 _ hb_v20).1.trans ht_v20
                        have hb_v20 := Nat.lt_of_lt_of_le hb_v20 hX.1
                        have hb0_v20 := hb_v20
                        have ht_v24 := (hX.2.1 _ hb_v24).1.trans ht_v24
                        have hb_v24 := Nat.lt_of_lt_of_le hb_v24 hX.1
                        have hb0_v24 := hb_v24
                        have ht_v28 := (hX.2.1 _ hb_v28).1.trans ht_v28
                        have hb_v28 := Nat.lt_of_lt_of_le hb_v28 hX.1
                        have hb0_v28 := hb_v28
                        have hn := Nat.le_refl n
                        have h94 := hS0.1
                        have hX := @yX.rf n tg I41 R
                        have hS := hS0.x hX
                        have hR := hR0.x hn hX
                        have hz := hX.sz h94
                        have hxn := hX.1
                        have hN := hR0.1
                        have hnb := hR0.2.2.2.2.2.2
                        have hthB := hth
                        refine y_aload_n rfl rfl ?_
                        refine y_getIv (v := Int32.ofInt (3)) rfl (ySh.t hS rfl) (ySh.n hS rfl) rfl rfl hth ?_
                        refine y_if_leF rfl (by decide) ?_
                        refine y_iconst rfl ?_
                        refine y_goto rfl j_X14_refuse_28 ?_
                        refine y_ireturn rfl rfl rfl ?_
                        refine y_ret1 ?_
                        refine y_if_eqF rfl (by decide) ?_
                        refine y_iconst rfl ?_
                        refine y_ireturn rfl rfl rfl ?_
                        exact hQ _ _ _ _ _ _ _ hS ((hR0.grow hX).up (Nat.le_succ K) hk6) (hK.x hRo hno hX) (by omega) (by omega)
              · rw [yz_m1] at h_19
                refine y_bip rfl (by decide) ?_
                refine y_goto rfl j_X14_seat_11 ?_
                refine y_ireturn rfl rfl rfl ?_
                refine y_ret1 ?_
                refine y_istore (ls' := [some _, some _, some _, some _, some _, some _, some _, some _]) rfl rfl rfl ?_
                refine y_aload_n rfl rfl ?_
                refine y_aload rfl rfl ?_
                obtain ⟨hR_v42, hb_v42, ht_v42⟩ := hR0.ven hlo_b15 hb0_b15 ht_b15 (j := 0) (by decide)
                have hb0_v42 := hb_v42
                have hb_v42 := Nat.lt_of_lt_of_le hb_v42 hn
                have hlo_v42 : 94 ≤ b15 + 1 + 0 := by omega
                have hR2_v42 := (congrFun (hX.2.1 b15 hb_b15).2.2 0).trans hR_v42
                refine y_getR rfl ((hX.2.1 _ hb_b15).1.trans ht_b15) (Nat.lt_of_lt_of_le hb_b15 hX.1) rfl rfl hR2_v42 ?_
                refine y_iload rfl rfl ?_
                refine y_baload rfl ((hX.2.1 _ hb_v42).1.trans ht_v42) rfl (Nat.lt_of_lt_of_le hb_v42 hX.1) (by omega) (by omega) ?_
                refine y_if_eq rfl j_X14_buyOut_142 (fun h_43 => ?_) (fun h_44 => ?_)
                · refine y_iconst rfl ?_
                  refine y_goto rfl j_X14_buyOut_147 ?_
                  refine y_iconst rfl ?_
                  refine y_virt rfl rfl rfl rfl rfl (ySh.t hS rfl) (ySh.n hS rfl) ?_
                  refine y_in (M := xm_X14_refuse) (ls := [some _, some _, some _]) rfl rfl rfl ?_
                  refine y_iload_n rfl rfl ?_
                  refine y_if_eqF rfl (by decide) ?_
                  refine y_aload_n rfl rfl ?_
                  refine y_getIv (v := Int32.ofInt (0)) rfl (ySh.t hS rfl) (ySh.n hS rfl) rfl rfl hth ?_
                  refine y_if_neF rfl (by decide) ?_
                  refine y_aload_n rfl rfl ?_
                  refine y_iload_n rfl rfl ?_
                  refine y_putI rfl (ySh.t hS rfl) (ySh.n hS rfl) rfl (Nat.le_of_ble_eq_true rfl) rfl rfl ?_
                  refine y_nameI (fun I45 e45 => ?_)
                  have hR1 := (hR0.grow hX).mod0 e45 (by decide) (by decide)
                  have hK := (hK.x hRo hno hX).upI (upI e45) (by decide) (by decide) (fun i hi => by have := (hRo.l87.2.2.2.2 i hi).2.1; omega) (by rw [e45, upd2_ne (.inr (by decide))]; exact Int.le_refl _)
                  have hth : I45 83 0 = Int32.ofInt (3) := by rw [e45, upd2_self]
                  have hzz : ySz8 I8 I45 := ySz8_of (upI e45) (by rw [e45]; exact ⟨upd2_ne (.inr (by decide)), upd2_ne (.inr (by decide))⟩)
                  have hS0 := hS
                  have hR0 := hR1
                  have ht_b15 := (hX.2.1 _ hb_b15).1.trans ht_b15
                  have hb_b15 := Nat.lt_of_lt_of_le hb_b15 hX.1
                  have hb0_b15 := hb_b15
                  have ht_v42 := (hX.2.1 _ hb_v42).1.trans ht_v42
                  have hb_v42 := Nat.lt_of_lt_of_le hb_v42 hX.1
                  have hb0_v42 := hb_v42
                  have hn := Nat.le_refl n
                  have h94 := hS0.1
                  have hX := @yX.rf n tg I45 R
                  have hS := hS0.x hX
                  have hR := hR0.x hn hX
                  have hz := hX.sz h94
                  have hxn := hX.1
                  have hN := hR0.1
                  have hnb := hR0.2.2.2.2.2.2
                  have hthB := hth
                  refine y_aload_n rfl rfl ?_
                  refine y_getIv (v := Int32.ofInt (3)) rfl (ySh.t hS rfl) (ySh.n hS rfl) rfl rfl hth ?_
                  refine y_if_leF rfl (by decide) ?_
                  refine y_iconst rfl ?_
                  refine y_goto rfl j_X14_refuse_28 ?_
                  refine y_ireturn rfl rfl rfl ?_
                  refine y_ret1 ?_
                  refine y_if_eqF rfl (by decide) ?_
                  refine y_iconst rfl ?_
                  refine y_ireturn rfl rfl rfl ?_
                  exact hQ _ _ _ _ _ _ _ hS ((hR0.grow hX).up (Nat.le_succ K) hk6) (hK.x hRo hno hX) (by omega) (by omega)
                · refine y_aload rfl rfl ?_
                  obtain ⟨hR_v46, hb_v46, ht_v46⟩ := hR0.ven hlo_b15 hb0_b15 ht_b15 (j := 0) (by decide)
                  have hb0_v46 := hb_v46
                  have hb_v46 := Nat.lt_of_lt_of_le hb_v46 hn
                  have hlo_v46 : 94 ≤ b15 + 1 + 0 := by omega
                  have hR2_v46 := (congrFun (hX.2.1 b15 hb_b15).2.2 0).trans hR_v46
                  refine y_getR rfl ((hX.2.1 _ hb_b15).1.trans ht_b15) (Nat.lt_of_lt_of_le hb_b15 hX.1) rfl rfl hR2_v46 ?_
                  refine y_iload rfl rfl ?_
                  refine y_baload rfl ((hX.2.1 _ hb_v46).1.trans ht_v46) rfl (Nat.lt_of_lt_of_le hb_v46 hX.1) (by decide) (by decide) ?_
                  refine y_if_eq rfl j_X14_buyOut_142 (fun h_47 => ?_) (fun h_48 => ?_)
                  · refine y_iconst rfl ?_
                    refine y_goto rfl j_X14_buyOut_147 ?_
                    refine y_iconst rfl ?_
                    refine y_virt rfl rfl rfl rfl rfl (ySh.t hS rfl) (ySh.n hS rfl) ?_
                    refine y_in (M := xm_X14_refuse) (ls := [some _, some _, some _]) rfl rfl rfl ?_
                    refine y_iload_n rfl rfl ?_
                    refine y_if_eqF rfl (by decide) ?_
                    refine y_aload_n rfl rfl ?_
                    refine y_getIv (v := Int32.ofInt (0)) rfl (ySh.t hS rfl) (ySh.n hS rfl) rfl rfl hth ?_
                    refine y_if_neF rfl (by decide) ?_
                    refine y_aload_n rfl rfl ?_
                    refine y_iload_n rfl rfl ?_
                    refine y_putI rfl (ySh.t hS rfl) (ySh.n hS rfl) rfl (Nat.le_of_ble_eq_true rfl) rfl rfl ?_
                    refine y_nameI (fun I49 e49 => ?_)
                    have hR1 := (hR0.grow hX).mod0 e49 (by decide) (by decide)
                    have hK := (hK.x hRo hno hX).upI (upI e49) (by decide) (by decide) (fun i hi => by have := (hRo.l87.2.2.2.2 i hi).2.1; omega) (by rw [e49, upd2_ne (.inr (by decide))]; exact Int.le_refl _)
                    have hth : I49 83 0 = Int32.ofInt (3) := by rw [e49, upd2_self]
                    have hzz : ySz8 I8 I49 := ySz8_of (upI e49) (by rw [e49]; exact ⟨upd2_ne (.inr (by decide)), upd2_ne (.inr (by decide))⟩)
                    have hS0 := hS
                    have hR0 := hR1
                    have ht_b15 := (hX.2.1 _ hb_b15).1.trans ht_b15
                    have hb_b15 := Nat.lt_of_lt_of_le hb_b15 hX.1
                    have hb0_b15 := hb_b15
                    have ht_v42 := (hX.2.1 _ hb_v42).1.trans ht_v42
                    have hb_v42 := Nat.lt_of_lt_of_le hb_v42 hX.1
                    have hb0_v42 := hb_v42
                    have ht_v46 := (hX.2.1 _ hb_v46).1.trans ht_v46
                    have hb_v46 := Nat.lt_of_lt_of_le hb_v46 hX.1
                    have hb0_v46 := hb_v46
                    have hn := Nat.le_refl n
                    have h94 := hS0.1
                    have hX := @yX.rf n tg I49 R
                    have hS := hS0.x hX
                    have hR := hR0.x hn hX
                    have hz := hX.sz h94
                    have hxn := hX.1
                    have hN := hR0.1
                    have hnb := hR0.2.2.2.2.2.2
                    have hthB := hth
                    refine y_aload_n rfl rfl ?_
                    refine y_getIv (v := Int32.ofInt (3)) rfl (ySh.t hS rfl) (ySh.n hS rfl) rfl rfl hth ?_
                    refine y_if_leF rfl (by decide) ?_
                    refine y_iconst rfl ?_
                    refine y_goto rfl j_X14_refuse_28 ?_
                    refine y_ireturn rfl rfl rfl ?_
                    refine y_ret1 ?_
                    refine y_if_eqF rfl (by decide) ?_
                    refine y_iconst rfl ?_
                    refine y_ireturn rfl rfl rfl ?_
                    exact hQ _ _ _ _ _ _ _ hS ((hR0.grow hX).up (Nat.le_succ K) hk6) (hK.x hRo hno hX) (by omega) (by omega)
                  · refine y_aload rfl rfl ?_
                    obtain ⟨hR_v50, hb_v50, ht_v50⟩ := hR0.ven hlo_b15 hb0_b15 ht_b15 (j := 1) (by decide)
                    have hb0_v50 := hb_v50
                    have hb_v50 := Nat.lt_of_lt_of_le hb_v50 hn
                    have hlo_v50 : 94 ≤ b15 + 1 + 1 := by omega
                    have hR2_v50 := (congrFun (hX.2.1 b15 hb_b15).2.2 1).trans hR_v50
                    refine y_getR rfl ((hX.2.1 _ hb_b15).1.trans ht_b15) (Nat.lt_of_lt_of_le hb_b15 hX.1) rfl rfl hR2_v50 ?_
                    refine y_iload rfl rfl ?_
                    refine y_iaload rfl ((hX.2.1 _ hb_v50).1.trans ht_v50) (Nat.lt_of_lt_of_le hb_v50 hX.1) (by omega) (by omega) ?_
                    refine y_iload rfl rfl ?_
                    refine y_icmp_lt rfl j_X14_buyOut_142 (fun h_51 => ?_) (fun h_52 => ?_)
                    · refine y_iconst rfl ?_
                      refine y_goto rfl j_X14_buyOut_147 ?_
                      refine y_iconst rfl ?_
                      refine y_virt rfl rfl rfl rfl rfl (ySh.t hS rfl) (ySh.n hS rfl) ?_
                      refine y_in (M := xm_X14_refuse) (ls := [some _, some _, some _]) rfl rfl rfl ?_
                      refine y_iload_n rfl rfl ?_
                      refine y_if_eqF rfl (by decide) ?_
                      refine y_aload_n rfl rfl ?_
                      refine y_getIv (v := Int32.ofInt (0)) rfl (ySh.t hS rfl) (ySh.n hS rfl) rfl rfl hth ?_
                      refine y_if_neF rfl (by decide) ?_
                      refine y_aload_n rfl rfl ?_
                      refine y_iload_n rfl rfl ?_
                      refine y_putI rfl (ySh.t hS rfl) (ySh.n hS rfl) rfl (Nat.le_of_ble_eq_true rfl) rfl rfl ?_
                      refine y_nameI (fun I53 e53 => ?_)
                      have hR1 := (hR0.grow hX).mod0 e53 (by decide) (by decide)
                      have hK := (hK.x hRo hno hX).upI (upI e53) (by decide) (by decide) (fun i hi => by have := (hRo.l87.2.2.2.2 i hi).2.1; omega) (by rw [e53, upd2_ne (.inr (by decide))]; exact Int.le_refl _)
                      have hth : I53 83 0 = Int32.ofInt (3) := by rw [e53, upd2_self]
                      have hzz : ySz8 I8 I53 := ySz8_of (upI e53) (by rw [e53]; exact ⟨upd2_ne (.inr (by decide)), upd2_ne (.inr (by decide))⟩)
                      have hS0 := hS
                      have hR0 := hR1
                      have ht_b15 := (hX.2.1 _ hb_b15).1.trans ht_b15
                      have hb_b15 := Nat.lt_of_lt_of_le hb_b15 hX.1
                      have hb0_b15 := hb_b15
                      have ht_v42 := (hX.2.1 _ hb_v42).1.trans ht_v42
                      have hb_v42 := Nat.lt_of_lt_of_le hb_v42 hX.1
                      have hb0_v42 := hb_v42
                      have ht_v46 := (hX.2.1 _ hb_v46).1.trans ht_v46
                      have hb_v46 := Nat.lt_of_lt_of_le hb_v46 hX.1
                      have hb0_v46 := hb_v46
                      have ht_v50 := (hX.2.1 _ hb_v50).1.trans ht_v50
                      have hb_v50 := Nat.lt_of_lt_of_le hb_v50 hX.1
                      have hb0_v50 := hb_v50
                      have hn := Nat.le_refl n
                      have h94 := hS0.1
                      have hX := @yX.rf n tg I53 R
                      have hS := hS0.x hX
                      have hR := hR0.x hn hX
                      have hz := hX.sz h94
                      have hxn := hX.1
                      have hN := hR0.1
                      have hnb := hR0.2.2.2.2.2.2
                      have hthB := hth
                      refine y_aload_n rfl rfl ?_
                      refine y_getIv (v := Int32.ofInt (3)) rfl (ySh.t hS rfl) (ySh.n hS rfl) rfl rfl hth ?_
                      refine y_if_leF rfl (by decide) ?_
                      refine y_iconst rfl ?_
                      refine y_goto rfl j_X14_refuse_28 ?_
                      refine y_ireturn rfl rfl rfl ?_
                      refine y_ret1 ?_
                      refine y_if_eqF rfl (by decide) ?_
                      refine y_iconst rfl ?_
                      refine y_ireturn rfl rfl rfl ?_
                      exact hQ _ _ _ _ _ _ _ hS ((hR0.grow hX).up (Nat.le_succ K) hk6) (hK.x hRo hno hX) (by omega) (by omega)
                    · refine y_aload_n rfl rfl ?_
                      refine y_getR rfl (ySh.t hS rfl) (ySh.n hS rfl) rfl rfl (ySh.r hS rfl) ?_
                      refine y_iload rfl rfl ?_
                      refine y_ialoadC (j := 8) rfl (ySh.t hS rfl) (ySh.n hS rfl) (by decide) (by decide) rfl ?_
                      refine y_iload rfl rfl ?_
                      refine y_icmp_ge rfl j_X14_buyOut_146 (fun h_54 => ?_) (fun h_55 => ?_)
                      · refine y_iconst rfl ?_
                        refine y_iconst rfl ?_
                        refine y_virt rfl rfl rfl rfl rfl (ySh.t hS rfl) (ySh.n hS rfl) ?_
                        refine y_in (M := xm_X14_refuse) (ls := [some _, some _, some _]) rfl rfl rfl ?_
                        refine y_iload_n rfl rfl ?_
                        refine y_if_eqT rfl j_X14_refuse_16 (by decide) ?_
                        refine y_aload_n rfl rfl ?_
                        refine y_getIv (v := Int32.ofInt (0)) rfl (ySh.t hS rfl) (ySh.n hS rfl) rfl rfl hth ?_
                        refine y_if_leT rfl j_X14_refuse_27 (by decide) ?_
                        refine y_iconst rfl ?_
                        refine y_ireturn rfl rfl rfl ?_
                        refine y_ret1 ?_
                        refine y_if_eqT rfl j_X14_buyOut_156 (by decide) ?_
                        refine y_aload rfl rfl ?_
                        obtain ⟨hR_v56, hb_v56, ht_v56⟩ := hR0.ven hlo_b15 hb0_b15 ht_b15 (j := 1) (by decide)
                        have hb0_v56 := hb_v56
                        have hb_v56 := Nat.lt_of_lt_of_le hb_v56 hn
                        have hlo_v56 : 94 ≤ b15 + 1 + 1 := by omega
                        have hR2_v56 := (congrFun (hX.2.1 b15 hb_b15).2.2 1).trans hR_v56
                        refine y_getR rfl ((hX.2.1 _ hb_b15).1.trans ht_b15) (Nat.lt_of_lt_of_le hb_b15 hX.1) rfl rfl hR2_v56 ?_
                        refine y_iload rfl rfl ?_
                        refine y_dup2 rfl rfl rfl ?_
                        refine y_iaload rfl ((hX.2.1 _ hb_v56).1.trans ht_v56) (Nat.lt_of_lt_of_le hb_v56 hX.1) (by omega) (by omega) ?_
                        refine y_iload rfl rfl ?_
                        refine y_isub rfl ?_
                        refine y_iastore rfl ((hX.2.1 _ hb_v56).1.trans ht_v56) (Nat.lt_of_lt_of_le hb_v56 hX.1) (Nat.le_trans (by decide) (by omega : 94 ≤ _)) (by omega) (by omega) ?_
                        refine y_nameI (fun I57 e57 => ?_)
                        have hB1 := (hR0.grow hX).capB1 hlo_b15 (by omega) ((hX.2.1 _ hb_b15).1.trans ht_b15) (by omega) ⟨by omega, by omega⟩ e57
                        have hR1 := hB1.1
                        have hK := (hK.x hRo hno hX).upE hRo hno (upI e57) (by omega) (by omega) (by rw [((hX.2.1 _ hb_v56).1.trans ht_v56)]; decide) (by rw [e57, upd2_ne (.inl (by omega))]; exact Int.le_refl _)
                        have hth := (show I57 83 0 = I8 83 0 by rw [e57, upd2_ne (.inl (by omega))]).trans hth
                        have hzz : ySz I8 I57 := ySz_ofE (upI e57) (by omega)
                        have hS0 := hS
                        have hR0 := hR1
                        have ht_b15 := (hX.2.1 _ hb_b15).1.trans ht_b15
                        have hb_b15 := Nat.lt_of_lt_of_le hb_b15 hX.1
                        have hb0_b15 := hb_b15
                        have ht_v42 := (hX.2.1 _ hb_v42).1.trans ht_v42
                        have hb_v42 := Nat.lt_of_lt_of_le hb_v42 hX.1
                        have hb0_v42 := hb_v42
                        have ht_v46 := (hX.2.1 _ hb_v46).1.trans ht_v46
                        have hb_v46 := Nat.lt_of_lt_of_le hb_v46 hX.1
                        have hb0_v46 := hb_v46
                        have ht_v50 := (hX.2.1 _ hb_v50).1.trans ht_v50
                        have hb_v50 := Nat.lt_of_lt_of_le hb_v50 hX.1
                        have hb0_v50 := hb_v50
                        have ht_v56 := (hX.2.1 _ hb_v56).1.trans ht_v56
                        have hb_v56 := Nat.lt_of_lt_of_le hb_v56 hX.1
                        have hb0_v56 := hb_v56
                        have hn := Nat.le_refl n
                        have h94 := hS0.1
                        have hX := @yX.rf n tg I57 R
                        have hS := hS0.x hX
                        have hR := hR0.x hn hX
                        have hz := hX.sz h94
                        have hxn := hX.1
                        have hN := hR0.1
                        have hnb := hR0.2.2.2.2.2.2
                        have hthB := hth
                        refine y_aload rfl rfl ?_
                        obtain ⟨hR_v58, hb_v58, ht_v58⟩ := hR0.ven hlo_b15 hb0_b15 ht_b15 (j := 1) (by decide)
                        have hb0_v58 := hb_v58
                        have hb_v58 := Nat.lt_of_lt_of_le hb_v58 hn
                        have hlo_v58 : 94 ≤ b15 + 1 + 1 := by omega
                        have hR2_v58 := (congrFun (hX.2.1 b15 hb_b15).2.2 1).trans hR_v58
                        refine y_getR rfl ((hX.2.1 _ hb_b15).1.trans ht_b15) (Nat.lt_of_lt_of_le hb_b15 hX.1) rfl rfl hR2_v58 ?_
                        refine y_iload rfl rfl ?_
                        refine y_dup2 rfl rfl rfl ?_
                        refine y_ialoadC (j := 8) rfl ((hX.2.1 _ hb_v58).1.trans ht_v58) (Nat.lt_of_lt_of_le hb_v58 hX.1) (by decide) (by decide) rfl ?_
                        refine y_iload rfl rfl ?_
                        refine y_iadd rfl ?_
                        refine y_iastoreC (j := 8) rfl ((hX.2.1 _ hb_v58).1.trans ht_v58) (Nat.lt_of_lt_of_le hb_v58 hX.1) (Nat.le_trans (by decide) (by omega : 94 ≤ _)) (by decide) (by decide) rfl ?_
                        refine y_nameI (fun I59 e59 => ?_)
                        have hR1 := (hR0.grow hX).capB2 hlo_b15 (by omega) ((hX.2.1 _ hb_b15).1.trans ht_b15) (by omega) (by omega) hB1.2.1 e59
                        have hK := (hK.x hRo hno hX).upE hRo hno (upI e59) (by omega) (by omega) (by rw [((hX.2.1 _ hb_v58).1.trans ht_v58)]; decide) (by rw [e59, upd2_ne (.inl (by omega))]; exact Int.le_refl _)
                        have hth := (show I59 83 0 = I57 83 0 by rw [e59, upd2_ne (.inl (by omega))]).trans hth
                        have hzz : ySz I57 I59 := ySz_ofE (upI e59) (by omega)
                        have hS0 := hS
                        have hR0 := hR1
                        have ht_b15 := (hX.2.1 _ hb_b15).1.trans ht_b15
                        have hb_b15 := Nat.lt_of_lt_of_le hb_b15 hX.1
                        have hb0_b15 := hb_b15
                        have ht_v42 := (hX.2.1 _ hb_v42).1.trans ht_v42
                        have hb_v42 := Nat.lt_of_lt_of_le hb_v42 hX.1
                        have hb0_v42 := hb_v42
                        have ht_v46 := (hX.2.1 _ hb_v46).1.trans ht_v46
                        have hb_v46 := Nat.lt_of_lt_of_le hb_v46 hX.1
                        have hb0_v46 := hb_v46
                        have ht_v50 := (hX.2.1 _ hb_v50).1.trans ht_v50
                        have hb_v50 := Nat.lt_of_lt_of_le hb_v50 hX.1
                        have hb0_v50 := hb_v50
                        have ht_v56 := (hX.2.1 _ hb_v56).1.trans ht_v56
                        have hb_v56 := Nat.lt_of_lt_of_le hb_v56 hX.1
                        have hb0_v56 := hb_v56
                        have ht_v58 := (hX.2.1 _ hb_v58).1.trans ht_v58
                        have hb_v58 := Nat.lt_of_lt_of_le hb_v58 hX.1
                        have hb0_v58 := hb_v58
                        have hn := Nat.le_refl n
                        have h94 := hS0.1
                        have hX := @yX.rf n tg I59 R
                        have hS := hS0.x hX
                        have hR := hR0.x hn hX
                        have hz := hX.sz h94
                        have hxn := hX.1
                        have hN := hR0.1
                        have hnb := hR0.2.2.2.2.2.2
                        have hthB := hth
                        refine y_aload_n rfl rfl ?_
                        refine y_getR rfl (ySh.t hS rfl) (ySh.n hS rfl) rfl rfl (ySh.r hS rfl) ?_
                        refine y_iload rfl rfl ?_
                        refine y_dup2 rfl rfl rfl ?_
                        refine y_iaload rfl (ySh.t hS rfl) (ySh.n hS rfl) (by omega) (by omega) ?_
                        refine y_iload rfl rfl ?_
                        refine y_iadd rfl ?_
                        refine y_iastore rfl (ySh.t hS rfl) (ySh.n hS rfl) (Nat.le_of_ble_eq_true rfl) (by omega) (by omega) ?_
                        refine y_nameI (fun I60 e60 => ?_)
                        have hR1 := (hR0.grow hX).arr e60 (by decide)
                        have hK := (hK.x hRo hno hX).upI (upI e60) (by decide) (by decide) (fun i hi => by have := (hRo.l87.2.2.2.2 i hi).2.1; omega) (by rw [e60, upd2_ne (.inl (by omega))]; exact Int.le_refl _)
                        have hth := (show I60 83 0 = I59 83 0 by rw [e60, upd2_ne (.inl (by omega))]).trans hth
                        have hzz : ySz I59 I60 := ySz_ofE (upI e60) (by omega)
                        have hS0 := hS
                        have hR0 := hR1
                        have ht_b15 := (hX.2.1 _ hb_b15).1.trans ht_b15
                        have hb_b15 := Nat.lt_of_lt_of_le hb_b15 hX.1
                        have hb0_b15 := hb_b15
                        have ht_v42 := (hX.2.1 _ hb_v42).1.trans ht_v42
                        have hb_v42 := Nat.lt_of_lt_of_le hb_v42 hX.1
                        have hb0_v42 := hb_v42
                        have ht_v46 := (hX.2.1 _ hb_v46).1.trans ht_v46
                        have hb_v46 := Nat.lt_of_lt_of_le hb_v46 hX.1
                        have hb0_v46 := hb_v46
                        have ht_v50 := (hX.2.1 _ hb_v50).1.trans ht_v50
                        have hb_v50 := Nat.lt_of_lt_of_le hb_v50 hX.1
                        have hb0_v50 := hb_v50
                        have ht_v56 := (hX.2.1 _ hb_v56).1.trans ht_v56
                        have hb_v56 := Nat.lt_of_lt_of_le hb_v56 hX.1
                        have hb0_v56 := hb_v56
                        have ht_v58 := (hX.2.1 _ hb_v58).1.trans ht_v58
                        have hb_v58 := Nat.lt_of_lt_of_le hb_v58 hX.1
                        have hb0_v58 := hb_v58
                        have hn := Nat.le_refl n
                        have h94 := hS0.1
                        have hX := @yX.rf n tg I60 R
                        have hS := hS0.x hX
                        have hR := hR0.x hn hX
                        have hz := hX.sz h94
                        have hxn := hX.1
                        have hN := hR0.1
                        have hnb := hR0.2.2.2.2.2.2
                        have hthB := hth
                        refine y_aload_n rfl rfl ?_
                        refine y_getR rfl (ySh.t hS rfl) (ySh.n hS rfl) rfl rfl (ySh.r hS rfl) ?_
                        refine y_iload rfl rfl ?_
                        refine y_dup2 rfl rfl rfl ?_
                        refine y_ialoadC (j := 8) rfl (ySh.t hS rfl) (ySh.n hS rfl) (by decide) (by decide) rfl ?_
                        refine y_iload rfl rfl ?_
                        refine y_isub rfl ?_
                        refine y_iastoreC (j := 8) rfl (ySh.t hS rfl) (ySh.n hS rfl) (Nat.le_of_ble_eq_true rfl) (by decide) (by decide) rfl ?_
                        refine y_nameI (fun I61 e61 => ?_)
                        have hR1 := (hR0.grow hX).arr e61 (by decide)
                        have hK := (hK.x hRo hno hX).upI (upI e61) (by decide) (by decide) (fun i hi => by have := (hRo.l87.2.2.2.2 i hi).2.1; omega) (by rw [e61, upd2_ne (.inl (by omega))]; exact Int.le_refl _)
                        have hth := (show I61 83 0 = I60 83 0 by rw [e61, upd2_ne (.inl (by omega))]).trans hth
                        have hzz : ySz I60 I61 := ySz_ofE (upI e61) (by omega)
                        have hS0 := hS
                        have hR0 := hR1
                        have ht_b15 := (hX.2.1 _ hb_b15).1.trans ht_b15
                        have hb_b15 := Nat.lt_of_lt_of_le hb_b15 hX.1
                        have hb0_b15 := hb_b15
                        have ht_v42 := (hX.2.1 _ hb_v42).1.trans ht_v42
                        have hb_v42 := Nat.lt_of_lt_of_le hb_v42 hX.1
                        have hb0_v42 := hb_v42
                        have ht_v46 := (hX.2.1 _ hb_v46).1.trans ht_v46
                        have hb_v46 := Nat.lt_of_lt_of_le hb_v46 hX.1
                        have hb0_v46 := hb_v46
                        have ht_v50 := (hX.2.1 _ hb_v50).1.trans ht_v50
                        have hb_v50 := Nat.lt_of_lt_of_le hb_v50 hX.1
                        have hb0_v50 := hb_v50
                        have ht_v56 := (hX.2.1 _ hb_v56).1.trans ht_v56
                        have hb_v56 := Nat.lt_of_lt_of_le hb_v56 hX.1
                        have hb0_v56 := hb_v56
                        have ht_v58 := (hX.2.1 _ hb_v58).1.trans ht_v58
                        have hb_v58 := Nat.lt_of_lt_of_le hb_v58 hX.1
                        have hb0_v58 := hb_v58
                        have hn := Nat.le_refl n
                        have h94 := hS0.1
                        have hX := @yX.rf n tg I61 R
                        have hS := hS0.x hX
                        have hR := hR0.x hn hX
                        have hz := hX.sz h94
                        have hxn := hX.1
                        have hN := hR0.1
                        have hnb := hR0.2.2.2.2.2.2
                        have hthB := hth
                        refine y_aload rfl rfl ?_
                        obtain ⟨hR_v62, hb_v62, ht_v62⟩ := hR0.ven hlo_b15 hb0_b15 ht_b15 (j := 1) (by decide)
                        have hb0_v62 := hb_v62
                        have hb_v62 := Nat.lt_of_lt_of_le hb_v62 hn
                        have hlo_v62 : 94 ≤ b15 + 1 + 1 := by omega
                        have hR2_v62 := (congrFun (hX.2.1 b15 hb_b15).2.2 1).trans hR_v62
                        refine y_getR rfl ((hX.2.1 _ hb_b15).1.trans ht_b15) (Nat.lt_of_lt_of_le hb_b15 hX.1) rfl rfl hR2_v62 ?_
                        refine y_iload rfl rfl ?_
                        refine y_iaload rfl ((hX.2.1 _ hb_v62).1.trans ht_v62) (Nat.lt_of_lt_of_le hb_v62 hX.1) (by omega) (by omega) ?_
                        refine y_ireturn rfl rfl rfl ?_
                        exact hQ _ _ _ _ _ _ _ hS ((hR0.grow hX).up (Nat.le_succ K) hk6) (hK.x hRo hno hX) (by omega) (by omega)
                      · refine y_iconst rfl ?_
                        refine y_goto rfl j_X14_buyOut_147 ?_
                        refine y_iconst rfl ?_
                        refine y_virt rfl rfl rfl rfl rfl (ySh.t hS rfl) (ySh.n hS rfl) ?_
                        refine y_in (M := xm_X14_refuse) (ls := [some _, some _, some _]) rfl rfl rfl ?_
                        refine y_iload_n rfl rfl ?_
                        refine y_if_eqF rfl (by decide) ?_
                        refine y_aload_n rfl rfl ?_
                        refine y_getIv (v := Int32.ofInt (0)) rfl (ySh.t hS rfl) (ySh.n hS rfl) rfl rfl hth ?_
                        refine y_if_neF rfl (by decide) ?_
                        refine y_aload_n rfl rfl ?_
                        refine y_iload_n rfl rfl ?_
                        refine y_putI rfl (ySh.t hS rfl) (ySh.n hS rfl) rfl (Nat.le_of_ble_eq_true rfl) rfl rfl ?_
                        refine y_nameI (fun I63 e63 => ?_)
                        have hR1 := (hR0.grow hX).mod0 e63 (by decide) (by decide)
                        have hK := (hK.x hRo hno hX).upI (upI e63) (by decide) (by decide) (fun i hi => by have := (hRo.l87.2.2.2.2 i hi).2.1; omega) (by rw [e63, upd2_ne (.inr (by decide))]; exact Int.le_refl _)
                        have hth : I63 83 0 = Int32.ofInt (3) := by rw [e63, upd2_self]
                        have hzz : ySz8 I8 I63 := ySz8_of (upI e63) (by rw [e63]; exact ⟨upd2_ne (.inr (by decide)), upd2_ne (.inr (by decide))⟩)
                        have hS0 := hS
                        have hR0 := hR1
                        have ht_b15 := (hX.2.1 _ hb_b15).1.trans ht_b15
                        have hb_b15 := Nat.lt_of_lt_of_le hb_b15 hX.1
                        have hb0_b15 := hb_b15
                        have ht_v42 := (hX.2.1 _ hb_v42).1.trans ht_v42
                        have hb_v42 := Nat.lt_of_lt_of_le hb_v42 hX.1
                        have hb0_v42 := hb_v42
                        have ht_v46 := (hX.2.1 _ hb_v46).1.trans ht_v46
                        have hb_v46 := Nat.lt_of_lt_of_le hb_v46 hX.1
                        have hb0_v46 := hb_v46
                        have ht_v50 := (hX.2.1 _ hb_v50).1.trans ht_v50
                        have hb_v50 := Nat.lt_of_lt_of_le hb_v50 hX.1
                        have hb0_v50 := hb_v50
                        have hn := Nat.le_refl n
                        have h94 := hS0.1
                        have hX := @yX.rf n tg I63 R
                        have hS := hS0.x hX
                        have hR := hR0.x hn hX
                        have hz := hX.sz h94
                        have hxn := hX.1
                        have hN := hR0.1
                        have hnb := hR0.2.2.2.2.2.2
                        have hthB := hth
                        refine y_aload_n rfl rfl ?_
                        refine y_getIv (v := Int32.ofInt (3)) rfl (ySh.t hS rfl) (ySh.n hS rfl) rfl rfl hth ?_
                        refine y_if_leF rfl (by decide) ?_
                        refine y_iconst rfl ?_
                        refine y_goto rfl j_X14_refuse_28 ?_
                        refine y_ireturn rfl rfl rfl ?_
                        refine y_ret1 ?_
                        refine y_if_eqF rfl (by decide) ?_
                        refine y_iconst rfl ?_
                        refine y_ireturn rfl rfl rfl ?_
                        exact hQ _ _ _ _ _ _ _ hS ((hR0.grow hX).up (Nat.le_succ K) hk6) (hK.x hRo hno hX) (by omega) (by omega)
            · rw [yz_m1] at h_17
              refine y_bip rfl (by decide) ?_
              refine y_goto rfl j_X14_seat_11 ?_
              refine y_ireturn rfl rfl rfl ?_
              refine y_ret1 ?_
              refine y_istore (ls' := [some _, some _, some _, some _, some _, some _, some _, _]) rfl rfl rfl ?_
              refine y_iload_n rfl rfl ?_
              refine y_static rfl rfl rfl rfl rfl ?_
              refine y_in (M := xm_X14_seat) (ls := [some _]) rfl rfl rfl ?_
              refine y_iload_n rfl rfl ?_
              refine y_iconst rfl ?_
              refine y_icmp_ne rfl j_X14_seat_10 (fun h_64 => ?_) (fun h_65 => ?_)
              · rw [yz_m1] at h_64
                refine y_iload_n rfl rfl ?_
                refine y_ireturn rfl rfl rfl ?_
                refine y_ret1 ?_
                refine y_istore (ls' := [some _, some _, some _, some _, some _, some _, some _, some _]) rfl rfl rfl ?_
                refine y_aload_n rfl rfl ?_
                refine y_aload rfl rfl ?_
                obtain ⟨hR_v66, hb_v66, ht_v66⟩ := hR0.ven hlo_b15 hb0_b15 ht_b15 (j := 0) (by decide)
                have hb0_v66 := hb_v66
                have hb_v66 := Nat.lt_of_lt_of_le hb_v66 hn
                have hlo_v66 : 94 ≤ b15 + 1 + 0 := by omega
                have hR2_v66 := (congrFun (hX.2.1 b15 hb_b15).2.2 0).trans hR_v66
                refine y_getR rfl ((hX.2.1 _ hb_b15).1.trans ht_b15) (Nat.lt_of_lt_of_le hb_b15 hX.1) rfl rfl hR2_v66 ?_
                refine y_iload rfl rfl ?_
                refine y_baload rfl ((hX.2.1 _ hb_v66).1.trans ht_v66) rfl (Nat.lt_of_lt_of_le hb_v66 hX.1) (by decide) (by decide) ?_
                refine y_if_eq rfl j_X14_buyOut_142 (fun h_67 => ?_) (fun h_68 => ?_)
                · refine y_iconst rfl ?_
                  refine y_goto rfl j_X14_buyOut_147 ?_
                  refine y_iconst rfl ?_
                  refine y_virt rfl rfl rfl rfl rfl (ySh.t hS rfl) (ySh.n hS rfl) ?_
                  refine y_in (M := xm_X14_refuse) (ls := [some _, some _, some _]) rfl rfl rfl ?_
                  refine y_iload_n rfl rfl ?_
                  refine y_if_eqF rfl (by decide) ?_
                  refine y_aload_n rfl rfl ?_
                  refine y_getIv (v := Int32.ofInt (0)) rfl (ySh.t hS rfl) (ySh.n hS rfl) rfl rfl hth ?_
                  refine y_if_neF rfl (by decide) ?_
                  refine y_aload_n rfl rfl ?_
                  refine y_iload_n rfl rfl ?_
                  refine y_putI rfl (ySh.t hS rfl) (ySh.n hS rfl) rfl (Nat.le_of_ble_eq_true rfl) rfl rfl ?_
                  refine y_nameI (fun I69 e69 => ?_)
                  have hR1 := (hR0.grow hX).mod0 e69 (by decide) (by decide)
                  have hK := (hK.x hRo hno hX).upI (upI e69) (by decide) (by decide) (fun i hi => by have := (hRo.l87.2.2.2.2 i hi).2.1; omega) (by rw [e69, upd2_ne (.inr (by decide))]; exact Int.le_refl _)
                  have hth : I69 83 0 = Int32.ofInt (3) := by rw [e69, upd2_self]
                  have hzz : ySz8 I8 I69 := ySz8_of (upI e69) (by rw [e69]; exact ⟨upd2_ne (.inr (by decide)), upd2_ne (.inr (by decide))⟩)
                  have hS0 := hS
                  have hR0 := hR1
                  have ht_b15 := (hX.2.1 _ hb_b15).1.trans ht_b15
                  have hb_b15 := Nat.lt_of_lt_of_le hb_b15 hX.1
                  have hb0_b15 := hb_b15
                  have ht_v66 := (hX.2.1 _ hb_v66).1.trans ht_v66
                  have hb_v66 := Nat.lt_of_lt_of_le hb_v66 hX.1
                  have hb0_v66 := hb_v66
                  have hn := Nat.le_refl n
                  have h94 := hS0.1
                  have hX := @yX.rf n tg I69 R
                  have hS := hS0.x hX
                  have hR := hR0.x hn hX
                  have hz := hX.sz h94
                  have hxn := hX.1
                  have hN := hR0.1
                  have hnb := hR0.2.2.2.2.2.2
                  have hthB := hth
                  refine y_aload_n rfl rfl ?_
                  refine y_getIv (v := Int32.ofInt (3)) rfl (ySh.t hS rfl) (ySh.n hS rfl) rfl rfl hth ?_
                  refine y_if_leF rfl (by decide) ?_
                  refine y_iconst rfl ?_
                  refine y_goto rfl j_X14_refuse_28 ?_
                  refine y_ireturn rfl rfl rfl ?_
                  refine y_ret1 ?_
                  refine y_if_eqF rfl (by decide) ?_
                  refine y_iconst rfl ?_
                  refine y_ireturn rfl rfl rfl ?_
                  exact hQ _ _ _ _ _ _ _ hS ((hR0.grow hX).up (Nat.le_succ K) hk6) (hK.x hRo hno hX) (by omega) (by omega)
                · refine y_aload rfl rfl ?_
                  obtain ⟨hR_v70, hb_v70, ht_v70⟩ := hR0.ven hlo_b15 hb0_b15 ht_b15 (j := 0) (by decide)
                  have hb0_v70 := hb_v70
                  have hb_v70 := Nat.lt_of_lt_of_le hb_v70 hn
                  have hlo_v70 : 94 ≤ b15 + 1 + 0 := by omega
                  have hR2_v70 := (congrFun (hX.2.1 b15 hb_b15).2.2 0).trans hR_v70
                  refine y_getR rfl ((hX.2.1 _ hb_b15).1.trans ht_b15) (Nat.lt_of_lt_of_le hb_b15 hX.1) rfl rfl hR2_v70 ?_
                  refine y_iload rfl rfl ?_
                  refine y_baload rfl ((hX.2.1 _ hb_v70).1.trans ht_v70) rfl (Nat.lt_of_lt_of_le hb_v70 hX.1) (by omega) (by omega) ?_
                  refine y_if_eq rfl j_X14_buyOut_142 (fun h_71 => ?_) (fun h_72 => ?_)
                  · refine y_iconst rfl ?_
                    refine y_goto rfl j_X14_buyOut_147 ?_
                    refine y_iconst rfl ?_
                    refine y_virt rfl rfl rfl rfl rfl (ySh.t hS rfl) (ySh.n hS rfl) ?_
                    refine y_in (M := xm_X14_refuse) (ls := [some _, some _, some _]) rfl rfl rfl ?_
                    refine y_iload_n rfl rfl ?_
                    refine y_if_eqF rfl (by decide) ?_
                    refine y_aload_n rfl rfl ?_
                    refine y_getIv (v := Int32.ofInt (0)) rfl (ySh.t hS rfl) (ySh.n hS rfl) rfl rfl hth ?_
                    refine y_if_neF rfl (by decide) ?_
                    refine y_aload_n rfl rfl ?_
                    refine y_iload_n rfl rfl ?_
                    refine y_putI rfl (ySh.t hS rfl) (ySh.n hS rfl) rfl (Nat.le_of_ble_eq_true rfl) rfl rfl ?_
                    refine y_nameI (fun I73 e73 => ?_)
                    have hR1 := (hR0.grow hX).mod0 e73 (by decide) (by decide)
                    have hK := (hK.x hRo hno hX).upI (upI e73) (by decide) (by decide) (fun i hi => by have := (hRo.l87.2.2.2.2 i hi).2.1; omega) (by rw [e73, upd2_ne (.inr (by decide))]; exact Int.le_refl _)
                    have hth : I73 83 0 = Int32.ofInt (3) := by rw [e73, upd2_self]
                    have hzz : ySz8 I8 I73 := ySz8_of (upI e73) (by rw [e73]; exact ⟨upd2_ne (.inr (by decide)), upd2_ne (.inr (by decide))⟩)
                    have hS0 := hS
                    have hR0 := hR1
                    have ht_b15 := (hX.2.1 _ hb_b15).1.trans ht_b15
                    have hb_b15 := Nat.lt_of_lt_of_le hb_b15 hX.1
                    have hb0_b15 := hb_b15
                    have ht_v66 := (hX.2.1 _ hb_v66).1.trans ht_v66
                    have hb_v66 := Nat.lt_of_lt_of_le hb_v66 hX.1
                    have hb0_v66 := hb_v66
                    have ht_v70 := (hX.2.1 _ hb_v70).1.trans ht_v70
                    have hb_v70 := Nat.lt_of_lt_of_le hb_v70 hX.1
                    have hb0_v70 := hb_v70
                    have hn := Nat.le_refl n
                    have h94 := hS0.1
                    have hX := @yX.rf n tg I73 R
                    have hS := hS0.x hX
                    have hR := hR0.x hn hX
                    have hz := hX.sz h94
                    have hxn := hX.1
                    have hN := hR0.1
                    have hnb := hR0.2.2.2.2.2.2
                    have hthB := hth
                    refine y_aload_n rfl rfl ?_
                    refine y_getIv (v := Int32.ofInt (3)) rfl (ySh.t hS rfl) (ySh.n hS rfl) rfl rfl hth ?_
                    refine y_if_leF rfl (by decide) ?_
                    refine y_iconst rfl ?_
                    refine y_goto rfl j_X14_refuse_28 ?_
                    refine y_ireturn rfl rfl rfl ?_
                    refine y_ret1 ?_
                    refine y_if_eqF rfl (by decide) ?_
                    refine y_iconst rfl ?_
                    refine y_ireturn rfl rfl rfl ?_
                    exact hQ _ _ _ _ _ _ _ hS ((hR0.grow hX).up (Nat.le_succ K) hk6) (hK.x hRo hno hX) (by omega) (by omega)
                  · refine y_aload rfl rfl ?_
                    obtain ⟨hR_v74, hb_v74, ht_v74⟩ := hR0.ven hlo_b15 hb0_b15 ht_b15 (j := 1) (by decide)
                    have hb0_v74 := hb_v74
                    have hb_v74 := Nat.lt_of_lt_of_le hb_v74 hn
                    have hlo_v74 : 94 ≤ b15 + 1 + 1 := by omega
                    have hR2_v74 := (congrFun (hX.2.1 b15 hb_b15).2.2 1).trans hR_v74
                    refine y_getR rfl ((hX.2.1 _ hb_b15).1.trans ht_b15) (Nat.lt_of_lt_of_le hb_b15 hX.1) rfl rfl hR2_v74 ?_
                    refine y_iload rfl rfl ?_
                    refine y_ialoadC (j := 8) rfl ((hX.2.1 _ hb_v74).1.trans ht_v74) (Nat.lt_of_lt_of_le hb_v74 hX.1) (by decide) (by decide) rfl ?_
                    refine y_iload rfl rfl ?_
                    refine y_icmp_lt rfl j_X14_buyOut_142 (fun h_75 => ?_) (fun h_76 => ?_)
                    · refine y_iconst rfl ?_
                      refine y_goto rfl j_X14_buyOut_147 ?_
                      refine y_iconst rfl ?_
                      refine y_virt rfl rfl rfl rfl rfl (ySh.t hS rfl) (ySh.n hS rfl) ?_
                      refine y_in (M := xm_X14_refuse) (ls := [some _, some _, some _]) rfl rfl rfl ?_
                      refine y_iload_n rfl rfl ?_
                      refine y_if_eqF rfl (by decide) ?_
                      refine y_aload_n rfl rfl ?_
                      refine y_getIv (v := Int32.ofInt (0)) rfl (ySh.t hS rfl) (ySh.n hS rfl) rfl rfl hth ?_
                      refine y_if_neF rfl (by decide) ?_
                      refine y_aload_n rfl rfl ?_
                      refine y_iload_n rfl rfl ?_
                      refine y_putI rfl (ySh.t hS rfl) (ySh.n hS rfl) rfl (Nat.le_of_ble_eq_true rfl) rfl rfl ?_
                      refine y_nameI (fun I77 e77 => ?_)
                      have hR1 := (hR0.grow hX).mod0 e77 (by decide) (by decide)
                      have hK := (hK.x hRo hno hX).upI (upI e77) (by decide) (by decide) (fun i hi => by have := (hRo.l87.2.2.2.2 i hi).2.1; omega) (by rw [e77, upd2_ne (.inr (by decide))]; exact Int.le_refl _)
                      have hth : I77 83 0 = Int32.ofInt (3) := by rw [e77, upd2_self]
                      have hzz : ySz8 I8 I77 := ySz8_of (upI e77) (by rw [e77]; exact ⟨upd2_ne (.inr (by decide)), upd2_ne (.inr (by decide))⟩)
                      have hS0 := hS
                      have hR0 := hR1
                      have ht_b15 := (hX.2.1 _ hb_b15).1.trans ht_b15
                      have hb_b15 := Nat.lt_of_lt_of_le hb_b15 hX.1
                      have hb0_b15 := hb_b15
                      have ht_v66 := (hX.2.1 _ hb_v66).1.trans ht_v66
                      have hb_v66 := Nat.lt_of_lt_of_le hb_v66 hX.1
                      have hb0_v66 := hb_v66
                      have ht_v70 := (hX.2.1 _ hb_v70).1.trans ht_v70
                      have hb_v70 := Nat.lt_of_lt_of_le hb_v70 hX.1
                      have hb0_v70 := hb_v70
                      have ht_v74 := (hX.2.1 _ hb_v74).1.trans ht_v74
                      have hb_v74 := Nat.lt_of_lt_of_le hb_v74 hX.1
                      have hb0_v74 := hb_v74
                      have hn := Nat.le_refl n
                      have h94 := hS0.1
                      have hX := @yX.rf n tg I77 R
                      have hS := hS0.x hX
                      have hR := hR0.x hn hX
                      have hz := hX.sz h94
                      have hxn := hX.1
                      have hN := hR0.1
                      have hnb := hR0.2.2.2.2.2.2
                      have hthB := hth
                      refine y_aload_n rfl rfl ?_
                      refine y_getIv (v := Int32.ofInt (3)) rfl (ySh.t hS rfl) (ySh.n hS rfl) rfl rfl hth ?_
                      refine y_if_leF rfl (by decide) ?_
                      refine y_iconst rfl ?_
                      refine y_goto rfl j_X14_refuse_28 ?_
                      refine y_ireturn rfl rfl rfl ?_
                      refine y_ret1 ?_
                      refine y_if_eqF rfl (by decide) ?_
                      refine y_iconst rfl ?_
                      refine y_ireturn rfl rfl rfl ?_
                      exact hQ _ _ _ _ _ _ _ hS ((hR0.grow hX).up (Nat.le_succ K) hk6) (hK.x hRo hno hX) (by omega) (by omega)
                    · refine y_aload_n rfl rfl ?_
                      refine y_getR rfl (ySh.t hS rfl) (ySh.n hS rfl) rfl rfl (ySh.r hS rfl) ?_
                      refine y_iload rfl rfl ?_
                      refine y_iaload rfl (ySh.t hS rfl) (ySh.n hS rfl) (by omega) (by omega) ?_
                      refine y_iload rfl rfl ?_
                      refine y_icmp_ge rfl j_X14_buyOut_146 (fun h_78 => ?_) (fun h_79 => ?_)
                      · refine y_iconst rfl ?_
                        refine y_iconst rfl ?_
                        refine y_virt rfl rfl rfl rfl rfl (ySh.t hS rfl) (ySh.n hS rfl) ?_
                        refine y_in (M := xm_X14_refuse) (ls := [some _, some _, some _]) rfl rfl rfl ?_
                        refine y_iload_n rfl rfl ?_
                        refine y_if_eqT rfl j_X14_refuse_16 (by decide) ?_
                        refine y_aload_n rfl rfl ?_
                        refine y_getIv (v := Int32.ofInt (0)) rfl (ySh.t hS rfl) (ySh.n hS rfl) rfl rfl hth ?_
                        refine y_if_leT rfl j_X14_refuse_27 (by decide) ?_
                        refine y_iconst rfl ?_
                        refine y_ireturn rfl rfl rfl ?_
                        refine y_ret1 ?_
                        refine y_if_eqT rfl j_X14_buyOut_156 (by decide) ?_
                        refine y_aload rfl rfl ?_
                        obtain ⟨hR_v80, hb_v80, ht_v80⟩ := hR0.ven hlo_b15 hb0_b15 ht_b15 (j := 1) (by decide)
                        have hb0_v80 := hb_v80
                        have hb_v80 := Nat.lt_of_lt_of_le hb_v80 hn
                        have hlo_v80 : 94 ≤ b15 + 1 + 1 := by omega
                        have hR2_v80 := (congrFun (hX.2.1 b15 hb_b15).2.2 1).trans hR_v80
                        refine y_getR rfl ((hX.2.1 _ hb_b15).1.trans ht_b15) (Nat.lt_of_lt_of_le hb_b15 hX.1) rfl rfl hR2_v80 ?_
                        refine y_iload rfl rfl ?_
                        refine y_dup2 rfl rfl rfl ?_
                        refine y_ialoadC (j := 8) rfl ((hX.2.1 _ hb_v80).1.trans ht_v80) (Nat.lt_of_lt_of_le hb_v80 hX.1) (by decide) (by decide) rfl ?_
                        refine y_iload rfl rfl ?_
                        refine y_isub rfl ?_
                        refine y_iastoreC (j := 8) rfl ((hX.2.1 _ hb_v80).1.trans ht_v80) (Nat.lt_of_lt_of_le hb_v80 hX.1) (Nat.le_trans (by decide) (by omega : 94 ≤ _)) (by decide) (by decide) rfl ?_
                        refine y_nameI (fun I81 e81 => ?_)
                        have hB1 := (hR0.grow hX).capB1 hlo_b15 (by omega) ((hX.2.1 _ hb_b15).1.trans ht_b15) (by omega) ⟨by omega, by omega⟩ e81
                        have hR1 := hB1.1
                        have hK := (hK.x hRo hno hX).upE hRo hno (upI e81) (by omega) (by omega) (by rw [((hX.2.1 _ hb_v80).1.trans ht_v80)]; decide) (by rw [e81, upd2_ne (.inl (by omega))]; exact Int.le_refl _)
                        have hth := (show I81 83 0 = I8 83 0 by rw [e81, upd2_ne (.inl (by omega))]).trans hth
                        have hzz : ySz I8 I81 := ySz_ofE (upI e81) (by omega)
                        have hS0 := hS
                        have hR0 := hR1
                        have ht_b15 := (hX.2.1 _ hb_b15).1.trans ht_b15
                        have hb_b15 := Nat.lt_of_lt_of_le hb_b15 hX.1
                        have hb0_b15 := hb_b15
                        have ht_v66 := (hX.2.1 _ hb_v66).1.trans ht_v66
                        have hb_v66 := Nat.lt_of_lt_of_le hb_v66 hX.1
                        have hb0_v66 := hb_v66
                        have ht_v70 := (hX.2.1 _ hb_v70).1.trans ht_v70
                        have hb_v70 := Nat.lt_of_lt_of_le hb_v70 hX.1
                        have hb0_v70 := hb_v70
                        have ht_v74 := (hX.2.1 _ hb_v74).1.trans ht_v74
                        have hb_v74 := Nat.lt_of_lt_of_le hb_v74 hX.1
                        have hb0_v74 := hb_v74
                        have ht_v80 := (hX.2.1 _ hb_v80).1.trans ht_v80
                        have hb_v80 := Nat.lt_of_lt_of_le hb_v80 hX.1
                        have hb0_v80 := hb_v80
                        have hn := Nat.le_refl n
                        have h94 := hS0.1
                        have hX := @yX.rf n tg I81 R
                        have hS := hS0.x hX
                        have hR := hR0.x hn hX
                        have hz := hX.sz h94
                        have hxn := hX.1
                        have hN := hR0.1
                        have hnb := hR0.2.2.2.2.2.2
                        have hthB := hth
                        refine y_aload rfl rfl ?_
                        obtain ⟨hR_v82, hb_v82, ht_v82⟩ := hR0.ven hlo_b15 hb0_b15 ht_b15 (j := 1) (by decide)
                        have hb0_v82 := hb_v82
                        have hb_v82 := Nat.lt_of_lt_of_le hb_v82 hn
                        have hlo_v82 : 94 ≤ b15 + 1 + 1 := by omega
                        have hR2_v82 := (congrFun (hX.2.1 b15 hb_b15).2.2 1).trans hR_v82
                        refine y_getR rfl ((hX.2.1 _ hb_b15).1.trans ht_b15) (Nat.lt_of_lt_of_le hb_b15 hX.1) rfl rfl hR2_v82 ?_
                        refine y_iload rfl rfl ?_
                        refine y_dup2 rfl rfl rfl ?_
                        refine y_iaload rfl ((hX.2.1 _ hb_v82).1.trans ht_v82) (Nat.lt_of_lt_of_le hb_v82 hX.1) (by omega) (by omega) ?_
                        refine y_iload rfl rfl ?_
                        refine y_iadd rfl ?_
                        refine y_iastore rfl ((hX.2.1 _ hb_v82).1.trans ht_v82) (Nat.lt_of_lt_of_le hb_v82 hX.1) (Nat.le_trans (by decide) (by omega : 94 ≤ _)) (by omega) (by omega) ?_
                        refine y_nameI (fun I83 e83 => ?_)
                        have hR1 := (hR0.grow hX).capB2 hlo_b15 (by omega) ((hX.2.1 _ hb_b15).1.trans ht_b15) (by omega) (by omega) hB1.2.1 e83
                        have hK := (hK.x hRo hno hX).upE hRo hno (upI e83) (by omega) (by omega) (by rw [((hX.2.1 _ hb_v82).1.trans ht_v82)]; decide) (by rw [e83, upd2_ne (.inl (by omega))]; exact Int.le_refl _)
                        have hth := (show I83 83 0 = I81 83 0 by rw [e83, upd2_ne (.inl (by omega))]).trans hth
                        have hzz : ySz I81 I83 := ySz_ofE (upI e83) (by omega)
                        have hS0 := hS
                        have hR0 := hR1
                        have ht_b15 := (hX.2.1 _ hb_b15).1.trans ht_b15
                        have hb_b15 := Nat.lt_of_lt_of_le hb_b15 hX.1
                        have hb0_b15 := hb_b15
                        have ht_v66 := (hX.2.1 _ hb_v66).1.trans ht_v66
                        have hb_v66 := Nat.lt_of_lt_of_le hb_v66 hX.1
                        have hb0_v66 := hb_v66
                        have ht_v70 := (hX.2.1 _ hb_v70).1.trans ht_v70
                        have hb_v70 := Nat.lt_of_lt_of_le hb_v70 hX.1
                        have hb0_v70 := hb_v70
                        have ht_v74 := (hX.2.1 _ hb_v74).1.trans ht_v74
                        have hb_v74 := Nat.lt_of_lt_of_le hb_v74 hX.1
                        have hb0_v74 := hb_v74
                        have ht_v80 := (hX.2.1 _ hb_v80).1.trans ht_v80
                        have hb_v80 := Nat.lt_of_lt_of_le hb_v80 hX.1
                        have hb0_v80 := hb_v80
                        have ht_v82 := (hX.2.1 _ hb_v82).1.trans ht_v82
                        have hb_v82 := Nat.lt_of_lt_of_le hb_v82 hX.1
                        have hb0_v82 := hb_v82
                        have hn := Nat.le_refl n
                        have h94 := hS0.1
                        have hX := @yX.rf n tg I83 R
                        have hS := hS0.x hX
                        have hR := hR0.x hn hX
                        have hz := hX.sz h94
                        have hxn := hX.1
                        have hN := hR0.1
                        have hnb := hR0.2.2.2.2.2.2
                        have hthB := hth
                        refine y_aload_n rfl rfl ?_
                        refine y_getR rfl (ySh.t hS rfl) (ySh.n hS rfl) rfl rfl (ySh.r hS rfl) ?_
                        refine y_iload rfl rfl ?_
                        refine y_dup2 rfl rfl rfl ?_
                        refine y_ialoadC (j := 8) rfl (ySh.t hS rfl) (ySh.n hS rfl) (by decide) (by decide) rfl ?_
                        refine y_iload rfl rfl ?_
                        refine y_iadd rfl ?_
                        refine y_iastoreC (j := 8) rfl (ySh.t hS rfl) (ySh.n hS rfl) (Nat.le_of_ble_eq_true rfl) (by decide) (by decide) rfl ?_
                        refine y_nameI (fun I84 e84 => ?_)
                        have hR1 := (hR0.grow hX).arr e84 (by decide)
                        have hK := (hK.x hRo hno hX).upI (upI e84) (by decide) (by decide) (fun i hi => by have := (hRo.l87.2.2.2.2 i hi).2.1; omega) (by rw [e84, upd2_ne (.inl (by omega))]; exact Int.le_refl _)
                        have hth := (show I84 83 0 = I83 83 0 by rw [e84, upd2_ne (.inl (by omega))]).trans hth
                        have hzz : ySz I83 I84 := ySz_ofE (upI e84) (by omega)
                        have hS0 := hS
                        have hR0 := hR1
                        have ht_b15 := (hX.2.1 _ hb_b15).1.trans ht_b15
                        have hb_b15 := Nat.lt_of_lt_of_le hb_b15 hX.1
                        have hb0_b15 := hb_b15
                        have ht_v66 := (hX.2.1 _ hb_v66).1.trans ht_v66
                        have hb_v66 := Nat.lt_of_lt_of_le hb_v66 hX.1
                        have hb0_v66 := hb_v66
                        have ht_v70 := (hX.2.1 _ hb_v70).1.trans ht_v70
                        have hb_v70 := Nat.lt_of_lt_of_le hb_v70 hX.1
                        have hb0_v70 := hb_v70
                        have ht_v74 := (hX.2.1 _ hb_v74).1.trans ht_v74
                        have hb_v74 := Nat.lt_of_lt_of_le hb_v74 hX.1
                        have hb0_v74 := hb_v74
                        have ht_v80 := (hX.2.1 _ hb_v80).1.trans ht_v80
                        have hb_v80 := Nat.lt_of_lt_of_le hb_v80 hX.1
                        have hb0_v80 := hb_v80
                        have ht_v82 := (hX.2.1 _ hb_v82).1.trans ht_v82
                        have hb_v82 := Nat.lt_of_lt_of_le hb_v82 hX.1
                        have hb0_v82 := hb_v82
                        have hn := Nat.le_refl n
                        have h94 := hS0.1
                        have hX := @yX.rf n tg I84 R
                        have hS := hS0.x hX
                        have hR := hR0.x hn hX
                        have hz := hX.sz h94
                        have hxn := hX.1
                        have hN := hR0.1
                        have hnb := hR0.2.2.2.2.2.2
                        have hthB := hth
                        refine y_aload_n rfl rfl ?_
                        refine y_getR rfl (ySh.t hS rfl) (ySh.n hS rfl) rfl rfl (ySh.r hS rfl) ?_
                        refine y_iload rfl rfl ?_
                        refine y_dup2 rfl rfl rfl ?_
                        refine y_iaload rfl (ySh.t hS rfl) (ySh.n hS rfl) (by omega) (by omega) ?_
                        refine y_iload rfl rfl ?_
                        refine y_isub rfl ?_
                        refine y_iastore rfl (ySh.t hS rfl) (ySh.n hS rfl) (Nat.le_of_ble_eq_true rfl) (by omega) (by omega) ?_
                        refine y_nameI (fun I85 e85 => ?_)
                        have hR1 := (hR0.grow hX).arr e85 (by decide)
                        have hK := (hK.x hRo hno hX).upI (upI e85) (by decide) (by decide) (fun i hi => by have := (hRo.l87.2.2.2.2 i hi).2.1; omega) (by rw [e85, upd2_ne (.inl (by omega))]; exact Int.le_refl _)
                        have hth := (show I85 83 0 = I84 83 0 by rw [e85, upd2_ne (.inl (by omega))]).trans hth
                        have hzz : ySz I84 I85 := ySz_ofE (upI e85) (by omega)
                        have hS0 := hS
                        have hR0 := hR1
                        have ht_b15 := (hX.2.1 _ hb_b15).1.trans ht_b15
                        have hb_b15 := Nat.lt_of_lt_of_le hb_b15 hX.1
                        have hb0_b15 := hb_b15
                        have ht_v66 := (hX.2.1 _ hb_v66).1.trans ht_v66
                        have hb_v66 := Nat.lt_of_lt_of_le hb_v66 hX.1
                        have hb0_v66 := hb_v66
                        have ht_v70 := (hX.2.1 _ hb_v70).1.trans ht_v70
                        have hb_v70 := Nat.lt_of_lt_of_le hb_v70 hX.1
                        have hb0_v70 := hb_v70
                        have ht_v74 := (hX.2.1 _ hb_v74).1.trans ht_v74
                        have hb_v74 := Nat.lt_of_lt_of_le hb_v74 hX.1
                        have hb0_v74 := hb_v74
                        have ht_v80 := (hX.2.1 _ hb_v80).1.trans ht_v80
                        have hb_v80 := Nat.lt_of_lt_of_le hb_v80 hX.1
                        have hb0_v80 := hb_v80
                        have ht_v82 := (hX.2.1 _ hb_v82).1.trans ht_v82
                        have hb_v82 := Nat.lt_of_lt_of_le hb_v82 hX.1
                        have hb0_v82 := hb_v82
                        have hn := Nat.le_refl n
                        have h94 := hS0.1
                        have hX := @yX.rf n tg I85 R
                        have hS := hS0.x hX
                        have hR := hR0.x hn hX
                        have hz := hX.sz h94
                        have hxn := hX.1
                        have hN := hR0.1
                        have hnb := hR0.2.2.2.2.2.2
                        have hthB := hth
                        refine y_aload rfl rfl ?_
                        obtain ⟨hR_v86, hb_v86, ht_v86⟩ := hR0.ven hlo_b15 hb0_b15 ht_b15 (j := 1) (by decide)
                        have hb0_v86 := hb_v86
                        have hb_v86 := Nat.lt_of_lt_of_le hb_v86 hn
                        have hlo_v86 : 94 ≤ b15 + 1 + 1 := by omega
                        have hR2_v86 := (congrFun (hX.2.1 b15 hb_b15).2.2 1).trans hR_v86
                        refine y_getR rfl ((hX.2.1 _ hb_b15).1.trans ht_b15) (Nat.lt_of_lt_of_le hb_b15 hX.1) rfl rfl hR2_v86 ?_
                        refine y_iload rfl rfl ?_
                        refine y_ialoadC (j := 8) rfl ((hX.2.1 _ hb_v86).1.trans ht_v86) (Nat.lt_of_lt_of_le hb_v86 hX.1) (by decide) (by decide) rfl ?_
                        refine y_ireturn rfl rfl rfl ?_
                        exact hQ _ _ _ _ _ _ _ hS ((hR0.grow hX).up (Nat.le_succ K) hk6) (hK.x hRo hno hX) (by omega) (by omega)
                      · refine y_iconst rfl ?_
                        refine y_goto rfl j_X14_buyOut_147 ?_
                        refine y_iconst rfl ?_
                        refine y_virt rfl rfl rfl rfl rfl (ySh.t hS rfl) (ySh.n hS rfl) ?_
                        refine y_in (M := xm_X14_refuse) (ls := [some _, some _, some _]) rfl rfl rfl ?_
                        refine y_iload_n rfl rfl ?_
                        refine y_if_eqF rfl (by decide) ?_
                        refine y_aload_n rfl rfl ?_
                        refine y_getIv (v := Int32.ofInt (0)) rfl (ySh.t hS rfl) (ySh.n hS rfl) rfl rfl hth ?_
                        refine y_if_neF rfl (by decide) ?_
                        refine y_aload_n rfl rfl ?_
                        refine y_iload_n rfl rfl ?_
                        refine y_putI rfl (ySh.t hS rfl) (ySh.n hS rfl) rfl (Nat.le_of_ble_eq_true rfl) rfl rfl ?_
                        refine y_nameI (fun I87 e87 => ?_)
                        have hR1 := (hR0.grow hX).mod0 e87 (by decide) (by decide)
                        have hK := (hK.x hRo hno hX).upI (upI e87) (by decide) (by decide) (fun i hi => by have := (hRo.l87.2.2.2.2 i hi).2.1; omega) (by rw [e87, upd2_ne (.inr (by decide))]; exact Int.le_refl _)
                        have hth : I87 83 0 = Int32.ofInt (3) := by rw [e87, upd2_self]
                        have hzz : ySz8 I8 I87 := ySz8_of (upI e87) (by rw [e87]; exact ⟨upd2_ne (.inr (by decide)), upd2_ne (.inr (by decide))⟩)
                        have hS0 := hS
                        have hR0 := hR1
                        have ht_b15 := (hX.2.1 _ hb_b15).1.trans ht_b15
                        have hb_b15 := Nat.lt_of_lt_of_le hb_b15 hX.1
                        have hb0_b15 := hb_b15
                        have ht_v66 := (hX.2.1 _ hb_v66).1.trans ht_v66
                        have hb_v66 := Nat.lt_of_lt_of_le hb_v66 hX.1
                        have hb0_v66 := hb_v66
                        have ht_v70 := (hX.2.1 _ hb_v70).1.trans ht_v70
                        have hb_v70 := Nat.lt_of_lt_of_le hb_v70 hX.1
                        have hb0_v70 := hb_v70
                        have ht_v74 := (hX.2.1 _ hb_v74).1.trans ht_v74
                        have hb_v74 := Nat.lt_of_lt_of_le hb_v74 hX.1
                        have hb0_v74 := hb_v74
                        have hn := Nat.le_refl n
                        have h94 := hS0.1
                        have hX := @yX.rf n tg I87 R
                        have hS := hS0.x hX
                        have hR := hR0.x hn hX
                        have hz := hX.sz h94
                        have hxn := hX.1
                        have hN := hR0.1
                        have hnb := hR0.2.2.2.2.2.2
                        have hthB := hth
                        refine y_aload_n rfl rfl ?_
                        refine y_getIv (v := Int32.ofInt (3)) rfl (ySh.t hS rfl) (ySh.n hS rfl) rfl rfl hth ?_
                        refine y_if_leF rfl (by decide) ?_
                        refine y_iconst rfl ?_
                        refine y_goto rfl j_X14_refuse_28 ?_
                        refine y_ireturn rfl rfl rfl ?_
                        refine y_ret1 ?_
                        refine y_if_eqF rfl (by decide) ?_
                        refine y_iconst rfl ?_
                        refine y_ireturn rfl rfl rfl ?_
                        exact hQ _ _ _ _ _ _ _ hS ((hR0.grow hX).up (Nat.le_succ K) hk6) (hK.x hRo hno hX) (by omega) (by omega)
              · rw [yz_m1] at h_65
                refine y_bip rfl (by decide) ?_
                refine y_goto rfl j_X14_seat_11 ?_
                refine y_ireturn rfl rfl rfl ?_
                refine y_ret1 ?_
                refine y_istore (ls' := [some _, some _, some _, some _, some _, some _, some _, some _]) rfl rfl rfl ?_
                refine y_aload_n rfl rfl ?_
                refine y_aload rfl rfl ?_
                obtain ⟨hR_v88, hb_v88, ht_v88⟩ := hR0.ven hlo_b15 hb0_b15 ht_b15 (j := 0) (by decide)
                have hb0_v88 := hb_v88
                have hb_v88 := Nat.lt_of_lt_of_le hb_v88 hn
                have hlo_v88 : 94 ≤ b15 + 1 + 0 := by omega
                have hR2_v88 := (congrFun (hX.2.1 b15 hb_b15).2.2 0).trans hR_v88
                refine y_getR rfl ((hX.2.1 _ hb_b15).1.trans ht_b15) (Nat.lt_of_lt_of_le hb_b15 hX.1) rfl rfl hR2_v88 ?_
                refine y_iload rfl rfl ?_
                refine y_baload rfl ((hX.2.1 _ hb_v88).1.trans ht_v88) rfl (Nat.lt_of_lt_of_le hb_v88 hX.1) (by decide) (by decide) ?_
                refine y_if_eq rfl j_X14_buyOut_142 (fun h_89 => ?_) (fun h_90 => ?_)
                · refine y_iconst rfl ?_
                  refine y_goto rfl j_X14_buyOut_147 ?_
                  refine y_iconst rfl ?_
                  refine y_virt rfl rfl rfl rfl rfl (ySh.t hS rfl) (ySh.n hS rfl) ?_
                  refine y_in (M := xm_X14_refuse) (ls := [some _, some _, some _]) rfl rfl rfl ?_
                  refine y_iload_n rfl rfl ?_
                  refine y_if_eqF rfl (by decide) ?_
                  refine y_aload_n rfl rfl ?_
                  refine y_getIv (v := Int32.ofInt (0)) rfl (ySh.t hS rfl) (ySh.n hS rfl) rfl rfl hth ?_
                  refine y_if_neF rfl (by decide) ?_
                  refine y_aload_n rfl rfl ?_
                  refine y_iload_n rfl rfl ?_
                  refine y_putI rfl (ySh.t hS rfl) (ySh.n hS rfl) rfl (Nat.le_of_ble_eq_true rfl) rfl rfl ?_
                  refine y_nameI (fun I91 e91 => ?_)
                  have hR1 := (hR0.grow hX).mod0 e91 (by decide) (by decide)
                  have hK := (hK.x hRo hno hX).upI (upI e91) (by decide) (by decide) (fun i hi => by have := (hRo.l87.2.2.2.2 i hi).2.1; omega) (by rw [e91, upd2_ne (.inr (by decide))]; exact Int.le_refl _)
                  have hth : I91 83 0 = Int32.ofInt (3) := by rw [e91, upd2_self]
                  have hzz : ySz8 I8 I91 := ySz8_of (upI e91) (by rw [e91]; exact ⟨upd2_ne (.inr (by decide)), upd2_ne (.inr (by decide))⟩)
                  have hS0 := hS
                  have hR0 := hR1
                  have ht_b15 := (hX.2.1 _ hb_b15).1.trans ht_b15
                  have hb_b15 := Nat.lt_of_lt_of_le hb_b15 hX.1
                  have hb0_b15 := hb_b15
                  have ht_v88 := (hX.2.1 _ hb_v88).1.trans ht_v88
                  have hb_v88 := Nat.lt_of_lt_of_le hb_v88 hX.1
                  have hb0_v88 := hb_v88
                  have hn := Nat.le_refl n
                  have h94 := hS0.1
                  have hX := @yX.rf n tg I91 R
                  have hS := hS0.x hX
                  have hR := hR0.x hn hX
                  have hz := hX.sz h94
                  have hxn := hX.1
                  have hN := hR0.1
                  have hnb := hR0.2.2.2.2.2.2
                  have hthB := hth
                  refine y_aload_n rfl rfl ?_
                  refine y_getIv (v := Int32.ofInt (3)) rfl (ySh.t hS rfl) (ySh.n hS rfl) rfl rfl hth ?_
                  refine y_if_leF rfl (by decide) ?_
                  refine y_iconst rfl ?_
                  refine y_goto rfl j_X14_refuse_28 ?_
                  refine y_ireturn rfl rfl rfl ?_
                  refine y_ret1 ?_
                  refine y_if_eqF rfl (by decide) ?_
                  refine y_iconst rfl ?_
                  refine y_ireturn rfl rfl rfl ?_
                  exact hQ _ _ _ _ _ _ _ hS ((hR0.grow hX).up (Nat.le_succ K) hk6) (hK.x hRo hno hX) (by omega) (by omega)
                · refine y_aload rfl rfl ?_
                  obtain ⟨hR_v92, hb_v92, ht_v92⟩ := hR0.ven hlo_b15 hb0_b15 ht_b15 (j := 0) (by decide)
                  have hb0_v92 := hb_v92
                  have hb_v92 := Nat.lt_of_lt_of_le hb_v92 hn
                  have hlo_v92 : 94 ≤ b15 + 1 + 0 := by omega
                  have hR2_v92 := (congrFun (hX.2.1 b15 hb_b15).2.2 0).trans hR_v92
                  refine y_getR rfl ((hX.2.1 _ hb_b15).1.trans ht_b15) (Nat.lt_of_lt_of_le hb_b15 hX.1) rfl rfl hR2_v92 ?_
                  refine y_iload rfl rfl ?_
                  refine y_baload rfl ((hX.2.1 _ hb_v92).1.trans ht_v92) rfl (Nat.lt_of_lt_of_le hb_v92 hX.1) (by decide) (by decide) ?_
                  refine y_if_eq rfl j_X14_buyOut_142 (fun h_93 => ?_) (fun h_94 => ?_)
                  · refine y_iconst rfl ?_
                    refine y_goto rfl j_X14_buyOut_147 ?_
                    refine y_iconst rfl ?_
                    refine y_virt rfl rfl rfl rfl rfl (ySh.t hS rfl) (ySh.n hS rfl) ?_
                    refine y_in (M := xm_X14_refuse) (ls := [some _, some _, some _]) rfl rfl rfl ?_
                    refine y_iload_n rfl rfl ?_
                    refine y_if_eqF rfl (by decide) ?_
                    refine y_aload_n rfl rfl ?_
                    refine y_getIv (v := Int32.ofInt (0)) rfl (ySh.t hS rfl) (ySh.n hS rfl) rfl rfl hth ?_
                    refine y_if_neF rfl (by decide) ?_
                    refine y_aload_n rfl rfl ?_
                    refine y_iload_n rfl rfl ?_
                    refine y_putI rfl (ySh.t hS rfl) (ySh.n hS rfl) rfl (Nat.le_of_ble_eq_true rfl) rfl rfl ?_
                    refine y_nameI (fun I95 e95 => ?_)
                    have hR1 := (hR0.grow hX).mod0 e95 (by decide) (by decide)
                    have hK := (hK.x hRo hno hX).upI (upI e95) (by decide) (by decide) (fun i hi => by have := (hRo.l87.2.2.2.2 i hi).2.1; omega) (by rw [e95, upd2_ne (.inr (by decide))]; exact Int.le_refl _)
                    have hth : I95 83 0 = Int32.ofInt (3) := by rw [e95, upd2_self]
                    have hzz : ySz8 I8 I95 := ySz8_of (upI e95) (by rw [e95]; exact ⟨upd2_ne (.inr (by decide)), upd2_ne (.inr (by decide))⟩)
                    have hS0 := hS
                    have hR0 := hR1
                    have ht_b15 := (hX.2.1 _ hb_b15).1.trans ht_b15
                    have hb_b15 := Nat.lt_of_lt_of_le hb_b15 hX.1
                    have hb0_b15 := hb_b15
                    have ht_v88 := (hX.2.1 _ hb_v88).1.trans ht_v88
                    have hb_v88 := Nat.lt_of_lt_of_le hb_v88 hX.1
                    have hb0_v88 := hb_v88
                    have ht_v92 := (hX.2.1 _ hb_v92).1.trans ht_v92
                    have hb_v92 := Nat.lt_of_lt_of_le hb_v92 hX.1
                    have hb0_v92 := hb_v92
                    have hn := Nat.le_refl n
                    have h94 := hS0.1
                    have hX := @yX.rf n tg I95 R
                    have hS := hS0.x hX
                    have hR := hR0.x hn hX
                    have hz := hX.sz h94
                    have hxn := hX.1
                    have hN := hR0.1
                    have hnb := hR0.2.2.2.2.2.2
                    have hthB := hth
                    refine y_aload_n rfl rfl ?_
                    refine y_getIv (v := Int32.ofInt (3)) rfl (ySh.t hS rfl) (ySh.n hS rfl) rfl rfl hth ?_
                    refine y_if_leF rfl (by decide) ?_
                    refine y_iconst rfl ?_
                    refine y_goto rfl j_X14_refuse_28 ?_
                    refine y_ireturn rfl rfl rfl ?_
                    refine y_ret1 ?_
                    refine y_if_eqF rfl (by decide) ?_
                    refine y_iconst rfl ?_
                    refine y_ireturn rfl rfl rfl ?_
                    exact hQ _ _ _ _ _ _ _ hS ((hR0.grow hX).up (Nat.le_succ K) hk6) (hK.x hRo hno hX) (by omega) (by omega)
                  · refine y_aload rfl rfl ?_
                    obtain ⟨hR_v96, hb_v96, ht_v96⟩ := hR0.ven hlo_b15 hb0_b15 ht_b15 (j := 1) (by decide)
                    have hb0_v96 := hb_v96
                    have hb_v96 := Nat.lt_of_lt_of_le hb_v96 hn
                    have hlo_v96 : 94 ≤ b15 + 1 + 1 := by omega
                    have hR2_v96 := (congrFun (hX.2.1 b15 hb_b15).2.2 1).trans hR_v96
                    refine y_getR rfl ((hX.2.1 _ hb_b15).1.trans ht_b15) (Nat.lt_of_lt_of_le hb_b15 hX.1) rfl rfl hR2_v96 ?_
                    refine y_iload rfl rfl ?_
                    refine y_ialoadC (j := 8) rfl ((hX.2.1 _ hb_v96).1.trans ht_v96) (Nat.lt_of_lt_of_le hb_v96 hX.1) (by decide) (by decide) rfl ?_
                    refine y_iload rfl rfl ?_
                    refine y_icmp_lt rfl j_X14_buyOut_142 (fun h_97 => ?_) (fun h_98 => ?_)
                    · refine y_iconst rfl ?_
                      refine y_goto rfl j_X14_buyOut_147 ?_
                      refine y_iconst rfl ?_
                      refine y_virt rfl rfl rfl rfl rfl (ySh.t hS rfl) (ySh.n hS rfl) ?_
                      refine y_in (M := xm_X14_refuse) (ls := [some _, some _, some _]) rfl rfl rfl ?_
                      refine y_iload_n rfl rfl ?_
                      refine y_if_eqF rfl (by decide) ?_
                      refine y_aload_n rfl rfl ?_
                      refine y_getIv (v := Int32.ofInt (0)) rfl (ySh.t hS rfl) (ySh.n hS rfl) rfl rfl hth ?_
                      refine y_if_neF rfl (by decide) ?_
                      refine y_aload_n rfl rfl ?_
                      refine y_iload_n rfl rfl ?_
                      refine y_putI rfl (ySh.t hS rfl) (ySh.n hS rfl) rfl (Nat.le_of_ble_eq_true rfl) rfl rfl ?_
                      refine y_nameI (fun I99 e99 => ?_)
                      have hR1 := (hR0.grow hX).mod0 e99 (by decide) (by decide)
                      have hK := (hK.x hRo hno hX).upI (upI e99) (by decide) (by decide) (fun i hi => by have := (hRo.l87.2.2.2.2 i hi).2.1; omega) (by rw [e99, upd2_ne (.inr (by decide))]; exact Int.le_refl _)
                      have hth : I99 83 0 = Int32.ofInt (3) := by rw [e99, upd2_self]
                      have hzz : ySz8 I8 I99 := ySz8_of (upI e99) (by rw [e99]; exact ⟨upd2_ne (.inr (by decide)), upd2_ne (.inr (by decide))⟩)
                      have hS0 := hS
                      have hR0 := hR1
                      have ht_b15 := (hX.2.1 _ hb_b15).1.trans ht_b15
                      have hb_b15 := Nat.lt_of_lt_of_le hb_b15 hX.1
                      have hb0_b15 := hb_b15
                      have ht_v88 := (hX.2.1 _ hb_v88).1.trans ht_v88
                      have hb_v88 := Nat.lt_of_lt_of_le hb_v88 hX.1
                      have hb0_v88 := hb_v88
                      have ht_v92 := (hX.2.1 _ hb_v92).1.trans ht_v92
                      have hb_v92 := Nat.lt_of_lt_of_le hb_v92 hX.1
                      have hb0_v92 := hb_v92
                      have ht_v96 := (hX.2.1 _ hb_v96).1.trans ht_v96
                      have hb_v96 := Nat.lt_of_lt_of_le hb_v96 hX.1
                      have hb0_v96 := hb_v96
                      have hn := Nat.le_refl n
                      have h94 := hS0.1
                      have hX := @yX.rf n tg I99 R
                      have hS := hS0.x hX
                      have hR := hR0.x hn hX
                      have hz := hX.sz h94
                      have hxn := hX.1
                      have hN := hR0.1
                      have hnb := hR0.2.2.2.2.2.2
                      have hthB := hth
                      refine y_aload_n rfl rfl ?_
                      refine y_getIv (v := Int32.ofInt (3)) rfl (ySh.t hS rfl) (ySh.n hS rfl) rfl rfl hth ?_
                      refine y_if_leF rfl (by decide) ?_
                      refine y_iconst rfl ?_
                      refine y_goto rfl j_X14_refuse_28 ?_
                      refine y_ireturn rfl rfl rfl ?_
                      refine y_ret1 ?_
                      refine y_if_eqF rfl (by decide) ?_
                      refine y_iconst rfl ?_
                      refine y_ireturn rfl rfl rfl ?_
                      exact hQ _ _ _ _ _ _ _ hS ((hR0.grow hX).up (Nat.le_succ K) hk6) (hK.x hRo hno hX) (by omega) (by omega)
                    · refine y_aload_n rfl rfl ?_
                      refine y_getR rfl (ySh.t hS rfl) (ySh.n hS rfl) rfl rfl (ySh.r hS rfl) ?_
                      refine y_iload rfl rfl ?_
                      refine y_ialoadC (j := 8) rfl (ySh.t hS rfl) (ySh.n hS rfl) (by decide) (by decide) rfl ?_
                      refine y_iload rfl rfl ?_
                      refine y_icmp_ge rfl j_X14_buyOut_146 (fun h_100 => ?_) (fun h_101 => ?_)
                      · refine y_iconst rfl ?_
                        refine y_iconst rfl ?_
                        refine y_virt rfl rfl rfl rfl rfl (ySh.t hS rfl) (ySh.n hS rfl) ?_
                        refine y_in (M := xm_X14_refuse) (ls := [some _, some _, some _]) rfl rfl rfl ?_
                        refine y_iload_n rfl rfl ?_
                        refine y_if_eqT rfl j_X14_refuse_16 (by decide) ?_
                        refine y_aload_n rfl rfl ?_
                        refine y_getIv (v := Int32.ofInt (0)) rfl (ySh.t hS rfl) (ySh.n hS rfl) rfl rfl hth ?_
                        refine y_if_leT rfl j_X14_refuse_27 (by decide) ?_
                        refine y_iconst rfl ?_
                        refine y_ireturn rfl rfl rfl ?_
                        refine y_ret1 ?_
                        refine y_if_eqT rfl j_X14_buyOut_156 (by decide) ?_
                        refine y_aload rfl rfl ?_
                        obtain ⟨hR_v102, hb_v102, ht_v102⟩ := hR0.ven hlo_b15 hb0_b15 ht_b15 (j := 1) (by decide)
                        have hb0_v102 := hb_v102
                        have hb_v102 := Nat.lt_of_lt_of_le hb_v102 hn
                        have hlo_v102 : 94 ≤ b15 + 1 + 1 := by omega
                        have hR2_v102 := (congrFun (hX.2.1 b15 hb_b15).2.2 1).trans hR_v102
                        refine y_getR rfl ((hX.2.1 _ hb_b15).1.trans ht_b15) (Nat.lt_of_lt_of_le hb_b15 hX.1) rfl rfl hR2_v102 ?_
                        refine y_iload rfl rfl ?_
                        refine y_dup2 rfl rfl rfl ?_
                        refine y_ialoadC (j := 8) rfl ((hX.2.1 _ hb_v102).1.trans ht_v102) (Nat.lt_of_lt_of_le hb_v102 hX.1) (by decide) (by decide) rfl ?_
                        refine y_iload rfl rfl ?_
                        refine y_isub rfl ?_
                        refine y_iastoreC (j := 8) rfl ((hX.2.1 _ hb_v102).1.trans ht_v102) (Nat.lt_of_lt_of_le hb_v102 hX.1) (Nat.le_trans (by decide) (by omega : 94 ≤ _)) (by decide) (by decide) rfl ?_
                        refine y_nameI (fun I103 e103 => ?_)
                        have hB1 := (hR0.grow hX).capB1 hlo_b15 (by omega) ((hX.2.1 _ hb_b15).1.trans ht_b15) (by omega) ⟨by omega, by omega⟩ e103
                        have hR1 := hB1.1
                        have hK := (hK.x hRo hno hX).upE hRo hno (upI e103) (by omega) (by omega) (by rw [((hX.2.1 _ hb_v102).1.trans ht_v102)]; decide) (by rw [e103, upd2_ne (.inl (by omega))]; exact Int.le_refl _)
                        have hth := (show I103 83 0 = I8 83 0 by rw [e103, upd2_ne (.inl (by omega))]).trans hth
                        have hzz : ySz I8 I103 := ySz_ofE (upI e103) (by omega)
                        have hS0 := hS
                        have hR0 := hR1
                        have ht_b15 := (hX.2.1 _ hb_b15).1.trans ht_b15
                        have hb_b15 := Nat.lt_of_lt_of_le hb_b15 hX.1
                        have hb0_b15 := hb_b15
                        have ht_v88 := (hX.2.1 _ hb_v88).1.trans ht_v88
                        have hb_v88 := Nat.lt_of_lt_of_le hb_v88 hX.1
                        have hb0_v88 := hb_v88
                        have ht_v92 := (hX.2.1 _ hb_v92).1.trans ht_v92
                        have hb_v92 := Nat.lt_of_lt_of_le hb_v92 hX.1
                        have hb0_v92 := hb_v92
                        have ht_v96 := (hX.2.1 _ hb_v96).1.trans ht_v96
                        have hb_v96 := Nat.lt_of_lt_of_le hb_v96 hX.1
                        have hb0_v96 := hb_v96
                        have ht_v102 := (hX.2.1 _ hb_v102).1.trans ht_v102
                        have hb_v102 := Nat.lt_of_lt_of_le hb_v102 hX.1
                        have hb0_v102 := hb_v102
                        have hn := Nat.le_refl n
                        have h94 := hS0.1
                        have hX := @yX.rf n tg I103 R
                        have hS := hS0.x hX
                        have hR := hR0.x hn hX
                        have hz := hX.sz h94
                        have hxn := hX.1
                        have hN := hR0.1
                        have hnb := hR0.2.2.2.2.2.2
                        have hthB := hth
                        refine y_aload rfl rfl ?_
                        obtain ⟨hR_v104, hb_v104, ht_v104⟩ := hR0.ven hlo_b15 hb0_b15 ht_b15 (j := 1) (by decide)
                        have hb0_v104 := hb_v104
                        have hb_v104 := Nat.lt_of_lt_of_le hb_v104 hn
                        have hlo_v104 : 94 ≤ b15 + 1 + 1 := by omega
                        have hR2_v104 := (congrFun (hX.2.1 b15 hb_b15).2.2 1).trans hR_v104
                        refine y_getR rfl ((hX.2.1 _ hb_b15).1.trans ht_b15) (Nat.lt_of_lt_of_le hb_b15 hX.1) rfl rfl hR2_v104 ?_
                        refine y_iload rfl rfl ?_
                        refine y_dup2 rfl rfl rfl ?_
                        refine y_ialoadC (j := 8) rfl ((hX.2.1 _ hb_v104).1.trans ht_v104) (Nat.lt_of_lt_of_le hb_v104 hX.1) (by decide) (by decide) rfl ?_
                        refine y_iload rfl rfl ?_
                        refine y_iadd rfl ?_
                        refine y_iastoreC (j := 8) rfl ((hX.2.1 _ hb_v104).1.trans ht_v104) (Nat.lt_of_lt_of_le hb_v104 hX.1) (Nat.le_trans (by decide) (by omega : 94 ≤ _)) (by decide) (by decide) rfl ?_
                        refine y_nameI (fun I105 e105 => ?_)
                        have hR1 := (hR0.grow hX).capB2 hlo_b15 (by omega) ((hX.2.1 _ hb_b15).1.trans ht_b15) (by omega) (by omega) hB1.2.1 e105
                        have hK := (hK.x hRo hno hX).upE hRo hno (upI e105) (by omega) (by omega) (by rw [((hX.2.1 _ hb_v104).1.trans ht_v104)]; decide) (by rw [e105, upd2_ne (.inl (by omega))]; exact Int.le_refl _)
                        have hth := (show I105 83 0 = I103 83 0 by rw [e105, upd2_ne (.inl (by omega))]).trans hth
                        have hzz : ySz I103 I105 := ySz_ofE (upI e105) (by omega)
                        have hS0 := hS
                        have hR0 := hR1
                        have ht_b15 := (hX.2.1 _ hb_b15).1.trans ht_b15
                        have hb_b15 := Nat.lt_of_lt_of_le hb_b15 hX.1
                        have hb0_b15 := hb_b15
                        have ht_v88 := (hX.2.1 _ hb_v88).1.trans ht_v88
                        have hb_v88 := Nat.lt_of_lt_of_le hb_v88 hX.1
                        have hb0_v88 := hb_v88
                        have ht_v92 := (hX.2.1 _ hb_v92).1.trans ht_v92
                        have hb_v92 := Nat.lt_of_lt_of_le hb_v92 hX.1
                        have hb0_v92 := hb_v92
                        have ht_v96 := (hX.2.1 _ hb_v96).1.trans ht_v96
                        have hb_v96 := Nat.lt_of_lt_of_le hb_v96 hX.1
                        have hb0_v96 := hb_v96
                        have ht_v102 := (hX.2.1 _ hb_v102).1.trans ht_v102
                        have hb_v102 := Nat.lt_of_lt_of_le hb_v102 hX.1
                        have hb0_v102 := hb_v102
                        have ht_v104 := (hX.2.1 _ hb_v104).1.trans ht_v104
                        have hb_v104 := Nat.lt_of_lt_of_le hb_v104 hX.1
                        have hb0_v104 := hb_v104
                        have hn := Nat.le_refl n
                        have h94 := hS0.1
                        have hX := @yX.rf n tg I105 R
                        have hS := hS0.x hX
                        have hR := hR0.x hn hX
                        have hz := hX.sz h94
                        have hxn := hX.1
                        have hN := hR0.1
                        have hnb := hR0.2.2.2.2.2.2
                        have hthB := hth
                        refine y_aload_n rfl rfl ?_
                        refine y_getR rfl (ySh.t hS rfl) (ySh.n hS rfl) rfl rfl (ySh.r hS rfl) ?_
                        refine y_iload rfl rfl ?_
                        refine y_dup2 rfl rfl rfl ?_
                        refine y_ialoadC (j := 8) rfl (ySh.t hS rfl) (ySh.n hS rfl) (by decide) (by decide) rfl ?_
                        refine y_iload rfl rfl ?_
                        refine y_iadd rfl ?_
                        refine y_iastoreC (j := 8) rfl (ySh.t hS rfl) (ySh.n hS rfl) (Nat.le_of_ble_eq_true rfl) (by decide) (by decide) rfl ?_
                        refine y_nameI (fun I106 e106 => ?_)
                        have hR1 := (hR0.grow hX).arr e106 (by decide)
                        have hK := (hK.x hRo hno hX).upI (upI e106) (by decide) (by decide) (fun i hi => by have := (hRo.l87.2.2.2.2 i hi).2.1; omega) (by rw [e106, upd2_ne (.inl (by omega))]; exact Int.le_refl _)
                        have hth := (show I106 83 0 = I105 83 0 by rw [e106, upd2_ne (.inl (by omega))]).trans hth
                        have hzz : ySz I105 I106 := ySz_ofE (upI e106) (by omega)
                        have hS0 := hS
                        have hR0 := hR1
                        have ht_b15 := (hX.2.1 _ hb_b15).1.trans ht_b15
                        have hb_b15 := Nat.lt_of_lt_of_le hb_b15 hX.1
                        have hb0_b15 := hb_b15
                        have ht_v88 := (hX.2.1 _ hb_v88).1.trans ht_v88
                        have hb_v88 := Nat.lt_of_lt_of_le hb_v88 hX.1
                        have hb0_v88 := hb_v88
                        have ht_v92 := (hX.2.1 _ hb_v92).1.trans ht_v92
                        have hb_v92 := Nat.lt_of_lt_of_le hb_v92 hX.1
                        have hb0_v92 := hb_v92
                        have ht_v96 := (hX.2.1 _ hb_v96).1.trans ht_v96
                        have hb_v96 := Nat.lt_of_lt_of_le hb_v96 hX.1
                        have hb0_v96 := hb_v96
                        have ht_v102 := (hX.2.1 _ hb_v102).1.trans ht_v102
                        have hb_v102 := Nat.lt_of_lt_of_le hb_v102 hX.1
                        have hb0_v102 := hb_v102
                        have ht_v104 := (hX.2.1 _ hb_v104).1.trans ht_v104
                        have hb_v104 := Nat.lt_of_lt_of_le hb_v104 hX.1
                        have hb0_v104 := hb_v104
                        have hn := Nat.le_refl n
                        have h94 := hS0.1
                        have hX := @yX.rf n tg I106 R
                        have hS := hS0.x hX
                        have hR := hR0.x hn hX
                        have hz := hX.sz h94
                        have hxn := hX.1
                        have hN := hR0.1
                        have hnb := hR0.2.2.2.2.2.2
                        have hthB := hth
                        refine y_aload_n rfl rfl ?_
                        refine y_getR rfl (ySh.t hS rfl) (ySh.n hS rfl) rfl rfl (ySh.r hS rfl) ?_
                        refine y_iload rfl rfl ?_
                        refine y_dup2 rfl rfl rfl ?_
                        refine y_ialoadC (j := 8) rfl (ySh.t hS rfl) (ySh.n hS rfl) (by decide) (by decide) rfl ?_
                        refine y_iload rfl rfl ?_
                        refine y_isub rfl ?_
                        refine y_iastoreC (j := 8) rfl (ySh.t hS rfl) (ySh.n hS rfl) (Nat.le_of_ble_eq_true rfl) (by decide) (by decide) rfl ?_
                        refine y_nameI (fun I107 e107 => ?_)
                        have hR1 := (hR0.grow hX).arr e107 (by decide)
                        have hK := (hK.x hRo hno hX).upI (upI e107) (by decide) (by decide) (fun i hi => by have := (hRo.l87.2.2.2.2 i hi).2.1; omega) (by rw [e107, upd2_ne (.inl (by omega))]; exact Int.le_refl _)
                        have hth := (show I107 83 0 = I106 83 0 by rw [e107, upd2_ne (.inl (by omega))]).trans hth
                        have hzz : ySz I106 I107 := ySz_ofE (upI e107) (by omega)
                        have hS0 := hS
                        have hR0 := hR1
                        have ht_b15 := (hX.2.1 _ hb_b15).1.trans ht_b15
                        have hb_b15 := Nat.lt_of_lt_of_le hb_b15 hX.1
                        have hb0_b15 := hb_b15
                        have ht_v88 := (hX.2.1 _ hb_v88).1.trans ht_v88
                        have hb_v88 := Nat.lt_of_lt_of_le hb_v88 hX.1
                        have hb0_v88 := hb_v88
                        have ht_v92 := (hX.2.1 _ hb_v92).1.trans ht_v92
                        have hb_v92 := Nat.lt_of_lt_of_le hb_v92 hX.1
                        have hb0_v92 := hb_v92
                        have ht_v96 := (hX.2.1 _ hb_v96).1.trans ht_v96
                        have hb_v96 := Nat.lt_of_lt_of_le hb_v96 hX.1
                        have hb0_v96 := hb_v96
                        have ht_v102 := (hX.2.1 _ hb_v102).1.trans ht_v102
                        have hb_v102 := Nat.lt_of_lt_of_le hb_v102 hX.1
                        have hb0_v102 := hb_v102
                        have ht_v104 := (hX.2.1 _ hb_v104).1.trans ht_v104
                        have hb_v104 := Nat.lt_of_lt_of_le hb_v104 hX.1
                        have hb0_v104 := hb_v104
                        have hn := Nat.le_refl n
                        have h94 := hS0.1
                        have hX := @yX.rf n tg I107 R
                        have hS := hS0.x hX
                        have hR := hR0.x hn hX
                        have hz := hX.sz h94
                        have hxn := hX.1
                        have hN := hR0.1
                        have hnb := hR0.2.2.2.2.2.2
                        have hthB := hth
                        refine y_aload rfl rfl ?_
                        obtain ⟨hR_v108, hb_v108, ht_v108⟩ := hR0.ven hlo_b15 hb0_b15 ht_b15 (j := 1) (by decide)
                        have hb0_v108 := hb_v108
                        have hb_v108 := Nat.lt_of_lt_of_le hb_v108 hn
                        have hlo_v108 : 94 ≤ b15 + 1 + 1 := by omega
                        have hR2_v108 := (congrFun (hX.2.1 b15 hb_b15).2.2 1).trans hR_v108
                        refine y_getR rfl ((hX.2.1 _ hb_b15).1.trans ht_b15) (Nat.lt_of_lt_of_le hb_b15 hX.1) rfl rfl hR2_v108 ?_
                        refine y_iload rfl rfl ?_
                        refine y_ialoadC (j := 8) rfl ((hX.2.1 _ hb_v108).1.trans ht_v108) (Nat.lt_of_lt_of_le hb_v108 hX.1) (by decide) (by decide) rfl ?_
                        refine y_ireturn rfl rfl rfl ?_
                        exact hQ _ _ _ _ _ _ _ hS ((hR0.grow hX).up (Nat.le_succ K) hk6) (hK.x hRo hno hX) (by omega) (by omega)
                      · refine y_iconst rfl ?_
                        refine y_goto rfl j_X14_buyOut_147 ?_
                        refine y_iconst rfl ?_
                        refine y_virt rfl rfl rfl rfl rfl (ySh.t hS rfl) (ySh.n hS rfl) ?_
                        refine y_in (M := xm_X14_refuse) (ls := [some _, some _, some _]) rfl rfl rfl ?_
                        refine y_iload_n rfl rfl ?_
                        refine y_if_eqF rfl (by decide) ?_
                        refine y_aload_n rfl rfl ?_
                        refine y_getIv (v := Int32.ofInt (0)) rfl (ySh.t hS rfl) (ySh.n hS rfl) rfl rfl hth ?_
                        refine y_if_neF rfl (by decide) ?_
                        refine y_aload_n rfl rfl ?_
                        refine y_iload_n rfl rfl ?_
                        refine y_putI rfl (ySh.t hS rfl) (ySh.n hS rfl) rfl (Nat.le_of_ble_eq_true rfl) rfl rfl ?_
                        refine y_nameI (fun I109 e109 => ?_)
                        have hR1 := (hR0.grow hX).mod0 e109 (by decide) (by decide)
                        have hK := (hK.x hRo hno hX).upI (upI e109) (by decide) (by decide) (fun i hi => by have := (hRo.l87.2.2.2.2 i hi).2.1; omega) (by rw [e109, upd2_ne (.inr (by decide))]; exact Int.le_refl _)
                        have hth : I109 83 0 = Int32.ofInt (3) := by rw [e109, upd2_self]
                        have hzz : ySz8 I8 I109 := ySz8_of (upI e109) (by rw [e109]; exact ⟨upd2_ne (.inr (by decide)), upd2_ne (.inr (by decide))⟩)
                        have hS0 := hS
                        have hR0 := hR1
                        have ht_b15 := (hX.2.1 _ hb_b15).1.trans ht_b15
                        have hb_b15 := Nat.lt_of_lt_of_le hb_b15 hX.1
                        have hb0_b15 := hb_b15
                        have ht_v88 := (hX.2.1 _ hb_v88).1.trans ht_v88
                        have hb_v88 := Nat.lt_of_lt_of_le hb_v88 hX.1
                        have hb0_v88 := hb_v88
                        have ht_v92 := (hX.2.1 _ hb_v92).1.trans ht_v92
                        have hb_v92 := Nat.lt_of_lt_of_le hb_v92 hX.1
                        have hb0_v92 := hb_v92
                        have ht_v96 := (hX.2.1 _ hb_v96).1.trans ht_v96
                        have hb_v96 := Nat.lt_of_lt_of_le hb_v96 hX.1
                        have hb0_v96 := hb_v96
                        have hn := Nat.le_refl n
                        have h94 := hS0.1
                        have hX := @yX.rf n tg I109 R
                        have hS := hS0.x hX
                        have hR := hR0.x hn hX
                        have hz := hX.sz h94
                        have hxn := hX.1
                        have hN := hR0.1
                        have hnb := hR0.2.2.2.2.2.2
                        have hthB := hth
                        refine y_aload_n rfl rfl ?_
                        refine y_getIv (v := Int32.ofInt (3)) rfl (ySh.t hS rfl) (ySh.n hS rfl) rfl rfl hth ?_
                        refine y_if_leF rfl (by decide) ?_
                        refine y_iconst rfl ?_
                        refine y_goto rfl j_X14_refuse_28 ?_
                        refine y_ireturn rfl rfl rfl ?_
                        refine y_ret1 ?_
                        refine y_if_eqF rfl (by decide) ?_
                        refine y_iconst rfl ?_
                        refine y_ireturn rfl rfl rfl ?_
                        exact hQ _ _ _ _ _ _ _ hS ((hR0.grow hX).up (Nat.le_succ K) hk6) (hK.x hRo hno hX) (by omega) (by omega)
          · rw [yz_1] at h_14
            rw [yz_999] at h_14
            refine y_ret1 ?_
            refine y_if_neF rfl (by decide) ?_
            refine y_iconst rfl ?_
            refine y_goto rfl j_X14_buyOut_60 ?_
            refine y_iconst rfl ?_
            refine y_virt rfl rfl rfl rfl rfl (ySh.t hS rfl) (ySh.n hS rfl) ?_
            refine y_in (M := xm_X14_refuse) (ls := [some _, some _, some _]) rfl rfl rfl ?_
            refine y_iload_n rfl rfl ?_
            refine y_if_eqF rfl (by decide) ?_
            refine y_aload_n rfl rfl ?_
            refine y_getIv (v := Int32.ofInt (0)) rfl (ySh.t hS rfl) (ySh.n hS rfl) rfl rfl hth ?_
            refine y_if_neF rfl (by decide) ?_
            refine y_aload_n rfl rfl ?_
            refine y_iload_n rfl rfl ?_
            refine y_putI rfl (ySh.t hS rfl) (ySh.n hS rfl) rfl (Nat.le_of_ble_eq_true rfl) rfl rfl ?_
            refine y_nameI (fun I110 e110 => ?_)
            have hR1 := (hR0.grow hX).mod0 e110 (by decide) (by decide)
            have hK := (hK.x hRo hno hX).upI (upI e110) (by decide) (by decide) (fun i hi => by have := (hRo.l87.2.2.2.2 i hi).2.1; omega) (by rw [e110, upd2_ne (.inr (by decide))]; exact Int.le_refl _)
            have hth : I110 83 0 = Int32.ofInt (2) := by rw [e110, upd2_self]
            have hzz : ySz8 I8 I110 := ySz8_of (upI e110) (by rw [e110]; exact ⟨upd2_ne (.inr (by decide)), upd2_ne (.inr (by decide))⟩)
            have hS0 := hS
            have hR0 := hR1
            have hn := Nat.le_refl n
            have h94 := hS0.1
            have hX := @yX.rf n tg I110 R
            have hS := hS0.x hX
            have hR := hR0.x hn hX
            have hz := hX.sz h94
            have hxn := hX.1
            have hN := hR0.1
            have hnb := hR0.2.2.2.2.2.2
            have hthB := hth
            refine y_aload_n rfl rfl ?_
            refine y_getIv (v := Int32.ofInt (2)) rfl (ySh.t hS rfl) (ySh.n hS rfl) rfl rfl hth ?_
            refine y_if_leF rfl (by decide) ?_
            refine y_iconst rfl ?_
            refine y_goto rfl j_X14_refuse_28 ?_
            refine y_ireturn rfl rfl rfl ?_
            refine y_ret1 ?_
            refine y_if_eqF rfl (by decide) ?_
            refine y_iconst rfl ?_
            refine y_ireturn rfl rfl rfl ?_
            exact hQ _ _ _ _ _ _ _ hS ((hR0.grow hX).up (Nat.le_succ K) hk6) (hK.x hRo hno hX) (by omega) (by omega)
      · rw [yz_m1] at h_7
        refine y_aload_n rfl rfl ?_
        refine y_iload_n rfl rfl ?_
        refine y_virt rfl rfl rfl rfl rfl (ySh.t hS rfl) (ySh.n hS rfl) ?_
        refine y_in (M := xm_X14_isNobody) (ls := [some _, some _]) rfl rfl rfl ?_
        refine y_iload_n rfl rfl ?_
        refine y_iconst rfl ?_
        refine y_aload_n rfl rfl ?_
        refine y_getI rfl (ySh.t hS rfl) (ySh.n hS rfl) rfl rfl ?_
        refine y_iconst rfl ?_
        refine y_isub rfl ?_
        refine y_static rfl rfl rfl rfl rfl ?_
        refine r_isIn (fun h_111 h_112 => ?_) (fun h_113 => ?_)
        · rw [yz_0] at h_111
          try rw [ysub (by rw [yz_1]; omega) (by rw [yz_1]; omega), yz_1] at h_112
          refine y_ret1 ?_
          refine y_if_neT rfl j_X14_isNobody_18 (by decide) ?_
          refine y_iconst rfl ?_
          refine y_ireturn rfl rfl rfl ?_
          refine y_ret1 ?_
          refine y_if_eqT rfl j_X14_isNoOne_17 (by decide) ?_
          refine y_iconst rfl ?_
          refine y_ireturn rfl rfl rfl ?_
          refine y_ret1 ?_
          refine y_if_eqT rfl j_X14_buyOut_29 (by decide) ?_
          refine y_iconst rfl ?_
          refine y_iconst rfl ?_
          refine y_virt rfl rfl rfl rfl rfl (ySh.t hS rfl) (ySh.n hS rfl) ?_
          refine y_in (M := xm_X14_start) (ls := [some _, some _, some _]) rfl rfl rfl ?_
          refine y_aload_n rfl rfl ?_
          refine y_iconst rfl ?_
          refine y_putI rfl (ySh.t hS rfl) (ySh.n hS rfl) rfl (Nat.le_of_ble_eq_true rfl) rfl rfl ?_
          refine y_nameI (fun I114 e114 => ?_)
          have hR1 := (hR0.grow hX).mod0 e114 (by decide) (by decide)
          have hK := (hK.x hRo hno hX).upI (upI e114) (by decide) (by decide) (fun i hi => by have := (hRo.l87.2.2.2.2 i hi).2.1; omega) (by rw [e114, upd2_ne (.inr (by decide))]; exact Int.le_refl _)
          have hth : I114 83 0 = Int32.ofInt (0) := by rw [e114, upd2_self]
          have hzz : ySz8 I I114 := ySz8_of (upI e114) (by rw [e114]; exact ⟨upd2_ne (.inr (by decide)), upd2_ne (.inr (by decide))⟩)
          have hS0 := hS
          have hR0 := hR1
          have hn := Nat.le_refl n
          have h94 := hS0.1
          have hX := @yX.rf n tg I114 R
          have hS := hS0.x hX
          have hR := hR0.x hn hX
          have hz := hX.sz h94
          have hxn := hX.1
          have hN := hR0.1
          have hnb := hR0.2.2.2.2.2.2
          have hthB := hth
          refine y_aload_n rfl rfl ?_
          refine y_iload_n rfl rfl ?_
          refine y_iload_n rfl rfl ?_
          refine y_virt rfl rfl rfl rfl rfl (ySh.t hS rfl) (ySh.n hS rfl) ?_
          refine y_in (M := xm_X14_refuse) (ls := [some _, some _, some _]) rfl rfl rfl ?_
          refine y_iload_n rfl rfl ?_
          refine y_if_eqT rfl j_X14_refuse_16 (by decide) ?_
          refine y_aload_n rfl rfl ?_
          refine y_getIv (v := Int32.ofInt (0)) rfl (ySh.t hS rfl) (ySh.n hS rfl) rfl rfl hth ?_
          refine y_if_leT rfl j_X14_refuse_27 (by decide) ?_
          refine y_iconst rfl ?_
          refine y_ireturn rfl rfl rfl ?_
          refine y_ret1 ?_
          refine y_ireturn rfl rfl rfl ?_
          refine y_ret1 ?_
          refine y_if_neF rfl (by decide) ?_
          refine y_aload_n rfl rfl ?_
          refine y_iload_n rfl rfl ?_
          refine y_iload_n rfl rfl ?_
          refine y_icmp_eq rfl j_X14_buyOut_55 (fun h_115 => ?_) (fun h_116 => ?_)
          · refine y_iconst rfl ?_
            refine y_goto rfl j_X14_buyOut_60 ?_
            refine y_iconst rfl ?_
            refine y_virt rfl rfl rfl rfl rfl (ySh.t hS rfl) (ySh.n hS rfl) ?_
            refine y_in (M := xm_X14_refuse) (ls := [some _, some _, some _]) rfl rfl rfl ?_
            refine y_iload_n rfl rfl ?_
            refine y_if_eqF rfl (by decide) ?_
            refine y_aload_n rfl rfl ?_
            refine y_getIv (v := Int32.ofInt (0)) rfl (ySh.t hS rfl) (ySh.n hS rfl) rfl rfl hth ?_
            refine y_if_neF rfl (by decide) ?_
            refine y_aload_n rfl rfl ?_
            refine y_iload_n rfl rfl ?_
            refine y_putI rfl (ySh.t hS rfl) (ySh.n hS rfl) rfl (Nat.le_of_ble_eq_true rfl) rfl rfl ?_
            refine y_nameI (fun I117 e117 => ?_)
            have hR1 := (hR0.grow hX).mod0 e117 (by decide) (by decide)
            have hK := (hK.x hRo hno hX).upI (upI e117) (by decide) (by decide) (fun i hi => by have := (hRo.l87.2.2.2.2 i hi).2.1; omega) (by rw [e117, upd2_ne (.inr (by decide))]; exact Int.le_refl _)
            have hth : I117 83 0 = Int32.ofInt (2) := by rw [e117, upd2_self]
            have hzz : ySz8 I114 I117 := ySz8_of (upI e117) (by rw [e117]; exact ⟨upd2_ne (.inr (by decide)), upd2_ne (.inr (by decide))⟩)
            have hS0 := hS
            have hR0 := hR1
            have hn := Nat.le_refl n
            have h94 := hS0.1
            have hX := @yX.rf n tg I117 R
            have hS := hS0.x hX
            have hR := hR0.x hn hX
            have hz := hX.sz h94
            have hxn := hX.1
            have hN := hR0.1
            have hnb := hR0.2.2.2.2.2.2
            have hthB := hth
            refine y_aload_n rfl rfl ?_
            refine y_getIv (v := Int32.ofInt (2)) rfl (ySh.t hS rfl) (ySh.n hS rfl) rfl rfl hth ?_
            refine y_if_leF rfl (by decide) ?_
            refine y_iconst rfl ?_
            refine y_goto rfl j_X14_refuse_28 ?_
            refine y_ireturn rfl rfl rfl ?_
            refine y_ret1 ?_
            refine y_if_eqF rfl (by decide) ?_
            refine y_iconst rfl ?_
            refine y_ireturn rfl rfl rfl ?_
            exact hQ _ _ _ _ _ _ _ hS ((hR0.grow hX).up (Nat.le_succ K) hk6) (hK.x hRo hno hX) (by omega) (by omega)
          · refine y_iload rfl rfl ?_
            refine y_iconst rfl ?_
            refine y_sip rfl (by decide) ?_
            refine y_static rfl rfl rfl rfl rfl ?_
            refine r_isIn (fun h_118 h_119 => ?_) (fun h_120 => ?_)
            · rw [yz_1] at h_118
              rw [yz_999] at h_119
              refine y_ret1 ?_
              refine y_if_neT rfl j_X14_buyOut_59 (by decide) ?_
              refine y_iconst rfl ?_
              refine y_iconst rfl ?_
              refine y_virt rfl rfl rfl rfl rfl (ySh.t hS rfl) (ySh.n hS rfl) ?_
              refine y_in (M := xm_X14_refuse) (ls := [some _, some _, some _]) rfl rfl rfl ?_
              refine y_iload_n rfl rfl ?_
              refine y_if_eqT rfl j_X14_refuse_16 (by decide) ?_
              refine y_aload_n rfl rfl ?_
              refine y_getIv (v := Int32.ofInt (0)) rfl (ySh.t hS rfl) (ySh.n hS rfl) rfl rfl hth ?_
              refine y_if_leT rfl j_X14_refuse_27 (by decide) ?_
              refine y_iconst rfl ?_
              refine y_ireturn rfl rfl rfl ?_
              refine y_ret1 ?_
              refine y_if_eqT rfl j_X14_buyOut_69 (by decide) ?_
              refine y_aload_n rfl rfl ?_
              refine y_getR rfl (ySh.t hS rfl) (ySh.n hS rfl) rfl rfl (ySh.r hS rfl) ?_
              refine y_iload_n rfl rfl ?_
              refine y_virt rfl rfl rfl rfl rfl (ySh.t hS rfl) (ySh.n hS rfl) ?_
              refine l_get (nb := n) (ySh.t hS rfl) (ySh.n hS rfl) (Nat.le_trans hn hX.1) hR.l91 (by omega) (by omega) (fun b121 eb_b121 hlo_b121 hb0_b121 ht_b121 => ?_)
              have hb_b121 := Nat.lt_of_lt_of_le hb0_b121 hn
              replace ht_b121 := (hX.2.1 _ hb_b121).1.symm.trans ht_b121
              refine y_ret1 ?_
              refine y_cast rfl ((hX.2.1 _ hb_b121).1.trans ht_b121) (Nat.lt_of_lt_of_le hb_b121 hX.1) ?_
              refine y_astore (ls' := [some _, some _, some _, some _, some _, some _, _, _]) rfl rfl rfl ?_
              refine y_iload_n rfl rfl ?_
              refine y_static rfl rfl rfl rfl rfl ?_
              refine y_in (M := xm_X14_seat) (ls := [some _]) rfl rfl rfl ?_
              refine y_iload_n rfl rfl ?_
              refine y_iconst rfl ?_
              refine y_icmp_ne rfl j_X14_seat_10 (fun h_122 => ?_) (fun h_123 => ?_)
              · rw [yz_m1] at h_122
                refine y_iload_n rfl rfl ?_
                refine y_ireturn rfl rfl rfl ?_
                refine y_ret1 ?_
                refine y_istore (ls' := [some _, some _, some _, some _, some _, some _, some _, _]) rfl rfl rfl ?_
                refine y_iload_n rfl rfl ?_
                refine y_static rfl rfl rfl rfl rfl ?_
                refine y_in (M := xm_X14_seat) (ls := [some _]) rfl rfl rfl ?_
                refine y_iload_n rfl rfl ?_
                refine y_iconst rfl ?_
                refine y_icmp_ne rfl j_X14_seat_10 (fun h_124 => ?_) (fun h_125 => ?_)
                · rw [yz_m1] at h_124
                  refine y_iload_n rfl rfl ?_
                  refine y_ireturn rfl rfl rfl ?_
                  refine y_ret1 ?_
                  refine y_istore (ls' := [some _, some _, some _, some _, some _, some _, some _, some _]) rfl rfl rfl ?_
                  refine y_aload_n rfl rfl ?_
                  refine y_aload rfl rfl ?_
                  obtain ⟨hR_v126, hb_v126, ht_v126⟩ := hR0.ven hlo_b121 hb0_b121 ht_b121 (j := 0) (by decide)
                  have hb0_v126 := hb_v126
                  have hb_v126 := Nat.lt_of_lt_of_le hb_v126 hn
                  have hlo_v126 : 94 ≤ b121 + 1 + 0 := by omega
                  have hR2_v126 := (congrFun (hX.2.1 b121 hb_b121).2.2 0).trans hR_v126
                  refine y_getR rfl ((hX.2.1 _ hb_b121).1.trans ht_b121) (Nat.lt_of_lt_of_le hb_b121 hX.1) rfl rfl hR2_v126 ?_
                  refine y_iload rfl rfl ?_
                  refine y_baload rfl ((hX.2.1 _ hb_v126).1.trans ht_v126) rfl (Nat.lt_of_lt_of_le hb_v126 hX.1) (by omega) (by omega) ?_
                  refine y_if_eq rfl j_X14_buyOut_142 (fun h_127 => ?_) (fun h_128 => ?_)
                  · refine y_iconst rfl ?_
                    refine y_goto rfl j_X14_buyOut_147 ?_
                    refine y_iconst rfl ?_
                    refine y_virt rfl rfl rfl rfl rfl (ySh.t hS rfl) (ySh.n hS rfl) ?_
                    refine y_in (M := xm_X14_refuse) (ls := [some _, some _, some _]) rfl rfl rfl ?_
                    refine y_iload_n rfl rfl ?_
                    refine y_if_eqF rfl (by decide) ?_
                    refine y_aload_n rfl rfl ?_
                    refine y_getIv (v := Int32.ofInt (0)) rfl (ySh.t hS rfl) (ySh.n hS rfl) rfl rfl hth ?_
                    refine y_if_neF rfl (by decide) ?_
                    refine y_aload_n rfl rfl ?_
                    refine y_iload_n rfl rfl ?_
                    refine y_putI rfl (ySh.t hS rfl) (ySh.n hS rfl) rfl (Nat.le_of_ble_eq_true rfl) rfl rfl ?_
                    refine y_nameI (fun I129 e129 => ?_)
                    have hR1 := (hR0.grow hX).mod0 e129 (by decide) (by decide)
                    have hK := (hK.x hRo hno hX).upI (upI e129) (by decide) (by decide) (fun i hi => by have := (hRo.l87.2.2.2.2 i hi).2.1; omega) (by rw [e129, upd2_ne (.inr (by decide))]; exact Int.le_refl _)
                    have hth : I129 83 0 = Int32.ofInt (3) := by rw [e129, upd2_self]
                    have hzz : ySz8 I114 I129 := ySz8_of (upI e129) (by rw [e129]; exact ⟨upd2_ne (.inr (by decide)), upd2_ne (.inr (by decide))⟩)
                    have hS0 := hS
                    have hR0 := hR1
                    have ht_b121 := (hX.2.1 _ hb_b121).1.trans ht_b121
                    have hb_b121 := Nat.lt_of_lt_of_le hb_b121 hX.1
                    have hb0_b121 := hb_b121
                    have ht_v126 := (hX.2.1 _ hb_v126).1.trans ht_v126
                    have hb_v126 := Nat.lt_of_lt_of_le hb_v126 hX.1
                    have hb0_v126 := hb_v126
                    have hn := Nat.le_refl n
                    have h94 := hS0.1
                    have hX := @yX.rf n tg I129 R
                    have hS := hS0.x hX
                    have hR := hR0.x hn hX
                    have hz := hX.sz h94
                    have hxn := hX.1
                    have hN := hR0.1
                    have hnb := hR0.2.2.2.2.2.2
                    have hthB := hth
                    refine y_aload_n rfl rfl ?_
                    refine y_getIv (v := Int32.ofInt (3)) rfl (ySh.t hS rfl) (ySh.n hS rfl) rfl rfl hth ?_
                    refine y_if_leF rfl (by decide) ?_
                    refine y_iconst rfl ?_
                    refine y_goto rfl j_X14_refuse_28 ?_
                    refine y_ireturn rfl rfl rfl ?_
                    refine y_ret1 ?_
                    refine y_if_eqF rfl (by decide) ?_
                    refine y_iconst rfl ?_
                    refine y_ireturn rfl rfl rfl ?_
                    exact hQ _ _ _ _ _ _ _ hS ((hR0.grow hX).up (Nat.le_succ K) hk6) (hK.x hRo hno hX) (by omega) (by omega)
                  · refine y_aload rfl rfl ?_
                    obtain ⟨hR_v130, hb_v130, ht_v130⟩ := hR0.ven hlo_b121 hb0_b121 ht_b121 (j := 0) (by decide)
                    have hb0_v130 := hb_v130
                    have hb_v130 := Nat.lt_of_lt_of_le hb_v130 hn
                    have hlo_v130 : 94 ≤ b121 + 1 + 0 := by omega
                    have hR2_v130 := (congrFun (hX.2.1 b121 hb_b121).2.2 0).trans hR_v130
                    refine y_getR rfl ((hX.2.1 _ hb_b121).1.trans ht_b121) (Nat.lt_of_lt_of_le hb_b121 hX.1) rfl rfl hR2_v130 ?_
                    refine y_iload rfl rfl ?_
                    refine y_baload rfl ((hX.2.1 _ hb_v130).1.trans ht_v130) rfl (Nat.lt_of_lt_of_le hb_v130 hX.1) (by omega) (by omega) ?_
                    refine y_if_eq rfl j_X14_buyOut_142 (fun h_131 => ?_) (fun h_132 => ?_)
                    · refine y_iconst rfl ?_
                      refine y_goto rfl j_X14_buyOut_147 ?_
                      refine y_iconst rfl ?_
                      refine y_virt rfl rfl rfl rfl rfl (ySh.t hS rfl) (ySh.n hS rfl) ?_
                      refine y_in (M := xm_X14_refuse) (ls := [some _, some _, some _]) rfl rfl rfl ?_
                      refine y_iload_n rfl rfl ?_
                      refine y_if_eqF rfl (by decide) ?_
                      refine y_aload_n rfl rfl ?_
                      refine y_getIv (v := Int32.ofInt (0)) rfl (ySh.t hS rfl) (ySh.n hS rfl) rfl rfl hth ?_
                      refine y_if_neF rfl (by decide) ?_
                      refine y_aload_n rfl rfl ?_
                      refine y_iload_n rfl rfl ?_
                      refine y_putI rfl (ySh.t hS rfl) (ySh.n hS rfl) rfl (Nat.le_of_ble_eq_true rfl) rfl rfl ?_
                      refine y_nameI (fun I133 e133 => ?_)
                      have hR1 := (hR0.grow hX).mod0 e133 (by decide) (by decide)
                      have hK := (hK.x hRo hno hX).upI (upI e133) (by decide) (by decide) (fun i hi => by have := (hRo.l87.2.2.2.2 i hi).2.1; omega) (by rw [e133, upd2_ne (.inr (by decide))]; exact Int.le_refl _)
                      have hth : I133 83 0 = Int32.ofInt (3) := by rw [e133, upd2_self]
                      have hzz : ySz8 I114 I133 := ySz8_of (upI e133) (by rw [e133]; exact ⟨upd2_ne (.inr (by decide)), upd2_ne (.inr (by decide))⟩)
                      have hS0 := hS
                      have hR0 := hR1
                      have ht_b121 := (hX.2.1 _ hb_b121).1.trans ht_b121
                      have hb_b121 := Nat.lt_of_lt_of_le hb_b121 hX.1
                      have hb0_b121 := hb_b121
                      have ht_v126 := (hX.2.1 _ hb_v126).1.trans ht_v126
                      have hb_v126 := Nat.lt_of_lt_of_le hb_v126 hX.1
                      have hb0_v126 := hb_v126
                      have ht_v130 := (hX.2.1 _ hb_v130).1.trans ht_v130
                      have hb_v130 := Nat.lt_of_lt_of_le hb_v130 hX.1
                      have hb0_v130 := hb_v130
                      have hn := Nat.le_refl n
                      have h94 := hS0.1
                      have hX := @yX.rf n tg I133 R
                      have hS := hS0.x hX
                      have hR := hR0.x hn hX
                      have hz := hX.sz h94
                      have hxn := hX.1
                      have hN := hR0.1
                      have hnb := hR0.2.2.2.2.2.2
                      have hthB := hth
                      refine y_aload_n rfl rfl ?_
                      refine y_getIv (v := Int32.ofInt (3)) rfl (ySh.t hS rfl) (ySh.n hS rfl) rfl rfl hth ?_
                      refine y_if_leF rfl (by decide) ?_
                      refine y_iconst rfl ?_
                      refine y_goto rfl j_X14_refuse_28 ?_
                      refine y_ireturn rfl rfl rfl ?_
                      refine y_ret1 ?_
                      refine y_if_eqF rfl (by decide) ?_
                      refine y_iconst rfl ?_
                      refine y_ireturn rfl rfl rfl ?_
                      exact hQ _ _ _ _ _ _ _ hS ((hR0.grow hX).up (Nat.le_succ K) hk6) (hK.x hRo hno hX) (by omega) (by omega)
                    · refine y_aload rfl rfl ?_
                      obtain ⟨hR_v134, hb_v134, ht_v134⟩ := hR0.ven hlo_b121 hb0_b121 ht_b121 (j := 1) (by decide)
                      have hb0_v134 := hb_v134
                      have hb_v134 := Nat.lt_of_lt_of_le hb_v134 hn
                      have hlo_v134 : 94 ≤ b121 + 1 + 1 := by omega
                      have hR2_v134 := (congrFun (hX.2.1 b121 hb_b121).2.2 1).trans hR_v134
                      refine y_getR rfl ((hX.2.1 _ hb_b121).1.trans ht_b121) (Nat.lt_of_lt_of_le hb_b121 hX.1) rfl rfl hR2_v134 ?_
                      refine y_iload rfl rfl ?_
                      refine y_iaload rfl ((hX.2.1 _ hb_v134).1.trans ht_v134) (Nat.lt_of_lt_of_le hb_v134 hX.1) (by omega) (by omega) ?_
                      refine y_iload rfl rfl ?_
                      refine y_icmp_lt rfl j_X14_buyOut_142 (fun h_135 => ?_) (fun h_136 => ?_)
                      · refine y_iconst rfl ?_
                        refine y_goto rfl j_X14_buyOut_147 ?_
                        refine y_iconst rfl ?_
                        refine y_virt rfl rfl rfl rfl rfl (ySh.t hS rfl) (ySh.n hS rfl) ?_
                        refine y_in (M := xm_X14_refuse) (ls := [some _, some _, some _]) rfl rfl rfl ?_
                        refine y_iload_n rfl rfl ?_
                        refine y_if_eqF rfl (by decide) ?_
                        refine y_aload_n rfl rfl ?_
                        refine y_getIv (v := Int32.ofInt (0)) rfl (ySh.t hS rfl) (ySh.n hS rfl) rfl rfl hth ?_
                        refine y_if_neF rfl (by decide) ?_
                        refine y_aload_n rfl rfl ?_
                        refine y_iload_n rfl rfl ?_
                        refine y_putI rfl (ySh.t hS rfl) (ySh.n hS rfl) rfl (Nat.le_of_ble_eq_true rfl) rfl rfl ?_
                        refine y_nameI (fun I137 e137 => ?_)
                        have hR1 := (hR0.grow hX).mod0 e137 (by decide) (by decide)
                        have hK := (hK.x hRo hno hX).upI (upI e137) (by decide) (by decide) (fun i hi => by have := (hRo.l87.2.2.2.2 i hi).2.1; omega) (by rw [e137, upd2_ne (.inr (by decide))]; exact Int.le_refl _)
                        have hth : I137 83 0 = Int32.ofInt (3) := by rw [e137, upd2_self]
                        have hzz : ySz8 I114 I137 := ySz8_of (upI e137) (by rw [e137]; exact ⟨upd2_ne (.inr (by decide)), upd2_ne (.inr (by decide))⟩)
                        have hS0 := hS
                        have hR0 := hR1
                        have ht_b121 := (hX.2.1 _ hb_b121).1.trans ht_b121
                        have hb_b121 := Nat.lt_of_lt_of_le hb_b121 hX.1
                        have hb0_b121 := hb_b121
                        have ht_v126 := (hX.2.1 _ hb_v126).1.trans ht_v126
                        have hb_v126 := Nat.lt_of_lt_of_le hb_v126 hX.1
                        have hb0_v126 := hb_v126
                        have ht_v130 := (hX.2.1 _ hb_v130).1.trans ht_v130
                        have hb_v130 := Nat.lt_of_lt_of_le hb_v130 hX.1
                        have hb0_v130 := hb_v130
                        have ht_v134 := (hX.2.1 _ hb_v134).1.trans ht_v134
                        have hb_v134 := Nat.lt_of_lt_of_le hb_v134 hX.1
                        have hb0_v134 := hb_v134
                        have hn := Nat.le_refl n
                        have h94 := hS0.1
                        have hX := @yX.rf n tg I137 R
                        have hS := hS0.x hX
                        have hR := hR0.x hn hX
                        have hz := hX.sz h94
                        have hxn := hX.1
                        have hN := hR0.1
                        have hnb := hR0.2.2.2.2.2.2
                        have hthB := hth
                        refine y_aload_n rfl rfl ?_
                        refine y_getIv (v := Int32.ofInt (3)) rfl (ySh.t hS rfl) (ySh.n hS rfl) rfl rfl hth ?_
                        refine y_if_leF rfl (by decide) ?_
                        refine y_iconst rfl ?_
                        refine y_goto rfl j_X14_refuse_28 ?_
                        refine y_ireturn rfl rfl rfl ?_
                        refine y_ret1 ?_
                        refine y_if_eqF rfl (by decide) ?_
                        refine y_iconst rfl ?_
                        refine y_ireturn rfl rfl rfl ?_
                        exact hQ _ _ _ _ _ _ _ hS ((hR0.grow hX).up (Nat.le_succ K) hk6) (hK.x hRo hno hX) (by omega) (by omega)
                      · refine y_aload_n rfl rfl ?_
                        refine y_getR rfl (ySh.t hS rfl) (ySh.n hS rfl) rfl rfl (ySh.r hS rfl) ?_
                        refine y_iload rfl rfl ?_
                        refine y_iaload rfl (ySh.t hS rfl) (ySh.n hS rfl) (by omega) (by omega) ?_
                        refine y_iload rfl rfl ?_
                        refine y_icmp_ge rfl j_X14_buyOut_146 (fun h_138 => ?_) (fun h_139 => ?_)
                        · refine y_iconst rfl ?_
                          refine y_iconst rfl ?_
                          refine y_virt rfl rfl rfl rfl rfl (ySh.t hS rfl) (ySh.n hS rfl) ?_
                          refine y_in (M := xm_X14_refuse) (ls := [some _, some _, some _]) rfl rfl rfl ?_
                          refine y_iload_n rfl rfl ?_
                          refine y_if_eqT rfl j_X14_refuse_16 (by decide) ?_
                          refine y_aload_n rfl rfl ?_
                          refine y_getIv (v := Int32.ofInt (0)) rfl (ySh.t hS rfl) (ySh.n hS rfl) rfl rfl hth ?_
                          refine y_if_leT rfl j_X14_refuse_27 (by decide) ?_
                          refine y_iconst rfl ?_
                          refine y_ireturn rfl rfl rfl ?_
                          refine y_ret1 ?_
                          refine y_if_eqT rfl j_X14_buyOut_156 (by decide) ?_
                          refine y_aload rfl rfl ?_
                          obtain ⟨hR_v140, hb_v140, ht_v140⟩ := hR0.ven hlo_b121 hb0_b121 ht_b121 (j := 1) (by decide)
                          have hb0_v140 := hb_v140
                          have hb_v140 := Nat.lt_of_lt_of_le hb_v140 hn
                          have hlo_v140 : 94 ≤ b121 + 1 + 1 := by omega
                          have hR2_v140 := (congrFun (hX.2.1 b121 hb_b121).2.2 1).trans hR_v140
                          refine y_getR rfl ((hX.2.1 _ hb_b121).1.trans ht_b121) (Nat.lt_of_lt_of_le hb_b121 hX.1) rfl rfl hR2_v140 ?_
                          refine y_iload rfl rfl ?_
                          refine y_dup2 rfl rfl rfl ?_
                          refine y_iaload rfl ((hX.2.1 _ hb_v140).1.trans ht_v140) (Nat.lt_of_lt_of_le hb_v140 hX.1) (by omega) (by omega) ?_
                          refine y_iload rfl rfl ?_
                          refine y_isub rfl ?_
                          refine y_iastore rfl ((hX.2.1 _ hb_v140).1.trans ht_v140) (Nat.lt_of_lt_of_le hb_v140 hX.1) (Nat.le_trans (by decide) (by omega : 94 ≤ _)) (by omega) (by omega) ?_
                          refine y_nameI (fun I141 e141 => ?_)
                          have hB1 := (hR0.grow hX).capB1 hlo_b121 (by omega) ((hX.2.1 _ hb_b121).1.trans ht_b121) (by omega) ⟨by omega, by omega⟩ e141
                          have hR1 := hB1.1
                          have hK := (hK.x hRo hno hX).upE hRo hno (upI e141) (by omega) (by omega) (by rw [((hX.2.1 _ hb_v140).1.trans ht_v140)]; decide) (by rw [e141, upd2_ne (.inl (by omega))]; exact Int.le_refl _)
                          have hth := (show I141 83 0 = I114 83 0 by rw [e141, upd2_ne (.inl (by omega))]).trans hth
                          have hzz : ySz I114 I141 := ySz_ofE (upI e141) (by omega)
                          have hS0 := hS
                          have hR0 := hR1
                          have ht_b121 := (hX.2.1 _ hb_b121).1.trans ht_b121
                          have hb_b121 := Nat.lt_of_lt_of_le hb_b121 hX.1
                          have hb0_b121 := hb_b121
                          have ht_v126 := (hX.2.1 _ hb_v126).1.trans ht_v126
                          have hb_v126 := Nat.lt_of_lt_of_le hb_v126 hX.1
                          have hb0_v126 := hb_v126
                          have ht_v130 := (hX.2.1 _ hb_v130).1.trans ht_v130
                          have hb_v130 := Nat.lt_of_lt_of_le hb_v130 hX.1
                          have hb0_v130 := hb_v130
                          have ht_v134 := (hX.2.1 _ hb_v134).1.trans ht_v134
                          have hb_v134 := Nat.lt_of_lt_of_le hb_v134 hX.1
                          have hb0_v134 := hb_v134
                          have ht_v140 := (hX.2.1 _ hb_v140).1.trans ht_v140
                          have hb_v140 := Nat.lt_of_lt_of_le hb_v140 hX.1
                          have hb0_v140 := hb_v140
                          have hn := Nat.le_refl n
                          have h94 := hS0.1
                          have hX := @yX.rf n tg I141 R
                          have hS := hS0.x hX
                          have hR := hR0.x hn hX
                          have hz := hX.sz h94
                          have hxn := hX.1
                          have hN := hR0.1
                          have hnb := hR0.2.2.2.2.2.2
                          have hthB := hth
                          refine y_aload rfl rfl ?_
                          obtain ⟨hR_v142, hb_v142, ht_v142⟩ := hR0.ven hlo_b121 hb0_b121 ht_b121 (j := 1) (by decide)
                          have hb0_v142 := hb_v142
                          have hb_v142 := Nat.lt_of_lt_of_le hb_v142 hn
                          have hlo_v142 : 94 ≤ b121 + 1 + 1 := by omega
                          have hR2_v142 := (congrFun (hX.2.1 b121 hb_b121).2.2 1).trans hR_v142
                          refine y_getR rfl ((hX.2.1 _ hb_b121).1.trans ht_b121) (Nat.lt_of_lt_of_le hb_b121 hX.1) rfl rfl hR2_v142 ?_
                          refine y_iload rfl rfl ?_
                          refine y_dup2 rfl rfl rfl ?_
                          refine y_iaload rfl ((hX.2.1 _ hb_v142).1.trans ht_v142) (Nat.lt_of_lt_of_le hb_v142 hX.1) (by omega) (by omega) ?_
                          refine y_iload rfl rfl ?_
                          refine y_iadd rfl ?_
                          refine y_iastore rfl ((hX.2.1 _ hb_v142).1.trans ht_v142) (Nat.lt_of_lt_of_le hb_v142 hX.1) (Nat.le_trans (by decide) (by omega : 94 ≤ _)) (by omega) (by omega) ?_
                          refine y_nameI (fun I143 e143 => ?_)
                          have hR1 := (hR0.grow hX).capB2 hlo_b121 (by omega) ((hX.2.1 _ hb_b121).1.trans ht_b121) (by omega) (by omega) hB1.2.1 e143
                          have hK := (hK.x hRo hno hX).upE hRo hno (upI e143) (by omega) (by omega) (by rw [((hX.2.1 _ hb_v142).1.trans ht_v142)]; decide) (by rw [e143, upd2_ne (.inl (by omega))]; exact Int.le_refl _)
                          have hth := (show I143 83 0 = I141 83 0 by rw [e143, upd2_ne (.inl (by omega))]).trans hth
                          have hzz : ySz I141 I143 := ySz_ofE (upI e143) (by omega)
                          have hS0 := hS
                          have hR0 := hR1
                          have ht_b121 := (hX.2.1 _ hb_b121).1.trans ht_b121
                          have hb_b121 := Nat.lt_of_lt_of_le hb_b121 hX.1
                          have hb0_b121 := hb_b121
                          have ht_v126 := (hX.2.1 _ hb_v126).1.trans ht_v126
                          have hb_v126 := Nat.lt_of_lt_of_le hb_v126 hX.1
                          have hb0_v126 := hb_v126
                          have ht_v130 := (hX.2.1 _ hb_v130).1.trans ht_v130
                          have hb_v130 := Nat.lt_of_lt_of_le hb_v130 hX.1
                          have hb0_v130 := hb_v130
                          have ht_v134 := (hX.2.1 _ hb_v134).1.trans ht_v134
                          have hb_v134 := Nat.lt_of_lt_of_le hb_v134 hX.1
                          have hb0_v134 := hb_v134
                          have ht_v140 := (hX.2.1 _ hb_v140).1.trans ht_v140
                          have hb_v140 := Nat.lt_of_lt_of_le hb_v140 hX.1
                          have hb0_v140 := hb_v140
                          have ht_v142 := (hX.2.1 _ hb_v142).1.trans ht_v142
                          have hb_v142 := Nat.lt_of_lt_of_le hb_v142 hX.1
                          have hb0_v142 := hb_v142
                          have hn := Nat.le_refl n
                          have h94 := hS0.1
                          have hX := @yX.rf n tg I143 R
                          have hS := hS0.x hX
                          have hR := hR0.x hn hX
                          have hz := hX.sz h94
                          have hxn := hX.1
                          have hN := hR0.1
                          have hnb := hR0.2.2.2.2.2.2
                          have hthB := hth
                          refine y_aload_n rfl rfl ?_
                          refine y_getR rfl (ySh.t hS rfl) (ySh.n hS rfl) rfl rfl (ySh.r hS rfl) ?_
                          refine y_iload rfl rfl ?_
                          refine y_dup2 rfl rfl rfl ?_
                          refine y_iaload rfl (ySh.t hS rfl) (ySh.n hS rfl) (by omega) (by omega) ?_
                          refine y_iload rfl rfl ?_
                          refine y_iadd rfl ?_
                          refine y_iastore rfl (ySh.t hS rfl) (ySh.n hS rfl) (Nat.le_of_ble_eq_true rfl) (by omega) (by omega) ?_
                          refine y_nameI (fun I144 e144 => ?_)
                          have hR1 := (hR0.grow hX).arr e144 (by decide)
                          have hK := (hK.x hRo hno hX).upI (upI e144) (by decide) (by decide) (fun i hi => by have := (hRo.l87.2.2.2.2 i hi).2.1; omega) (by rw [e144, upd2_ne (.inl (by omega))]; exact Int.le_refl _)
                          have hth := (show I144 83 0 = I143 83 0 by rw [e144, upd2_ne (.inl (by omega))]).trans hth
                          have hzz : ySz I143 I144 := ySz_ofE (upI e144) (by omega)
                          have hS0 := hS
                          have hR0 := hR1
                          have ht_b121 := (hX.2.1 _ hb_b121).1.trans ht_b121
                          have hb_b121 := Nat.lt_of_lt_of_le hb_b121 hX.1
                          have hb0_b121 := hb_b121
                          have ht_v126 := (hX.2.1 _ hb_v126).1.trans ht_v126
                          have hb_v126 := Nat.lt_of_lt_of_le hb_v126 hX.1
                          have hb0_v126 := hb_v126
                          have ht_v130 := (hX.2.1 _ hb_v130).1.trans ht_v130
                          have hb_v130 := Nat.lt_of_lt_of_le hb_v130 hX.1
                          have hb0_v130 := hb_v130
                          have ht_v134 := (hX.2.1 _ hb_v134).1.trans ht_v134
                          have hb_v134 := Nat.lt_of_lt_of_le hb_v134 hX.1
                          have hb0_v134 := hb_v134
                          have ht_v140 := (hX.2.1 _ hb_v140).1.trans ht_v140
                          have hb_v140 := Nat.lt_of_lt_of_le hb_v140 hX.1
                          have hb0_v140 := hb_v140
                          have ht_v142 := (hX.2.1 _ hb_v142).1.trans ht_v142
                          have hb_v142 := Nat.lt_of_lt_of_le hb_v142 hX.1
                          have hb0_v142 := hb_v142
                          have hn := Nat.le_refl n
                          have h94 := hS0.1
                          have hX := @yX.rf n tg I144 R
                          have hS := hS0.x hX
                          have hR := hR0.x hn hX
                          have hz := hX.sz h94
                          have hxn := hX.1
                          have hN := hR0.1
                          have hnb := hR0.2.2.2.2.2.2
                          have hthB := hth
                          refine y_aload_n rfl rfl ?_
                          refine y_getR rfl (ySh.t hS rfl) (ySh.n hS rfl) rfl rfl (ySh.r hS rfl) ?_
                          refine y_iload rfl rfl ?_
                          refine y_dup2 rfl rfl rfl ?_
                          refine y_iaload rfl (ySh.t hS rfl) (ySh.n hS rfl) (by omega) (by omega) ?_
                          refine y_iload rfl rfl ?_
                          refine y_isub rfl ?_
                          refine y_iastore rfl (ySh.t hS rfl) (ySh.n hS rfl) (Nat.le_of_ble_eq_true rfl) (by omega) (by omega) ?_
                          refine y_nameI (fun I145 e145 => ?_)
                          have hR1 := (hR0.grow hX).arr e145 (by decide)
                          have hK := (hK.x hRo hno hX).upI (upI e145) (by decide) (by decide) (fun i hi => by have := (hRo.l87.2.2.2.2 i hi).2.1; omega) (by rw [e145, upd2_ne (.inl (by omega))]; exact Int.le_refl _)
                          have hth := (show I145 83 0 = I144 83 0 by rw [e145, upd2_ne (.inl (by omega))]).trans hth
                          have hzz : ySz I144 I145 := ySz_ofE (upI e145) (by omega)
                          have hS0 := hS
                          have hR0 := hR1
                          have ht_b121 := (hX.2.1 _ hb_b121).1.trans ht_b121
                          have hb_b121 := Nat.lt_of_lt_of_le hb_b121 hX.1
                          have hb0_b121 := hb_b121
                          have ht_v126 := (hX.2.1 _ hb_v126).1.trans ht_v126
                          have hb_v126 := Nat.lt_of_lt_of_le hb_v126 hX.1
                          have hb0_v126 := hb_v126
                          have ht_v130 := (hX.2.1 _ hb_v130).1.trans ht_v130
                          have hb_v130 := Nat.lt_of_lt_of_le hb_v130 hX.1
                          have hb0_v130 := hb_v130
                          have ht_v134 := (hX.2.1 _ hb_v134).1.trans ht_v134
                          have hb_v134 := Nat.lt_of_lt_of_le hb_v134 hX.1
                          have hb0_v134 := hb_v134
                          have ht_v140 := (hX.2.1 _ hb_v140).1.trans ht_v140
                          have hb_v140 := Nat.lt_of_lt_of_le hb_v140 hX.1
                          have hb0_v140 := hb_v140
                          have ht_v142 := (hX.2.1 _ hb_v142).1.trans ht_v142
                          have hb_v142 := Nat.lt_of_lt_of_le hb_v142 hX.1
                          have hb0_v142 := hb_v142
                          have hn := Nat.le_refl n
                          have h94 := hS0.1
                          have hX := @yX.rf n tg I145 R
                          have hS := hS0.x hX
                          have hR := hR0.x hn hX
                          have hz := hX.sz h94
                          have hxn := hX.1
                          have hN := hR0.1
                          have hnb := hR0.2.2.2.2.2.2
                          have hthB := hth
                          refine y_aload rfl rfl ?_
                          obtain ⟨hR_v146, hb_v146, ht_v146⟩ := hR0.ven hlo_b121 hb0_b121 ht_b121 (j := 1) (by decide)
                          have hb0_v146 := hb_v146
                          have hb_v146 := Nat.lt_of_lt_of_le hb_v146 hn
                          have hlo_v146 : 94 ≤ b121 + 1 + 1 := by omega
                          have hR2_v146 := (congrFun (hX.2.1 b121 hb_b121).2.2 1).trans hR_v146
                          refine y_getR rfl ((hX.2.1 _ hb_b121).1.trans ht_b121) (Nat.lt_of_lt_of_le hb_b121 hX.1) rfl rfl hR2_v146 ?_
                          refine y_iload rfl rfl ?_
                          refine y_iaload rfl ((hX.2.1 _ hb_v146).1.trans ht_v146) (Nat.lt_of_lt_of_le hb_v146 hX.1) (by omega) (by omega) ?_
                          refine y_ireturn rfl rfl rfl ?_
                          exact hQ _ _ _ _ _ _ _ hS ((hR0.grow hX).up (Nat.le_succ K) hk6) (hK.x hRo hno hX) (by omega) (by omega)
                        · refine y_iconst rfl ?_
                          refine y_goto rfl j_X14_buyOut_147 ?_
                          refine y_iconst rfl ?_
                          refine y_virt rfl rfl rfl rfl rfl (ySh.t hS rfl) (ySh.n hS rfl) ?_
                          refine y_in (M := xm_X14_refuse) (ls := [some _, some _, some _]) rfl rfl rfl ?_
                          refine y_iload_n rfl rfl ?_
                          refine y_if_eqF rfl (by decide) ?_
                          refine y_aload_n rfl rfl ?_
                          refine y_getIv (v := Int32.ofInt (0)) rfl (ySh.t hS rfl) (ySh.n hS rfl) rfl rfl hth ?_
                          refine y_if_neF rfl (by decide) ?_
                          refine y_aload_n rfl rfl ?_
                          refine y_iload_n rfl rfl ?_
                          refine y_putI rfl (ySh.t hS rfl) (ySh.n hS rfl) rfl (Nat.le_of_ble_eq_true rfl) rfl rfl ?_
                          refine y_nameI (fun I147 e147 => ?_)
                          have hR1 := (hR0.grow hX).mod0 e147 (by decide) (by decide)
                          have hK := (hK.x hRo hno hX).upI (upI e147) (by decide) (by decide) (fun i hi => by have := (hRo.l87.2.2.2.2 i hi).2.1; omega) (by rw [e147, upd2_ne (.inr (by decide))]; exact Int.le_refl _)
                          have hth : I147 83 0 = Int32.ofInt (3) := by rw [e147, upd2_self]
                          have hzz : ySz8 I114 I147 := ySz8_of (upI e147) (by rw [e147]; exact ⟨upd2_ne (.inr (by decide)), upd2_ne (.inr (by decide))⟩)
                          have hS0 := hS
                          have hR0 := hR1
                          have ht_b121 := (hX.2.1 _ hb_b121).1.trans ht_b121
                          have hb_b121 := Nat.lt_of_lt_of_le hb_b121 hX.1
                          have hb0_b121 := hb_b121
                          have ht_v126 := (hX.2.1 _ hb_v126).1.trans ht_v126
                          have hb_v126 := Nat.lt_of_lt_of_le hb_v126 hX.1
                          have hb0_v126 := hb_v126
                          have ht_v130 := (hX.2.1 _ hb_v130).1.trans ht_v130
                          have hb_v130 := Nat.lt_of_lt_of_le hb_v130 hX.1
                          have hb0_v130 := hb_v130
                          have ht_v134 := (hX.2.1 _ hb_v134).1.trans ht_v134
                          have hb_v134 := Nat.lt_of_lt_of_le hb_v134 hX.1
                          have hb0_v134 := hb_v134
                          have hn := Nat.le_refl n
                          have h94 := hS0.1
                          have hX := @yX.rf n tg I147 R
                          have hS := hS0.x hX
                          have hR := hR0.x hn hX
                          have hz := hX.sz h94
                          have hxn := hX.1
                          have hN := hR0.1
                          have hnb := hR0.2.2.2.2.2.2
                          have hthB := hth
                          refine y_aload_n rfl rfl ?_
                          refine y_getIv (v := Int32.ofInt (3)) rfl (ySh.t hS rfl) (ySh.n hS rfl) rfl rfl hth ?_
                          refine y_if_leF rfl (by decide) ?_
                          refine y_iconst rfl ?_
                          refine y_goto rfl j_X14_refuse_28 ?_
                          refine y_ireturn rfl rfl rfl ?_
                          refine y_ret1 ?_
                          refine y_if_eqF rfl (by decide) ?_
                          refine y_iconst rfl ?_
                          refine y_ireturn rfl rfl rfl ?_
                          exact hQ _ _ _ _ _ _ _ hS ((hR0.grow hX).up (Nat.le_succ K) hk6) (hK.x hRo hno hX) (by omega) (by omega)
                · rw [yz_m1] at h_125
                  refine y_bip rfl (by decide) ?_
                  refine y_goto rfl j_X14_seat_11 ?_
                  refine y_ireturn rfl rfl rfl ?_
                  refine y_ret1 ?_
                  refine y_istore (ls' := [some _, some _, some _, some _, some _, some _, some _, some _]) rfl rfl rfl ?_
                  refine y_aload_n rfl rfl ?_
                  refine y_aload rfl rfl ?_
                  obtain ⟨hR_v148, hb_v148, ht_v148⟩ := hR0.ven hlo_b121 hb0_b121 ht_b121 (j := 0) (by decide)
                  have hb0_v148 := hb_v148
                  have hb_v148 := Nat.lt_of_lt_of_le hb_v148 hn
                  have hlo_v148 : 94 ≤ b121 + 1 + 0 := by omega
                  have hR2_v148 := (congrFun (hX.2.1 b121 hb_b121).2.2 0).trans hR_v148
                  refine y_getR rfl ((hX.2.1 _ hb_b121).1.trans ht_b121) (Nat.lt_of_lt_of_le hb_b121 hX.1) rfl rfl hR2_v148 ?_
                  refine y_iload rfl rfl ?_
                  refine y_baload rfl ((hX.2.1 _ hb_v148).1.trans ht_v148) rfl (Nat.lt_of_lt_of_le hb_v148 hX.1) (by omega) (by omega) ?_
                  refine y_if_eq rfl j_X14_buyOut_142 (fun h_149 => ?_) (fun h_150 => ?_)
                  · refine y_iconst rfl ?_
                    refine y_goto rfl j_X14_buyOut_147 ?_
                    refine y_iconst rfl ?_
                    refine y_virt rfl rfl rfl rfl rfl (ySh.t hS rfl) (ySh.n hS rfl) ?_
                    refine y_in (M := xm_X14_refuse) (ls := [some _, some _, some _]) rfl rfl rfl ?_
                    refine y_iload_n rfl rfl ?_
                    refine y_if_eqF rfl (by decide) ?_
                    refine y_aload_n rfl rfl ?_
                    refine y_getIv (v := Int32.ofInt (0)) rfl (ySh.t hS rfl) (ySh.n hS rfl) rfl rfl hth ?_
                    refine y_if_neF rfl (by decide) ?_
                    refine y_aload_n rfl rfl ?_
                    refine y_iload_n rfl rfl ?_
                    refine y_putI rfl (ySh.t hS rfl) (ySh.n hS rfl) rfl (Nat.le_of_ble_eq_true rfl) rfl rfl ?_
                    refine y_nameI (fun I151 e151 => ?_)
                    have hR1 := (hR0.grow hX).mod0 e151 (by decide) (by decide)
                    have hK := (hK.x hRo hno hX).upI (upI e151) (by decide) (by decide) (fun i hi => by have := (hRo.l87.2.2.2.2 i hi).2.1; omega) (by rw [e151, upd2_ne (.inr (by decide))]; exact Int.le_refl _)
                    have hth : I151 83 0 = Int32.ofInt (3) := by rw [e151, upd2_self]
                    have hzz : ySz8 I114 I151 := ySz8_of (upI e151) (by rw [e151]; exact ⟨upd2_ne (.inr (by decide)), upd2_ne (.inr (by decide))⟩)
                    have hS0 := hS
                    have hR0 := hR1
                    have ht_b121 := (hX.2.1 _ hb_b121).1.trans ht_b121
                    have hb_b121 := Nat.lt_of_lt_of_le hb_b121 hX.1
                    have hb0_b121 := hb_b121
                    have ht_v148 := (hX.2.1 _ hb_v148).1.trans ht_v148
                    have hb_v148 := Nat.lt_of_lt_of_le hb_v148 hX.1
                    have hb0_v148 := hb_v148
                    have hn := Nat.le_refl n
                    have h94 := hS0.1
                    have hX := @yX.rf n tg I151 R
                    have hS := hS0.x hX
                    have hR := hR0.x hn hX
                    have hz := hX.sz h94
                    have hxn := hX.1
                    have hN := hR0.1
                    have hnb := hR0.2.2.2.2.2.2
                    have hthB := hth
                    refine y_aload_n rfl rfl ?_
                    refine y_getIv (v := Int32.ofInt (3)) rfl (ySh.t hS rfl) (ySh.n hS rfl) rfl rfl hth ?_
                    refine y_if_leF rfl (by decide) ?_
                    refine y_iconst rfl ?_
                    refine y_goto rfl j_X14_refuse_28 ?_
                    refine y_ireturn rfl rfl rfl ?_
                    refine y_ret1 ?_
                    refine y_if_eqF rfl (by decide) ?_
                    refine y_iconst rfl ?_
                    refine y_ireturn rfl rfl rfl ?_
                    exact hQ _ _ _ _ _ _ _ hS ((hR0.grow hX).up (Nat.le_succ K) hk6) (hK.x hRo hno hX) (by omega) (by omega)
                  · refine y_aload rfl rfl ?_
                    obtain ⟨hR_v152, hb_v152, ht_v152⟩ := hR0.ven hlo_b121 hb0_b121 ht_b121 (j := 0) (by decide)
                    have hb0_v152 := hb_v152
                    have hb_v152 := Nat.lt_of_lt_of_le hb_v152 hn
                    have hlo_v152 : 94 ≤ b121 + 1 + 0 := by omega
                    have hR2_v152 := (congrFun (hX.2.1 b121 hb_b121).2.2 0).trans hR_v152
                    refine y_getR rfl ((hX.2.1 _ hb_b121).1.trans ht_b121) (Nat.lt_of_lt_of_le hb_b121 hX.1) rfl rfl hR2_v152 ?_
                    refine y_iload rfl rfl ?_
                    refine y_baload rfl ((hX.2.1 _ hb_v152).1.trans ht_v152) rfl (Nat.lt_of_lt_of_le hb_v152 hX.1) (by decide) (by decide) ?_
                    refine y_if_eq rfl j_X14_buyOut_142 (fun h_153 => ?_) (fun h_154 => ?_)
                    · refine y_iconst rfl ?_
                      refine y_goto rfl j_X14_buyOut_147 ?_
                      refine y_iconst rfl ?_
                      refine y_virt rfl rfl rfl rfl rfl (ySh.t hS rfl) (ySh.n hS rfl) ?_
                      refine y_in (M := xm_X14_refuse) (ls := [some _, some _, some _]) rfl rfl rfl ?_
                      refine y_iload_n rfl rfl ?_
                      refine y_if_eqF rfl (by decide) ?_
                      refine y_aload_n rfl rfl ?_
                      refine y_getIv (v := Int32.ofInt (0)) rfl (ySh.t hS rfl) (ySh.n hS rfl) rfl rfl hth ?_
                      refine y_if_neF rfl (by decide) ?_
                      refine y_aload_n rfl rfl ?_
                      refine y_iload_n rfl rfl ?_
                      refine y_putI rfl (ySh.t hS rfl) (ySh.n hS rfl) rfl (Nat.le_of_ble_eq_true rfl) rfl rfl ?_
                      refine y_nameI (fun I155 e155 => ?_)
                      have hR1 := (hR0.grow hX).mod0 e155 (by decide) (by decide)
                      have hK := (hK.x hRo hno hX).upI (upI e155) (by decide) (by decide) (fun i hi => by have := (hRo.l87.2.2.2.2 i hi).2.1; omega) (by rw [e155, upd2_ne (.inr (by decide))]; exact Int.le_refl _)
                      have hth : I155 83 0 = Int32.ofInt (3) := by rw [e155, upd2_self]
                      have hzz : ySz8 I114 I155 := ySz8_of (upI e155) (by rw [e155]; exact ⟨upd2_ne (.inr (by decide)), upd2_ne (.inr (by decide))⟩)
                      have hS0 := hS
                      have hR0 := hR1
                      have ht_b121 := (hX.2.1 _ hb_b121).1.trans ht_b121
                      have hb_b121 := Nat.lt_of_lt_of_le hb_b121 hX.1
                      have hb0_b121 := hb_b121
                      have ht_v148 := (hX.2.1 _ hb_v148).1.trans ht_v148
                      have hb_v148 := Nat.lt_of_lt_of_le hb_v148 hX.1
                      have hb0_v148 := hb_v148
                      have ht_v152 := (hX.2.1 _ hb_v152).1.trans ht_v152
                      have hb_v152 := Nat.lt_of_lt_of_le hb_v152 hX.1
                      have hb0_v152 := hb_v152
                      have hn := Nat.le_refl n
                      have h94 := hS0.1
                      have hX := @yX.rf n tg I155 R
                      have hS := hS0.x hX
                      have hR := hR0.x hn hX
                      have hz := hX.sz h94
                      have hxn := hX.1
                      have hN := hR0.1
                      have hnb := hR0.2.2.2.2.2.2
                      have hthB := hth
                      refine y_aload_n rfl rfl ?_
                      refine y_getIv (v := Int32.ofInt (3)) rfl (ySh.t hS rfl) (ySh.n hS rfl) rfl rfl hth ?_
                      refine y_if_leF rfl (by decide) ?_
                      refine y_iconst rfl ?_
                      refine y_goto rfl j_X14_refuse_28 ?_
                      refine y_ireturn rfl rfl rfl ?_
                      refine y_ret1 ?_
                      refine y_if_eqF rfl (by decide) ?_
                      refine y_iconst rfl ?_
                      refine y_ireturn rfl rfl rfl ?_
                      exact hQ _ _ _ _ _ _ _ hS ((hR0.grow hX).up (Nat.le_succ K) hk6) (hK.x hRo hno hX) (by omega) (by omega)
                    · refine y_aload rfl rfl ?_
                      obtain ⟨hR_v156, hb_v156, ht_v156⟩ := hR0.ven hlo_b121 hb0_b121 ht_b121 (j := 1) (by decide)
                      have hb0_v156 := hb_v156
                      have hb_v156 := Nat.lt_of_lt_of_le hb_v156 hn
                      have hlo_v156 : 94 ≤ b121 + 1 + 1 := by omega
                      have hR2_v156 := (congrFun (hX.2.1 b121 hb_b121).2.2 1).trans hR_v156
                      refine y_getR rfl ((hX.2.1 _ hb_b121).1.trans ht_b121) (Nat.lt_of_lt_of_le hb_b121 hX.1) rfl rfl hR2_v156 ?_
                      refine y_iload rfl rfl ?_
                      refine y_iaload rfl ((hX.2.1 _ hb_v156).1.trans ht_v156) (Nat.lt_of_lt_of_le hb_v156 hX.1) (by omega) (by omega) ?_
                      refine y_iload rfl rfl ?_
                      refine y_icmp_lt rfl j_X14_buyOut_142 (fun h_157 => ?_) (fun h_158 => ?_)
                      · refine y_iconst rfl ?_
                        refine y_goto rfl j_X14_buyOut_147 ?_
                        refine y_iconst rfl ?_
                        refine y_virt rfl rfl rfl rfl rfl (ySh.t hS rfl) (ySh.n hS rfl) ?_
                        refine y_in (M := xm_X14_refuse) (ls := [some _, some _, some _]) rfl rfl rfl ?_
                        refine y_iload_n rfl rfl ?_
                        refine y_if_eqF rfl (by decide) ?_
                        refine y_aload_n rfl rfl ?_
                        refine y_getIv (v := Int32.ofInt (0)) rfl (ySh.t hS rfl) (ySh.n hS rfl) rfl rfl hth ?_
                        refine y_if_neF rfl (by decide) ?_
                        refine y_aload_n rfl rfl ?_
                        refine y_iload_n rfl rfl ?_
                        refine y_putI rfl (ySh.t hS rfl) (ySh.n hS rfl) rfl (Nat.le_of_ble_eq_true rfl) rfl rfl ?_
                        refine y_nameI (fun I159 e159 => ?_)
                        have hR1 := (hR0.grow hX).mod0 e159 (by decide) (by decide)
                        have hK := (hK.x hRo hno hX).upI (upI e159) (by decide) (by decide) (fun i hi => by have := (hRo.l87.2.2.2.2 i hi).2.1; omega) (by rw [e159, upd2_ne (.inr (by decide))]; exact Int.le_refl _)
                        have hth : I159 83 0 = Int32.ofInt (3) := by rw [e159, upd2_self]
                        have hzz : ySz8 I114 I159 := ySz8_of (upI e159) (by rw [e159]; exact ⟨upd2_ne (.inr (by decide)), upd2_ne (.inr (by decide))⟩)
                        have hS0 := hS
                        have hR0 := hR1
                        have ht_b121 := (hX.2.1 _ hb_b121).1.trans ht_b121
                        have hb_b121 := Nat.lt_of_lt_of_le hb_b121 hX.1
                        have hb0_b121 := hb_b121
                        have ht_v148 := (hX.2.1 _ hb_v148).1.trans ht_v148
                        have hb_v148 := Nat.lt_of_lt_of_le hb_v148 hX.1
                        have hb0_v148 := hb_v148
                        have ht_v152 := (hX.2.1 _ hb_v152).1.trans ht_v152
                        have hb_v152 := Nat.lt_of_lt_of_le hb_v152 hX.1
                        have hb0_v152 := hb_v152
                        have ht_v156 := (hX.2.1 _ hb_v156).1.trans ht_v156
                        have hb_v156 := Nat.lt_of_lt_of_le hb_v156 hX.1
                        have hb0_v156 := hb_v156
                        have hn := Nat.le_refl n
                        have h94 := hS0.1
                        have hX := @yX.rf n tg I159 R
                        have hS := hS0.x hX
                        have hR := hR0.x hn hX
                        have hz := hX.sz h94
                        have hxn := hX.1
                        have hN := hR0.1
                        have hnb := hR0.2.2.2.2.2.2
                        have hthB := hth
                        refine y_aload_n rfl rfl ?_
                        refine y_getIv (v := Int32.ofInt (3)) rfl (ySh.t hS rfl) (ySh.n hS rfl) rfl rfl hth ?_
                        refine y_if_leF rfl (by decide) ?_
                        refine y_iconst rfl ?_
                        refine y_goto rfl j_X14_refuse_28 ?_
                        refine y_ireturn rfl rfl rfl ?_
                        refine y_ret1 ?_
                        refine y_if_eqF rfl (by decide) ?_
                        refine y_iconst rfl ?_
                        refine y_ireturn rfl rfl rfl ?_
                        exact hQ _ _ _ _ _ _ _ hS ((hR0.grow hX).up (Nat.le_succ K) hk6) (hK.x hRo hno hX) (by omega) (by omega)
                      · refine y_aload_n rfl rfl ?_
                        refine y_getR rfl (ySh.t hS rfl) (ySh.n hS rfl) rfl rfl (ySh.r hS rfl) ?_
                        refine y_iload rfl rfl ?_
                        refine y_ialoadC (j := 8) rfl (ySh.t hS rfl) (ySh.n hS rfl) (by decide) (by decide) rfl ?_
                        refine y_iload rfl rfl ?_
                        refine y_icmp_ge rfl j_X14_buyOut_146 (fun h_160 => ?_) (fun h_161 => ?_)
                        · refine y_iconst rfl ?_
                          refine y_iconst rfl ?_
                          refine y_virt rfl rfl rfl rfl rfl (ySh.t hS rfl) (ySh.n hS rfl) ?_
                          refine y_in (M := xm_X14_refuse) (ls := [some _, some _, some _]) rfl rfl rfl ?_
                          refine y_iload_n rfl rfl ?_
                          refine y_if_eqT rfl j_X14_refuse_16 (by decide) ?_
                          refine y_aload_n rfl rfl ?_
                          refine y_getIv (v := Int32.ofInt (0)) rfl (ySh.t hS rfl) (ySh.n hS rfl) rfl rfl hth ?_
                          refine y_if_leT rfl j_X14_refuse_27 (by decide) ?_
                          refine y_iconst rfl ?_
                          refine y_ireturn rfl rfl rfl ?_
                          refine y_ret1 ?_
                          refine y_if_eqT rfl j_X14_buyOut_156 (by decide) ?_
                          refine y_aload rfl rfl ?_
                          obtain ⟨hR_v162, hb_v162, ht_v162⟩ := hR0.ven hlo_b121 hb0_b121 ht_b121 (j := 1) (by decide)
                          have hb0_v162 := hb_v162
                          have hb_v162 := Nat.lt_of_lt_of_le hb_v162 hn
                          have hlo_v162 : 94 ≤ b121 + 1 + 1 := by omega
                          have hR2_v162 := (congrFun (hX.2.1 b121 hb_b121).2.2 1).trans hR_v162
                          refine y_getR rfl ((hX.2.1 _ hb_b121).1.trans ht_b121) (Nat.lt_of_lt_of_le hb_b121 hX.1) rfl rfl hR2_v162 ?_
                          refine y_iload rfl rfl ?_
                          refine y_dup2 rfl rfl rfl ?_
                          refine y_iaload rfl ((hX.2.1 _ hb_v162).1.trans ht_v162) (Nat.lt_of_lt_of_le hb_v162 hX.1) (by omega) (by omega) ?_
                          refine y_iload rfl rfl ?_
                          refine y_isub rfl ?_
                          refine y_iastore rfl ((hX.2.1 _ hb_v162).1.trans ht_v162) (Nat.lt_of_lt_of_le hb_v162 hX.1) (Nat.le_trans (by decide) (by omega : 94 ≤ _)) (by omega) (by omega) ?_
                          refine y_nameI (fun I163 e163 => ?_)
                          have hB1 := (hR0.grow hX).capB1 hlo_b121 (by omega) ((hX.2.1 _ hb_b121).1.trans ht_b121) (by omega) ⟨by omega, by omega⟩ e163
                          have hR1 := hB1.1
                          have hK := (hK.x hRo hno hX).upE hRo hno (upI e163) (by omega) (by omega) (by rw [((hX.2.1 _ hb_v162).1.trans ht_v162)]; decide) (by rw [e163, upd2_ne (.inl (by omega))]; exact Int.le_refl _)
                          have hth := (show I163 83 0 = I114 83 0 by rw [e163, upd2_ne (.inl (by omega))]).trans hth
                          have hzz : ySz I114 I163 := ySz_ofE (upI e163) (by omega)
                          have hS0 := hS
                          have hR0 := hR1
                          have ht_b121 := (hX.2.1 _ hb_b121).1.trans ht_b121
                          have hb_b121 := Nat.lt_of_lt_of_le hb_b121 hX.1
                          have hb0_b121 := hb_b121
                          have ht_v148 := (hX.2.1 _ hb_v148).1.trans ht_v148
                          have hb_v148 := Nat.lt_of_lt_of_le hb_v148 hX.1
                          have hb0_v148 := hb_v148
                          have ht_v152 := (hX.2.1 _ hb_v152).1.trans ht_v152
                          have hb_v152 := Nat.lt_of_lt_of_le hb_v152 hX.1
                          have hb0_v152 := hb_v152
                          have ht_v156 := (hX.2.1 _ hb_v156).1.trans ht_v156
                          have hb_v156 := Nat.lt_of_lt_of_le hb_v156 hX.1
                          have hb0_v156 := hb_v156
                          have ht_v162 := (hX.2.1 _ hb_v162).1.trans ht_v162
                          have hb_v162 := Nat.lt_of_lt_of_le hb_v162 hX.1
                          have hb0_v162 := hb_v162
                          have hn := Nat.le_refl n
                          have h94 := hS0.1
                          have hX := @yX.rf n tg I163 R
                          have hS := hS0.x hX
                          have hR := hR0.x hn hX
                          have hz := hX.sz h94
                          have hxn := hX.1
                          have hN := hR0.1
                          have hnb := hR0.2.2.2.2.2.2
                          have hthB := hth
                          refine y_aload rfl rfl ?_
                          obtain ⟨hR_v164, hb_v164, ht_v164⟩ := hR0.ven hlo_b121 hb0_b121 ht_b121 (j := 1) (by decide)
                          have hb0_v164 := hb_v164
                          have hb_v164 := Nat.lt_of_lt_of_le hb_v164 hn
                          have hlo_v164 : 94 ≤ b121 + 1 + 1 := by omega
                          have hR2_v164 := (congrFun (hX.2.1 b121 hb_b121).2.2 1).trans hR_v164
                          refine y_getR rfl ((hX.2.1 _ hb_b121).1.trans ht_b121) (Nat.lt_of_lt_of_le hb_b121 hX.1) rfl rfl hR2_v164 ?_
                          refine y_iload rfl rfl ?_
                          refine y_dup2 rfl rfl rfl ?_
                          refine y_ialoadC (j := 8) rfl ((hX.2.1 _ hb_v164).1.trans ht_v164) (Nat.lt_of_lt_of_le hb_v164 hX.1) (by decide) (by decide) rfl ?_
                          refine y_iload rfl rfl ?_
                          refine y_iadd rfl ?_
                          refine y_iastoreC (j := 8) rfl ((hX.2.1 _ hb_v164).1.trans ht_v164) (Nat.lt_of_lt_of_le hb_v164 hX.1) (Nat.le_trans (by decide) (by omega : 94 ≤ _)) (by decide) (by decide) rfl ?_
                          refine y_nameI (fun I165 e165 => ?_)
                          have hR1 := (hR0.grow hX).capB2 hlo_b121 (by omega) ((hX.2.1 _ hb_b121).1.trans ht_b121) (by omega) (by omega) hB1.2.1 e165
                          have hK := (hK.x hRo hno hX).upE hRo hno (upI e165) (by omega) (by omega) (by rw [((hX.2.1 _ hb_v164).1.trans ht_v164)]; decide) (by rw [e165, upd2_ne (.inl (by omega))]; exact Int.le_refl _)
                          have hth := (show I165 83 0 = I163 83 0 by rw [e165, upd2_ne (.inl (by omega))]).trans hth
                          have hzz : ySz I163 I165 := ySz_ofE (upI e165) (by omega)
                          have hS0 := hS
                          have hR0 := hR1
                          have ht_b121 := (hX.2.1 _ hb_b121).1.trans ht_b121
                          have hb_b121 := Nat.lt_of_lt_of_le hb_b121 hX.1
                          have hb0_b121 := hb_b121
                          have ht_v148 := (hX.2.1 _ hb_v148).1.trans ht_v148
                          have hb_v148 := Nat.lt_of_lt_of_le hb_v148 hX.1
                          have hb0_v148 := hb_v148
                          have ht_v152 := (hX.2.1 _ hb_v152).1.trans ht_v152
                          have hb_v152 := Nat.lt_of_lt_of_le hb_v152 hX.1
                          have hb0_v152 := hb_v152
                          have ht_v156 := (hX.2.1 _ hb_v156).1.trans ht_v156
                          have hb_v156 := Nat.lt_of_lt_of_le hb_v156 hX.1
                          have hb0_v156 := hb_v156
                          have ht_v162 := (hX.2.1 _ hb_v162).1.trans ht_v162
                          have hb_v162 := Nat.lt_of_lt_of_le hb_v162 hX.1
                          have hb0_v162 := hb_v162
                          have ht_v164 := (hX.2.1 _ hb_v164).1.trans ht_v164
                          have hb_v164 := Nat.lt_of_lt_of_le hb_v164 hX.1
                          have hb0_v164 := hb_v164
                          have hn := Nat.le_refl n
                          have h94 := hS0.1
                          have hX := @yX.rf n tg I165 R
                          have hS := hS0.x hX
                          have hR := hR0.x hn hX
                          have hz := hX.sz h94
                          have hxn := hX.1
                          have hN := hR0.1
                          have hnb := hR0.2.2.2.2.2.2
                          have hthB := hth
                          refine y_aload_n rfl rfl ?_
                          refine y_getR rfl (ySh.t hS rfl) (ySh.n hS rfl) rfl rfl (ySh.r hS rfl) ?_
                          refine y_iload rfl rfl ?_
                          refine y_dup2 rfl rfl rfl ?_
                          refine y_iaload rfl (ySh.t hS rfl) (ySh.n hS rfl) (by omega) (by omega) ?_
                          refine y_iload rfl rfl ?_
                          refine y_iadd rfl ?_
                          refine y_iastore rfl (ySh.t hS rfl) (ySh.n hS rfl) (Nat.le_of_ble_eq_true rfl) (by omega) (by omega) ?_
                          refine y_nameI (fun I166 e166 => ?_)
                          have hR1 := (hR0.grow hX).arr e166 (by decide)
                          have hK := (hK.x hRo hno hX).upI (upI e166) (by decide) (by decide) (fun i hi => by have := (hRo.l87.2.2.2.2 i hi).2.1; omega) (by rw [e166, upd2_ne (.inl (by omega))]; exact Int.le_refl _)
                          have hth := (show I166 83 0 = I165 83 0 by rw [e166, upd2_ne (.inl (by omega))]).trans hth
                          have hzz : ySz I165 I166 := ySz_ofE (upI e166) (by omega)
                          have hS0 := hS
                          have hR0 := hR1
                          have ht_b121 := (hX.2.1 _ hb_b121).1.trans ht_b121
                          have hb_b121 := Nat.lt_of_lt_of_le hb_b121 hX.1
                          have hb0_b121 := hb_b121
                          have ht_v148 := (hX.2.1 _ hb_v148).1.trans ht_v148
                          have hb_v148 := Nat.lt_of_lt_of_le hb_v148 hX.1
                          have hb0_v148 := hb_v148
                          have ht_v152 := (hX.2.1 _ hb_v152).1.trans ht_v152
                          have hb_v152 := Nat.lt_of_lt_of_le hb_v152 hX.1
                          have hb0_v152 := hb_v152
                          have ht_v156 := (hX.2.1 _ hb_v156).1.trans ht_v156
                          have hb_v156 := Nat.lt_of_lt_of_le hb_v156 hX.1
                          have hb0_v156 := hb_v156
                          have ht_v162 := (hX.2.1 _ hb_v162).1.trans ht_v162
                          have hb_v162 := Nat.lt_of_lt_of_le hb_v162 hX.1
                          have hb0_v162 := hb_v162
                          have ht_v164 := (hX.2.1 _ hb_v164).1.trans ht_v164
                          have hb_v164 := Nat.lt_of_lt_of_le hb_v164 hX.1
                          have hb0_v164 := hb_v164
                          have hn := Nat.le_refl n
                          have h94 := hS0.1
                          have hX := @yX.rf n tg I166 R
                          have hS := hS0.x hX
                          have hR := hR0.x hn hX
                          have hz := hX.sz h94
                          have hxn := hX.1
                          have hN := hR0.1
                          have hnb := hR0.2.2.2.2.2.2
                          have hthB := hth
                          refine y_aload_n rfl rfl ?_
                          refine y_getR rfl (ySh.t hS rfl) (ySh.n hS rfl) rfl rfl (ySh.r hS rfl) ?_
                          refine y_iload rfl rfl ?_
                          refine y_dup2 rfl rfl rfl ?_
                          refine y_ialoadC (j := 8) rfl (ySh.t hS rfl) (ySh.n hS rfl) (by decide) (by decide) rfl ?_
                          refine y_iload rfl rfl ?_
                          refine y_isub rfl ?_
                          refine y_iastoreC (j := 8) rfl (ySh.t hS rfl) (ySh.n hS rfl) (Nat.le_of_ble_eq_true rfl) (by decide) (by decide) rfl ?_
                          refine y_nameI (fun I167 e167 => ?_)
                          have hR1 := (hR0.grow hX).arr e167 (by decide)
                          have hK := (hK.x hRo hno hX).upI (upI e167) (by decide) (by decide) (fun i hi => by have := (hRo.l87.2.2.2.2 i hi).2.1; omega) (by rw [e167, upd2_ne (.inl (by omega))]; exact Int.le_refl _)
                          have hth := (show I167 83 0 = I166 83 0 by rw [e167, upd2_ne (.inl (by omega))]).trans hth
                          have hzz : ySz I166 I167 := ySz_ofE (upI e167) (by omega)
                          have hS0 := hS
                          have hR0 := hR1
                          have ht_b121 := (hX.2.1 _ hb_b121).1.trans ht_b121
                          have hb_b121 := Nat.lt_of_lt_of_le hb_b121 hX.1
                          have hb0_b121 := hb_b121
                          have ht_v148 := (hX.2.1 _ hb_v148).1.trans ht_v148
                          have hb_v148 := Nat.lt_of_lt_of_le hb_v148 hX.1
                          have hb0_v148 := hb_v148
                          have ht_v152 := (hX.2.1 _ hb_v152).1.trans ht_v152
                          have hb_v152 := Nat.lt_of_lt_of_le hb_v152 hX.1
                          have hb0_v152 := hb_v152
                          have ht_v156 := (hX.2.1 _ hb_v156).1.trans ht_v156
                          have hb_v156 := Nat.lt_of_lt_of_le hb_v156 hX.1
                          have hb0_v156 := hb_v156
                          have ht_v162 := (hX.2.1 _ hb_v162).1.trans ht_v162
                          have hb_v162 := Nat.lt_of_lt_of_le hb_v162 hX.1
                          have hb0_v162 := hb_v162
                          have ht_v164 := (hX.2.1 _ hb_v164).1.trans ht_v164
                          have hb_v164 := Nat.lt_of_lt_of_le hb_v164 hX.1
                          have hb0_v164 := hb_v164
                          have hn := Nat.le_refl n
                          have h94 := hS0.1
                          have hX := @yX.rf n tg I167 R
                          have hS := hS0.x hX
                          have hR := hR0.x hn hX
                          have hz := hX.sz h94
                          have hxn := hX.1
                          have hN := hR0.1
                          have hnb := hR0.2.2.2.2.2.2
                          have hthB := hth
                          refine y_aload rfl rfl ?_
                          obtain ⟨hR_v168, hb_v168, ht_v168⟩ := hR0.ven hlo_b121 hb0_b121 ht_b121 (j := 1) (by decide)
                          have hb0_v168 := hb_v168
                          have hb_v168 := Nat.lt_of_lt_of_le hb_v168 hn
                          have hlo_v168 : 94 ≤ b121 + 1 + 1 := by omega
                          have hR2_v168 := (congrFun (hX.2.1 b121 hb_b121).2.2 1).trans hR_v168
                          refine y_getR rfl ((hX.2.1 _ hb_b121).1.trans ht_b121) (Nat.lt_of_lt_of_le hb_b121 hX.1) rfl rfl hR2_v168 ?_
                          refine y_iload rfl rfl ?_
                          refine y_iaload rfl ((hX.2.1 _ hb_v168).1.trans ht_v168) (Nat.lt_of_lt_of_le hb_v168 hX.1) (by omega) (by omega) ?_
                          refine y_ireturn rfl rfl rfl ?_
                          exact hQ _ _ _ _ _ _ _ hS ((hR0.grow hX).up (Nat.le_succ K) hk6) (hK.x hRo hno hX) (by omega) (by omega)
                        · refine y_iconst rfl ?_
                          refine y_goto rfl j_X14_buyOut_147 ?_
                          refine y_iconst rfl ?_
                          refine y_virt rfl rfl rfl rfl rfl (ySh.t hS rfl) (ySh.n hS rfl) ?_
                          refine y_in (M := xm_X14_refuse) (ls := [some _, some _, some _]) rfl rfl rfl ?_
                          refine y_iload_n rfl rfl ?_
                          refine y_if_eqF rfl (by decide) ?_
                          refine y_aload_n rfl rfl ?_
                          refine y_getIv (v := Int32.ofInt (0)) rfl (ySh.t hS rfl) (ySh.n hS rfl) rfl rfl hth ?_
                          refine y_if_neF rfl (by decide) ?_
                          refine y_aload_n rfl rfl ?_
                          refine y_iload_n rfl rfl ?_
                          refine y_putI rfl (ySh.t hS rfl) (ySh.n hS rfl) rfl (Nat.le_of_ble_eq_true rfl) rfl rfl ?_
                          refine y_nameI (fun I169 e169 => ?_)
                          have hR1 := (hR0.grow hX).mod0 e169 (by decide) (by decide)
                          have hK := (hK.x hRo hno hX).upI (upI e169) (by decide) (by decide) (fun i hi => by have := (hRo.l87.2.2.2.2 i hi).2.1; omega) (by rw [e169, upd2_ne (.inr (by decide))]; exact Int.le_refl _)
                          have hth : I169 83 0 = Int32.ofInt (3) := by rw [e169, upd2_self]
                          have hzz : ySz8 I114 I169 := ySz8_of (upI e169) (by rw [e169]; exact ⟨upd2_ne (.inr (by decide)), upd2_ne (.inr (by decide))⟩)
                          have hS0 := hS
                          have hR0 := hR1
                          have ht_b121 := (hX.2.1 _ hb_b121).1.trans ht_b121
                          have hb_b121 := Nat.lt_of_lt_of_le hb_b121 hX.1
                          have hb0_b121 := hb_b121
                          have ht_v148 := (hX.2.1 _ hb_v148).1.trans ht_v148
                          have hb_v148 := Nat.lt_of_lt_of_le hb_v148 hX.1
                          have hb0_v148 := hb_v148
                          have ht_v152 := (hX.2.1 _ hb_v152).1.trans ht_v152
                          have hb_v152 := Nat.lt_of_lt_of_le hb_v152 hX.1
                          have hb0_v152 := hb_v152
                          have ht_v156 := (hX.2.1 _ hb_v156).1.trans ht_v156
                          have hb_v156 := Nat.lt_of_lt_of_le hb_v156 hX.1
                          have hb0_v156 := hb_v156
                          have hn := Nat.le_refl n
                          have h94 := hS0.1
                          have hX := @yX.rf n tg I169 R
                          have hS := hS0.x hX
                          have hR := hR0.x hn hX
                          have hz := hX.sz h94
                          have hxn := hX.1
                          have hN := hR0.1
                          have hnb := hR0.2.2.2.2.2.2
                          have hthB := hth
                          refine y_aload_n rfl rfl ?_
                          refine y_getIv (v := Int32.ofInt (3)) rfl (ySh.t hS rfl) (ySh.n hS rfl) rfl rfl hth ?_
                          refine y_if_leF rfl (by decide) ?_
                          refine y_iconst rfl ?_
                          refine y_goto rfl j_X14_refuse_28 ?_
                          refine y_ireturn rfl rfl rfl ?_
                          refine y_ret1 ?_
                          refine y_if_eqF rfl (by decide) ?_
                          refine y_iconst rfl ?_
                          refine y_ireturn rfl rfl rfl ?_
                          exact hQ _ _ _ _ _ _ _ hS ((hR0.grow hX).up (Nat.le_succ K) hk6) (hK.x hRo hno hX) (by omega) (by omega)
              · rw [yz_m1] at h_123
                refine y_bip rfl (by decide) ?_
                refine y_goto rfl j_X14_seat_11 ?_
                refine y_ireturn rfl rfl rfl ?_
                refine y_ret1 ?_
                refine y_istore (ls' := [some _, some _, some _, some _, some _, some _, some _, _]) rfl rfl rfl ?_
                refine y_iload_n rfl rfl ?_
                refine y_static rfl rfl rfl rfl rfl ?_
                refine y_in (M := xm_X14_seat) (ls := [some _]) rfl rfl rfl ?_
                refine y_iload_n rfl rfl ?_
                refine y_iconst rfl ?_
                refine y_icmp_ne rfl j_X14_seat_10 (fun h_170 => ?_) (fun h_171 => ?_)
                · rw [yz_m1] at h_170
                  refine y_iload_n rfl rfl ?_
                  refine y_ireturn rfl rfl rfl ?_
                  refine y_ret1 ?_
                  refine y_istore (ls' := [some _, some _, some _, some _, some _, some _, some _, some _]) rfl rfl rfl ?_
                  refine y_aload_n rfl rfl ?_
                  refine y_aload rfl rfl ?_
                  obtain ⟨hR_v172, hb_v172, ht_v172⟩ := hR0.ven hlo_b121 hb0_b121 ht_b121 (j := 0) (by decide)
                  have hb0_v172 := hb_v172
                  have hb_v172 := Nat.lt_of_lt_of_le hb_v172 hn
                  have hlo_v172 : 94 ≤ b121 + 1 + 0 := by omega
                  have hR2_v172 := (congrFun (hX.2.1 b121 hb_b121).2.2 0).trans hR_v172
                  refine y_getR rfl ((hX.2.1 _ hb_b121).1.trans ht_b121) (Nat.lt_of_lt_of_le hb_b121 hX.1) rfl rfl hR2_v172 ?_
                  refine y_iload rfl rfl ?_
                  refine y_baload rfl ((hX.2.1 _ hb_v172).1.trans ht_v172) rfl (Nat.lt_of_lt_of_le hb_v172 hX.1) (by decide) (by decide) ?_
                  refine y_if_eq rfl j_X14_buyOut_142 (fun h_173 => ?_) (fun h_174 => ?_)
                  · refine y_iconst rfl ?_
                    refine y_goto rfl j_X14_buyOut_147 ?_
                    refine y_iconst rfl ?_
                    refine y_virt rfl rfl rfl rfl rfl (ySh.t hS rfl) (ySh.n hS rfl) ?_
                    refine y_in (M := xm_X14_refuse) (ls := [some _, some _, some _]) rfl rfl rfl ?_
                    refine y_iload_n rfl rfl ?_
                    refine y_if_eqF rfl (by decide) ?_
                    refine y_aload_n rfl rfl ?_
                    refine y_getIv (v := Int32.ofInt (0)) rfl (ySh.t hS rfl) (ySh.n hS rfl) rfl rfl hth ?_
                    refine y_if_neF rfl (by decide) ?_
                    refine y_aload_n rfl rfl ?_
                    refine y_iload_n rfl rfl ?_
                    refine y_putI rfl (ySh.t hS rfl) (ySh.n hS rfl) rfl (Nat.le_of_ble_eq_true rfl) rfl rfl ?_
                    refine y_nameI (fun I175 e175 => ?_)
                    have hR1 := (hR0.grow hX).mod0 e175 (by decide) (by decide)
                    have hK := (hK.x hRo hno hX).upI (upI e175) (by decide) (by decide) (fun i hi => by have := (hRo.l87.2.2.2.2 i hi).2.1; omega) (by rw [e175, upd2_ne (.inr (by decide))]; exact Int.le_refl _)
                    have hth : I175 83 0 = Int32.ofInt (3) := by rw [e175, upd2_self]
                    have hzz : ySz8 I114 I175 := ySz8_of (upI e175) (by rw [e175]; exact ⟨upd2_ne (.inr (by decide)), upd2_ne (.inr (by decide))⟩)
                    have hS0 := hS
                    have hR0 := hR1
                    have ht_b121 := (hX.2.1 _ hb_b121).1.trans ht_b121
                    have hb_b121 := Nat.lt_of_lt_of_le hb_b121 hX.1
                    have hb0_b121 := hb_b121
                    have ht_v172 := (hX.2.1 _ hb_v172).1.trans ht_v172
                    have hb_v172 := Nat.lt_of_lt_of_le hb_v172 hX.1
                    have hb0_v172 := hb_v172
                    have hn := Nat.le_refl n
                    have h94 := hS0.1
                    have hX := @yX.rf n tg I175 R
                    have hS := hS0.x hX
                    have hR := hR0.x hn hX
                    have hz := hX.sz h94
                    have hxn := hX.1
                    have hN := hR0.1
                    have hnb := hR0.2.2.2.2.2.2
                    have hthB := hth
                    refine y_aload_n rfl rfl ?_
                    refine y_getIv (v := Int32.ofInt (3)) rfl (ySh.t hS rfl) (ySh.n hS rfl) rfl rfl hth ?_
                    refine y_if_leF rfl (by decide) ?_
                    refine y_iconst rfl ?_
                    refine y_goto rfl j_X14_refuse_28 ?_
                    refine y_ireturn rfl rfl rfl ?_
                    refine y_ret1 ?_
                    refine y_if_eqF rfl (by decide) ?_
                    refine y_iconst rfl ?_
                    refine y_ireturn rfl rfl rfl ?_
                    exact hQ _ _ _ _ _ _ _ hS ((hR0.grow hX).up (Nat.le_succ K) hk6) (hK.x hRo hno hX) (by omega) (by omega)
                  · refine y_aload rfl rfl ?_
                    obtain ⟨hR_v176, hb_v176, ht_v176⟩ := hR0.ven hlo_b121 hb0_b121 ht_b121 (j := 0) (by decide)
                    have hb0_v176 := hb_v176
                    have hb_v176 := Nat.lt_of_lt_of_le hb_v176 hn
                    have hlo_v176 : 94 ≤ b121 + 1 + 0 := by omega
                    have hR2_v176 := (congrFun (hX.2.1 b121 hb_b121).2.2 0).trans hR_v176
                    refine y_getR rfl ((hX.2.1 _ hb_b121).1.trans ht_b121) (Nat.lt_of_lt_of_le hb_b121 hX.1) rfl rfl hR2_v176 ?_
                    refine y_iload rfl rfl ?_
                    refine y_baload rfl ((hX.2.1 _ hb_v176).1.trans ht_v176) rfl (Nat.lt_of_lt_of_le hb_v176 hX.1) (by omega) (by omega) ?_
                    refine y_if_eq rfl j_X14_buyOut_142 (fun h_177 => ?_) (fun h_178 => ?_)
                    · refine y_iconst rfl ?_
                      refine y_goto rfl j_X14_buyOut_147 ?_
                      refine y_iconst rfl ?_
                      refine y_virt rfl rfl rfl rfl rfl (ySh.t hS rfl) (ySh.n hS rfl) ?_
                      refine y_in (M := xm_X14_refuse) (ls := [some _, some _, some _]) rfl rfl rfl ?_
                      refine y_iload_n rfl rfl ?_
                      refine y_if_eqF rfl (by decide) ?_
                      refine y_aload_n rfl rfl ?_
                      refine y_getIv (v := Int32.ofInt (0)) rfl (ySh.t hS rfl) (ySh.n hS rfl) rfl rfl hth ?_
                      refine y_if_neF rfl (by decide) ?_
                      refine y_aload_n rfl rfl ?_
                      refine y_iload_n rfl rfl ?_
                      refine y_putI rfl (ySh.t hS rfl) (ySh.n hS rfl) rfl (Nat.le_of_ble_eq_true rfl) rfl rfl ?_
                      refine y_nameI (fun I179 e179 => ?_)
                      have hR1 := (hR0.grow hX).mod0 e179 (by decide) (by decide)
                      have hK := (hK.x hRo hno hX).upI (upI e179) (by decide) (by decide) (fun i hi => by have := (hRo.l87.2.2.2.2 i hi).2.1; omega) (by rw [e179, upd2_ne (.inr (by decide))]; exact Int.le_refl _)
                      have hth : I179 83 0 = Int32.ofInt (3) := by rw [e179, upd2_self]
                      have hzz : ySz8 I114 I179 := ySz8_of (upI e179) (by rw [e179]; exact ⟨upd2_ne (.inr (by decide)), upd2_ne (.inr (by decide))⟩)
                      have hS0 := hS
                      have hR0 := hR1
                      have ht_b121 := (hX.2.1 _ hb_b121).1.trans ht_b121
                      have hb_b121 := Nat.lt_of_lt_of_le hb_b121 hX.1
                      have hb0_b121 := hb_b121
                      have ht_v172 := (hX.2.1 _ hb_v172).1.trans ht_v172
                      have hb_v172 := Nat.lt_of_lt_of_le hb_v172 hX.1
                      have hb0_v172 := hb_v172
                      have ht_v176 := (hX.2.1 _ hb_v176).1.trans ht_v176
                      have hb_v176 := Nat.lt_of_lt_of_le hb_v176 hX.1
                      have hb0_v176 := hb_v176
                      have hn := Nat.le_refl n
                      have h94 := hS0.1
                      have hX := @yX.rf n tg I179 R
                      have hS := hS0.x hX
                      have hR := hR0.x hn hX
                      have hz := hX.sz h94
                      have hxn := hX.1
                      have hN := hR0.1
                      have hnb := hR0.2.2.2.2.2.2
                      have hthB := hth
                      refine y_aload_n rfl rfl ?_
                      refine y_getIv (v := Int32.ofInt (3)) rfl (ySh.t hS rfl) (ySh.n hS rfl) rfl rfl hth ?_
                      refine y_if_leF rfl (by decide) ?_
                      refine y_iconst rfl ?_
                      refine y_goto rfl j_X14_refuse_28 ?_
                      refine y_ireturn rfl rfl rfl ?_
                      refine y_ret1 ?_
                      refine y_if_eqF rfl (by decide) ?_
                      refine y_iconst rfl ?_
                      refine y_ireturn rfl rfl rfl ?_
                      exact hQ _ _ _ _ _ _ _ hS ((hR0.grow hX).up (Nat.le_succ K) hk6) (hK.x hRo hno hX) (by omega) (by omega)
                    · refine y_aload rfl rfl ?_
                      obtain ⟨hR_v180, hb_v180, ht_v180⟩ := hR0.ven hlo_b121 hb0_b121 ht_b121 (j := 1) (by decide)
                      have hb0_v180 := hb_v180
                      have hb_v180 := Nat.lt_of_lt_of_le hb_v180 hn
                      have hlo_v180 : 94 ≤ b121 + 1 + 1 := by omega
                      have hR2_v180 := (congrFun (hX.2.1 b121 hb_b121).2.2 1).trans hR_v180
                      refine y_getR rfl ((hX.2.1 _ hb_b121).1.trans ht_b121) (Nat.lt_of_lt_of_le hb_b121 hX.1) rfl rfl hR2_v180 ?_
                      refine y_iload rfl rfl ?_
                      refine y_ialoadC (j := 8) rfl ((hX.2.1 _ hb_v180).1.trans ht_v180) (Nat.lt_of_lt_of_le hb_v180 hX.1) (by decide) (by decide) rfl ?_
                      refine y_iload rfl rfl ?_
                      refine y_icmp_lt rfl j_X14_buyOut_142 (fun h_181 => ?_) (fun h_182 => ?_)
                      · refine y_iconst rfl ?_
                        refine y_goto rfl j_X14_buyOut_147 ?_
                        refine y_iconst rfl ?_
                        refine y_virt rfl rfl rfl rfl rfl (ySh.t hS rfl) (ySh.n hS rfl) ?_
                        refine y_in (M := xm_X14_refuse) (ls := [some _, some _, some _]) rfl rfl rfl ?_
                        refine y_iload_n rfl rfl ?_
                        refine y_if_eqF rfl (by decide) ?_
                        refine y_aload_n rfl rfl ?_
                        refine y_getIv (v := Int32.ofInt (0)) rfl (ySh.t hS rfl) (ySh.n hS rfl) rfl rfl hth ?_
                        refine y_if_neF rfl (by decide) ?_
                        refine y_aload_n rfl rfl ?_
                        refine y_iload_n rfl rfl ?_
                        refine y_putI rfl (ySh.t hS rfl) (ySh.n hS rfl) rfl (Nat.le_of_ble_eq_true rfl) rfl rfl ?_
                        refine y_nameI (fun I183 e183 => ?_)
                        have hR1 := (hR0.grow hX).mod0 e183 (by decide) (by decide)
                        have hK := (hK.x hRo hno hX).upI (upI e183) (by decide) (by decide) (fun i hi => by have := (hRo.l87.2.2.2.2 i hi).2.1; omega) (by rw [e183, upd2_ne (.inr (by decide))]; exact Int.le_refl _)
                        have hth : I183 83 0 = Int32.ofInt (3) := by rw [e183, upd2_self]
                        have hzz : ySz8 I114 I183 := ySz8_of (upI e183) (by rw [e183]; exact ⟨upd2_ne (.inr (by decide)), upd2_ne (.inr (by decide))⟩)
                        have hS0 := hS
                        have hR0 := hR1
                        have ht_b121 := (hX.2.1 _ hb_b121).1.trans ht_b121
                        have hb_b121 := Nat.lt_of_lt_of_le hb_b121 hX.1
                        have hb0_b121 := hb_b121
                        have ht_v172 := (hX.2.1 _ hb_v172).1.trans ht_v172
                        have hb_v172 := Nat.lt_of_lt_of_le hb_v172 hX.1
                        have hb0_v172 := hb_v172
                        have ht_v176 := (hX.2.1 _ hb_v176).1.trans ht_v176
                        have hb_v176 := Nat.lt_of_lt_of_le hb_v176 hX.1
                        have hb0_v176 := hb_v176
                        have ht_v180 := (hX.2.1 _ hb_v180).1.trans ht_v180
                        have hb_v180 := Nat.lt_of_lt_of_le hb_v180 hX.1
                        have hb0_v180 := hb_v180
                        have hn := Nat.le_refl n
                        have h94 := hS0.1
                        have hX := @yX.rf n tg I183 R
                        have hS := hS0.x hX
                        have hR := hR0.x hn hX
                        have hz := hX.sz h94
                        have hxn := hX.1
                        have hN := hR0.1
                        have hnb := hR0.2.2.2.2.2.2
                        have hthB := hth
                        refine y_aload_n rfl rfl ?_
                        refine y_getIv (v := Int32.ofInt (3)) rfl (ySh.t hS rfl) (ySh.n hS rfl) rfl rfl hth ?_
                        refine y_if_leF rfl (by decide) ?_
                        refine y_iconst rfl ?_
                        refine y_goto rfl j_X14_refuse_28 ?_
                        refine y_ireturn rfl rfl rfl ?_
                        refine y_ret1 ?_
                        refine y_if_eqF rfl (by decide) ?_
                        refine y_iconst rfl ?_
                        refine y_ireturn rfl rfl rfl ?_
                        exact hQ _ _ _ _ _ _ _ hS ((hR0.grow hX).up (Nat.le_succ K) hk6) (hK.x hRo hno hX) (by omega) (by omega)
                      · refine y_aload_n rfl rfl ?_
                        refine y_getR rfl (ySh.t hS rfl) (ySh.n hS rfl) rfl rfl (ySh.r hS rfl) ?_
                        refine y_iload rfl rfl ?_
                        refine y_iaload rfl (ySh.t hS rfl) (ySh.n hS rfl) (by omega) (by omega) ?_
                        refine y_iload rfl rfl ?_
                        refine y_icmp_ge rfl j_X14_buyOut_146 (fun h_184 => ?_) (fun h_185 => ?_)
                        · refine y_iconst rfl ?_
                          refine y_iconst rfl ?_
                          refine y_virt rfl rfl rfl rfl rfl (ySh.t hS rfl) (ySh.n hS rfl) ?_
                          refine y_in (M := xm_X14_refuse) (ls := [some _, some _, some _]) rfl rfl rfl ?_
                          refine y_iload_n rfl rfl ?_
                          refine y_if_eqT rfl j_X14_refuse_16 (by decide) ?_
                          refine y_aload_n rfl rfl ?_
                          refine y_getIv (v := Int32.ofInt (0)) rfl (ySh.t hS rfl) (ySh.n hS rfl) rfl rfl hth ?_
                          refine y_if_leT rfl j_X14_refuse_27 (by decide) ?_
                          refine y_iconst rfl ?_
                          refine y_ireturn rfl rfl rfl ?_
                          refine y_ret1 ?_
                          refine y_if_eqT rfl j_X14_buyOut_156 (by decide) ?_
                          refine y_aload rfl rfl ?_
                          obtain ⟨hR_v186, hb_v186, ht_v186⟩ := hR0.ven hlo_b121 hb0_b121 ht_b121 (j := 1) (by decide)
                          have hb0_v186 := hb_v186
                          have hb_v186 := Nat.lt_of_lt_of_le hb_v186 hn
                          have hlo_v186 : 94 ≤ b121 + 1 + 1 := by omega
                          have hR2_v186 := (congrFun (hX.2.1 b121 hb_b121).2.2 1).trans hR_v186
                          refine y_getR rfl ((hX.2.1 _ hb_b121).1.trans ht_b121) (Nat.lt_of_lt_of_le hb_b121 hX.1) rfl rfl hR2_v186 ?_
                          refine y_iload rfl rfl ?_
                          refine y_dup2 rfl rfl rfl ?_
                          refine y_ialoadC (j := 8) rfl ((hX.2.1 _ hb_v186).1.trans ht_v186) (Nat.lt_of_lt_of_le hb_v186 hX.1) (by decide) (by decide) rfl ?_
                          refine y_iload rfl rfl ?_
                          refine y_isub rfl ?_
                          refine y_iastoreC (j := 8) rfl ((hX.2.1 _ hb_v186).1.trans ht_v186) (Nat.lt_of_lt_of_le hb_v186 hX.1) (Nat.le_trans (by decide) (by omega : 94 ≤ _)) (by decide) (by decide) rfl ?_
                          refine y_nameI (fun I187 e187 => ?_)
                          have hB1 := (hR0.grow hX).capB1 hlo_b121 (by omega) ((hX.2.1 _ hb_b121).1.trans ht_b121) (by omega) ⟨by omega, by omega⟩ e187
                          have hR1 := hB1.1
                          have hK := (hK.x hRo hno hX).upE hRo hno (upI e187) (by omega) (by omega) (by rw [((hX.2.1 _ hb_v186).1.trans ht_v186)]; decide) (by rw [e187, upd2_ne (.inl (by omega))]; exact Int.le_refl _)
                          have hth := (show I187 83 0 = I114 83 0 by rw [e187, upd2_ne (.inl (by omega))]).trans hth
                          have hzz : ySz I114 I187 := ySz_ofE (upI e187) (by omega)
                          have hS0 := hS
                          have hR0 := hR1
                          have ht_b121 := (hX.2.1 _ hb_b121).1.trans ht_b121
                          have hb_b121 := Nat.lt_of_lt_of_le hb_b121 hX.1
                          have hb0_b121 := hb_b121
                          have ht_v172 := (hX.2.1 _ hb_v172).1.trans ht_v172
                          have hb_v172 := Nat.lt_of_lt_of_le hb_v172 hX.1
                          have hb0_v172 := hb_v172
                          have ht_v176 := (hX.2.1 _ hb_v176).1.trans ht_v176
                          have hb_v176 := Nat.lt_of_lt_of_le hb_v176 hX.1
                          have hb0_v176 := hb_v176
                          have ht_v180 := (hX.2.1 _ hb_v180).1.trans ht_v180
                          have hb_v180 := Nat.lt_of_lt_of_le hb_v180 hX.1
                          have hb0_v180 := hb_v180
                          have ht_v186 := (hX.2.1 _ hb_v186).1.trans ht_v186
                          have hb_v186 := Nat.lt_of_lt_of_le hb_v186 hX.1
                          have hb0_v186 := hb_v186
                          have hn := Nat.le_refl n
                          have h94 := hS0.1
                          have hX := @yX.rf n tg I187 R
                          have hS := hS0.x hX
                          have hR := hR0.x hn hX
                          have hz := hX.sz h94
                          have hxn := hX.1
                          have hN := hR0.1
                          have hnb := hR0.2.2.2.2.2.2
                          have hthB := hth
                          refine y_aload rfl rfl ?_
                          obtain ⟨hR_v188, hb_v188, ht_v188⟩ := hR0.ven hlo_b121 hb0_b121 ht_b121 (j := 1) (by decide)
                          have hb0_v188 := hb_v188
                          have hb_v188 := Nat.lt_of_lt_of_le hb_v188 hn
                          have hlo_v188 : 94 ≤ b121 + 1 + 1 := by omega
                          have hR2_v188 := (congrFun (hX.2.1 b121 hb_b121).2.2 1).trans hR_v188
                          refine y_getR rfl ((hX.2.1 _ hb_b121).1.trans ht_b121) (Nat.lt_of_lt_of_le hb_b121 hX.1) rfl rfl hR2_v188 ?_
                          refine y_iload rfl rfl ?_
                          refine y_dup2 rfl rfl rfl ?_
                          refine y_iaload rfl ((hX.2.1 _ hb_v188).1.trans ht_v188) (Nat.lt_of_lt_of_le hb_v188 hX.1) (by omega) (by omega) ?_
                          refine y_iload rfl rfl ?_
                          refine y_iadd rfl ?_
                          refine y_iastore rfl ((hX.2.1 _ hb_v188).1.trans ht_v188) (Nat.lt_of_lt_of_le hb_v188 hX.1) (Nat.le_trans (by decide) (by omega : 94 ≤ _)) (by omega) (by omega) ?_
                          refine y_nameI (fun I189 e189 => ?_)
                          have hR1 := (hR0.grow hX).capB2 hlo_b121 (by omega) ((hX.2.1 _ hb_b121).1.trans ht_b121) (by omega) (by omega) hB1.2.1 e189
                          have hK := (hK.x hRo hno hX).upE hRo hno (upI e189) (by omega) (by omega) (by rw [((hX.2.1 _ hb_v188).1.trans ht_v188)]; decide) (by rw [e189, upd2_ne (.inl (by omega))]; exact Int.le_refl _)
                          have hth := (show I189 83 0 = I187 83 0 by rw [e189, upd2_ne (.inl (by omega))]).trans hth
                          have hzz : ySz I187 I189 := ySz_ofE (upI e189) (by omega)
                          have hS0 := hS
                          have hR0 := hR1
                          have ht_b121 := (hX.2.1 _ hb_b121).1.trans ht_b121
                          have hb_b121 := Nat.lt_of_lt_of_le hb_b121 hX.1
                          have hb0_b121 := hb_b121
                          have ht_v172 := (hX.2.1 _ hb_v172).1.trans ht_v172
                          have hb_v172 := Nat.lt_of_lt_of_le hb_v172 hX.1
                          have hb0_v172 := hb_v172
                          have ht_v176 := (hX.2.1 _ hb_v176).1.trans ht_v176
                          have hb_v176 := Nat.lt_of_lt_of_le hb_v176 hX.1
                          have hb0_v176 := hb_v176
                          have ht_v180 := (hX.2.1 _ hb_v180).1.trans ht_v180
                          have hb_v180 := Nat.lt_of_lt_of_le hb_v180 hX.1
                          have hb0_v180 := hb_v180
                          have ht_v186 := (hX.2.1 _ hb_v186).1.trans ht_v186
                          have hb_v186 := Nat.lt_of_lt_of_le hb_v186 hX.1
                          have hb0_v186 := hb_v186
                          have ht_v188 := (hX.2.1 _ hb_v188).1.trans ht_v188
                          have hb_v188 := Nat.lt_of_lt_of_le hb_v188 hX.1
                          have hb0_v188 := hb_v188
                          have hn := Nat.le_refl n
                          have h94 := hS0.1
                          have hX := @yX.rf n tg I189 R
                          have hS := hS0.x hX
                          have hR := hR0.x hn hX
                          have hz := hX.sz h94
                          have hxn := hX.1
                          have hN := hR0.1
                          have hnb := hR0.2.2.2.2.2.2
                          have hthB := hth
                          refine y_aload_n rfl rfl ?_
                          refine y_getR rfl (ySh.t hS rfl) (ySh.n hS rfl) rfl rfl (ySh.r hS rfl) ?_
                          refine y_iload rfl rfl ?_
                          refine y_dup2 rfl rfl rfl ?_
                          refine y_ialoadC (j := 8) rfl (ySh.t hS rfl) (ySh.n hS rfl) (by decide) (by decide) rfl ?_
                          refine y_iload rfl rfl ?_
                          refine y_iadd rfl ?_
                          refine y_iastoreC (j := 8) rfl (ySh.t hS rfl) (ySh.n hS rfl) (Nat.le_of_ble_eq_true rfl) (by decide) (by decide) rfl ?_
                          refine y_nameI (fun I190 e190 => ?_)
                          have hR1 := (hR0.grow hX).arr e190 (by decide)
                          have hK := (hK.x hRo hno hX).upI (upI e190) (by decide) (by decide) (fun i hi => by have := (hRo.l87.2.2.2.2 i hi).2.1; omega) (by rw [e190, upd2_ne (.inl (by omega))]; exact Int.le_refl _)
                          have hth := (show I190 83 0 = I189 83 0 by rw [e190, upd2_ne (.inl (by omega))]).trans hth
                          have hzz : ySz I189 I190 := ySz_ofE (upI e190) (by omega)
                          have hS0 := hS
                          have hR0 := hR1
                          have ht_b121 := (hX.2.1 _ hb_b121).1.trans ht_b121
                          have hb_b121 := Nat.lt_of_lt_of_le hb_b121 hX.1
                          have hb0_b121 := hb_b121
                          have ht_v172 := (hX.2.1 _ hb_v172).1.trans ht_v172
                          have hb_v172 := Nat.lt_of_lt_of_le hb_v172 hX.1
                          have hb0_v172 := hb_v172
                          have ht_v176 := (hX.2.1 _ hb_v176).1.trans ht_v176
                          have hb_v176 := Nat.lt_of_lt_of_le hb_v176 hX.1
                          have hb0_v176 := hb_v176
                          have ht_v180 := (hX.2.1 _ hb_v180).1.trans ht_v180
                          have hb_v180 := Nat.lt_of_lt_of_le hb_v180 hX.1
                          have hb0_v180 := hb_v180
                          have ht_v186 := (hX.2.1 _ hb_v186).1.trans ht_v186
                          have hb_v186 := Nat.lt_of_lt_of_le hb_v186 hX.1
                          have hb0_v186 := hb_v186
                          have ht_v188 := (hX.2.1 _ hb_v188).1.trans ht_v188
                          have hb_v188 := Nat.lt_of_lt_of_le hb_v188 hX.1
                          have hb0_v188 := hb_v188
                          have hn := Nat.le_refl n
                          have h94 := hS0.1
                          have hX := @yX.rf n tg I190 R
                          have hS := hS0.x hX
                          have hR := hR0.x hn hX
                          have hz := hX.sz h94
                          have hxn := hX.1
                          have hN := hR0.1
                          have hnb := hR0.2.2.2.2.2.2
                          have hthB := hth
                          refine y_aload_n rfl rfl ?_
                          refine y_getR rfl (ySh.t hS rfl) (ySh.n hS rfl) rfl rfl (ySh.r hS rfl) ?_
                          refine y_iload rfl rfl ?_
                          refine y_dup2 rfl rfl rfl ?_
                          refine y_iaload rfl (ySh.t hS rfl) (ySh.n hS rfl) (by omega) (by omega) ?_
                          refine y_iload rfl rfl ?_
                          refine y_isub rfl ?_
                          refine y_iastore rfl (ySh.t hS rfl) (ySh.n hS rfl) (Nat.le_of_ble_eq_true rfl) (by omega) (by omega) ?_
                          refine y_nameI (fun I191 e191 => ?_)
                          have hR1 := (hR0.grow hX).arr e191 (by decide)
                          have hK := (hK.x hRo hno hX).upI (upI e191) (by decide) (by decide) (fun i hi => by have := (hRo.l87.2.2.2.2 i hi).2.1; omega) (by rw [e191, upd2_ne (.inl (by omega))]; exact Int.le_refl _)
                          have hth := (show I191 83 0 = I190 83 0 by rw [e191, upd2_ne (.inl (by omega))]).trans hth
                          have hzz : ySz I190 I191 := ySz_ofE (upI e191) (by omega)
                          have hS0 := hS
                          have hR0 := hR1
                          have ht_b121 := (hX.2.1 _ hb_b121).1.trans ht_b121
                          have hb_b121 := Nat.lt_of_lt_of_le hb_b121 hX.1
                          have hb0_b121 := hb_b121
                          have ht_v172 := (hX.2.1 _ hb_v172).1.trans ht_v172
                          have hb_v172 := Nat.lt_of_lt_of_le hb_v172 hX.1
                          have hb0_v172 := hb_v172
                          have ht_v176 := (hX.2.1 _ hb_v176).1.trans ht_v176
                          have hb_v176 := Nat.lt_of_lt_of_le hb_v176 hX.1
                          have hb0_v176 := hb_v176
                          have ht_v180 := (hX.2.1 _ hb_v180).1.trans ht_v180
                          have hb_v180 := Nat.lt_of_lt_of_le hb_v180 hX.1
                          have hb0_v180 := hb_v180
                          have ht_v186 := (hX.2.1 _ hb_v186).1.trans ht_v186
                          have hb_v186 := Nat.lt_of_lt_of_le hb_v186 hX.1
                          have hb0_v186 := hb_v186
                          have ht_v188 := (hX.2.1 _ hb_v188).1.trans ht_v188
                          have hb_v188 := Nat.lt_of_lt_of_le hb_v188 hX.1
                          have hb0_v188 := hb_v188
                          have hn := Nat.le_refl n
                          have h94 := hS0.1
                          have hX := @yX.rf n tg I191 R
                          have hS := hS0.x hX
                          have hR := hR0.x hn hX
                          have hz := hX.sz h94
                          have hxn := hX.1
                          have hN := hR0.1
                          have hnb := hR0.2.2.2.2.2.2
                          have hthB := hth
                          refine y_aload rfl rfl ?_
                          obtain ⟨hR_v192, hb_v192, ht_v192⟩ := hR0.ven hlo_b121 hb0_b121 ht_b121 (j := 1) (by decide)
                          have hb0_v192 := hb_v192
                          have hb_v192 := Nat.lt_of_lt_of_le hb_v192 hn
                          have hlo_v192 : 94 ≤ b121 + 1 + 1 := by omega
                          have hR2_v192 := (congrFun (hX.2.1 b121 hb_b121).2.2 1).trans hR_v192
                          refine y_getR rfl ((hX.2.1 _ hb_b121).1.trans ht_b121) (Nat.lt_of_lt_of_le hb_b121 hX.1) rfl rfl hR2_v192 ?_
                          refine y_iload rfl rfl ?_
                          refine y_ialoadC (j := 8) rfl ((hX.2.1 _ hb_v192).1.trans ht_v192) (Nat.lt_of_lt_of_le hb_v192 hX.1) (by decide) (by decide) rfl ?_
                          refine y_ireturn rfl rfl rfl ?_
                          exact hQ _ _ _ _ _ _ _ hS ((hR0.grow hX).up (Nat.le_succ K) hk6) (hK.x hRo hno hX) (by omega) (by omega)
                        · refine y_iconst rfl ?_
                          refine y_goto rfl j_X14_buyOut_147 ?_
                          refine y_iconst rfl ?_
                          refine y_virt rfl rfl rfl rfl rfl (ySh.t hS rfl) (ySh.n hS rfl) ?_
                          refine y_in (M := xm_X14_refuse) (ls := [some _, some _, some _]) rfl rfl rfl ?_
                          refine y_iload_n rfl rfl ?_
                          refine y_if_eqF rfl (by decide) ?_
                          refine y_aload_n rfl rfl ?_
                          refine y_getIv (v := Int32.ofInt (0)) rfl (ySh.t hS rfl) (ySh.n hS rfl) rfl rfl hth ?_
                          refine y_if_neF rfl (by decide) ?_
                          refine y_aload_n rfl rfl ?_
                          refine y_iload_n rfl rfl ?_
                          refine y_putI rfl (ySh.t hS rfl) (ySh.n hS rfl) rfl (Nat.le_of_ble_eq_true rfl) rfl rfl ?_
                          refine y_nameI (fun I193 e193 => ?_)
                          have hR1 := (hR0.grow hX).mod0 e193 (by decide) (by decide)
                          have hK := (hK.x hRo hno hX).upI (upI e193) (by decide) (by decide) (fun i hi => by have := (hRo.l87.2.2.2.2 i hi).2.1; omega) (by rw [e193, upd2_ne (.inr (by decide))]; exact Int.le_refl _)
                          have hth : I193 83 0 = Int32.ofInt (3) := by rw [e193, upd2_self]
                          have hzz : ySz8 I114 I193 := ySz8_of (upI e193) (by rw [e193]; exact ⟨upd2_ne (.inr (by decide)), upd2_ne (.inr (by decide))⟩)
                          have hS0 := hS
                          have hR0 := hR1
                          have ht_b121 := (hX.2.1 _ hb_b121).1.trans ht_b121
                          have hb_b121 := Nat.lt_of_lt_of_le hb_b121 hX.1
                          have hb0_b121 := hb_b121
                          have ht_v172 := (hX.2.1 _ hb_v172).1.trans ht_v172
                          have hb_v172 := Nat.lt_of_lt_of_le hb_v172 hX.1
                          have hb0_v172 := hb_v172
                          have ht_v176 := (hX.2.1 _ hb_v176).1.trans ht_v176
                          have hb_v176 := Nat.lt_of_lt_of_le hb_v176 hX.1
                          have hb0_v176 := hb_v176
                          have ht_v180 := (hX.2.1 _ hb_v180).1.trans ht_v180
                          have hb_v180 := Nat.lt_of_lt_of_le hb_v180 hX.1
                          have hb0_v180 := hb_v180
                          have hn := Nat.le_refl n
                          have h94 := hS0.1
                          have hX := @yX.rf n tg I193 R
                          have hS := hS0.x hX
                          have hR := hR0.x hn hX
                          have hz := hX.sz h94
                          have hxn := hX.1
                          have hN := hR0.1
                          have hnb := hR0.2.2.2.2.2.2
                          have hthB := hth
                          refine y_aload_n rfl rfl ?_
                          refine y_getIv (v := Int32.ofInt (3)) rfl (ySh.t hS rfl) (ySh.n hS rfl) rfl rfl hth ?_
                          refine y_if_leF rfl (by decide) ?_
                          refine y_iconst rfl ?_
                          refine y_goto rfl j_X14_refuse_28 ?_
                          refine y_ireturn rfl rfl rfl ?_
                          refine y_ret1 ?_
                          refine y_if_eqF rfl (by decide) ?_
                          refine y_iconst rfl ?_
                          refine y_ireturn rfl rfl rfl ?_
                          exact hQ _ _ _ _ _ _ _ hS ((hR0.grow hX).up (Nat.le_succ K) hk6) (hK.x hRo hno hX) (by omega) (by omega)
                · rw [yz_m1] at h_171
                  refine y_bip rfl (by decide) ?_
                  refine y_goto rfl j_X14_seat_11 ?_
                  refine y_ireturn rfl rfl rfl ?_
                  refine y_ret1 ?_
                  refine y_istore (ls' := [some _, some _, some _, some _, some _, some _, some _, some _]) rfl rfl rfl ?_
                  refine y_aload_n rfl rfl ?_
                  refine y_aload rfl rfl ?_
                  obtain ⟨hR_v194, hb_v194, ht_v194⟩ := hR0.ven hlo_b121 hb0_b121 ht_b121 (j := 0) (by decide)
                  have hb0_v194 := hb_v194
                  have hb_v194 := Nat.lt_of_lt_of_le hb_v194 hn
                  have hlo_v194 : 94 ≤ b121 + 1 + 0 := by omega
                  have hR2_v194 := (congrFun (hX.2.1 b121 hb_b121).2.2 0).trans hR_v194
                  refine y_getR rfl ((hX.2.1 _ hb_b121).1.trans ht_b121) (Nat.lt_of_lt_of_le hb_b121 hX.1) rfl rfl hR2_v194 ?_
                  refine y_iload rfl rfl ?_
                  refine y_baload rfl ((hX.2.1 _ hb_v194).1.trans ht_v194) rfl (Nat.lt_of_lt_of_le hb_v194 hX.1) (by decide) (by decide) ?_
                  refine y_if_eq rfl j_X14_buyOut_142 (fun h_195 => ?_) (fun h_196 => ?_)
                  · refine y_iconst rfl ?_
                    refine y_goto rfl j_X14_buyOut_147 ?_
                    refine y_iconst rfl ?_
                    refine y_virt rfl rfl rfl rfl rfl (ySh.t hS rfl) (ySh.n hS rfl) ?_
                    refine y_in (M := xm_X14_refuse) (ls := [some _, some _, some _]) rfl rfl rfl ?_
                    refine y_iload_n rfl rfl ?_
                    refine y_if_eqF rfl (by decide) ?_
                    refine y_aload_n rfl rfl ?_
                    refine y_getIv (v := Int32.ofInt (0)) rfl (ySh.t hS rfl) (ySh.n hS rfl) rfl rfl hth ?_
                    refine y_if_neF rfl (by decide) ?_
                    refine y_aload_n rfl rfl ?_
                    refine y_iload_n rfl rfl ?_
                    refine y_putI rfl (ySh.t hS rfl) (ySh.n hS rfl) rfl (Nat.le_of_ble_eq_true rfl) rfl rfl ?_
                    refine y_nameI (fun I197 e197 => ?_)
                    have hR1 := (hR0.grow hX).mod0 e197 (by decide) (by decide)
                    have hK := (hK.x hRo hno hX).upI (upI e197) (by decide) (by decide) (fun i hi => by have := (hRo.l87.2.2.2.2 i hi).2.1; omega) (by rw [e197, upd2_ne (.inr (by decide))]; exact Int.le_refl _)
                    have hth : I197 83 0 = Int32.ofInt (3) := by rw [e197, upd2_self]
                    have hzz : ySz8 I114 I197 := ySz8_of (upI e197) (by rw [e197]; exact ⟨upd2_ne (.inr (by decide)), upd2_ne (.inr (by decide))⟩)
                    have hS0 := hS
                    have hR0 := hR1
                    have ht_b121 := (hX.2.1 _ hb_b121).1.trans ht_b121
                    have hb_b121 := Nat.lt_of_lt_of_le hb_b121 hX.1
                    have hb0_b121 := hb_b121
                    have ht_v194 := (hX.2.1 _ hb_v194).1.trans ht_v194
                    have hb_v194 := Nat.lt_of_lt_of_le hb_v194 hX.1
                    have hb0_v194 := hb_v194
                    have hn := Nat.le_refl n
                    have h94 := hS0.1
                    have hX := @yX.rf n tg I197 R
                    have hS := hS0.x hX
                    have hR := hR0.x hn hX
                    have hz := hX.sz h94
                    have hxn := hX.1
                    have hN := hR0.1
                    have hnb := hR0.2.2.2.2.2.2
                    have hthB := hth
                    refine y_aload_n rfl rfl ?_
                    refine y_getIv (v := Int32.ofInt (3)) rfl (ySh.t hS rfl) (ySh.n hS rfl) rfl rfl hth ?_
                    refine y_if_leF rfl (by decide) ?_
                    refine y_iconst rfl ?_
                    refine y_goto rfl j_X14_refuse_28 ?_
                    refine y_ireturn rfl rfl rfl ?_
                    refine y_ret1 ?_
                    refine y_if_eqF rfl (by decide) ?_
                    refine y_iconst rfl ?_
                    refine y_ireturn rfl rfl rfl ?_
                    exact hQ _ _ _ _ _ _ _ hS ((hR0.grow hX).up (Nat.le_succ K) hk6) (hK.x hRo hno hX) (by omega) (by omega)
                  · refine y_aload rfl rfl ?_
                    obtain ⟨hR_v198, hb_v198, ht_v198⟩ := hR0.ven hlo_b121 hb0_b121 ht_b121 (j := 0) (by decide)
                    have hb0_v198 := hb_v198
                    have hb_v198 := Nat.lt_of_lt_of_le hb_v198 hn
                    have hlo_v198 : 94 ≤ b121 + 1 + 0 := by omega
                    have hR2_v198 := (congrFun (hX.2.1 b121 hb_b121).2.2 0).trans hR_v198
                    refine y_getR rfl ((hX.2.1 _ hb_b121).1.trans ht_b121) (Nat.lt_of_lt_of_le hb_b121 hX.1) rfl rfl hR2_v198 ?_
                    refine y_iload rfl rfl ?_
                    refine y_baload rfl ((hX.2.1 _ hb_v198).1.trans ht_v198) rfl (Nat.lt_of_lt_of_le hb_v198 hX.1) (by decide) (by decide) ?_
                    refine y_if_eq rfl j_X14_buyOut_142 (fun h_199 => ?_) (fun h_200 => ?_)
                    · refine y_iconst rfl ?_
                      refine y_goto rfl j_X14_buyOut_147 ?_
                      refine y_iconst rfl ?_
                      refine y_virt rfl rfl rfl rfl rfl (ySh.t hS rfl) (ySh.n hS rfl) ?_
                      refine y_in (M := xm_X14_refuse) (ls := [some _, some _, some _]) rfl rfl rfl ?_
                      refine y_iload_n rfl rfl ?_
                      refine y_if_eqF rfl (by decide) ?_
                      refine y_aload_n rfl rfl ?_
                      refine y_getIv (v := Int32.ofInt (0)) rfl (ySh.t hS rfl) (ySh.n hS rfl) rfl rfl hth ?_
                      refine y_if_neF rfl (by decide) ?_
                      refine y_aload_n rfl rfl ?_
                      refine y_iload_n rfl rfl ?_
                      refine y_putI rfl (ySh.t hS rfl) (ySh.n hS rfl) rfl (Nat.le_of_ble_eq_true rfl) rfl rfl ?_
                      refine y_nameI (fun I201 e201 => ?_)
                      have hR1 := (hR0.grow hX).mod0 e201 (by decide) (by decide)
                      have hK := (hK.x hRo hno hX).upI (upI e201) (by decide) (by decide) (fun i hi => by have := (hRo.l87.2.2.2.2 i hi).2.1; omega) (by rw [e201, upd2_ne (.inr (by decide))]; exact Int.le_refl _)
                      have hth : I201 83 0 = Int32.ofInt (3) := by rw [e201, upd2_self]
                      have hzz : ySz8 I114 I201 := ySz8_of (upI e201) (by rw [e201]; exact ⟨upd2_ne (.inr (by decide)), upd2_ne (.inr (by decide))⟩)
                      have hS0 := hS
                      have hR0 := hR1
                      have ht_b121 := (hX.2.1 _ hb_b121).1.trans ht_b121
                      have hb_b121 := Nat.lt_of_lt_of_le hb_b121 hX.1
                      have hb0_b121 := hb_b121
                      have ht_v194 := (hX.2.1 _ hb_v194).1.trans ht_v194
                      have hb_v194 := Nat.lt_of_lt_of_le hb_v194 hX.1
                      have hb0_v194 := hb_v194
                      have ht_v198 := (hX.2.1 _ hb_v198).1.trans ht_v198
                      have hb_v198 := Nat.lt_of_lt_of_le hb_v198 hX.1
                      have hb0_v198 := hb_v198
                      have hn := Nat.le_refl n
                      have h94 := hS0.1
                      have hX := @yX.rf n tg I201 R
                      have hS := hS0.x hX
                      have hR := hR0.x hn hX
                      have hz := hX.sz h94
                      have hxn := hX.1
                      have hN := hR0.1
                      have hnb := hR0.2.2.2.2.2.2
                      have hthB := hth
                      refine y_aload_n rfl rfl ?_
                      refine y_getIv (v := Int32.ofInt (3)) rfl (ySh.t hS rfl) (ySh.n hS rfl) rfl rfl hth ?_
                      refine y_if_leF rfl (by decide) ?_
                      refine y_iconst rfl ?_
                      refine y_goto rfl j_X14_refuse_28 ?_
                      refine y_ireturn rfl rfl rfl ?_
                      refine y_ret1 ?_
                      refine y_if_eqF rfl (by decide) ?_
                      refine y_iconst rfl ?_
                      refine y_ireturn rfl rfl rfl ?_
                      exact hQ _ _ _ _ _ _ _ hS ((hR0.grow hX).up (Nat.le_succ K) hk6) (hK.x hRo hno hX) (by omega) (by omega)
                    · refine y_aload rfl rfl ?_
                      obtain ⟨hR_v202, hb_v202, ht_v202⟩ := hR0.ven hlo_b121 hb0_b121 ht_b121 (j := 1) (by decide)
                      have hb0_v202 := hb_v202
                      have hb_v202 := Nat.lt_of_lt_of_le hb_v202 hn
                      have hlo_v202 : 94 ≤ b121 + 1 + 1 := by omega
                      have hR2_v202 := (congrFun (hX.2.1 b121 hb_b121).2.2 1).trans hR_v202
                      refine y_getR rfl ((hX.2.1 _ hb_b121).1.trans ht_b121) (Nat.lt_of_lt_of_le hb_b121 hX.1) rfl rfl hR2_v202 ?_
                      refine y_iload rfl rfl ?_
                      refine y_ialoadC (j := 8) rfl ((hX.2.1 _ hb_v202).1.trans ht_v202) (Nat.lt_of_lt_of_le hb_v202 hX.1) (by decide) (by decide) rfl ?_
                      refine y_iload rfl rfl ?_
                      refine y_icmp_lt rfl j_X14_buyOut_142 (fun h_203 => ?_) (fun h_204 => ?_)
                      · refine y_iconst rfl ?_
                        refine y_goto rfl j_X14_buyOut_147 ?_
                        refine y_iconst rfl ?_
                        refine y_virt rfl rfl rfl rfl rfl (ySh.t hS rfl) (ySh.n hS rfl) ?_
                        refine y_in (M := xm_X14_refuse) (ls := [some _, some _, some _]) rfl rfl rfl ?_
                        refine y_iload_n rfl rfl ?_
                        refine y_if_eqF rfl (by decide) ?_
                        refine y_aload_n rfl rfl ?_
                        refine y_getIv (v := Int32.ofInt (0)) rfl (ySh.t hS rfl) (ySh.n hS rfl) rfl rfl hth ?_
                        refine y_if_neF rfl (by decide) ?_
                        refine y_aload_n rfl rfl ?_
                        refine y_iload_n rfl rfl ?_
                        refine y_putI rfl (ySh.t hS rfl) (ySh.n hS rfl) rfl (Nat.le_of_ble_eq_true rfl) rfl rfl ?_
                        refine y_nameI (fun I205 e205 => ?_)
                        have hR1 := (hR0.grow hX).mod0 e205 (by decide) (by decide)
                        have hK := (hK.x hRo hno hX).upI (upI e205) (by decide) (by decide) (fun i hi => by have := (hRo.l87.2.2.2.2 i hi).2.1; omega) (by rw [e205, upd2_ne (.inr (by decide))]; exact Int.le_refl _)
                        have hth : I205 83 0 = Int32.ofInt (3) := by rw [e205, upd2_self]
                        have hzz : ySz8 I114 I205 := ySz8_of (upI e205) (by rw [e205]; exact ⟨upd2_ne (.inr (by decide)), upd2_ne (.inr (by decide))⟩)
                        have hS0 := hS
                        have hR0 := hR1
                        have ht_b121 := (hX.2.1 _ hb_b121).1.trans ht_b121
                        have hb_b121 := Nat.lt_of_lt_of_le hb_b121 hX.1
                        have hb0_b121 := hb_b121
                        have ht_v194 := (hX.2.1 _ hb_v194).1.trans ht_v194
                        have hb_v194 := Nat.lt_of_lt_of_le hb_v194 hX.1
                        have hb0_v194 := hb_v194
                        have ht_v198 := (hX.2.1 _ hb_v198).1.trans ht_v198
                        have hb_v198 := Nat.lt_of_lt_of_le hb_v198 hX.1
                        have hb0_v198 := hb_v198
                        have ht_v202 := (hX.2.1 _ hb_v202).1.trans ht_v202
                        have hb_v202 := Nat.lt_of_lt_of_le hb_v202 hX.1
                        have hb0_v202 := hb_v202
                        have hn := Nat.le_refl n
                        have h94 := hS0.1
                        have hX := @yX.rf n tg I205 R
                        have hS := hS0.x hX
                        have hR := hR0.x hn hX
                        have hz := hX.sz h94
                        have hxn := hX.1
                        have hN := hR0.1
                        have hnb := hR0.2.2.2.2.2.2
                        have hthB := hth
                        refine y_aload_n rfl rfl ?_
                        refine y_getIv (v := Int32.ofInt (3)) rfl (ySh.t hS rfl) (ySh.n hS rfl) rfl rfl hth ?_
                        refine y_if_leF rfl (by decide) ?_
                        refine y_iconst rfl ?_
                        refine y_goto rfl j_X14_refuse_28 ?_
                        refine y_ireturn rfl rfl rfl ?_
                        refine y_ret1 ?_
                        refine y_if_eqF rfl (by decide) ?_
                        refine y_iconst rfl ?_
                        refine y_ireturn rfl rfl rfl ?_
                        exact hQ _ _ _ _ _ _ _ hS ((hR0.grow hX).up (Nat.le_succ K) hk6) (hK.x hRo hno hX) (by omega) (by omega)
                      · refine y_aload_n rfl rfl ?_
                        refine y_getR rfl (ySh.t hS rfl) (ySh.n hS rfl) rfl rfl (ySh.r hS rfl) ?_
                        refine y_iload rfl rfl ?_
                        refine y_ialoadC (j := 8) rfl (ySh.t hS rfl) (ySh.n hS rfl) (by decide) (by decide) rfl ?_
                        refine y_iload rfl rfl ?_
                        refine y_icmp_ge rfl j_X14_buyOut_146 (fun h_206 => ?_) (fun h_207 => ?_)
                        · refine y_iconst rfl ?_
                          refine y_iconst rfl ?_
                          refine y_virt rfl rfl rfl rfl rfl (ySh.t hS rfl) (ySh.n hS rfl) ?_
                          refine y_in (M := xm_X14_refuse) (ls := [some _, some _, some _]) rfl rfl rfl ?_
                          refine y_iload_n rfl rfl ?_
                          refine y_if_eqT rfl j_X14_refuse_16 (by decide) ?_
                          refine y_aload_n rfl rfl ?_
                          refine y_getIv (v := Int32.ofInt (0)) rfl (ySh.t hS rfl) (ySh.n hS rfl) rfl rfl hth ?_
                          refine y_if_leT rfl j_X14_refuse_27 (by decide) ?_
                          refine y_iconst rfl ?_
                          refine y_ireturn rfl rfl rfl ?_
                          refine y_ret1 ?_
                          refine y_if_eqT rfl j_X14_buyOut_156 (by decide) ?_
                          refine y_aload rfl rfl ?_
                          obtain ⟨hR_v208, hb_v208, ht_v208⟩ := hR0.ven hlo_b121 hb0_b121 ht_b121 (j := 1) (by decide)
                          have hb0_v208 := hb_v208
                          have hb_v208 := Nat.lt_of_lt_of_le hb_v208 hn
                          have hlo_v208 : 94 ≤ b121 + 1 + 1 := by omega
                          have hR2_v208 := (congrFun (hX.2.1 b121 hb_b121).2.2 1).trans hR_v208
                          refine y_getR rfl ((hX.2.1 _ hb_b121).1.trans ht_b121) (Nat.lt_of_lt_of_le hb_b121 hX.1) rfl rfl hR2_v208 ?_
                          refine y_iload rfl rfl ?_
                          refine y_dup2 rfl rfl rfl ?_
                          refine y_ialoadC (j := 8) rfl ((hX.2.1 _ hb_v208).1.trans ht_v208) (Nat.lt_of_lt_of_le hb_v208 hX.1) (by decide) (by decide) rfl ?_
                          refine y_iload rfl rfl ?_
                          refine y_isub rfl ?_
                          refine y_iastoreC (j := 8) rfl ((hX.2.1 _ hb_v208).1.trans ht_v208) (Nat.lt_of_lt_of_le hb_v208 hX.1) (Nat.le_trans (by decide) (by omega : 94 ≤ _)) (by decide) (by decide) rfl ?_
                          refine y_nameI (fun I209 e209 => ?_)
                          have hB1 := (hR0.grow hX).capB1 hlo_b121 (by omega) ((hX.2.1 _ hb_b121).1.trans ht_b121) (by omega) ⟨by omega, by omega⟩ e209
                          have hR1 := hB1.1
                          have hK := (hK.x hRo hno hX).upE hRo hno (upI e209) (by omega) (by omega) (by rw [((hX.2.1 _ hb_v208).1.trans ht_v208)]; decide) (by rw [e209, upd2_ne (.inl (by omega))]; exact Int.le_refl _)
                          have hth := (show I209 83 0 = I114 83 0 by rw [e209, upd2_ne (.inl (by omega))]).trans hth
                          have hzz : ySz I114 I209 := ySz_ofE (upI e209) (by omega)
                          have hS0 := hS
                          have hR0 := hR1
                          have ht_b121 := (hX.2.1 _ hb_b121).1.trans ht_b121
                          have hb_b121 := Nat.lt_of_lt_of_le hb_b121 hX.1
                          have hb0_b121 := hb_b121
                          have ht_v194 := (hX.2.1 _ hb_v194).1.trans ht_v194
                          have hb_v194 := Nat.lt_of_lt_of_le hb_v194 hX.1
                          have hb0_v194 := hb_v194
                          have ht_v198 := (hX.2.1 _ hb_v198).1.trans ht_v198
                          have hb_v198 := Nat.lt_of_lt_of_le hb_v198 hX.1
                          have hb0_v198 := hb_v198
                          have ht_v202 := (hX.2.1 _ hb_v202).1.trans ht_v202
                          have hb_v202 := Nat.lt_of_lt_of_le hb_v202 hX.1
                          have hb0_v202 := hb_v202
                          have ht_v208 := (hX.2.1 _ hb_v208).1.trans ht_v208
                          have hb_v208 := Nat.lt_of_lt_of_le hb_v208 hX.1
                          have hb0_v208 := hb_v208
                          have hn := Nat.le_refl n
                          have h94 := hS0.1
                          have hX := @yX.rf n tg I209 R
                          have hS := hS0.x hX
                          have hR := hR0.x hn hX
                          have hz := hX.sz h94
                          have hxn := hX.1
                          have hN := hR0.1
                          have hnb := hR0.2.2.2.2.2.2
                          have hthB := hth
                          refine y_aload rfl rfl ?_
                          obtain ⟨hR_v210, hb_v210, ht_v210⟩ := hR0.ven hlo_b121 hb0_b121 ht_b121 (j := 1) (by decide)
                          have hb0_v210 := hb_v210
                          have hb_v210 := Nat.lt_of_lt_of_le hb_v210 hn
                          have hlo_v210 : 94 ≤ b121 + 1 + 1 := by omega
                          have hR2_v210 := (congrFun (hX.2.1 b121 hb_b121).2.2 1).trans hR_v210
                          refine y_getR rfl ((hX.2.1 _ hb_b121).1.trans ht_b121) (Nat.lt_of_lt_of_le hb_b121 hX.1) rfl rfl hR2_v210 ?_
                          refine y_iload rfl rfl ?_
                          refine y_dup2 rfl rfl rfl ?_
                          refine y_ialoadC (j := 8) rfl ((hX.2.1 _ hb_v210).1.trans ht_v210) (Nat.lt_of_lt_of_le hb_v210 hX.1) (by decide) (by decide) rfl ?_
                          refine y_iload rfl rfl ?_
                          refine y_iadd rfl ?_
                          refine y_iastoreC (j := 8) rfl ((hX.2.1 _ hb_v210).1.trans ht_v210) (Nat.lt_of_lt_of_le hb_v210 hX.1) (Nat.le_trans (by decide) (by omega : 94 ≤ _)) (by decide) (by decide) rfl ?_
                          refine y_nameI (fun I211 e211 => ?_)
                          have hR1 := (hR0.grow hX).capB2 hlo_b121 (by omega) ((hX.2.1 _ hb_b121).1.trans ht_b121) (by omega) (by omega) hB1.2.1 e211
                          have hK := (hK.x hRo hno hX).upE hRo hno (upI e211) (by omega) (by omega) (by rw [((hX.2.1 _ hb_v210).1.trans ht_v210)]; decide) (by rw [e211, upd2_ne (.inl (by omega))]; exact Int.le_refl _)
                          have hth := (show I211 83 0 = I209 83 0 by rw [e211, upd2_ne (.inl (by omega))]).trans hth
                          have hzz : ySz I209 I211 := ySz_ofE (upI e211) (by omega)
                          have hS0 := hS
                          have hR0 := hR1
                          have ht_b121 := (hX.2.1 _ hb_b121).1.trans ht_b121
                          have hb_b121 := Nat.lt_of_lt_of_le hb_b121 hX.1
                          have hb0_b121 := hb_b121
                          have ht_v194 := (hX.2.1 _ hb_v194).1.trans ht_v194
                          have hb_v194 := Nat.lt_of_lt_of_le hb_v194 hX.1
                          have hb0_v194 := hb_v194
                          have ht_v198 := (hX.2.1 _ hb_v198).1.trans ht_v198
                          have hb_v198 := Nat.lt_of_lt_of_le hb_v198 hX.1
                          have hb0_v198 := hb_v198
                          have ht_v202 := (hX.2.1 _ hb_v202).1.trans ht_v202
                          have hb_v202 := Nat.lt_of_lt_of_le hb_v202 hX.1
                          have hb0_v202 := hb_v202
                          have ht_v208 := (hX.2.1 _ hb_v208).1.trans ht_v208
                          have hb_v208 := Nat.lt_of_lt_of_le hb_v208 hX.1
                          have hb0_v208 := hb_v208
                          have ht_v210 := (hX.2.1 _ hb_v210).1.trans ht_v210
                          have hb_v210 := Nat.lt_of_lt_of_le hb_v210 hX.1
                          have hb0_v210 := hb_v210
                          have hn := Nat.le_refl n
                          have h94 := hS0.1
                          have hX := @yX.rf n tg I211 R
                          have hS := hS0.x hX
                          have hR := hR0.x hn hX
                          have hz := hX.sz h94
                          have hxn := hX.1
                          have hN := hR0.1
                          have hnb := hR0.2.2.2.2.2.2
                          have hthB := hth
                          refine y_aload_n rfl rfl ?_
                          refine y_getR rfl (ySh.t hS rfl) (ySh.n hS rfl) rfl rfl (ySh.r hS rfl) ?_
                          refine y_iload rfl rfl ?_
                          refine y_dup2 rfl rfl rfl ?_
                          refine y_ialoadC (j := 8) rfl (ySh.t hS rfl) (ySh.n hS rfl) (by decide) (by decide) rfl ?_
                          refine y_iload rfl rfl ?_
                          refine y_iadd rfl ?_
                          refine y_iastoreC (j := 8) rfl (ySh.t hS rfl) (ySh.n hS rfl) (Nat.le_of_ble_eq_true rfl) (by decide) (by decide) rfl ?_
                          refine y_nameI (fun I212 e212 => ?_)
                          have hR1 := (hR0.grow hX).arr e212 (by decide)
                          have hK := (hK.x hRo hno hX).upI (upI e212) (by decide) (by decide) (fun i hi => by have := (hRo.l87.2.2.2.2 i hi).2.1; omega) (by rw [e212, upd2_ne (.inl (by omega))]; exact Int.le_refl _)
                          have hth := (show I212 83 0 = I211 83 0 by rw [e212, upd2_ne (.inl (by omega))]).trans hth
                          have hzz : ySz I211 I212 := ySz_ofE (upI e212) (by omega)
                          have hS0 := hS
                          have hR0 := hR1
                          have ht_b121 := (hX.2.1 _ hb_b121).1.trans ht_b121
                          have hb_b121 := Nat.lt_of_lt_of_le hb_b121 hX.1
                          have hb0_b121 := hb_b121
                          have ht_v194 := (hX.2.1 _ hb_v194).1.trans ht_v194
                          have hb_v194 := Nat.lt_of_lt_of_le hb_v194 hX.1
                          have hb0_v194 := hb_v194
                          have ht_v198 := (hX.2.1 _ hb_v198).1.trans ht_v198
                          have hb_v198 := Nat.lt_of_lt_of_le hb_v198 hX.1
                          have hb0_v198 := hb_v198
                          have ht_v202 := (hX.2.1 _ hb_v202).1.trans ht_v202
                          have hb_v202 := Nat.lt_of_lt_of_le hb_v202 hX.1
                          have hb0_v202 := hb_v202
                          have ht_v208 := (hX.2.1 _ hb_v208).1.trans ht_v208
                          have hb_v208 := Nat.lt_of_lt_of_le hb_v208 hX.1
                          have hb0_v208 := hb_v208
                          have ht_v210 := (hX.2.1 _ hb_v210).1.trans ht_v210
                          have hb_v210 := Nat.lt_of_lt_of_le hb_v210 hX.1
                          have hb0_v210 := hb_v210
                          have hn := Nat.le_refl n
                          have h94 := hS0.1
                          have hX := @yX.rf n tg I212 R
                          have hS := hS0.x hX
                          have hR := hR0.x hn hX
                          have hz := hX.sz h94
                          have hxn := hX.1
                          have hN := hR0.1
                          have hnb := hR0.2.2.2.2.2.2
                          have hthB := hth
                          refine y_aload_n rfl rfl ?_
                          refine y_getR rfl (ySh.t hS rfl) (ySh.n hS rfl) rfl rfl (ySh.r hS rfl) ?_
                          refine y_iload rfl rfl ?_
                          refine y_dup2 rfl rfl rfl ?_
                          refine y_ialoadC (j := 8) rfl (ySh.t hS rfl) (ySh.n hS rfl) (by decide) (by decide) rfl ?_
                          refine y_iload rfl rfl ?_
                          refine y_isub rfl ?_
                          refine y_iastoreC (j := 8) rfl (ySh.t hS rfl) (ySh.n hS rfl) (Nat.le_of_ble_eq_true rfl) (by decide) (by decide) rfl ?_
                          refine y_nameI (fun I213 e213 => ?_)
                          have hR1 := (hR0.grow hX).arr e213 (by decide)
                          have hK := (hK.x hRo hno hX).upI (upI e213) (by decide) (by decide) (fun i hi => by have := (hRo.l87.2.2.2.2 i hi).2.1; omega) (by rw [e213, upd2_ne (.inl (by omega))]; exact Int.le_refl _)
                          have hth := (show I213 83 0 = I212 83 0 by rw [e213, upd2_ne (.inl (by omega))]).trans hth
                          have hzz : ySz I212 I213 := ySz_ofE (upI e213) (by omega)
                          have hS0 := hS
                          have hR0 := hR1
                          have ht_b121 := (hX.2.1 _ hb_b121).1.trans ht_b121
                          have hb_b121 := Nat.lt_of_lt_of_le hb_b121 hX.1
                          have hb0_b121 := hb_b121
                          have ht_v194 := (hX.2.1 _ hb_v194).1.trans ht_v194
                          have hb_v194 := Nat.lt_of_lt_of_le hb_v194 hX.1
                          have hb0_v194 := hb_v194
                          have ht_v198 := (hX.2.1 _ hb_v198).1.trans ht_v198
                          have hb_v198 := Nat.lt_of_lt_of_le hb_v198 hX.1
                          have hb0_v198 := hb_v198
                          have ht_v202 := (hX.2.1 _ hb_v202).1.trans ht_v202
                          have hb_v202 := Nat.lt_of_lt_of_le hb_v202 hX.1
                          have hb0_v202 := hb_v202
                          have ht_v208 := (hX.2.1 _ hb_v208).1.trans ht_v208
                          have hb_v208 := Nat.lt_of_lt_of_le hb_v208 hX.1
                          have hb0_v208 := hb_v208
                          have ht_v210 := (hX.2.1 _ hb_v210).1.trans ht_v210
                          have hb_v210 := Nat.lt_of_lt_of_le hb_v210 hX.1
                          have hb0_v210 := hb_v210
                          have hn := Nat.le_refl n
                          have h94 := hS0.1
                          have hX := @yX.rf n tg I213 R
                          have hS := hS0.x hX
                          have hR := hR0.x hn hX
                          have hz := hX.sz h94
                          have hxn := hX.1
                          have hN := hR0.1
                          have hnb := hR0.2.2.2.2.2.2
                          have hthB := hth
                          refine y_aload rfl rfl ?_
                          obtain ⟨hR_v214, hb_v214, ht_v214⟩ := hR0.ven hlo_b121 hb0_b121 ht_b121 (j := 1) (by decide)
                          have hb0_v214 := hb_v214
                          have hb_v214 := Nat.lt_of_lt_of_le hb_v214 hn
                          have hlo_v214 : 94 ≤ b121 + 1 + 1 := by omega
                          have hR2_v214 := (congrFun (hX.2.1 b121 hb_b121).2.2 1).trans hR_v214
                          refine y_getR rfl ((hX.2.1 _ hb_b121).1.trans ht_b121) (Nat.lt_of_lt_of_le hb_b121 hX.1) rfl rfl hR2_v214 ?_
                          refine y_iload rfl rfl ?_
                          refine y_ialoadC (j := 8) rfl ((hX.2.1 _ hb_v214).1.trans ht_v214) (Nat.lt_of_lt_of_le hb_v214 hX.1) (by decide) (by decide) rfl ?_
                          refine y_ireturn rfl rfl rfl ?_
                          exact hQ _ _ _ _ _ _ _ hS ((hR0.grow hX).up (Nat.le_succ K) hk6) (hK.x hRo hno hX) (by omega) (by omega)
                        · refine y_iconst rfl ?_
                          refine y_goto rfl j_X14_buyOut_147 ?_
                          refine y_iconst rfl ?_
                          refine y_virt rfl rfl rfl rfl rfl (ySh.t hS rfl) (ySh.n hS rfl) ?_
                          refine y_in (M := xm_X14_refuse) (ls := [some _, some _, some _]) rfl rfl rfl ?_
                          refine y_iload_n rfl rfl ?_
                          refine y_if_eqF rfl (by decide) ?_
                          refine y_aload_n rfl rfl ?_
                          refine y_getIv (v := Int32.ofInt (0)) rfl (ySh.t hS rfl) (ySh.n hS rfl) rfl rfl hth ?_
                          refine y_if_neF rfl (by decide) ?_
                          refine y_aload_n rfl rfl ?_
                          refine y_iload_n rfl rfl ?_
                          refine y_putI rfl (ySh.t hS rfl) (ySh.n hS rfl) rfl (Nat.le_of_ble_eq_true rfl) rfl rfl ?_
                          refine y_nameI (fun I215 e215 => ?_)
                          have hR1 := (hR0.grow hX).mod0 e215 (by decide) (by decide)
                          have hK := (hK.x hRo hno hX).upI (upI e215) (by decide) (by decide) (fun i hi => by have := (hRo.l87.2.2.2.2 i hi).2.1; omega) (by rw [e215, upd2_ne (.inr (by decide))]; exact Int.le_refl _)
                          have hth : I215 83 0 = Int32.ofInt (3) := by rw [e215, upd2_self]
                          have hzz : ySz8 I114 I215 := ySz8_of (upI e215) (by rw [e215]; exact ⟨upd2_ne (.inr (by decide)), upd2_ne (.inr (by decide))⟩)
                          have hS0 := hS
                          have hR0 := hR1
                          have ht_b121 := (hX.2.1 _ hb_b121).1.trans ht_b121
                          have hb_b121 := Nat.lt_of_lt_of_le hb_b121 hX.1
                          have hb0_b121 := hb_b121
                          have ht_v194 := (hX.2.1 _ hb_v194).1.trans ht_v194
                          have hb_v194 := Nat.lt_of_lt_of_le hb_v194 hX.1
                          have hb0_v194 := hb_v194
                          have ht_v198 := (hX.2.1 _ hb_v198).1.trans ht_v198
                          have hb_v198 := Nat.lt_of_lt_of_le hb_v198 hX.1
                          have hb0_v198 := hb_v198
                          have ht_v202 := (hX.2.1 _ hb_v202).1.trans ht_v202
                          have hb_v202 := Nat.lt_of_lt_of_le hb_v202 hX.1
                          have hb0_v202 := hb_v202
                          have hn := Nat.le_refl n
                          have h94 := hS0.1
                          have hX := @yX.rf n tg I215 R
                          have hS := hS0.x hX
                          have hR := hR0.x hn hX
                          have hz := hX.sz h94
                          have hxn := hX.1
                          have hN := hR0.1
                          have hnb := hR0.2.2.2.2.2.2
                          have hthB := hth
                          refine y_aload_n rfl rfl ?_
                          refine y_getIv (v := Int32.ofInt (3)) rfl (ySh.t hS rfl) (ySh.n hS rfl) rfl rfl hth ?_
                          refine y_if_leF rfl (by decide) ?_
                          refine y_iconst rfl ?_
                          refine y_goto rfl j_X14_refuse_28 ?_
                          refine y_ireturn rfl rfl rfl ?_
                          refine y_ret1 ?_
                          refine y_if_eqF rfl (by decide) ?_
                          refine y_iconst rfl ?_
                          refine y_ireturn rfl rfl rfl ?_
                          exact hQ _ _ _ _ _ _ _ hS ((hR0.grow hX).up (Nat.le_succ K) hk6) (hK.x hRo hno hX) (by omega) (by omega)
            · rw [yz_1] at h_120
              rw [yz_999] at h_120
              refine y_ret1 ?_
              refine y_if_neF rfl (by decide) ?_
              refine y_iconst rfl ?_
              refine y_goto rfl j_X14_buyOut_60 ?_
              refine y_iconst rfl ?_
              refine y_virt rfl rfl rfl rfl rfl (ySh.t hS rfl) (ySh.n hS rfl) ?_
              refine y_in (M := xm_X14_refuse) (ls := [some _, some _, some _]) rfl rfl rfl ?_
              refine y_iload_n rfl rfl ?_
              refine y_if_eqF rfl (by decide) ?_
              refine y_aload_n rfl rfl ?_
              refine y_getIv (v := Int32.ofInt (0)) rfl (ySh.t hS rfl) (ySh.n hS rfl) rfl rfl hth ?_
              refine y_if_neF rfl (by decide) ?_
              refine y_aload_n rfl rfl ?_
              refine y_iload_n rfl rfl ?_
              refine y_putI rfl (ySh.t hS rfl) (ySh.n hS rfl) rfl (Nat.le_of_ble_eq_true rfl) rfl rfl ?_
              refine y_nameI (fun I216 e216 => ?_)
              have hR1 := (hR0.grow hX).mod0 e216 (by decide) (by decide)
              have hK := (hK.x hRo hno hX).upI (upI e216) (by decide) (by decide) (fun i hi => by have := (hRo.l87.2.2.2.2 i hi).2.1; omega) (by rw [e216, upd2_ne (.inr (by decide))]; exact Int.le_refl _)
              have hth : I216 83 0 = Int32.ofInt (2) := by rw [e216, upd2_self]
              have hzz : ySz8 I114 I216 := ySz8_of (upI e216) (by rw [e216]; exact ⟨upd2_ne (.inr (by decide)), upd2_ne (.inr (by decide))⟩)
              have hS0 := hS
              have hR0 := hR1
              have hn := Nat.le_refl n
              have h94 := hS0.1
              have hX := @yX.rf n tg I216 R
              have hS := hS0.x hX
              have hR := hR0.x hn hX
              have hz := hX.sz h94
              have hxn := hX.1
              have hN := hR0.1
              have hnb := hR0.2.2.2.2.2.2
              have hthB := hth
              refine y_aload_n rfl rfl ?_
              refine y_getIv (v := Int32.ofInt (2)) rfl (ySh.t hS rfl) (ySh.n hS rfl) rfl rfl hth ?_
              refine y_if_leF rfl (by decide) ?_
              refine y_iconst rfl ?_
              refine y_goto rfl j_X14_refuse_28 ?_
              refine y_ireturn rfl rfl rfl ?_
              refine y_ret1 ?_
              refine y_if_eqF rfl (by decide) ?_
              refine y_iconst rfl ?_
              refine y_ireturn rfl rfl rfl ?_
              exact hQ _ _ _ _ _ _ _ hS ((hR0.grow hX).up (Nat.le_succ K) hk6) (hK.x hRo hno hX) (by omega) (by omega)
        · rw [yz_0] at h_113
          try rw [ysub (by rw [yz_1]; omega) (by rw [yz_1]; omega), yz_1] at h_113
          refine y_ret1 ?_
          refine y_if_neF rfl (by decide) ?_
          refine y_iconst rfl ?_
          refine y_goto rfl j_X14_isNobody_19 ?_
          refine y_ireturn rfl rfl rfl ?_
          refine y_ret1 ?_
          refine y_if_eqF rfl (by decide) ?_
          refine y_iconst rfl ?_
          refine y_goto rfl j_X14_isNoOne_18 ?_
          refine y_ireturn rfl rfl rfl ?_
          refine y_ret1 ?_
          refine y_if_eqF rfl (by decide) ?_
          refine y_iconst rfl ?_
          refine y_goto rfl j_X14_buyOut_30 ?_
          refine y_iconst rfl ?_
          refine y_virt rfl rfl rfl rfl rfl (ySh.t hS rfl) (ySh.n hS rfl) ?_
          refine y_in (M := xm_X14_start) (ls := [some _, some _, some _]) rfl rfl rfl ?_
          refine y_aload_n rfl rfl ?_
          refine y_iconst rfl ?_
          refine y_putI rfl (ySh.t hS rfl) (ySh.n hS rfl) rfl (Nat.le_of_ble_eq_true rfl) rfl rfl ?_
          refine y_nameI (fun I217 e217 => ?_)
          have hR1 := (hR0.grow hX).mod0 e217 (by decide) (by decide)
          have hK := (hK.x hRo hno hX).upI (upI e217) (by decide) (by decide) (fun i hi => by have := (hRo.l87.2.2.2.2 i hi).2.1; omega) (by rw [e217, upd2_ne (.inr (by decide))]; exact Int.le_refl _)
          have hth : I217 83 0 = Int32.ofInt (0) := by rw [e217, upd2_self]
          have hzz : ySz8 I I217 := ySz8_of (upI e217) (by rw [e217]; exact ⟨upd2_ne (.inr (by decide)), upd2_ne (.inr (by decide))⟩)
          have hS0 := hS
          have hR0 := hR1
          have hn := Nat.le_refl n
          have h94 := hS0.1
          have hX := @yX.rf n tg I217 R
          have hS := hS0.x hX
          have hR := hR0.x hn hX
          have hz := hX.sz h94
          have hxn := hX.1
          have hN := hR0.1
          have hnb := hR0.2.2.2.2.2.2
          have hthB := hth
          refine y_aload_n rfl rfl ?_
          refine y_iload_n rfl rfl ?_
          refine y_iload_n rfl rfl ?_
          refine y_virt rfl rfl rfl rfl rfl (ySh.t hS rfl) (ySh.n hS rfl) ?_
          refine y_in (M := xm_X14_refuse) (ls := [some _, some _, some _]) rfl rfl rfl ?_
          refine y_iload_n rfl rfl ?_
          refine y_if_eqF rfl (by decide) ?_
          refine y_aload_n rfl rfl ?_
          refine y_getIv (v := Int32.ofInt (0)) rfl (ySh.t hS rfl) (ySh.n hS rfl) rfl rfl hth ?_
          refine y_if_neF rfl (by decide) ?_
          refine y_aload_n rfl rfl ?_
          refine y_iload_n rfl rfl ?_
          refine y_putI rfl (ySh.t hS rfl) (ySh.n hS rfl) rfl (Nat.le_of_ble_eq_true rfl) rfl rfl ?_
          refine y_nameI (fun I218 e218 => ?_)
          have hR1 := (hR0.grow hX).mod0 e218 (by decide) (by decide)
          have hK := (hK.x hRo hno hX).upI (upI e218) (by decide) (by decide) (fun i hi => by have := (hRo.l87.2.2.2.2 i hi).2.1; omega) (by rw [e218, upd2_ne (.inr (by decide))]; exact Int.le_refl _)
          have hth : I218 83 0 = Int32.ofInt (1) := by rw [e218, upd2_self]
          have hzz : ySz8 I217 I218 := ySz8_of (upI e218) (by rw [e218]; exact ⟨upd2_ne (.inr (by decide)), upd2_ne (.inr (by decide))⟩)
          have hS0 := hS
          have hR0 := hR1
          have hn := Nat.le_refl n
          have h94 := hS0.1
          have hX := @yX.rf n tg I218 R
          have hS := hS0.x hX
          have hR := hR0.x hn hX
          have hz := hX.sz h94
          have hxn := hX.1
          have hN := hR0.1
          have hnb := hR0.2.2.2.2.2.2
          have hthB := hth
          refine y_aload_n rfl rfl ?_
          refine y_getIv (v := Int32.ofInt (1)) rfl (ySh.t hS rfl) (ySh.n hS rfl) rfl rfl hth ?_
          refine y_if_leF rfl (by decide) ?_
          refine y_iconst rfl ?_
          refine y_goto rfl j_X14_refuse_28 ?_
          refine y_ireturn rfl rfl rfl ?_
          refine y_ret1 ?_
          refine y_ireturn rfl rfl rfl ?_
          refine y_ret1 ?_
          refine y_if_neT rfl j_X14_buyOut_67 (by decide) ?_
          refine y_iconst rfl ?_
          refine y_ireturn rfl rfl rfl ?_
          exact hQ _ _ _ _ _ _ _ hS ((hR0.grow hX).up (Nat.le_succ K) hk6) (hK.x hRo hno hX) (by omega) (by omega)
    · rw [yz_m1] at h_5
      refine y_aload_n rfl rfl ?_
      refine y_iload_n rfl rfl ?_
      refine y_virt rfl rfl rfl rfl rfl (ySh.t hS rfl) (ySh.n hS rfl) ?_
      refine y_in (M := xm_X14_isNobody) (ls := [some _, some _]) rfl rfl rfl ?_
      refine y_iload_n rfl rfl ?_
      refine y_iconst rfl ?_
      refine y_aload_n rfl rfl ?_
      refine y_getI rfl (ySh.t hS rfl) (ySh.n hS rfl) rfl rfl ?_
      refine y_iconst rfl ?_
      refine y_isub rfl ?_
      refine y_static rfl rfl rfl rfl rfl ?_
      refine r_isIn (fun h_219 h_220 => ?_) (fun h_221 => ?_)
      · rw [yz_0] at h_219
        try rw [ysub (by rw [yz_1]; omega) (by rw [yz_1]; omega), yz_1] at h_220
        refine y_ret1 ?_
        refine y_if_neT rfl j_X14_isNobody_18 (by decide) ?_
        refine y_iconst rfl ?_
        refine y_ireturn rfl rfl rfl ?_
        refine y_ret1 ?_
        refine y_if_eqT rfl j_X14_isNoOne_17 (by decide) ?_
        refine y_iconst rfl ?_
        refine y_ireturn rfl rfl rfl ?_
        refine y_ret1 ?_
        refine y_if_neF rfl (by decide) ?_
        refine y_aload_n rfl rfl ?_
        refine y_iload_n rfl rfl ?_
        refine y_virt rfl rfl rfl rfl rfl (ySh.t hS rfl) (ySh.n hS rfl) ?_
        refine y_in (M := xm_X14_isNoOne) (ls := [some _, some _]) rfl rfl rfl ?_
        refine y_iload_n rfl rfl ?_
        refine y_iconst rfl ?_
        refine y_icmp_eq rfl j_X14_isNoOne_17 (fun h_222 => ?_) (fun h_223 => ?_)
        · rw [yz_m1] at h_222
          refine y_iconst rfl ?_
          refine y_ireturn rfl rfl rfl ?_
          refine y_ret1 ?_
          refine y_if_eqT rfl j_X14_buyOut_29 (by decide) ?_
          refine y_iconst rfl ?_
          refine y_iconst rfl ?_
          refine y_virt rfl rfl rfl rfl rfl (ySh.t hS rfl) (ySh.n hS rfl) ?_
          refine y_in (M := xm_X14_start) (ls := [some _, some _, some _]) rfl rfl rfl ?_
          refine y_aload_n rfl rfl ?_
          refine y_iconst rfl ?_
          refine y_putI rfl (ySh.t hS rfl) (ySh.n hS rfl) rfl (Nat.le_of_ble_eq_true rfl) rfl rfl ?_
          refine y_nameI (fun I224 e224 => ?_)
          have hR1 := (hR0.grow hX).mod0 e224 (by decide) (by decide)
          have hK := (hK.x hRo hno hX).upI (upI e224) (by decide) (by decide) (fun i hi => by have := (hRo.l87.2.2.2.2 i hi).2.1; omega) (by rw [e224, upd2_ne (.inr (by decide))]; exact Int.le_refl _)
          have hth : I224 83 0 = Int32.ofInt (0) := by rw [e224, upd2_self]
          have hzz : ySz8 I I224 := ySz8_of (upI e224) (by rw [e224]; exact ⟨upd2_ne (.inr (by decide)), upd2_ne (.inr (by decide))⟩)
          have hS0 := hS
          have hR0 := hR1
          have hn := Nat.le_refl n
          have h94 := hS0.1
          have hX := @yX.rf n tg I224 R
          have hS := hS0.x hX
          have hR := hR0.x hn hX
          have hz := hX.sz h94
          have hxn := hX.1
          have hN := hR0.1
          have hnb := hR0.2.2.2.2.2.2
          have hthB := hth
          refine y_aload_n rfl rfl ?_
          refine y_iload_n rfl rfl ?_
          refine y_iload_n rfl rfl ?_
          refine y_virt rfl rfl rfl rfl rfl (ySh.t hS rfl) (ySh.n hS rfl) ?_
          refine y_in (M := xm_X14_refuse) (ls := [some _, some _, some _]) rfl rfl rfl ?_
          refine y_iload_n rfl rfl ?_
          refine y_if_eqT rfl j_X14_refuse_16 (by decide) ?_
          refine y_aload_n rfl rfl ?_
          refine y_getIv (v := Int32.ofInt (0)) rfl (ySh.t hS rfl) (ySh.n hS rfl) rfl rfl hth ?_
          refine y_if_leT rfl j_X14_refuse_27 (by decide) ?_
          refine y_iconst rfl ?_
          refine y_ireturn rfl rfl rfl ?_
          refine y_ret1 ?_
          refine y_ireturn rfl rfl rfl ?_
          refine y_ret1 ?_
          refine y_if_neF rfl (by decide) ?_
          refine y_aload_n rfl rfl ?_
          refine y_iload_n rfl rfl ?_
          refine y_iload_n rfl rfl ?_
          refine y_icmp_eq rfl j_X14_buyOut_55 (fun h_225 => ?_) (fun h_226 => ?_)
          · refine y_iconst rfl ?_
            refine y_goto rfl j_X14_buyOut_60 ?_
            refine y_iconst rfl ?_
            refine y_virt rfl rfl rfl rfl rfl (ySh.t hS rfl) (ySh.n hS rfl) ?_
            refine y_in (M := xm_X14_refuse) (ls := [some _, some _, some _]) rfl rfl rfl ?_
            refine y_iload_n rfl rfl ?_
            refine y_if_eqF rfl (by decide) ?_
            refine y_aload_n rfl rfl ?_
            refine y_getIv (v := Int32.ofInt (0)) rfl (ySh.t hS rfl) (ySh.n hS rfl) rfl rfl hth ?_
            refine y_if_neF rfl (by decide) ?_
            refine y_aload_n rfl rfl ?_
            refine y_iload_n rfl rfl ?_
            refine y_putI rfl (ySh.t hS rfl) (ySh.n hS rfl) rfl (Nat.le_of_ble_eq_true rfl) rfl rfl ?_
            refine y_nameI (fun I227 e227 => ?_)
            have hR1 := (hR0.grow hX).mod0 e227 (by decide) (by decide)
            have hK := (hK.x hRo hno hX).upI (upI e227) (by decide) (by decide) (fun i hi => by have := (hRo.l87.2.2.2.2 i hi).2.1; omega) (by rw [e227, upd2_ne (.inr (by decide))]; exact Int.le_refl _)
            have hth : I227 83 0 = Int32.ofInt (2) := by rw [e227, upd2_self]
            have hzz : ySz8 I224 I227 := ySz8_of (upI e227) (by rw [e227]; exact ⟨upd2_ne (.inr (by decide)), upd2_ne (.inr (by decide))⟩)
            have hS0 := hS
            have hR0 := hR1
            have hn := Nat.le_refl n
            have h94 := hS0.1
            have hX := @yX.rf n tg I227 R
            have hS := hS0.x hX
            have hR := hR0.x hn hX
            have hz := hX.sz h94
            have hxn := hX.1
            have hN := hR0.1
            have hnb := hR0.2.2.2.2.2.2
            have hthB := hth
            refine y_aload_n rfl rfl ?_
            refine y_getIv (v := Int32.ofInt (2)) rfl (ySh.t hS rfl) (ySh.n hS rfl) rfl rfl hth ?_
            refine y_if_leF rfl (by decide) ?_
            refine y_iconst rfl ?_
            refine y_goto rfl j_X14_refuse_28 ?_
            refine y_ireturn rfl rfl rfl ?_
            refine y_ret1 ?_
            refine y_if_eqF rfl (by decide) ?_
            refine y_iconst rfl ?_
            refine y_ireturn rfl rfl rfl ?_
            exact hQ _ _ _ _ _ _ _ hS ((hR0.grow hX).up (Nat.le_succ K) hk6) (hK.x hRo hno hX) (by omega) (by omega)
          · refine y_iload rfl rfl ?_
            refine y_iconst rfl ?_
            refine y_sip rfl (by decide) ?_
            refine y_static rfl rfl rfl rfl rfl ?_
            refine r_isIn (fun h_228 h_229 => ?_) (fun h_230 => ?_)
            · rw [yz_1] at h_228
              rw [yz_999] at h_229
              refine y_ret1 ?_
              refine y_if_neT rfl j_X14_buyOut_59 (by decide) ?_
              refine y_iconst rfl ?_
              refine y_iconst rfl ?_
              refine y_virt rfl rfl rfl rfl rfl (ySh.t hS rfl) (ySh.n hS rfl) ?_
              refine y_in (M := xm_X14_refuse) (ls := [some _, some _, some _]) rfl rfl rfl ?_
              refine y_iload_n rfl rfl ?_
              refine y_if_eqT rfl j_X14_refuse_16 (by decide) ?_
              refine y_aload_n rfl rfl ?_
              refine y_getIv (v := Int32.ofInt (0)) rfl (ySh.t hS rfl) (ySh.n hS rfl) rfl rfl hth ?_
              refine y_if_leT rfl j_X14_refuse_27 (by decide) ?_
              refine y_iconst rfl ?_
              refine y_ireturn rfl rfl rfl ?_
              refine y_ret1 ?_
              refine y_if_eqT rfl j_X14_buyOut_69 (by decide) ?_
              refine y_aload_n rfl rfl ?_
              refine y_getR rfl (ySh.t hS rfl) (ySh.n hS rfl) rfl rfl (ySh.r hS rfl) ?_
              refine y_iload_n rfl rfl ?_
              refine y_virt rfl rfl rfl rfl rfl (ySh.t hS rfl) (ySh.n hS rfl) ?_
              refine l_get (nb := n) (ySh.t hS rfl) (ySh.n hS rfl) (Nat.le_trans hn hX.1) hR.l91 (by omega) (by omega) (fun b231 eb_b231 hlo_b231 hb0_b231 ht_b231 => ?_)
              have hb_b231 := Nat.lt_of_lt_of_le hb0_b231 hn
              replace ht_b231 := (hX.2.1 _ hb_b231).1.symm.trans ht_b231
              refine y_ret1 ?_
              refine y_cast rfl ((hX.2.1 _ hb_b231).1.trans ht_b231) (Nat.lt_of_lt_of_le hb_b231 hX.1) ?_
              refine y_astore (ls' := [some _, some _, some _, some _, some _, some _, _, _]) rfl rfl rfl ?_
              refine y_iload_n rfl rfl ?_
              refine y_static rfl rfl rfl rfl rfl ?_
              refine y_in (M := xm_X14_seat) (ls := [some _]) rfl rfl rfl ?_
              refine y_iload_n rfl rfl ?_
              refine y_iconst rfl ?_
              refine y_icmp_ne rfl j_X14_seat_10 (fun h_232 => ?_) (fun h_233 => ?_)
              · rw [yz_m1] at h_232
                refine y_iload_n rfl rfl ?_
                refine y_ireturn rfl rfl rfl ?_
                refine y_ret1 ?_
                refine y_istore (ls' := [some _, some _, some _, some _, some _, some _, some _, _]) rfl rfl rfl ?_
                refine y_iload_n rfl rfl ?_
                refine y_static rfl rfl rfl rfl rfl ?_
                refine y_in (M := xm_X14_seat) (ls := [some _]) rfl rfl rfl ?_
                refine y_iload_n rfl rfl ?_
                refine y_iconst rfl ?_
                refine y_icmp_ne rfl j_X14_seat_10 (fun h_234 => ?_) (fun h_235 => ?_)
                · rw [yz_m1] at h_234
                  refine y_iload_n rfl rfl ?_
                  refine y_ireturn rfl rfl rfl ?_
                  refine y_ret1 ?_
                  refine y_istore (ls' := [some _, some _, some _, some _, some _, some _, some _, some _]) rfl rfl rfl ?_
                  refine y_aload_n rfl rfl ?_
                  refine y_aload rfl rfl ?_
                  obtain ⟨hR_v236, hb_v236, ht_v236⟩ := hR0.ven hlo_b231 hb0_b231 ht_b231 (j := 0) (by decide)
                  have hb0_v236 := hb_v236
                  have hb_v236 := Nat.lt_of_lt_of_le hb_v236 hn
                  have hlo_v236 : 94 ≤ b231 + 1 + 0 := by omega
                  have hR2_v236 := (congrFun (hX.2.1 b231 hb_b231).2.2 0).trans hR_v236
                  refine y_getR rfl ((hX.2.1 _ hb_b231).1.trans ht_b231) (Nat.lt_of_lt_of_le hb_b231 hX.1) rfl rfl hR2_v236 ?_
                  refine y_iload rfl rfl ?_
                  refine y_baload rfl ((hX.2.1 _ hb_v236).1.trans ht_v236) rfl (Nat.lt_of_lt_of_le hb_v236 hX.1) (by omega) (by omega) ?_
                  refine y_if_eq rfl j_X14_buyOut_142 (fun h_237 => ?_) (fun h_238 => ?_)
                  · refine y_iconst rfl ?_
                    refine y_goto rfl j_X14_buyOut_147 ?_
                    refine y_iconst rfl ?_
                    refine y_virt rfl rfl rfl rfl rfl (ySh.t hS rfl) (ySh.n hS rfl) ?_
                    refine y_in (M := xm_X14_refuse) (ls := [some _, some _, some _]) rfl rfl rfl ?_
                    refine y_iload_n rfl rfl ?_
                    refine y_if_eqF rfl (by decide) ?_
                    refine y_aload_n rfl rfl ?_
                    refine y_getIv (v := Int32.ofInt (0)) rfl (ySh.t hS rfl) (ySh.n hS rfl) rfl rfl hth ?_
                    refine y_if_neF rfl (by decide) ?_
                    refine y_aload_n rfl rfl ?_
                    refine y_iload_n rfl rfl ?_
                    refine y_putI rfl (ySh.t hS rfl) (ySh.n hS rfl) rfl (Nat.le_of_ble_eq_true rfl) rfl rfl ?_
                    refine y_nameI (fun I239 e239 => ?_)
                    have hR1 := (hR0.grow hX).mod0 e239 (by decide) (by decide)
                    have hK := (hK.x hRo hno hX).upI (upI e239) (by decide) (by decide) (fun i hi => by have := (hRo.l87.2.2.2.2 i hi).2.1; omega) (by rw [e239, upd2_ne (.inr (by decide))]; exact Int.le_refl _)
                    have hth : I239 83 0 = Int32.ofInt (3) := by rw [e239, upd2_self]
                    have hzz : ySz8 I224 I239 := ySz8_of (upI e239) (by rw [e239]; exact ⟨upd2_ne (.inr (by decide)), upd2_ne (.inr (by decide))⟩)
                    have hS0 := hS
                    have hR0 := hR1
                    have ht_b231 := (hX.2.1 _ hb_b231).1.trans ht_b231
                    have hb_b231 := Nat.lt_of_lt_of_le hb_b231 hX.1
                    have hb0_b231 := hb_b231
                    have ht_v236 := (hX.2.1 _ hb_v236).1.trans ht_v236
                    have hb_v236 := Nat.lt_of_lt_of_le hb_v236 hX.1
                    have hb0_v236 := hb_v236
                    have hn := Nat.le_refl n
                    have h94 := hS0.1
                    have hX := @yX.rf n tg I239 R
                    have hS := hS0.x hX
                    have hR := hR0.x hn hX
                    have hz := hX.sz h94
                    have hxn := hX.1
                    have hN := hR0.1
                    have hnb := hR0.2.2.2.2.2.2
                    have hthB := hth
                    refine y_aload_n rfl rfl ?_
                    refine y_getIv (v := Int32.ofInt (3)) rfl (ySh.t hS rfl) (ySh.n hS rfl) rfl rfl hth ?_
                    refine y_if_leF rfl (by decide) ?_
                    refine y_iconst rfl ?_
                    refine y_goto rfl j_X14_refuse_28 ?_
                    refine y_ireturn rfl rfl rfl ?_
                    refine y_ret1 ?_
                    refine y_if_eqF rfl (by decide) ?_
                    refine y_iconst rfl ?_
                    refine y_ireturn rfl rfl rfl ?_
                    exact hQ _ _ _ _ _ _ _ hS ((hR0.grow hX).up (Nat.le_succ K) hk6) (hK.x hRo hno hX) (by omega) (by omega)
                  · refine y_aload rfl rfl ?_
                    obtain ⟨hR_v240, hb_v240, ht_v240⟩ := hR0.ven hlo_b231 hb0_b231 ht_b231 (j := 0) (by decide)
                    have hb0_v240 := hb_v240
                    have hb_v240 := Nat.lt_of_lt_of_le hb_v240 hn
                    have hlo_v240 : 94 ≤ b231 + 1 + 0 := by omega
                    have hR2_v240 := (congrFun (hX.2.1 b231 hb_b231).2.2 0).trans hR_v240
                    refine y_getR rfl ((hX.2.1 _ hb_b231).1.trans ht_b231) (Nat.lt_of_lt_of_le hb_b231 hX.1) rfl rfl hR2_v240 ?_
                    refine y_iload rfl rfl ?_
                    refine y_baload rfl ((hX.2.1 _ hb_v240).1.trans ht_v240) rfl (Nat.lt_of_lt_of_le hb_v240 hX.1) (by omega) (by omega) ?_
                    refine y_if_eq rfl j_X14_buyOut_142 (fun h_241 => ?_) (fun h_242 => ?_)
                    · refine y_iconst rfl ?_
                      refine y_goto rfl j_X14_buyOut_147 ?_
                      refine y_iconst rfl ?_
                      refine y_virt rfl rfl rfl rfl rfl (ySh.t hS rfl) (ySh.n hS rfl) ?_
                      refine y_in (M := xm_X14_refuse) (ls := [some _, some _, some _]) rfl rfl rfl ?_
                      refine y_iload_n rfl rfl ?_
                      refine y_if_eqF rfl (by decide) ?_
                      refine y_aload_n rfl rfl ?_
                      refine y_getIv (v := Int32.ofInt (0)) rfl (ySh.t hS rfl) (ySh.n hS rfl) rfl rfl hth ?_
                      refine y_if_neF rfl (by decide) ?_
                      refine y_aload_n rfl rfl ?_
                      refine y_iload_n rfl rfl ?_
                      refine y_putI rfl (ySh.t hS rfl) (ySh.n hS rfl) rfl (Nat.le_of_ble_eq_true rfl) rfl rfl ?_
                      refine y_nameI (fun I243 e243 => ?_)
                      have hR1 := (hR0.grow hX).mod0 e243 (by decide) (by decide)
                      have hK := (hK.x hRo hno hX).upI (upI e243) (by decide) (by decide) (fun i hi => by have := (hRo.l87.2.2.2.2 i hi).2.1; omega) (by rw [e243, upd2_ne (.inr (by decide))]; exact Int.le_refl _)
                      have hth : I243 83 0 = Int32.ofInt (3) := by rw [e243, upd2_self]
                      have hzz : ySz8 I224 I243 := ySz8_of (upI e243) (by rw [e243]; exact ⟨upd2_ne (.inr (by decide)), upd2_ne (.inr (by decide))⟩)
                      have hS0 := hS
                      have hR0 := hR1
                      have ht_b231 := (hX.2.1 _ hb_b231).1.trans ht_b231
                      have hb_b231 := Nat.lt_of_lt_of_le hb_b231 hX.1
                      have hb0_b231 := hb_b231
                      have ht_v236 := (hX.2.1 _ hb_v236).1.trans ht_v236
                      have hb_v236 := Nat.lt_of_lt_of_le hb_v236 hX.1
                      have hb0_v236 := hb_v236
                      have ht_v240 := (hX.2.1 _ hb_v240).1.trans ht_v240
                      have hb_v240 := Nat.lt_of_lt_of_le hb_v240 hX.1
                      have hb0_v240 := hb_v240
                      have hn := Nat.le_refl n
                      have h94 := hS0.1
                      have hX := @yX.rf n tg I243 R
                      have hS := hS0.x hX
                      have hR := hR0.x hn hX
                      have hz := hX.sz h94
                      have hxn := hX.1
                      have hN := hR0.1
                      have hnb := hR0.2.2.2.2.2.2
                      have hthB := hth
                      refine y_aload_n rfl rfl ?_
                      refine y_getIv (v := Int32.ofInt (3)) rfl (ySh.t hS rfl) (ySh.n hS rfl) rfl rfl hth ?_
                      refine y_if_leF rfl (by decide) ?_
                      refine y_iconst rfl ?_
                      refine y_goto rfl j_X14_refuse_28 ?_
                      refine y_ireturn rfl rfl rfl ?_
                      refine y_ret1 ?_
                      refine y_if_eqF rfl (by decide) ?_
                      refine y_iconst rfl ?_
                      refine y_ireturn rfl rfl rfl ?_
                      exact hQ _ _ _ _ _ _ _ hS ((hR0.grow hX).up (Nat.le_succ K) hk6) (hK.x hRo hno hX) (by omega) (by omega)
                    · refine y_aload rfl rfl ?_
                      obtain ⟨hR_v244, hb_v244, ht_v244⟩ := hR0.ven hlo_b231 hb0_b231 ht_b231 (j := 1) (by decide)
                      have hb0_v244 := hb_v244
                      have hb_v244 := Nat.lt_of_lt_of_le hb_v244 hn
                      have hlo_v244 : 94 ≤ b231 + 1 + 1 := by omega
                      have hR2_v244 := (congrFun (hX.2.1 b231 hb_b231).2.2 1).trans hR_v244
                      refine y_getR rfl ((hX.2.1 _ hb_b231).1.trans ht_b231) (Nat.lt_of_lt_of_le hb_b231 hX.1) rfl rfl hR2_v244 ?_
                      refine y_iload rfl rfl ?_
                      refine y_iaload rfl ((hX.2.1 _ hb_v244).1.trans ht_v244) (Nat.lt_of_lt_of_le hb_v244 hX.1) (by omega) (by omega) ?_
                      refine y_iload rfl rfl ?_
                      refine y_icmp_lt rfl j_X14_buyOut_142 (fun h_245 => ?_) (fun h_246 => ?_)
                      · refine y_iconst rfl ?_
                        refine y_goto rfl j_X14_buyOut_147 ?_
                        refine y_iconst rfl ?_
                        refine y_virt rfl rfl rfl rfl rfl (ySh.t hS rfl) (ySh.n hS rfl) ?_
                        refine y_in (M := xm_X14_refuse) (ls := [some _, some _, some _]) rfl rfl rfl ?_
                        refine y_iload_n rfl rfl ?_
                        refine y_if_eqF rfl (by decide) ?_
                        refine y_aload_n rfl rfl ?_
                        refine y_getIv (v := Int32.ofInt (0)) rfl (ySh.t hS rfl) (ySh.n hS rfl) rfl rfl hth ?_
                        refine y_if_neF rfl (by decide) ?_
                        refine y_aload_n rfl rfl ?_
                        refine y_iload_n rfl rfl ?_
                        refine y_putI rfl (ySh.t hS rfl) (ySh.n hS rfl) rfl (Nat.le_of_ble_eq_true rfl) rfl rfl ?_
                        refine y_nameI (fun I247 e247 => ?_)
                        have hR1 := (hR0.grow hX).mod0 e247 (by decide) (by decide)
                        have hK := (hK.x hRo hno hX).upI (upI e247) (by decide) (by decide) (fun i hi => by have := (hRo.l87.2.2.2.2 i hi).2.1; omega) (by rw [e247, upd2_ne (.inr (by decide))]; exact Int.le_refl _)
                        have hth : I247 83 0 = Int32.ofInt (3) := by rw [e247, upd2_self]
                        have hzz : ySz8 I224 I247 := ySz8_of (upI e247) (by rw [e247]; exact ⟨upd2_ne (.inr (by decide)), upd2_ne (.inr (by decide))⟩)
                        have hS0 := hS
                        have hR0 := hR1
                        have ht_b231 := (hX.2.1 _ hb_b231).1.trans ht_b231
                        have hb_b231 := Nat.lt_of_lt_of_le hb_b231 hX.1
                        have hb0_b231 := hb_b231
                        have ht_v236 := (hX.2.1 _ hb_v236).1.trans ht_v236
                        have hb_v236 := Nat.lt_of_lt_of_le hb_v236 hX.1
                        have hb0_v236 := hb_v236
                        have ht_v240 := (hX.2.1 _ hb_v240).1.trans ht_v240
                        have hb_v240 := Nat.lt_of_lt_of_le hb_v240 hX.1
                        have hb0_v240 := hb_v240
                        have ht_v244 := (hX.2.1 _ hb_v244).1.trans ht_v244
                        have hb_v244 := Nat.lt_of_lt_of_le hb_v244 hX.1
                        have hb0_v244 := hb_v244
                        have hn := Nat.le_refl n
                        have h94 := hS0.1
                        have hX := @yX.rf n tg I247 R
                        have hS := hS0.x hX
                        have hR := hR0.x hn hX
                        have hz := hX.sz h94
                        have hxn := hX.1
                        have hN := hR0.1
                        have hnb := hR0.2.2.2.2.2.2
                        have hthB := hth
                        refine y_aload_n rfl rfl ?_
                        refine y_getIv (v := Int32.ofInt (3)) rfl (ySh.t hS rfl) (ySh.n hS rfl) rfl rfl hth ?_
                        refine y_if_leF rfl (by decide) ?_
                        refine y_iconst rfl ?_
                        refine y_goto rfl j_X14_refuse_28 ?_
                        refine y_ireturn rfl rfl rfl ?_
                        refine y_ret1 ?_
                        refine y_if_eqF rfl (by decide) ?_
                        refine y_iconst rfl ?_
                        refine y_ireturn rfl rfl rfl ?_
                        exact hQ _ _ _ _ _ _ _ hS ((hR0.grow hX).up (Nat.le_succ K) hk6) (hK.x hRo hno hX) (by omega) (by omega)
                      · refine y_aload_n rfl rfl ?_
                        refine y_getR rfl (ySh.t hS rfl) (ySh.n hS rfl) rfl rfl (ySh.r hS rfl) ?_
                        refine y_iload rfl rfl ?_
                        refine y_iaload rfl (ySh.t hS rfl) (ySh.n hS rfl) (by omega) (by omega) ?_
                        refine y_iload rfl rfl ?_
                        refine y_icmp_ge rfl j_X14_buyOut_146 (fun h_248 => ?_) (fun h_249 => ?_)
                        · refine y_iconst rfl ?_
                          refine y_iconst rfl ?_
                          refine y_virt rfl rfl rfl rfl rfl (ySh.t hS rfl) (ySh.n hS rfl) ?_
                          refine y_in (M := xm_X14_refuse) (ls := [some _, some _, some _]) rfl rfl rfl ?_
                          refine y_iload_n rfl rfl ?_
                          refine y_if_eqT rfl j_X14_refuse_16 (by decide) ?_
                          refine y_aload_n rfl rfl ?_
                          refine y_getIv (v := Int32.ofInt (0)) rfl (ySh.t hS rfl) (ySh.n hS rfl) rfl rfl hth ?_
                          refine y_if_leT rfl j_X14_refuse_27 (by decide) ?_
                          refine y_iconst rfl ?_
                          refine y_ireturn rfl rfl rfl ?_
                          refine y_ret1 ?_
                          refine y_if_eqT rfl j_X14_buyOut_156 (by decide) ?_
                          refine y_aload rfl rfl ?_
                          obtain ⟨hR_v250, hb_v250, ht_v250⟩ := hR0.ven hlo_b231 hb0_b231 ht_b231 (j := 1) (by decide)
                          have hb0_v250 := hb_v250
                          have hb_v250 := Nat.lt_of_lt_of_le hb_v250 hn
                          have hlo_v250 : 94 ≤ b231 + 1 + 1 := by omega
                          have hR2_v250 := (congrFun (hX.2.1 b231 hb_b231).2.2 1).trans hR_v250
                          refine y_getR rfl ((hX.2.1 _ hb_b231).1.trans ht_b231) (Nat.lt_of_lt_of_le hb_b231 hX.1) rfl rfl hR2_v250 ?_
                          refine y_iload rfl rfl ?_
                          refine y_dup2 rfl rfl rfl ?_
                          refine y_iaload rfl ((hX.2.1 _ hb_v250).1.trans ht_v250) (Nat.lt_of_lt_of_le hb_v250 hX.1) (by omega) (by omega) ?_
                          refine y_iload rfl rfl ?_
                          refine y_isub rfl ?_
                          refine y_iastore rfl ((hX.2.1 _ hb_v250).1.trans ht_v250) (Nat.lt_of_lt_of_le hb_v250 hX.1) (Nat.le_trans (by decide) (by omega : 94 ≤ _)) (by omega) (by omega) ?_
                          refine y_nameI (fun I251 e251 => ?_)
                          have hB1 := (hR0.grow hX).capB1 hlo_b231 (by omega) ((hX.2.1 _ hb_b231).1.trans ht_b231) (by omega) ⟨by omega, by omega⟩ e251
                          have hR1 := hB1.1
                          have hK := (hK.x hRo hno hX).upE hRo hno (upI e251) (by omega) (by omega) (by rw [((hX.2.1 _ hb_v250).1.trans ht_v250)]; decide) (by rw [e251, upd2_ne (.inl (by omega))]; exact Int.le_refl _)
                          have hth := (show I251 83 0 = I224 83 0 by rw [e251, upd2_ne (.inl (by omega))]).trans hth
                          have hzz : ySz I224 I251 := ySz_ofE (upI e251) (by omega)
                          have hS0 := hS
                          have hR0 := hR1
                          have ht_b231 := (hX.2.1 _ hb_b231).1.trans ht_b231
                          have hb_b231 := Nat.lt_of_lt_of_le hb_b231 hX.1
                          have hb0_b231 := hb_b231
                          have ht_v236 := (hX.2.1 _ hb_v236).1.trans ht_v236
                          have hb_v236 := Nat.lt_of_lt_of_le hb_v236 hX.1
                          have hb0_v236 := hb_v236
                          have ht_v240 := (hX.2.1 _ hb_v240).1.trans ht_v240
                          have hb_v240 := Nat.lt_of_lt_of_le hb_v240 hX.1
                          have hb0_v240 := hb_v240
                          have ht_v244 := (hX.2.1 _ hb_v244).1.trans ht_v244
                          have hb_v244 := Nat.lt_of_lt_of_le hb_v244 hX.1
                          have hb0_v244 := hb_v244
                          have ht_v250 := (hX.2.1 _ hb_v250).1.trans ht_v250
                          have hb_v250 := Nat.lt_of_lt_of_le hb_v250 hX.1
                          have hb0_v250 := hb_v250
                          have hn := Nat.le_refl n
                          have h94 := hS0.1
                          have hX := @yX.rf n tg I251 R
                          have hS := hS0.x hX
                          have hR := hR0.x hn hX
                          have hz := hX.sz h94
                          have hxn := hX.1
                          have hN := hR0.1
                          have hnb := hR0.2.2.2.2.2.2
                          have hthB := hth
                          refine y_aload rfl rfl ?_
                          obtain ⟨hR_v252, hb_v252, ht_v252⟩ := hR0.ven hlo_b231 hb0_b231 ht_b231 (j := 1) (by decide)
                          have hb0_v252 := hb_v252
                          have hb_v252 := Nat.lt_of_lt_of_le hb_v252 hn
                          have hlo_v252 : 94 ≤ b231 + 1 + 1 := by omega
                          have hR2_v252 := (congrFun (hX.2.1 b231 hb_b231).2.2 1).trans hR_v252
                          refine y_getR rfl ((hX.2.1 _ hb_b231).1.trans ht_b231) (Nat.lt_of_lt_of_le hb_b231 hX.1) rfl rfl hR2_v252 ?_
                          refine y_iload rfl rfl ?_
                          refine y_dup2 rfl rfl rfl ?_
                          refine y_iaload rfl ((hX.2.1 _ hb_v252).1.trans ht_v252) (Nat.lt_of_lt_of_le hb_v252 hX.1) (by omega) (by omega) ?_
                          refine y_iload rfl rfl ?_
                          refine y_iadd rfl ?_
                          refine y_iastore rfl ((hX.2.1 _ hb_v252).1.trans ht_v252) (Nat.lt_of_lt_of_le hb_v252 hX.1) (Nat.le_trans (by decide) (by omega : 94 ≤ _)) (by omega) (by omega) ?_
                          refine y_nameI (fun I253 e253 => ?_)
                          have hR1 := (hR0.grow hX).capB2 hlo_b231 (by omega) ((hX.2.1 _ hb_b231).1.trans ht_b231) (by omega) (by omega) hB1.2.1 e253
                          have hK := (hK.x hRo hno hX).upE hRo hno (upI e253) (by omega) (by omega) (by rw [((hX.2.1 _ hb_v252).1.trans ht_v252)]; decide) (by rw [e253, upd2_ne (.inl (by omega))]; exact Int.le_refl _)
                          have hth := (show I253 83 0 = I251 83 0 by rw [e253, upd2_ne (.inl (by omega))]).trans hth
                          have hzz : ySz I251 I253 := ySz_ofE (upI e253) (by omega)
                          have hS0 := hS
                          have hR0 := hR1
                          have ht_b231 := (hX.2.1 _ hb_b231).1.trans ht_b231
                          have hb_b231 := Nat.lt_of_lt_of_le hb_b231 hX.1
                          have hb0_b231 := hb_b231
                          have ht_v236 := (hX.2.1 _ hb_v236).1.trans ht_v236
                          have hb_v236 := Nat.lt_of_lt_of_le hb_v236 hX.1
                          have hb0_v236 := hb_v236
                          have ht_v240 := (hX.2.1 _ hb_v240).1.trans ht_v240
                          have hb_v240 := Nat.lt_of_lt_of_le hb_v240 hX.1
                          have hb0_v240 := hb_v240
                          have ht_v244 := (hX.2.1 _ hb_v244).1.trans ht_v244
                          have hb_v244 := Nat.lt_of_lt_of_le hb_v244 hX.1
                          have hb0_v244 := hb_v244
                          have ht_v250 := (hX.2.1 _ hb_v250).1.trans ht_v250
                          have hb_v250 := Nat.lt_of_lt_of_le hb_v250 hX.1
                          have hb0_v250 := hb_v250
                          have ht_v252 := (hX.2.1 _ hb_v252).1.trans ht_v252
                          have hb_v252 := Nat.lt_of_lt_of_le hb_v252 hX.1
                          have hb0_v252 := hb_v252
                          have hn := Nat.le_refl n
                          have h94 := hS0.1
                          have hX := @yX.rf n tg I253 R
                          have hS := hS0.x hX
                          have hR := hR0.x hn hX
                          have hz := hX.sz h94
                          have hxn := hX.1
                          have hN := hR0.1
                          have hnb := hR0.2.2.2.2.2.2
                          have hthB := hth
                          refine y_aload_n rfl rfl ?_
                          refine y_getR rfl (ySh.t hS rfl) (ySh.n hS rfl) rfl rfl (ySh.r hS rfl) ?_
                          refine y_iload rfl rfl ?_
                          refine y_dup2 rfl rfl rfl ?_
                          refine y_iaload rfl (ySh.t hS rfl) (ySh.n hS rfl) (by omega) (by omega) ?_
                          refine y_iload rfl rfl ?_
                          refine y_iadd rfl ?_
                          refine y_iastore rfl (ySh.t hS rfl) (ySh.n hS rfl) (Nat.le_of_ble_eq_true rfl) (by omega) (by omega) ?_
                          refine y_nameI (fun I254 e254 => ?_)
                          have hR1 := (hR0.grow hX).arr e254 (by decide)
                          have hK := (hK.x hRo hno hX).upI (upI e254) (by decide) (by decide) (fun i hi => by have := (hRo.l87.2.2.2.2 i hi).2.1; omega) (by rw [e254, upd2_ne (.inl (by omega))]; exact Int.le_refl _)
                          have hth := (show I254 83 0 = I253 83 0 by rw [e254, upd2_ne (.inl (by omega))]).trans hth
                          have hzz : ySz I253 I254 := ySz_ofE (upI e254) (by omega)
                          have hS0 := hS
                          have hR0 := hR1
                          have ht_b231 := (hX.2.1 _ hb_b231).1.trans ht_b231
                          have hb_b231 := Nat.lt_of_lt_of_le hb_b231 hX.1
                          have hb0_b231 := hb_b231
                          have ht_v236 := (hX.2.1 _ hb_v236).1.trans ht_v236
                          have hb_v236 := Nat.lt_of_lt_of_le hb_v236 hX.1
                          have hb0_v236 := hb_v236
                          have ht_v240 := (hX.2.1 _ hb_v240).1.trans ht_v240
                          have hb_v240 := Nat.lt_of_lt_of_le hb_v240 hX.1
                          have hb0_v240 := hb_v240
                          have ht_v244 := (hX.2.1 _ hb_v244).1.trans ht_v244
                          have hb_v244 := Nat.lt_of_lt_of_le hb_v244 hX.1
                          have hb0_v244 := hb_v244
                          have ht_v250 := (hX.2.1 _ hb_v250).1.trans ht_v250
                          have hb_v250 := Nat.lt_of_lt_of_le hb_v250 hX.1
                          have hb0_v250 := hb_v250
                          have ht_v252 := (hX.2.1 _ hb_v252).1.trans ht_v252
                          have hb_v252 := Nat.lt_of_lt_of_le hb_v252 hX.1
                          have hb0_v252 := hb_v252
                          have hn := Nat.le_refl n
                          have h94 := hS0.1
                          have hX := @yX.rf n tg I254 R
                          have hS := hS0.x hX
                          have hR := hR0.x hn hX
                          have hz := hX.sz h94
                          have hxn := hX.1
                          have hN := hR0.1
                          have hnb := hR0.2.2.2.2.2.2
                          have hthB := hth
                          refine y_aload_n rfl rfl ?_
                          refine y_getR rfl (ySh.t hS rfl) (ySh.n hS rfl) rfl rfl (ySh.r hS rfl) ?_
                          refine y_iload rfl rfl ?_
                          refine y_dup2 rfl rfl rfl ?_
                          refine y_iaload rfl (ySh.t hS rfl) (ySh.n hS rfl) (by omega) (by omega) ?_
                          refine y_iload rfl rfl ?_
                          refine y_isub rfl ?_
                          refine y_iastore rfl (ySh.t hS rfl) (ySh.n hS rfl) (Nat.le_of_ble_eq_true rfl) (by omega) (by omega) ?_
                          refine y_nameI (fun I255 e255 => ?_)
                          have hR1 := (hR0.grow hX).arr e255 (by decide)
                          have hK := (hK.x hRo hno hX).upI (upI e255) (by decide) (by decide) (fun i hi => by have := (hRo.l87.2.2.2.2 i hi).2.1; omega) (by rw [e255, upd2_ne (.inl (by omega))]; exact Int.le_refl _)
                          have hth := (show I255 83 0 = I254 83 0 by rw [e255, upd2_ne (.inl (by omega))]).trans hth
                          have hzz : ySz I254 I255 := ySz_ofE (upI e255) (by omega)
                          have hS0 := hS
                          have hR0 := hR1
                          have ht_b231 := (hX.2.1 _ hb_b231).1.trans ht_b231
                          have hb_b231 := Nat.lt_of_lt_of_le hb_b231 hX.1
                          have hb0_b231 := hb_b231
                          have ht_v236 := (hX.2.1 _ hb_v236).1.trans ht_v236
                          have hb_v236 := Nat.lt_of_lt_of_le hb_v236 hX.1
                          have hb0_v236 := hb_v236
                          have ht_v240 := (hX.2.1 _ hb_v240).1.trans ht_v240
                          have hb_v240 := Nat.lt_of_lt_of_le hb_v240 hX.1
                          have hb0_v240 := hb_v240
                          have ht_v244 := (hX.2.1 _ hb_v244).1.trans ht_v244
                          have hb_v244 := Nat.lt_of_lt_of_le hb_v244 hX.1
                          have hb0_v244 := hb_v244
                          have ht_v250 := (hX.2.1 _ hb_v250).1.trans ht_v250
                          have hb_v250 := Nat.lt_of_lt_of_le hb_v250 hX.1
                          have hb0_v250 := hb_v250
                          have ht_v252 := (hX.2.1 _ hb_v252).1.trans ht_v252
                          have hb_v252 := Nat.lt_of_lt_of_le hb_v252 hX.1
                          have hb0_v252 := hb_v252
                          have hn := Nat.le_refl n
                          have h94 := hS0.1
                          have hX := @yX.rf n tg I255 R
                          have hS := hS0.x hX
                          have hR := hR0.x hn hX
                          have hz := hX.sz h94
                          have hxn := hX.1
                          have hN := hR0.1
                          have hnb := hR0.2.2.2.2.2.2
                          have hthB := hth
                          refine y_aload rfl rfl ?_
                          obtain ⟨hR_v256, hb_v256, ht_v256⟩ := hR0.ven hlo_b231 hb0_b231 ht_b231 (j := 1) (by decide)
                          have hb0_v256 := hb_v256
                          have hb_v256 := Nat.lt_of_lt_of_le hb_v256 hn
                          have hlo_v256 : 94 ≤ b231 + 1 + 1 := by omega
                          have hR2_v256 := (congrFun (hX.2.1 b231 hb_b231).2.2 1).trans hR_v256
                          refine y_getR rfl ((hX.2.1 _ hb_b231).1.trans ht_b231) (Nat.lt_of_lt_of_le hb_b231 hX.1) rfl rfl hR2_v256 ?_
                          refine y_iload rfl rfl ?_
                          refine y_iaload rfl ((hX.2.1 _ hb_v256).1.trans ht_v256) (Nat.lt_of_lt_of_le hb_v256 hX.1) (by omega) (by omega) ?_
                          refine y_ireturn rfl rfl rfl ?_
                          exact hQ _ _ _ _ _ _ _ hS ((hR0.grow hX).up (Nat.le_succ K) hk6) (hK.x hRo hno hX) (by omega) (by omega)
                        · refine y_iconst rfl ?_
                          refine y_goto rfl j_X14_buyOut_147 ?_
                          refine y_iconst rfl ?_
                          refine y_virt rfl rfl rfl rfl rfl (ySh.t hS rfl) (ySh.n hS rfl) ?_
                          refine y_in (M := xm_X14_refuse) (ls := [some _, some _, some _]) rfl rfl rfl ?_
                          refine y_iload_n rfl rfl ?_
                          refine y_if_eqF rfl (by decide) ?_
                          refine y_aload_n rfl rfl ?_
                          refine y_getIv (v := Int32.ofInt (0)) rfl (ySh.t hS rfl) (ySh.n hS rfl) rfl rfl hth ?_
                          refine y_if_neF rfl (by decide) ?_
                          refine y_aload_n rfl rfl ?_
                          refine y_iload_n rfl rfl ?_
                          refine y_putI rfl (ySh.t hS rfl) (ySh.n hS rfl) rfl (Nat.le_of_ble_eq_true rfl) rfl rfl ?_
                          refine y_nameI (fun I257 e257 => ?_)
                          have hR1 := (hR0.grow hX).mod0 e257 (by decide) (by decide)
                          have hK := (hK.x hRo hno hX).upI (upI e257) (by decide) (by decide) (fun i hi => by have := (hRo.l87.2.2.2.2 i hi).2.1; omega) (by rw [e257, upd2_ne (.inr (by decide))]; exact Int.le_refl _)
                          have hth : I257 83 0 = Int32.ofInt (3) := by rw [e257, upd2_self]
                          have hzz : ySz8 I224 I257 := ySz8_of (upI e257) (by rw [e257]; exact ⟨upd2_ne (.inr (by decide)), upd2_ne (.inr (by decide))⟩)
                          have hS0 := hS
                          have hR0 := hR1
                          have ht_b231 := (hX.2.1 _ hb_b231).1.trans ht_b231
                          have hb_b231 := Nat.lt_of_lt_of_le hb_b231 hX.1
                          have hb0_b231 := hb_b231
                          have ht_v236 := (hX.2.1 _ hb_v236).1.trans ht_v236
                          have hb_v236 := Nat.lt_of_lt_of_le hb_v236 hX.1
                          have hb0_v236 := hb_v236
                          have ht_v240 := (hX.2.1 _ hb_v240).1.trans ht_v240
                          have hb_v240 := Nat.lt_of_lt_of_le hb_v240 hX.1
                          have hb0_v240 := hb_v240
                          have ht_v244 := (hX.2.1 _ hb_v244).1.trans ht_v244
                          have hb_v244 := Nat.lt_of_lt_of_le hb_v244 hX.1
                          have hb0_v244 := hb_v244
                          have hn := Nat.le_refl n
                          have h94 := hS0.1
                          have hX := @yX.rf n tg I257 R
                          have hS := hS0.x hX
                          have hR := hR0.x hn hX
                          have hz := hX.sz h94
                          have hxn := hX.1
                          have hN := hR0.1
                          have hnb := hR0.2.2.2.2.2.2
                          have hthB := hth
                          refine y_aload_n rfl rfl ?_
                          refine y_getIv (v := Int32.ofInt (3)) rfl (ySh.t hS rfl) (ySh.n hS rfl) rfl rfl hth ?_
                          refine y_if_leF rfl (by decide) ?_
                          refine y_iconst rfl ?_
                          refine y_goto rfl j_X14_refuse_28 ?_
                          refine y_ireturn rfl rfl rfl ?_
                          refine y_ret1 ?_
                          refine y_if_eqF rfl (by decide) ?_
                          refine y_iconst rfl ?_
                          refine y_ireturn rfl rfl rfl ?_
                          exact hQ _ _ _ _ _ _ _ hS ((hR0.grow hX).up (Nat.le_succ K) hk6) (hK.x hRo hno hX) (by omega) (by omega)
                · rw [yz_m1] at h_235
                  refine y_bip rfl (by decide) ?_
                  refine y_goto rfl j_X14_seat_11 ?_
                  refine y_ireturn rfl rfl rfl ?_
                  refine y_ret1 ?_
                  refine y_istore (ls' := [some _, some _, some _, some _, some _, some _, some _, some _]) rfl rfl rfl ?_
                  refine y_aload_n rfl rfl ?_
                  refine y_aload rfl rfl ?_
                  obtain ⟨hR_v258, hb_v258, ht_v258⟩ := hR0.ven hlo_b231 hb0_b231 ht_b231 (j := 0) (by decide)
                  have hb0_v258 := hb_v258
                  have hb_v258 := Nat.lt_of_lt_of_le hb_v258 hn
                  have hlo_v258 : 94 ≤ b231 + 1 + 0 := by omega
                  have hR2_v258 := (congrFun (hX.2.1 b231 hb_b231).2.2 0).trans hR_v258
                  refine y_getR rfl ((hX.2.1 _ hb_b231).1.trans ht_b231) (Nat.lt_of_lt_of_le hb_b231 hX.1) rfl rfl hR2_v258 ?_
                  refine y_iload rfl rfl ?_
                  refine y_baload rfl ((hX.2.1 _ hb_v258).1.trans ht_v258) rfl (Nat.lt_of_lt_of_le hb_v258 hX.1) (by omega) (by omega) ?_
                  refine y_if_eq rfl j_X14_buyOut_142 (fun h_259 => ?_) (fun h_260 => ?_)
                  · refine y_iconst rfl ?_
                    refine y_goto rfl j_X14_buyOut_147 ?_
                    refine y_iconst rfl ?_
                    refine y_virt rfl rfl rfl rfl rfl (ySh.t hS rfl) (ySh.n hS rfl) ?_
                    refine y_in (M := xm_X14_refuse) (ls := [some _, some _, some _]) rfl rfl rfl ?_
                    refine y_iload_n rfl rfl ?_
                    refine y_if_eqF rfl (by decide) ?_
                    refine y_aload_n rfl rfl ?_
                    refine y_getIv (v := Int32.ofInt (0)) rfl (ySh.t hS rfl) (ySh.n hS rfl) rfl rfl hth ?_
                    refine y_if_neF rfl (by decide) ?_
                    refine y_aload_n rfl rfl ?_
                    refine y_iload_n rfl rfl ?_
                    refine y_putI rfl (ySh.t hS rfl) (ySh.n hS rfl) rfl (Nat.le_of_ble_eq_true rfl) rfl rfl ?_
                    refine y_nameI (fun I261 e261 => ?_)
                    have hR1 := (hR0.grow hX).mod0 e261 (by decide) (by decide)
                    have hK := (hK.x hRo hno hX).upI (upI e261) (by decide) (by decide) (fun i hi => by have := (hRo.l87.2.2.2.2 i hi).2.1; omega) (by rw [e261, upd2_ne (.inr (by decide))]; exact Int.le_refl _)
                    have hth : I261 83 0 = Int32.ofInt (3) := by rw [e261, upd2_self]
                    have hzz : ySz8 I224 I261 := ySz8_of (upI e261) (by rw [e261]; exact ⟨upd2_ne (.inr (by decide)), upd2_ne (.inr (by decide))⟩)
                    have hS0 := hS
                    have hR0 := hR1
                    have ht_b231 := (hX.2.1 _ hb_b231).1.trans ht_b231
                    have hb_b231 := Nat.lt_of_lt_of_le hb_b231 hX.1
                    have hb0_b231 := hb_b231
                    have ht_v258 := (hX.2.1 _ hb_v258).1.trans ht_v258
                    have hb_v258 := Nat.lt_of_lt_of_le hb_v258 hX.1
                    have hb0_v258 := hb_v258
                    have hn := Nat.le_refl n
                    have h94 := hS0.1
                    have hX := @yX.rf n tg I261 R
                    have hS := hS0.x hX
                    have hR := hR0.x hn hX
                    have hz := hX.sz h94
                    have hxn := hX.1
                    have hN := hR0.1
                    have hnb := hR0.2.2.2.2.2.2
                    have hthB := hth
                    refine y_aload_n rfl rfl ?_
                    refine y_getIv (v := Int32.ofInt (3)) rfl (ySh.t hS rfl) (ySh.n hS rfl) rfl rfl hth ?_
                    refine y_if_leF rfl (by decide) ?_
                    refine y_iconst rfl ?_
                    refine y_goto rfl j_X14_refuse_28 ?_
                    refine y_ireturn rfl rfl rfl ?_
                    refine y_ret1 ?_
                    refine y_if_eqF rfl (by decide) ?_
                    refine y_iconst rfl ?_
                    refine y_ireturn rfl rfl rfl ?_
                    exact hQ _ _ _ _ _ _ _ hS ((hR0.grow hX).up (Nat.le_succ K) hk6) (hK.x hRo hno hX) (by omega) (by omega)
                  · refine y_aload rfl rfl ?_
                    obtain ⟨hR_v262, hb_v262, ht_v262⟩ := hR0.ven hlo_b231 hb0_b231 ht_b231 (j := 0) (by decide)
                    have hb0_v262 := hb_v262
                    have hb_v262 := Nat.lt_of_lt_of_le hb_v262 hn
                    have hlo_v262 : 94 ≤ b231 + 1 + 0 := by omega
                    have hR2_v262 := (congrFun (hX.2.1 b231 hb_b231).2.2 0).trans hR_v262
                    refine y_getR rfl ((hX.2.1 _ hb_b231).1.trans ht_b231) (Nat.lt_of_lt_of_le hb_b231 hX.1) rfl rfl hR2_v262 ?_
                    refine y_iload rfl rfl ?_
                    refine y_baload rfl ((hX.2.1 _ hb_v262).1.trans ht_v262) rfl (Nat.lt_of_lt_of_le hb_v262 hX.1) (by decide) (by decide) ?_
                    refine y_if_eq rfl j_X14_buyOut_142 (fun h_263 => ?_) (fun h_264 => ?_)
                    · refine y_iconst rfl ?_
                      refine y_goto rfl j_X14_buyOut_147 ?_
                      refine y_iconst rfl ?_
                      refine y_virt rfl rfl rfl rfl rfl (ySh.t hS rfl) (ySh.n hS rfl) ?_
                      refine y_in (M := xm_X14_refuse) (ls := [some _, some _, some _]) rfl rfl rfl ?_
                      refine y_iload_n rfl rfl ?_
                      refine y_if_eqF rfl (by decide) ?_
                      refine y_aload_n rfl rfl ?_
                      refine y_getIv (v := Int32.ofInt (0)) rfl (ySh.t hS rfl) (ySh.n hS rfl) rfl rfl hth ?_
                      refine y_if_neF rfl (by decide) ?_
                      refine y_aload_n rfl rfl ?_
                      refine y_iload_n rfl rfl ?_
                      refine y_putI rfl (ySh.t hS rfl) (ySh.n hS rfl) rfl (Nat.le_of_ble_eq_true rfl) rfl rfl ?_
                      refine y_nameI (fun I265 e265 => ?_)
                      have hR1 := (hR0.grow hX).mod0 e265 (by decide) (by decide)
                      have hK := (hK.x hRo hno hX).upI (upI e265) (by decide) (by decide) (fun i hi => by have := (hRo.l87.2.2.2.2 i hi).2.1; omega) (by rw [e265, upd2_ne (.inr (by decide))]; exact Int.le_refl _)
                      have hth : I265 83 0 = Int32.ofInt (3) := by rw [e265, upd2_self]
                      have hzz : ySz8 I224 I265 := ySz8_of (upI e265) (by rw [e265]; exact ⟨upd2_ne (.inr (by decide)), upd2_ne (.inr (by decide))⟩)
                      have hS0 := hS
                      have hR0 := hR1
                      have ht_b231 := (hX.2.1 _ hb_b231).1.trans ht_b231
                      have hb_b231 := Nat.lt_of_lt_of_le hb_b231 hX.1
                      have hb0_b231 := hb_b231
                      have ht_v258 := (hX.2.1 _ hb_v258).1.trans ht_v258
                      have hb_v258 := Nat.lt_of_lt_of_le hb_v258 hX.1
                      have hb0_v258 := hb_v258
                      have ht_v262 := (hX.2.1 _ hb_v262).1.trans ht_v262
                      have hb_v262 := Nat.lt_of_lt_of_le hb_v262 hX.1
                      have hb0_v262 := hb_v262
                      have hn := Nat.le_refl n
                      have h94 := hS0.1
                      have hX := @yX.rf n tg I265 R
                      have hS := hS0.x hX
                      have hR := hR0.x hn hX
                      have hz := hX.sz h94
                      have hxn := hX.1
                      have hN := hR0.1
                      have hnb := hR0.2.2.2.2.2.2
                      have hthB := hth
                      refine y_aload_n rfl rfl ?_
                      refine y_getIv (v := Int32.ofInt (3)) rfl (ySh.t hS rfl) (ySh.n hS rfl) rfl rfl hth ?_
                      refine y_if_leF rfl (by decide) ?_
                      refine y_iconst rfl ?_
                      refine y_goto rfl j_X14_refuse_28 ?_
                      refine y_ireturn rfl rfl rfl ?_
                      refine y_ret1 ?_
                      refine y_if_eqF rfl (by decide) ?_
                      refine y_iconst rfl ?_
                      refine y_ireturn rfl rfl rfl ?_
                      exact hQ _ _ _ _ _ _ _ hS ((hR0.grow hX).up (Nat.le_succ K) hk6) (hK.x hRo hno hX) (by omega) (by omega)
                    · refine y_aload rfl rfl ?_
                      obtain ⟨hR_v266, hb_v266, ht_v266⟩ := hR0.ven hlo_b231 hb0_b231 ht_b231 (j := 1) (by decide)
                      have hb0_v266 := hb_v266
                      have hb_v266 := Nat.lt_of_lt_of_le hb_v266 hn
                      have hlo_v266 : 94 ≤ b231 + 1 + 1 := by omega
                      have hR2_v266 := (congrFun (hX.2.1 b231 hb_b231).2.2 1).trans hR_v266
                      refine y_getR rfl ((hX.2.1 _ hb_b231).1.trans ht_b231) (Nat.lt_of_lt_of_le hb_b231 hX.1) rfl rfl hR2_v266 ?_
                      refine y_iload rfl rfl ?_
                      refine y_iaload rfl ((hX.2.1 _ hb_v266).1.trans ht_v266) (Nat.lt_of_lt_of_le hb_v266 hX.1) (by omega) (by omega) ?_
                      refine y_iload rfl rfl ?_
                      refine y_icmp_lt rfl j_X14_buyOut_142 (fun h_267 => ?_) (fun h_268 => ?_)
                      · refine y_iconst rfl ?_
                        refine y_goto rfl j_X14_buyOut_147 ?_
                        refine y_iconst rfl ?_
                        refine y_virt rfl rfl rfl rfl rfl (ySh.t hS rfl) (ySh.n hS rfl) ?_
                        refine y_in (M := xm_X14_refuse) (ls := [some _, some _, some _]) rfl rfl rfl ?_
                        refine y_iload_n rfl rfl ?_
                        refine y_if_eqF rfl (by decide) ?_
                        refine y_aload_n rfl rfl ?_
                        refine y_getIv (v := Int32.ofInt (0)) rfl (ySh.t hS rfl) (ySh.n hS rfl) rfl rfl hth ?_
                        refine y_if_neF rfl (by decide) ?_
                        refine y_aload_n rfl rfl ?_
                        refine y_iload_n rfl rfl ?_
                        refine y_putI rfl (ySh.t hS rfl) (ySh.n hS rfl) rfl (Nat.le_of_ble_eq_true rfl) rfl rfl ?_
                        refine y_nameI (fun I269 e269 => ?_)
                        have hR1 := (hR0.grow hX).mod0 e269 (by decide) (by decide)
                        have hK := (hK.x hRo hno hX).upI (upI e269) (by decide) (by decide) (fun i hi => by have := (hRo.l87.2.2.2.2 i hi).2.1; omega) (by rw [e269, upd2_ne (.inr (by decide))]; exact Int.le_refl _)
                        have hth : I269 83 0 = Int32.ofInt (3) := by rw [e269, upd2_self]
                        have hzz : ySz8 I224 I269 := ySz8_of (upI e269) (by rw [e269]; exact ⟨upd2_ne (.inr (by decide)), upd2_ne (.inr (by decide))⟩)
                        have hS0 := hS
                        have hR0 := hR1
                        have ht_b231 := (hX.2.1 _ hb_b231).1.trans ht_b231
                        have hb_b231 := Nat.lt_of_lt_of_le hb_b231 hX.1
                        have hb0_b231 := hb_b231
                        have ht_v258 := (hX.2.1 _ hb_v258).1.trans ht_v258
                        have hb_v258 := Nat.lt_of_lt_of_le hb_v258 hX.1
                        have hb0_v258 := hb_v258
                        have ht_v262 := (hX.2.1 _ hb_v262).1.trans ht_v262
                        have hb_v262 := Nat.lt_of_lt_of_le hb_v262 hX.1
                        have hb0_v262 := hb_v262
                        have ht_v266 := (hX.2.1 _ hb_v266).1.trans ht_v266
                        have hb_v266 := Nat.lt_of_lt_of_le hb_v266 hX.1
                        have hb0_v266 := hb_v266
                        have hn := Nat.le_refl n
                        have h94 := hS0.1
                        have hX := @yX.rf n tg I269 R
                        have hS := hS0.x hX
                        have hR := hR0.x hn hX
                        have hz := hX.sz h94
                        have hxn := hX.1
                        have hN := hR0.1
                        have hnb := hR0.2.2.2.2.2.2
                        have hthB := hth
                        refine y_aload_n rfl rfl ?_
                        refine y_getIv (v := Int32.ofInt (3)) rfl (ySh.t hS rfl) (ySh.n hS rfl) rfl rfl hth ?_
                        refine y_if_leF rfl (by decide) ?_
                        refine y_iconst rfl ?_
                        refine y_goto rfl j_X14_refuse_28 ?_
                        refine y_ireturn rfl rfl rfl ?_
                        refine y_ret1 ?_
                        refine y_if_eqF rfl (by decide) ?_
                        refine y_iconst rfl ?_
                        refine y_ireturn rfl rfl rfl ?_
                        exact hQ _ _ _ _ _ _ _ hS ((hR0.grow hX).up (Nat.le_succ K) hk6) (hK.x hRo hno hX) (by omega) (by omega)
                      · refine y_aload_n rfl rfl ?_
                        refine y_getR rfl (ySh.t hS rfl) (ySh.n hS rfl) rfl rfl (ySh.r hS rfl) ?_
                        refine y_iload rfl rfl ?_
                        refine y_ialoadC (j := 8) rfl (ySh.t hS rfl) (ySh.n hS rfl) (by decide) (by decide) rfl ?_
                        refine y_iload rfl rfl ?_
                        refine y_icmp_ge rfl j_X14_buyOut_146 (fun h_270 => ?_) (fun h_271 => ?_)
                        · refine y_iconst rfl ?_
                          refine y_iconst rfl ?_
                          refine y_virt rfl rfl rfl rfl rfl (ySh.t hS rfl) (ySh.n hS rfl) ?_
                          refine y_in (M := xm_X14_refuse) (ls := [some _, some _, some _]) rfl rfl rfl ?_
                          refine y_iload_n rfl rfl ?_
                          refine y_if_eqT rfl j_X14_refuse_16 (by decide) ?_
                          refine y_aload_n rfl rfl ?_
                          refine y_getIv (v := Int32.ofInt (0)) rfl (ySh.t hS rfl) (ySh.n hS rfl) rfl rfl hth ?_
                          refine y_if_leT rfl j_X14_refuse_27 (by decide) ?_
                          refine y_iconst rfl ?_
                          refine y_ireturn rfl rfl rfl ?_
                          refine y_ret1 ?_
                          refine y_if_eqT rfl j_X14_buyOut_156 (by decide) ?_
                          refine y_aload rfl rfl ?_
                          obtain ⟨hR_v272, hb_v272, ht_v272⟩ := hR0.ven hlo_b231 hb0_b231 ht_b231 (j := 1) (by decide)
                          have hb0_v272 := hb_v272
                          have hb_v272 := Nat.lt_of_lt_of_le hb_v272 hn
                          have hlo_v272 : 94 ≤ b231 + 1 + 1 := by omega
                          have hR2_v272 := (congrFun (hX.2.1 b231 hb_b231).2.2 1).trans hR_v272
                          refine y_getR rfl ((hX.2.1 _ hb_b231).1.trans ht_b231) (Nat.lt_of_lt_of_le hb_b231 hX.1) rfl rfl hR2_v272 ?_
                          refine y_iload rfl rfl ?_
                          refine y_dup2 rfl rfl rfl ?_
                          refine y_iaload rfl ((hX.2.1 _ hb_v272).1.trans ht_v272) (Nat.lt_of_lt_of_le hb_v272 hX.1) (by omega) (by omega) ?_
                          refine y_iload rfl rfl ?_
                          refine y_isub rfl ?_
                          refine y_iastore rfl ((hX.2.1 _ hb_v272).1.trans ht_v272) (Nat.lt_of_lt_of_le hb_v272 hX.1) (Nat.le_trans (by decide) (by omega : 94 ≤ _)) (by omega) (by omega) ?_
                          refine y_nameI (fun I273 e273 => ?_)
                          have hB1 := (hR0.grow hX).capB1 hlo_b231 (by omega) ((hX.2.1 _ hb_b231).1.trans ht_b231) (by omega) ⟨by omega, by omega⟩ e273
                          have hR1 := hB1.1
                          have hK := (hK.x hRo hno hX).upE hRo hno (upI e273) (by omega) (by omega) (by rw [((hX.2.1 _ hb_v272).1.trans ht_v272)]; decide) (by rw [e273, upd2_ne (.inl (by omega))]; exact Int.le_refl _)
                          have hth := (show I273 83 0 = I224 83 0 by rw [e273, upd2_ne (.inl (by omega))]).trans hth
                          have hzz : ySz I224 I273 := ySz_ofE (upI e273) (by omega)
                          have hS0 := hS
                          have hR0 := hR1
                          have ht_b231 := (hX.2.1 _ hb_b231).1.trans ht_b231
                          have hb_b231 := Nat.lt_of_lt_of_le hb_b231 hX.1
                          have hb0_b231 := hb_b231
                          have ht_v258 := (hX.2.1 _ hb_v258).1.trans ht_v258
                          have hb_v258 := Nat.lt_of_lt_of_le hb_v258 hX.1
                          have hb0_v258 := hb_v258
                          have ht_v262 := (hX.2.1 _ hb_v262).1.trans ht_v262
                          have hb_v262 := Nat.lt_of_lt_of_le hb_v262 hX.1
                          have hb0_v262 := hb_v262
                          have ht_v266 := (hX.2.1 _ hb_v266).1.trans ht_v266
                          have hb_v266 := Nat.lt_of_lt_of_le hb_v266 hX.1
                          have hb0_v266 := hb_v266
                          have ht_v272 := (hX.2.1 _ hb_v272).1.trans ht_v272
                          have hb_v272 := Nat.lt_of_lt_of_le hb_v272 hX.1
                          have hb0_v272 := hb_v272
                          have hn := Nat.le_refl n
                          have h94 := hS0.1
                          have hX := @yX.rf n tg I273 R
                          have hS := hS0.x hX
                          have hR := hR0.x hn hX
                          have hz := hX.sz h94
                          have hxn := hX.1
                          have hN := hR0.1
                          have hnb := hR0.2.2.2.2.2.2
                          have hthB := hth
                          refine y_aload rfl rfl ?_
                          obtain ⟨hR_v274, hb_v274, ht_v274⟩ := hR0.ven hlo_b231 hb0_b231 ht_b231 (j := 1) (by decide)
                          have hb0_v274 := hb_v274
                          have hb_v274 := Nat.lt_of_lt_of_le hb_v274 hn
                          have hlo_v274 : 94 ≤ b231 + 1 + 1 := by omega
                          have hR2_v274 := (congrFun (hX.2.1 b231 hb_b231).2.2 1).trans hR_v274
                          refine y_getR rfl ((hX.2.1 _ hb_b231).1.trans ht_b231) (Nat.lt_of_lt_of_le hb_b231 hX.1) rfl rfl hR2_v274 ?_
                          refine y_iload rfl rfl ?_
                          refine y_dup2 rfl rfl rfl ?_
                          refine y_ialoadC (j := 8) rfl ((hX.2.1 _ hb_v274).1.trans ht_v274) (Nat.lt_of_lt_of_le hb_v274 hX.1) (by decide) (by decide) rfl ?_
                          refine y_iload rfl rfl ?_
                          refine y_iadd rfl ?_
                          refine y_iastoreC (j := 8) rfl ((hX.2.1 _ hb_v274).1.trans ht_v274) (Nat.lt_of_lt_of_le hb_v274 hX.1) (Nat.le_trans (by decide) (by omega : 94 ≤ _)) (by decide) (by decide) rfl ?_
                          refine y_nameI (fun I275 e275 => ?_)
                          have hR1 := (hR0.grow hX).capB2 hlo_b231 (by omega) ((hX.2.1 _ hb_b231).1.trans ht_b231) (by omega) (by omega) hB1.2.1 e275
                          have hK := (hK.x hRo hno hX).upE hRo hno (upI e275) (by omega) (by omega) (by rw [((hX.2.1 _ hb_v274).1.trans ht_v274)]; decide) (by rw [e275, upd2_ne (.inl (by omega))]; exact Int.le_refl _)
                          have hth := (show I275 83 0 = I273 83 0 by rw [e275, upd2_ne (.inl (by omega))]).trans hth
                          have hzz : ySz I273 I275 := ySz_ofE (upI e275) (by omega)
                          have hS0 := hS
                          have hR0 := hR1
                          have ht_b231 := (hX.2.1 _ hb_b231).1.trans ht_b231
                          have hb_b231 := Nat.lt_of_lt_of_le hb_b231 hX.1
                          have hb0_b231 := hb_b231
                          have ht_v258 := (hX.2.1 _ hb_v258).1.trans ht_v258
                          have hb_v258 := Nat.lt_of_lt_of_le hb_v258 hX.1
                          have hb0_v258 := hb_v258
                          have ht_v262 := (hX.2.1 _ hb_v262).1.trans ht_v262
                          have hb_v262 := Nat.lt_of_lt_of_le hb_v262 hX.1
                          have hb0_v262 := hb_v262
                          have ht_v266 := (hX.2.1 _ hb_v266).1.trans ht_v266
                          have hb_v266 := Nat.lt_of_lt_of_le hb_v266 hX.1
                          have hb0_v266 := hb_v266
                          have ht_v272 := (hX.2.1 _ hb_v272).1.trans ht_v272
                          have hb_v272 := Nat.lt_of_lt_of_le hb_v272 hX.1
                          have hb0_v272 := hb_v272
                          have ht_v274 := (hX.2.1 _ hb_v274).1.trans ht_v274
                          have hb_v274 := Nat.lt_of_lt_of_le hb_v274 hX.1
                          have hb0_v274 := hb_v274
                          have hn := Nat.le_refl n
                          have h94 := hS0.1
                          have hX := @yX.rf n tg I275 R
                          have hS := hS0.x hX
                          have hR := hR0.x hn hX
                          have hz := hX.sz h94
                          have hxn := hX.1
                          have hN := hR0.1
                          have hnb := hR0.2.2.2.2.2.2
                          have hthB := hth
                          refine y_aload_n rfl rfl ?_
                          refine y_getR rfl (ySh.t hS rfl) (ySh.n hS rfl) rfl rfl (ySh.r hS rfl) ?_
                          refine y_iload rfl rfl ?_
                          refine y_dup2 rfl rfl rfl ?_
                          refine y_iaload rfl (ySh.t hS rfl) (ySh.n hS rfl) (by omega) (by omega) ?_
                          refine y_iload rfl rfl ?_
                          refine y_iadd rfl ?_
                          refine y_iastore rfl (ySh.t hS rfl) (ySh.n hS rfl) (Nat.le_of_ble_eq_true rfl) (by omega) (by omega) ?_
                          refine y_nameI (fun I276 e276 => ?_)
                          have hR1 := (hR0.grow hX).arr e276 (by decide)
                          have hK := (hK.x hRo hno hX).upI (upI e276) (by decide) (by decide) (fun i hi => by have := (hRo.l87.2.2.2.2 i hi).2.1; omega) (by rw [e276, upd2_ne (.inl (by omega))]; exact Int.le_refl _)
                          have hth := (show I276 83 0 = I275 83 0 by rw [e276, upd2_ne (.inl (by omega))]).trans hth
                          have hzz : ySz I275 I276 := ySz_ofE (upI e276) (by omega)
                          have hS0 := hS
                          have hR0 := hR1
                          have ht_b231 := (hX.2.1 _ hb_b231).1.trans ht_b231
                          have hb_b231 := Nat.lt_of_lt_of_le hb_b231 hX.1
                          have hb0_b231 := hb_b231
                          have ht_v258 := (hX.2.1 _ hb_v258).1.trans ht_v258
                          have hb_v258 := Nat.lt_of_lt_of_le hb_v258 hX.1
                          have hb0_v258 := hb_v258
                          have ht_v262 := (hX.2.1 _ hb_v262).1.trans ht_v262
                          have hb_v262 := Nat.lt_of_lt_of_le hb_v262 hX.1
                          have hb0_v262 := hb_v262
                          have ht_v266 := (hX.2.1 _ hb_v266).1.trans ht_v266
                          have hb_v266 := Nat.lt_of_lt_of_le hb_v266 hX.1
                          have hb0_v266 := hb_v266
                          have ht_v272 := (hX.2.1 _ hb_v272).1.trans ht_v272
                          have hb_v272 := Nat.lt_of_lt_of_le hb_v272 hX.1
                          have hb0_v272 := hb_v272
                          have ht_v274 := (hX.2.1 _ hb_v274).1.trans ht_v274
                          have hb_v274 := Nat.lt_of_lt_of_le hb_v274 hX.1
                          have hb0_v274 := hb_v274
                          have hn := Nat.le_refl n
                          have h94 := hS0.1
                          have hX := @yX.rf n tg I276 R
                          have hS := hS0.x hX
                          have hR := hR0.x hn hX
                          have hz := hX.sz h94
                          have hxn := hX.1
                          have hN := hR0.1
                          have hnb := hR0.2.2.2.2.2.2
                          have hthB := hth
                          refine y_aload_n rfl rfl ?_
                          refine y_getR rfl (ySh.t hS rfl) (ySh.n hS rfl) rfl rfl (ySh.r hS rfl) ?_
                          refine y_iload rfl rfl ?_
                          refine y_dup2 rfl rfl rfl ?_
                          refine y_ialoadC (j := 8) rfl (ySh.t hS rfl) (ySh.n hS rfl) (by decide) (by decide) rfl ?_
                          refine y_iload rfl rfl ?_
                          refine y_isub rfl ?_
                          refine y_iastoreC (j := 8) rfl (ySh.t hS rfl) (ySh.n hS rfl) (Nat.le_of_ble_eq_true rfl) (by decide) (by decide) rfl ?_
                          refine y_nameI (fun I277 e277 => ?_)
                          have hR1 := (hR0.grow hX).arr e277 (by decide)
                          have hK := (hK.x hRo hno hX).upI (upI e277) (by decide) (by decide) (fun i hi => by have := (hRo.l87.2.2.2.2 i hi).2.1; omega) (by rw [e277, upd2_ne (.inl (by omega))]; exact Int.le_refl _)
                          have hth := (show I277 83 0 = I276 83 0 by rw [e277, upd2_ne (.inl (by omega))]).trans hth
                          have hzz : ySz I276 I277 := ySz_ofE (upI e277) (by omega)
                          have hS0 := hS
                          have hR0 := hR1
                          have ht_b231 := (hX.2.1 _ hb_b231).1.trans ht_b231
                          have hb_b231 := Nat.lt_of_lt_of_le hb_b231 hX.1
                          have hb0_b231 := hb_b231
                          have ht_v258 := (hX.2.1 _ hb_v258).1.trans ht_v258
                          have hb_v258 := Nat.lt_of_lt_of_le hb_v258 hX.1
                          have hb0_v258 := hb_v258
                          have ht_v262 := (hX.2.1 _ hb_v262).1.trans ht_v262
                          have hb_v262 := Nat.lt_of_lt_of_le hb_v262 hX.1
                          have hb0_v262 := hb_v262
                          have ht_v266 := (hX.2.1 _ hb_v266).1.trans ht_v266
                          have hb_v266 := Nat.lt_of_lt_of_le hb_v266 hX.1
                          have hb0_v266 := hb_v266
                          have ht_v272 := (hX.2.1 _ hb_v272).1.trans ht_v272
                          have hb_v272 := Nat.lt_of_lt_of_le hb_v272 hX.1
                          have hb0_v272 := hb_v272
                          have ht_v274 := (hX.2.1 _ hb_v274).1.trans ht_v274
                          have hb_v274 := Nat.lt_of_lt_of_le hb_v274 hX.1
                          have hb0_v274 := hb_v274
                          have hn := Nat.le_refl n
                          have h94 := hS0.1
                          have hX := @yX.rf n tg I277 R
                          have hS := hS0.x hX
                          have hR := hR0.x hn hX
                          have hz := hX.sz h94
                          have hxn := hX.1
                          have hN := hR0.1
                          have hnb := hR0.2.2.2.2.2.2
                          have hthB := hth
                          refine y_aload rfl rfl ?_
                          obtain ⟨hR_v278, hb_v278, ht_v278⟩ := hR0.ven hlo_b231 hb0_b231 ht_b231 (j := 1) (by decide)
                          have hb0_v278 := hb_v278
                          have hb_v278 := Nat.lt_of_lt_of_le hb_v278 hn
                          have hlo_v278 : 94 ≤ b231 + 1 + 1 := by omega
                          have hR2_v278 := (congrFun (hX.2.1 b231 hb_b231).2.2 1).trans hR_v278
                          refine y_getR rfl ((hX.2.1 _ hb_b231).1.trans ht_b231) (Nat.lt_of_lt_of_le hb_b231 hX.1) rfl rfl hR2_v278 ?_
                          refine y_iload rfl rfl ?_
                          refine y_iaload rfl ((hX.2.1 _ hb_v278).1.trans ht_v278) (Nat.lt_of_lt_of_le hb_v278 hX.1) (by omega) (by omega) ?_
                          refine y_ireturn rfl rfl rfl ?_
                          exact hQ _ _ _ _ _ _ _ hS ((hR0.grow hX).up (Nat.le_succ K) hk6) (hK.x hRo hno hX) (by omega) (by omega)
                        · refine y_iconst rfl ?_
                          refine y_goto rfl j_X14_buyOut_147 ?_
                          refine y_iconst rfl ?_
                          refine y_virt rfl rfl rfl rfl rfl (ySh.t hS rfl) (ySh.n hS rfl) ?_
                          refine y_in (M := xm_X14_refuse) (ls := [some _, some _, some _]) rfl rfl rfl ?_
                          refine y_iload_n rfl rfl ?_
                          refine y_if_eqF rfl (by decide) ?_
                          refine y_aload_n rfl rfl ?_
                          refine y_getIv (v := Int32.ofInt (0)) rfl (ySh.t hS rfl) (ySh.n hS rfl) rfl rfl hth ?_
                          refine y_if_neF rfl (by decide) ?_
                          refine y_aload_n rfl rfl ?_
                          refine y_iload_n rfl rfl ?_
                          refine y_putI rfl (ySh.t hS rfl) (ySh.n hS rfl) rfl (Nat.le_of_ble_eq_true rfl) rfl rfl ?_
                          refine y_nameI (fun I279 e279 => ?_)
                          have hR1 := (hR0.grow hX).mod0 e279 (by decide) (by decide)
                          have hK := (hK.x hRo hno hX).upI (upI e279) (by decide) (by decide) (fun i hi => by have := (hRo.l87.2.2.2.2 i hi).2.1; omega) (by rw [e279, upd2_ne (.inr (by decide))]; exact Int.le_refl _)
                          have hth : I279 83 0 = Int32.ofInt (3) := by rw [e279, upd2_self]
                          have hzz : ySz8 I224 I279 := ySz8_of (upI e279) (by rw [e279]; exact ⟨upd2_ne (.inr (by decide)), upd2_ne (.inr (by decide))⟩)
                          have hS0 := hS
                          have hR0 := hR1
                          have ht_b231 := (hX.2.1 _ hb_b231).1.trans ht_b231
                          have hb_b231 := Nat.lt_of_lt_of_le hb_b231 hX.1
                          have hb0_b231 := hb_b231
                          have ht_v258 := (hX.2.1 _ hb_v258).1.trans ht_v258
                          have hb_v258 := Nat.lt_of_lt_of_le hb_v258 hX.1
                          have hb0_v258 := hb_v258
                          have ht_v262 := (hX.2.1 _ hb_v262).1.trans ht_v262
                          have hb_v262 := Nat.lt_of_lt_of_le hb_v262 hX.1
                          have hb0_v262 := hb_v262
                          have ht_v266 := (hX.2.1 _ hb_v266).1.trans ht_v266
                          have hb_v266 := Nat.lt_of_lt_of_le hb_v266 hX.1
                          have hb0_v266 := hb_v266
                          have hn := Nat.le_refl n
                          have h94 := hS0.1
                          have hX := @yX.rf n tg I279 R
                          have hS := hS0.x hX
                          have hR := hR0.x hn hX
                          have hz := hX.sz h94
                          have hxn := hX.1
                          have hN := hR0.1
                          have hnb := hR0.2.2.2.2.2.2
                          have hthB := hth
                          refine y_aload_n rfl rfl ?_
                          refine y_getIv (v := Int32.ofInt (3)) rfl (ySh.t hS rfl) (ySh.n hS rfl) rfl rfl hth ?_
                          refine y_if_leF rfl (by decide) ?_
                          refine y_iconst rfl ?_
                          refine y_goto rfl j_X14_refuse_28 ?_
                          refine y_ireturn rfl rfl rfl ?_
                          refine y_ret1 ?_
                          refine y_if_eqF rfl (by decide) ?_
                          refine y_iconst rfl ?_
                          refine y_ireturn rfl rfl rfl ?_
                          exact hQ _ _ _ _ _ _ _ hS ((hR0.grow hX).up (Nat.le_succ K) hk6) (hK.x hRo hno hX) (by omega) (by omega)
              · rw [yz_m1] at h_233
                refine y_bip rfl (by decide) ?_
                refine y_goto rfl j_X14_seat_11 ?_
                refine y_ireturn rfl rfl rfl ?_
                refine y_ret1 ?_
                refine y_istore (ls' := [some _, some _, some _, some _, some _, some _, some _, _]) rfl rfl rfl ?_
                refine y_iload_n rfl rfl ?_
                refine y_static rfl rfl rfl rfl rfl ?_
                refine y_in (M := xm_X14_seat) (ls := [some _]) rfl rfl rfl ?_
                refine y_iload_n rfl rfl ?_
                refine y_iconst rfl ?_
                refine y_icmp_ne rfl j_X14_seat_10 (fun h_280 => ?_) (fun h_281 => ?_)
                · rw [yz_m1] at h_280
                  refine y_iload_n rfl rfl ?_
                  refine y_ireturn rfl rfl rfl ?_
                  refine y_ret1 ?_
                  refine y_istore (ls' := [some _, some _, some _, some _, some _, some _, some _, some _]) rfl rfl rfl ?_
                  refine y_aload_n rfl rfl ?_
                  refine y_aload rfl rfl ?_
                  obtain ⟨hR_v282, hb_v282, ht_v282⟩ := hR0.ven hlo_b231 hb0_b231 ht_b231 (j := 0) (by decide)
                  have hb0_v282 := hb_v282
                  have hb_v282 := Nat.lt_of_lt_of_le hb_v282 hn
                  have hlo_v282 : 94 ≤ b231 + 1 + 0 := by omega
                  have hR2_v282 := (congrFun (hX.2.1 b231 hb_b231).2.2 0).trans hR_v282
                  refine y_getR rfl ((hX.2.1 _ hb_b231).1.trans ht_b231) (Nat.lt_of_lt_of_le hb_b231 hX.1) rfl rfl hR2_v282 ?_
                  refine y_iload rfl rfl ?_
                  refine y_baload rfl ((hX.2.1 _ hb_v282).1.trans ht_v282) rfl (Nat.lt_of_lt_of_le hb_v282 hX.1) (by decide) (by decide) ?_
                  refine y_if_eq rfl j_X14_buyOut_142 (fun h_283 => ?_) (fun h_284 => ?_)
                  · refine y_iconst rfl ?_
                    refine y_goto rfl j_X14_buyOut_147 ?_
                    refine y_iconst rfl ?_
                    refine y_virt rfl rfl rfl rfl rfl (ySh.t hS rfl) (ySh.n hS rfl) ?_
                    refine y_in (M := xm_X14_refuse) (ls := [some _, some _, some _]) rfl rfl rfl ?_
                    refine y_iload_n rfl rfl ?_
                    refine y_if_eqF rfl (by decide) ?_
                    refine y_aload_n rfl rfl ?_
                    refine y_getIv (v := Int32.ofInt (0)) rfl (ySh.t hS rfl) (ySh.n hS rfl) rfl rfl hth ?_
                    refine y_if_neF rfl (by decide) ?_
                    refine y_aload_n rfl rfl ?_
                    refine y_iload_n rfl rfl ?_
                    refine y_putI rfl (ySh.t hS rfl) (ySh.n hS rfl) rfl (Nat.le_of_ble_eq_true rfl) rfl rfl ?_
                    refine y_nameI (fun I285 e285 => ?_)
                    have hR1 := (hR0.grow hX).mod0 e285 (by decide) (by decide)
                    have hK := (hK.x hRo hno hX).upI (upI e285) (by decide) (by decide) (fun i hi => by have := (hRo.l87.2.2.2.2 i hi).2.1; omega) (by rw [e285, upd2_ne (.inr (by decide))]; exact Int.le_refl _)
                    have hth : I285 83 0 = Int32.ofInt (3) := by rw [e285, upd2_self]
                    have hzz : ySz8 I224 I285 := ySz8_of (upI e285) (by rw [e285]; exact ⟨upd2_ne (.inr (by decide)), upd2_ne (.inr (by decide))⟩)
                    have hS0 := hS
                    have hR0 := hR1
                    have ht_b231 := (hX.2.1 _ hb_b231).1.trans ht_b231
                    have hb_b231 := Nat.lt_of_lt_of_le hb_b231 hX.1
                    have hb0_b231 := hb_b231
                    have ht_v282 := (hX.2.1 _ hb_v282).1.trans ht_v282
                    have hb_v282 := Nat.lt_of_lt_of_le hb_v282 hX.1
                    have hb0_v282 := hb_v282
                    have hn := Nat.le_refl n
                    have h94 := hS0.1
                    have hX := @yX.rf n tg I285 R
                    have hS := hS0.x hX
                    have hR := hR0.x hn hX
                    have hz := hX.sz h94
                    have hxn := hX.1
                    have hN := hR0.1
                    have hnb := hR0.2.2.2.2.2.2
                    have hthB := hth
                    refine y_aload_n rfl rfl ?_
                    refine y_getIv (v := Int32.ofInt (3)) rfl (ySh.t hS rfl) (ySh.n hS rfl) rfl rfl hth ?_
                    refine y_if_leF rfl (by decide) ?_
                    refine y_iconst rfl ?_
                    refine y_goto rfl j_X14_refuse_28 ?_
                    refine y_ireturn rfl rfl rfl ?_
                    refine y_ret1 ?_
                    refine y_if_eqF rfl (by decide) ?_
                    refine y_iconst rfl ?_
                    refine y_ireturn rfl rfl rfl ?_
                    exact hQ _ _ _ _ _ _ _ hS ((hR0.grow hX).up (Nat.le_succ K) hk6) (hK.x hRo hno hX) (by omega) (by omega)
                  · refine y_aload rfl rfl ?_
                    obtain ⟨hR_v286, hb_v286, ht_v286⟩ := hR0.ven hlo_b231 hb0_b231 ht_b231 (j := 0) (by decide)
                    have hb0_v286 := hb_v286
                    have hb_v286 := Nat.lt_of_lt_of_le hb_v286 hn
                    have hlo_v286 : 94 ≤ b231 + 1 + 0 := by omega
                    have hR2_v286 := (congrFun (hX.2.1 b231 hb_b231).2.2 0).trans hR_v286
                    refine y_getR rfl ((hX.2.1 _ hb_b231).1.trans ht_b231) (Nat.lt_of_lt_of_le hb_b231 hX.1) rfl rfl hR2_v286 ?_
                    refine y_iload rfl rfl ?_
                    refine y_baload rfl ((hX.2.1 _ hb_v286).1.trans ht_v286) rfl (Nat.lt_of_lt_of_le hb_v286 hX.1) (by omega) (by omega) ?_
                    refine y_if_eq rfl j_X14_buyOut_142 (fun h_287 => ?_) (fun h_288 => ?_)
                    · refine y_iconst rfl ?_
                      refine y_goto rfl j_X14_buyOut_147 ?_
                      refine y_iconst rfl ?_
                      refine y_virt rfl rfl rfl rfl rfl (ySh.t hS rfl) (ySh.n hS rfl) ?_
                      refine y_in (M := xm_X14_refuse) (ls := [some _, some _, some _]) rfl rfl rfl ?_
                      refine y_iload_n rfl rfl ?_
                      refine y_if_eqF rfl (by decide) ?_
                      refine y_aload_n rfl rfl ?_
                      refine y_getIv (v := Int32.ofInt (0)) rfl (ySh.t hS rfl) (ySh.n hS rfl) rfl rfl hth ?_
                      refine y_if_neF rfl (by decide) ?_
                      refine y_aload_n rfl rfl ?_
                      refine y_iload_n rfl rfl ?_
                      refine y_putI rfl (ySh.t hS rfl) (ySh.n hS rfl) rfl (Nat.le_of_ble_eq_true rfl) rfl rfl ?_
                      refine y_nameI (fun I289 e289 => ?_)
                      have hR1 := (hR0.grow hX).mod0 e289 (by decide) (by decide)
                      have hK := (hK.x hRo hno hX).upI (upI e289) (by decide) (by decide) (fun i hi => by have := (hRo.l87.2.2.2.2 i hi).2.1; omega) (by rw [e289, upd2_ne (.inr (by decide))]; exact Int.le_refl _)
                      have hth : I289 83 0 = Int32.ofInt (3) := by rw [e289, upd2_self]
                      have hzz : ySz8 I224 I289 := ySz8_of (upI e289) (by rw [e289]; exact ⟨upd2_ne (.inr (by decide)), upd2_ne (.inr (by decide))⟩)
                      have hS0 := hS
                      have hR0 := hR1
                      have ht_b231 := (hX.2.1 _ hb_b231).1.trans ht_b231
                      have hb_b231 := Nat.lt_of_lt_of_le hb_b231 hX.1
                      have hb0_b231 := hb_b231
                      have ht_v282 := (hX.2.1 _ hb_v282).1.trans ht_v282
                      have hb_v282 := Nat.lt_of_lt_of_le hb_v282 hX.1
                      have hb0_v282 := hb_v282
                      have ht_v286 := (hX.2.1 _ hb_v286).1.trans ht_v286
                      have hb_v286 := Nat.lt_of_lt_of_le hb_v286 hX.1
                      have hb0_v286 := hb_v286
                      have hn := Nat.le_refl n
                      have h94 := hS0.1
                      have hX := @yX.rf n tg I289 R
                      have hS := hS0.x hX
                      have hR := hR0.x hn hX
                      have hz := hX.sz h94
                      have hxn := hX.1
                      have hN := hR0.1
                      have hnb := hR0.2.2.2.2.2.2
                      have hthB := hth
                      refine y_aload_n rfl rfl ?_
                      refine y_getIv (v := Int32.ofInt (3)) rfl (ySh.t hS rfl) (ySh.n hS rfl) rfl rfl hth ?_
                      refine y_if_leF rfl (by decide) ?_
                      refine y_iconst rfl ?_
                      refine y_goto rfl j_X14_refuse_28 ?_
                      refine y_ireturn rfl rfl rfl ?_
                      refine y_ret1 ?_
                      refine y_if_eqF rfl (by decide) ?_
                      refine y_iconst rfl ?_
                      refine y_ireturn rfl rfl rfl ?_
                      exact hQ _ _ _ _ _ _ _ hS ((hR0.grow hX).up (Nat.le_succ K) hk6) (hK.x hRo hno hX) (by omega) (by omega)
                    · refine y_aload rfl rfl ?_
                      obtain ⟨hR_v290, hb_v290, ht_v290⟩ := hR0.ven hlo_b231 hb0_b231 ht_b231 (j := 1) (by decide)
                      have hb0_v290 := hb_v290
                      have hb_v290 := Nat.lt_of_lt_of_le hb_v290 hn
                      have hlo_v290 : 94 ≤ b231 + 1 + 1 := by omega
                      have hR2_v290 := (congrFun (hX.2.1 b231 hb_b231).2.2 1).trans hR_v290
                      refine y_getR rfl ((hX.2.1 _ hb_b231).1.trans ht_b231) (Nat.lt_of_lt_of_le hb_b231 hX.1) rfl rfl hR2_v290 ?_
                      refine y_iload rfl rfl ?_
                      refine y_ialoadC (j := 8) rfl ((hX.2.1 _ hb_v290).1.trans ht_v290) (Nat.lt_of_lt_of_le hb_v290 hX.1) (by decide) (by decide) rfl ?_
                      refine y_iload rfl rfl ?_
                      refine y_icmp_lt rfl j_X14_buyOut_142 (fun h_291 => ?_) (fun h_292 => ?_)
                      · refine y_iconst rfl ?_
                        refine y_goto rfl j_X14_buyOut_147 ?_
                        refine y_iconst rfl ?_
                        refine y_virt rfl rfl rfl rfl rfl (ySh.t hS rfl) (ySh.n hS rfl) ?_
                        refine y_in (M := xm_X14_refuse) (ls := [some _, some _, some _]) rfl rfl rfl ?_
                        refine y_iload_n rfl rfl ?_
                        refine y_if_eqF rfl (by decide) ?_
                        refine y_aload_n rfl rfl ?_
                        refine y_getIv (v := Int32.ofInt (0)) rfl (ySh.t hS rfl) (ySh.n hS rfl) rfl rfl hth ?_
                        refine y_if_neF rfl (by decide) ?_
                        refine y_aload_n rfl rfl ?_
                        refine y_iload_n rfl rfl ?_
                        refine y_putI rfl (ySh.t hS rfl) (ySh.n hS rfl) rfl (Nat.le_of_ble_eq_true rfl) rfl rfl ?_
                        refine y_nameI (fun I293 e293 => ?_)
                        have hR1 := (hR0.grow hX).mod0 e293 (by decide) (by decide)
                        have hK := (hK.x hRo hno hX).upI (upI e293) (by decide) (by decide) (fun i hi => by have := (hRo.l87.2.2.2.2 i hi).2.1; omega) (by rw [e293, upd2_ne (.inr (by decide))]; exact Int.le_refl _)
                        have hth : I293 83 0 = Int32.ofInt (3) := by rw [e293, upd2_self]
                        have hzz : ySz8 I224 I293 := ySz8_of (upI e293) (by rw [e293]; exact ⟨upd2_ne (.inr (by decide)), upd2_ne (.inr (by decide))⟩)
                        have hS0 := hS
                        have hR0 := hR1
                        have ht_b231 := (hX.2.1 _ hb_b231).1.trans ht_b231
                        have hb_b231 := Nat.lt_of_lt_of_le hb_b231 hX.1
                        have hb0_b231 := hb_b231
                        have ht_v282 := (hX.2.1 _ hb_v282).1.trans ht_v282
                        have hb_v282 := Nat.lt_of_lt_of_le hb_v282 hX.1
                        have hb0_v282 := hb_v282
                        have ht_v286 := (hX.2.1 _ hb_v286).1.trans ht_v286
                        have hb_v286 := Nat.lt_of_lt_of_le hb_v286 hX.1
                        have hb0_v286 := hb_v286
                        have ht_v290 := (hX.2.1 _ hb_v290).1.trans ht_v290
                        have hb_v290 := Nat.lt_of_lt_of_le hb_v290 hX.1
                        have hb0_v290 := hb_v290
                        have hn := Nat.le_refl n
                        have h94 := hS0.1
                        have hX := @yX.rf n tg I293 R
                        have hS := hS0.x hX
                        have hR := hR0.x hn hX
                        have hz := hX.sz h94
                        have hxn := hX.1
                        have hN := hR0.1
                        have hnb := hR0.2.2.2.2.2.2
                        have hthB := hth
                        refine y_aload_n rfl rfl ?_
                        refine y_getIv (v := Int32.ofInt (3)) rfl (ySh.t hS rfl) (ySh.n hS rfl) rfl rfl hth ?_
                        refine y_if_leF rfl (by decide) ?_
                        refine y_iconst rfl ?_
                        refine y_goto rfl j_X14_refuse_28 ?_
                        refine y_ireturn rfl rfl rfl ?_
                        refine y_ret1 ?_
                        refine y_if_eqF rfl (by decide) ?_
                        refine y_iconst rfl ?_
                        refine y_ireturn rfl rfl rfl ?_
                        exact hQ _ _ _ _ _ _ _ hS ((hR0.grow hX).up (Nat.le_succ K) hk6) (hK.x hRo hno hX) (by omega) (by omega)
                      · refine y_aload_n rfl rfl ?_
                        refine y_getR rfl (ySh.t hS rfl) (ySh.n hS rfl) rfl rfl (ySh.r hS rfl) ?_
                        refine y_iload rfl rfl ?_
                        refine y_iaload rfl (ySh.t hS rfl) (ySh.n hS rfl) (by omega) (by omega) ?_
                        refine y_iload rfl rfl ?_
                        refine y_icmp_ge rfl j_X14_buyOut_146 (fun h_294 => ?_) (fun h_295 => ?_)
                        · refine y_iconst rfl ?_
                          refine y_iconst rfl ?_
                          refine y_virt rfl rfl rfl rfl rfl (ySh.t hS rfl) (ySh.n hS rfl) ?_
                          refine y_in (M := xm_X14_refuse) (ls := [some _, some _, some _]) rfl rfl rfl ?_
                          refine y_iload_n rfl rfl ?_
                          refine y_if_eqT rfl j_X14_refuse_16 (by decide) ?_
                          refine y_aload_n rfl rfl ?_
                          refine y_getIv (v := Int32.ofInt (0)) rfl (ySh.t hS rfl) (ySh.n hS rfl) rfl rfl hth ?_
                          refine y_if_leT rfl j_X14_refuse_27 (by decide) ?_
                          refine y_iconst rfl ?_
                          refine y_ireturn rfl rfl rfl ?_
                          refine y_ret1 ?_
                          refine y_if_eqT rfl j_X14_buyOut_156 (by decide) ?_
                          refine y_aload rfl rfl ?_
                          obtain ⟨hR_v296, hb_v296, ht_v296⟩ := hR0.ven hlo_b231 hb0_b231 ht_b231 (j := 1) (by decide)
                          have hb0_v296 := hb_v296
                          have hb_v296 := Nat.lt_of_lt_of_le hb_v296 hn
                          have hlo_v296 : 94 ≤ b231 + 1 + 1 := by omega
                          have hR2_v296 := (congrFun (hX.2.1 b231 hb_b231).2.2 1).trans hR_v296
                          refine y_getR rfl ((hX.2.1 _ hb_b231).1.trans ht_b231) (Nat.lt_of_lt_of_le hb_b231 hX.1) rfl rfl hR2_v296 ?_
                          refine y_iload rfl rfl ?_
                          refine y_dup2 rfl rfl rfl ?_
                          refine y_ialoadC (j := 8) rfl ((hX.2.1 _ hb_v296).1.trans ht_v296) (Nat.lt_of_lt_of_le hb_v296 hX.1) (by decide) (by decide) rfl ?_
                          refine y_iload rfl rfl ?_
                          refine y_isub rfl ?_
                          refine y_iastoreC (j := 8) rfl ((hX.2.1 _ hb_v296).1.trans ht_v296) (Nat.lt_of_lt_of_le hb_v296 hX.1) (Nat.le_trans (by decide) (by omega : 94 ≤ _)) (by decide) (by decide) rfl ?_
                          refine y_nameI (fun I297 e297 => ?_)
                          have hB1 := (hR0.grow hX).capB1 hlo_b231 (by omega) ((hX.2.1 _ hb_b231).1.trans ht_b231) (by omega) ⟨by omega, by omega⟩ e297
                          have hR1 := hB1.1
                          have hK := (hK.x hRo hno hX).upE hRo hno (upI e297) (by omega) (by omega) (by rw [((hX.2.1 _ hb_v296).1.trans ht_v296)]; decide) (by rw [e297, upd2_ne (.inl (by omega))]; exact Int.le_refl _)
                          have hth := (show I297 83 0 = I224 83 0 by rw [e297, upd2_ne (.inl (by omega))]).trans hth
                          have hzz : ySz I224 I297 := ySz_ofE (upI e297) (by omega)
                          have hS0 := hS
                          have hR0 := hR1
                          have ht_b231 := (hX.2.1 _ hb_b231).1.trans ht_b231
                          have hb_b231 := Nat.lt_of_lt_of_le hb_b231 hX.1
                          have hb0_b231 := hb_b231
                          have ht_v282 := (hX.2.1 _ hb_v282).1.trans ht_v282
                          have hb_v282 := Nat.lt_of_lt_of_le hb_v282 hX.1
                          have hb0_v282 := hb_v282
                          have ht_v286 := (hX.2.1 _ hb_v286).1.trans ht_v286
                          have hb_v286 := Nat.lt_of_lt_of_le hb_v286 hX.1
                          have hb0_v286 := hb_v286
                          have ht_v290 := (hX.2.1 _ hb_v290).1.trans ht_v290
                          have hb_v290 := Nat.lt_of_lt_of_le hb_v290 hX.1
                          have hb0_v290 := hb_v290
                          have ht_v296 := (hX.2.1 _ hb_v296).1.trans ht_v296
                          have hb_v296 := Nat.lt_of_lt_of_le hb_v296 hX.1
                          have hb0_v296 := hb_v296
                          have hn := Nat.le_refl n
                          have h94 := hS0.1
                          have hX := @yX.rf n tg I297 R
                          have hS := hS0.x hX
                          have hR := hR0.x hn hX
                          have hz := hX.sz h94
                          have hxn := hX.1
                          have hN := hR0.1
                          have hnb := hR0.2.2.2.2.2.2
                          have hthB := hth
                          refine y_aload rfl rfl ?_
                          obtain ⟨hR_v298, hb_v298, ht_v298⟩ := hR0.ven hlo_b231 hb0_b231 ht_b231 (j := 1) (by decide)
                          have hb0_v298 := hb_v298
                          have hb_v298 := Nat.lt_of_lt_of_le hb_v298 hn
                          have hlo_v298 : 94 ≤ b231 + 1 + 1 := by omega
                          have hR2_v298 := (congrFun (hX.2.1 b231 hb_b231).2.2 1).trans hR_v298
                          refine y_getR rfl ((hX.2.1 _ hb_b231).1.trans ht_b231) (Nat.lt_of_lt_of_le hb_b231 hX.1) rfl rfl hR2_v298 ?_
                          refine y_iload rfl rfl ?_
                          refine y_dup2 rfl rfl rfl ?_
                          refine y_iaload rfl ((hX.2.1 _ hb_v298).1.trans ht_v298) (Nat.lt_of_lt_of_le hb_v298 hX.1) (by omega) (by omega) ?_
                          refine y_iload rfl rfl ?_
                          refine y_iadd rfl ?_
                          refine y_iastore rfl ((hX.2.1 _ hb_v298).1.trans ht_v298) (Nat.lt_of_lt_of_le hb_v298 hX.1) (Nat.le_trans (by decide) (by omega : 94 ≤ _)) (by omega) (by omega) ?_
                          refine y_nameI (fun I299 e299 => ?_)
                          have hR1 := (hR0.grow hX).capB2 hlo_b231 (by omega) ((hX.2.1 _ hb_b231).1.trans ht_b231) (by omega) (by omega) hB1.2.1 e299
                          have hK := (hK.x hRo hno hX).upE hRo hno (upI e299) (by omega) (by omega) (by rw [((hX.2.1 _ hb_v298).1.trans ht_v298)]; decide) (by rw [e299, upd2_ne (.inl (by omega))]; exact Int.le_refl _)
                          have hth := (show I299 83 0 = I297 83 0 by rw [e299, upd2_ne (.inl (by omega))]).trans hth
                          have hzz : ySz I297 I299 := ySz_ofE (upI e299) (by omega)
                          have hS0 := hS
                          have hR0 := hR1
                          have ht_b231 := (hX.2.1 _ hb_b231).1.trans ht_b231
                          have hb_b231 := Nat.lt_of_lt_of_le hb_b231 hX.1
                          have hb0_b231 := hb_b231
                          have ht_v282 := (hX.2.1 _ hb_v282).1.trans ht_v282
                          have hb_v282 := Nat.lt_of_lt_of_le hb_v282 hX.1
                          have hb0_v282 := hb_v282
                          have ht_v286 := (hX.2.1 _ hb_v286).1.trans ht_v286
                          have hb_v286 := Nat.lt_of_lt_of_le hb_v286 hX.1
                          have hb0_v286 := hb_v286
                          have ht_v290 := (hX.2.1 _ hb_v290).1.trans ht_v290
                          have hb_v290 := Nat.lt_of_lt_of_le hb_v290 hX.1
                          have hb0_v290 := hb_v290
                          have ht_v296 := (hX.2.1 _ hb_v296).1.trans ht_v296
                          have hb_v296 := Nat.lt_of_lt_of_le hb_v296 hX.1
                          have hb0_v296 := hb_v296
                          have ht_v298 := (hX.2.1 _ hb_v298).1.trans ht_v298
                          have hb_v298 := Nat.lt_of_lt_of_le hb_v298 hX.1
                          have hb0_v298 := hb_v298
                          have hn := Nat.le_refl n
                          have h94 := hS0.1
                          have hX := @yX.rf n tg I299 R
                          have hS := hS0.x hX
                          have hR := hR0.x hn hX
                          have hz := hX.sz h94
                          have hxn := hX.1
                          have hN := hR0.1
                          have hnb := hR0.2.2.2.2.2.2
                          have hthB := hth
                          refine y_aload_n rfl rfl ?_
                          refine y_getR rfl (ySh.t hS rfl) (ySh.n hS rfl) rfl rfl (ySh.r hS rfl) ?_
                          refine y_iload rfl rfl ?_
                          refine y_dup2 rfl rfl rfl ?_
                          refine y_ialoadC (j := 8) rfl (ySh.t hS rfl) (ySh.n hS rfl) (by decide) (by decide) rfl ?_
                          refine y_iload rfl rfl ?_
                          refine y_iadd rfl ?_
                          refine y_iastoreC (j := 8) rfl (ySh.t hS rfl) (ySh.n hS rfl) (Nat.le_of_ble_eq_true rfl) (by decide) (by decide) rfl ?_
                          refine y_nameI (fun I300 e300 => ?_)
                          have hR1 := (hR0.grow hX).arr e300 (by decide)
                          have hK := (hK.x hRo hno hX).upI (upI e300) (by decide) (by decide) (fun i hi => by have := (hRo.l87.2.2.2.2 i hi).2.1; omega) (by rw [e300, upd2_ne (.inl (by omega))]; exact Int.le_refl _)
                          have hth := (show I300 83 0 = I299 83 0 by rw [e300, upd2_ne (.inl (by omega))]).trans hth
                          have hzz : ySz I299 I300 := ySz_ofE (upI e300) (by omega)
                          have hS0 := hS
                          have hR0 := hR1
                          have ht_b231 := (hX.2.1 _ hb_b231).1.trans ht_b231
                          have hb_b231 := Nat.lt_of_lt_of_le hb_b231 hX.1
                          have hb0_b231 := hb_b231
                          have ht_v282 := (hX.2.1 _ hb_v282).1.trans ht_v282
                          have hb_v282 := Nat.lt_of_lt_of_le hb_v282 hX.1
                          have hb0_v282 := hb_v282
                          have ht_v286 := (hX.2.1 _ hb_v286).1.trans ht_v286
                          have hb_v286 := Nat.lt_of_lt_of_le hb_v286 hX.1
                          have hb0_v286 := hb_v286
                          have ht_v290 := (hX.2.1 _ hb_v290).1.trans ht_v290
                          have hb_v290 := Nat.lt_of_lt_of_le hb_v290 hX.1
                          have hb0_v290 := hb_v290
                          have ht_v296 := (hX.2.1 _ hb_v296).1.trans ht_v296
                          have hb_v296 := Nat.lt_of_lt_of_le hb_v296 hX.1
                          have hb0_v296 := hb_v296
                          have ht_v298 := (hX.2.1 _ hb_v298).1.trans ht_v298
                          have hb_v298 := Nat.lt_of_lt_of_le hb_v298 hX.1
                          have hb0_v298 := hb_v298
                          have hn := Nat.le_refl n
                          have h94 := hS0.1
                          have hX := @yX.rf n tg I300 R
                          have hS := hS0.x hX
                          have hR := hR0.x hn hX
                          have hz := hX.sz h94
                          have hxn := hX.1
                          have hN := hR0.1
                          have hnb := hR0.2.2.2.2.2.2
                          have hthB := hth
                          refine y_aload_n rfl rfl ?_
                          refine y_getR rfl (ySh.t hS rfl) (ySh.n hS rfl) rfl rfl (ySh.r hS rfl) ?_
                          refine y_iload rfl rfl ?_
                          refine y_dup2 rfl rfl rfl ?_
                          refine y_iaload rfl (ySh.t hS rfl) (ySh.n hS rfl) (by omega) (by omega) ?_
                          refine y_iload rfl rfl ?_
                          refine y_isub rfl ?_
                          refine y_iastore rfl (ySh.t hS rfl) (ySh.n hS rfl) (Nat.le_of_ble_eq_true rfl) (by omega) (by omega) ?_
                          refine y_nameI (fun I301 e301 => ?_)
                          have hR1 := (hR0.grow hX).arr e301 (by decide)
                          have hK := (hK.x hRo hno hX).upI (upI e301) (by decide) (by decide) (fun i hi => by have := (hRo.l87.2.2.2.2 i hi).2.1; omega) (by rw [e301, upd2_ne (.inl (by omega))]; exact Int.le_refl _)
                          have hth := (show I301 83 0 = I300 83 0 by rw [e301, upd2_ne (.inl (by omega))]).trans hth
                          have hzz : ySz I300 I301 := ySz_ofE (upI e301) (by omega)
                          have hS0 := hS
                          have hR0 := hR1
                          have ht_b231 := (hX.2.1 _ hb_b231).1.trans ht_b231
                          have hb_b231 := Nat.lt_of_lt_of_le hb_b231 hX.1
                          have hb0_b231 := hb_b231
                          have ht_v282 := (hX.2.1 _ hb_v282).1.trans ht_v282
                          have hb_v282 := Nat.lt_of_lt_of_le hb_v282 hX.1
                          have hb0_v282 := hb_v282
                          have ht_v286 := (hX.2.1 _ hb_v286).1.trans ht_v286
                          have hb_v286 := Nat.lt_of_lt_of_le hb_v286 hX.1
                          have hb0_v286 := hb_v286
                          have ht_v290 := (hX.2.1 _ hb_v290).1.trans ht_v290
                          have hb_v290 := Nat.lt_of_lt_of_le hb_v290 hX.1
                          have hb0_v290 := hb_v290
                          have ht_v296 := (hX.2.1 _ hb_v296).1.trans ht_v296
                          have hb_v296 := Nat.lt_of_lt_of_le hb_v296 hX.1
                          have hb0_v296 := hb_v296
                          have ht_v298 := (hX.2.1 _ hb_v298).1.trans ht_v298
                          have hb_v298 := Nat.lt_of_lt_of_le hb_v298 hX.1
                          have hb0_v298 := hb_v298
                          have hn := Nat.le_refl n
                          have h94 := hS0.1
                          have hX := @yX.rf n tg I301 R
                          have hS := hS0.x hX
                          have hR := hR0.x hn hX
                          have hz := hX.sz h94
                          have hxn := hX.1
                          have hN := hR0.1
                          have hnb := hR0.2.2.2.2.2.2
                          have hthB := hth
                          refine y_aload rfl rfl ?_
                          obtain ⟨hR_v302, hb_v302, ht_v302⟩ := hR0.ven hlo_b231 hb0_b231 ht_b231 (j := 1) (by decide)
                          have hb0_v302 := hb_v302
                          have hb_v302 := Nat.lt_of_lt_of_le hb_v302 hn
                          have hlo_v302 : 94 ≤ b231 + 1 + 1 := by omega
                          have hR2_v302 := (congrFun (hX.2.1 b231 hb_b231).2.2 1).trans hR_v302
                          refine y_getR rfl ((hX.2.1 _ hb_b231).1.trans ht_b231) (Nat.lt_of_lt_of_le hb_b231 hX.1) rfl rfl hR2_v302 ?_
                          refine y_iload rfl rfl ?_
                          refine y_ialoadC (j := 8) rfl ((hX.2.1 _ hb_v302).1.trans ht_v302) (Nat.lt_of_lt_of_le hb_v302 hX.1) (by decide) (by decide) rfl ?_
                          refine y_ireturn rfl rfl rfl ?_
                          exact hQ _ _ _ _ _ _ _ hS ((hR0.grow hX).up (Nat.le_succ K) hk6) (hK.x hRo hno hX) (by omega) (by omega)
                        · refine y_iconst rfl ?_
                          refine y_goto rfl j_X14_buyOut_147 ?_
                          refine y_iconst rfl ?_
                          refine y_virt rfl rfl rfl rfl rfl (ySh.t hS rfl) (ySh.n hS rfl) ?_
                          refine y_in (M := xm_X14_refuse) (ls := [some _, some _, some _]) rfl rfl rfl ?_
                          refine y_iload_n rfl rfl ?_
                          refine y_if_eqF rfl (by decide) ?_
                          refine y_aload_n rfl rfl ?_
                          refine y_getIv (v := Int32.ofInt (0)) rfl (ySh.t hS rfl) (ySh.n hS rfl) rfl rfl hth ?_
                          refine y_if_neF rfl (by decide) ?_
                          refine y_aload_n rfl rfl ?_
                          refine y_iload_n rfl rfl ?_
                          refine y_putI rfl (ySh.t hS rfl) (ySh.n hS rfl) rfl (Nat.le_of_ble_eq_true rfl) rfl rfl ?_
                          refine y_nameI (fun I303 e303 => ?_)
                          have hR1 := (hR0.grow hX).mod0 e303 (by decide) (by decide)
                          have hK := (hK.x hRo hno hX).upI (upI e303) (by decide) (by decide) (fun i hi => by have := (hRo.l87.2.2.2.2 i hi).2.1; omega) (by rw [e303, upd2_ne (.inr (by decide))]; exact Int.le_refl _)
                          have hth : I303 83 0 = Int32.ofInt (3) := by rw [e303, upd2_self]
                          have hzz : ySz8 I224 I303 := ySz8_of (upI e303) (by rw [e303]; exact ⟨upd2_ne (.inr (by decide)), upd2_ne (.inr (by decide))⟩)
                          have hS0 := hS
                          have hR0 := hR1
                          have ht_b231 := (hX.2.1 _ hb_b231).1.trans ht_b231
                          have hb_b231 := Nat.lt_of_lt_of_le hb_b231 hX.1
                          have hb0_b231 := hb_b231
                          have ht_v282 := (hX.2.1 _ hb_v282).1.trans ht_v282
                          have hb_v282 := Nat.lt_of_lt_of_le hb_v282 hX.1
                          have hb0_v282 := hb_v282
                          have ht_v286 := (hX.2.1 _ hb_v286).1.trans ht_v286
                          have hb_v286 := Nat.lt_of_lt_of_le hb_v286 hX.1
                          have hb0_v286 := hb_v286
                          have ht_v290 := (hX.2.1 _ hb_v290).1.trans ht_v290
                          have hb_v290 := Nat.lt_of_lt_of_le hb_v290 hX.1
                          have hb0_v290 := hb_v290
                          have hn := Nat.le_refl n
                          have h94 := hS0.1
                          have hX := @yX.rf n tg I303 R
                          have hS := hS0.x hX
                          have hR := hR0.x hn hX
                          have hz := hX.sz h94
                          have hxn := hX.1
                          have hN := hR0.1
                          have hnb := hR0.2.2.2.2.2.2
                          have hthB := hth
                          refine y_aload_n rfl rfl ?_
                          refine y_getIv (v := Int32.ofInt (3)) rfl (ySh.t hS rfl) (ySh.n hS rfl) rfl rfl hth ?_
                          refine y_if_leF rfl (by decide) ?_
                          refine y_iconst rfl ?_
                          refine y_goto rfl j_X14_refuse_28 ?_
                          refine y_ireturn rfl rfl rfl ?_
                          refine y_ret1 ?_
                          refine y_if_eqF rfl (by decide) ?_
                          refine y_iconst rfl ?_
                          refine y_ireturn rfl rfl rfl ?_
                          exact hQ _ _ _ _ _ _ _ hS ((hR0.grow hX).up (Nat.le_succ K) hk6) (hK.x hRo hno hX) (by omega) (by omega)
                · rw [yz_m1] at h_281
                  refine y_bip rfl (by decide) ?_
                  refine y_goto rfl j_X14_seat_11 ?_
                  refine y_ireturn rfl rfl rfl ?_
                  refine y_ret1 ?_
                  refine y_istore (ls' := [some _, some _, some _, some _, some _, some _, some _, some _]) rfl rfl rfl ?_
                  refine y_aload_n rfl rfl ?_
                  refine y_aload rfl rfl ?_
                  obtain ⟨hR_v304, hb_v304, ht_v304⟩ := hR0.ven hlo_b231 hb0_b231 ht_b231 (j := 0) (by decide)
                  have hb0_v304 := hb_v304
                  have hb_v304 := Nat.lt_of_lt_of_le hb_v304 hn
                  have hlo_v304 : 94 ≤ b231 + 1 + 0 := by omega
                  have hR2_v304 := (congrFun (hX.2.1 b231 hb_b231).2.2 0).trans hR_v304
                  refine y_getR rfl ((hX.2.1 _ hb_b231).1.trans ht_b231) (Nat.lt_of_lt_of_le hb_b231 hX.1) rfl rfl hR2_v304 ?_
                  refine y_iload rfl rfl ?_
                  refine y_baload rfl ((hX.2.1 _ hb_v304).1.trans ht_v304) rfl (Nat.lt_of_lt_of_le hb_v304 hX.1) (by decide) (by decide) ?_
                  refine y_if_eq rfl j_X14_buyOut_142 (fun h_305 => ?_) (fun h_306 => ?_)
                  · refine y_iconst rfl ?_
                    refine y_goto rfl j_X14_buyOut_147 ?_
                    refine y_iconst rfl ?_
                    refine y_virt rfl rfl rfl rfl rfl (ySh.t hS rfl) (ySh.n hS rfl) ?_
                    refine y_in (M := xm_X14_refuse) (ls := [some _, some _, some _]) rfl rfl rfl ?_
                    refine y_iload_n rfl rfl ?_
                    refine y_if_eqF rfl (by decide) ?_
                    refine y_aload_n rfl rfl ?_
                    refine y_getIv (v := Int32.ofInt (0)) rfl (ySh.t hS rfl) (ySh.n hS rfl) rfl rfl hth ?_
                    refine y_if_neF rfl (by decide) ?_
                    refine y_aload_n rfl rfl ?_
                    refine y_iload_n rfl rfl ?_
                    refine y_putI rfl (ySh.t hS rfl) (ySh.n hS rfl) rfl (Nat.le_of_ble_eq_true rfl) rfl rfl ?_
                    refine y_nameI (fun I307 e307 => ?_)
                    have hR1 := (hR0.grow hX).mod0 e307 (by decide) (by decide)
                    have hK := (hK.x hRo hno hX).upI (upI e307) (by decide) (by decide) (fun i hi => by have := (hRo.l87.2.2.2.2 i hi).2.1; omega) (by rw [e307, upd2_ne (.inr (by decide))]; exact Int.le_refl _)
                    have hth : I307 83 0 = Int32.ofInt (3) := by rw [e307, upd2_self]
                    have hzz : ySz8 I224 I307 := ySz8_of (upI e307) (by rw [e307]; exact ⟨upd2_ne (.inr (by decide)), upd2_ne (.inr (by decide))⟩)
                    have hS0 := hS
                    have hR0 := hR1
                    have ht_b231 := (hX.2.1 _ hb_b231).1.trans ht_b231
                    have hb_b231 := Nat.lt_of_lt_of_le hb_b231 hX.1
                    have hb0_b231 := hb_b231
                    have ht_v304 := (hX.2.1 _ hb_v304).1.trans ht_v304
                    have hb_v304 := Nat.lt_of_lt_of_le hb_v304 hX.1
                    have hb0_v304 := hb_v304
                    have hn := Nat.le_refl n
                    have h94 := hS0.1
                    have hX := @yX.rf n tg I307 R
                    have hS := hS0.x hX
                    have hR := hR0.x hn hX
                    have hz := hX.sz h94
                    have hxn := hX.1
                    have hN := hR0.1
                    have hnb := hR0.2.2.2.2.2.2
                    have hthB := hth
                    refine y_aload_n rfl rfl ?_
                    refine y_getIv (v := Int32.ofInt (3)) rfl (ySh.t hS rfl) (ySh.n hS rfl) rfl rfl hth ?_
                    refine y_if_leF rfl (by decide) ?_
                    refine y_iconst rfl ?_
                    refine y_goto rfl j_X14_refuse_28 ?_
                    refine y_ireturn rfl rfl rfl ?_
                    refine y_ret1 ?_
                    refine y_if_eqF rfl (by decide) ?_
                    refine y_iconst rfl ?_
                    refine y_ireturn rfl rfl rfl ?_
                    exact hQ _ _ _ _ _ _ _ hS ((hR0.grow hX).up (Nat.le_succ K) hk6) (hK.x hRo hno hX) (by omega) (by omega)
                  · refine y_aload rfl rfl ?_
                    obtain ⟨hR_v308, hb_v308, ht_v308⟩ := hR0.ven hlo_b231 hb0_b231 ht_b231 (j := 0) (by decide)
                    have hb0_v308 := hb_v308
                    have hb_v308 := Nat.lt_of_lt_of_le hb_v308 hn
                    have hlo_v308 : 94 ≤ b231 + 1 + 0 := by omega
                    have hR2_v308 := (congrFun (hX.2.1 b231 hb_b231).2.2 0).trans hR_v308
                    refine y_getR rfl ((hX.2.1 _ hb_b231).1.trans ht_b231) (Nat.lt_of_lt_of_le hb_b231 hX.1) rfl rfl hR2_v308 ?_
                    refine y_iload rfl rfl ?_
                    refine y_baload rfl ((hX.2.1 _ hb_v308).1.trans ht_v308) rfl (Nat.lt_of_lt_of_le hb_v308 hX.1) (by decide) (by decide) ?_
                    refine y_if_eq rfl j_X14_buyOut_142 (fun h_309 => ?_) (fun h_310 => ?_)
                    · refine y_iconst rfl ?_
                      refine y_goto rfl j_X14_buyOut_147 ?_
                      refine y_iconst rfl ?_
                      refine y_virt rfl rfl rfl rfl rfl (ySh.t hS rfl) (ySh.n hS rfl) ?_
                      refine y_in (M := xm_X14_refuse) (ls := [some _, some _, some _]) rfl rfl rfl ?_
                      refine y_iload_n rfl rfl ?_
                      refine y_if_eqF rfl (by decide) ?_
                      refine y_aload_n rfl rfl ?_
                      refine y_getIv (v := Int32.ofInt (0)) rfl (ySh.t hS rfl) (ySh.n hS rfl) rfl rfl hth ?_
                      refine y_if_neF rfl (by decide) ?_
                      refine y_aload_n rfl rfl ?_
                      refine y_iload_n rfl rfl ?_
                      refine y_putI rfl (ySh.t hS rfl) (ySh.n hS rfl) rfl (Nat.le_of_ble_eq_true rfl) rfl rfl ?_
                      refine y_nameI (fun I311 e311 => ?_)
                      have hR1 := (hR0.grow hX).mod0 e311 (by decide) (by decide)
                      have hK := (hK.x hRo hno hX).upI (upI e311) (by decide) (by decide) (fun i hi => by have := (hRo.l87.2.2.2.2 i hi).2.1; omega) (by rw [e311, upd2_ne (.inr (by decide))]; exact Int.le_refl _)
                      have hth : I311 83 0 = Int32.ofInt (3) := by rw [e311, upd2_self]
                      have hzz : ySz8 I224 I311 := ySz8_of (upI e311) (by rw [e311]; exact ⟨upd2_ne (.inr (by decide)), upd2_ne (.inr (by decide))⟩)
                      have hS0 := hS
                      have hR0 := hR1
                      have ht_b231 := (hX.2.1 _ hb_b231).1.trans ht_b231
                      have hb_b231 := Nat.lt_of_lt_of_le hb_b231 hX.1
                      have hb0_b231 := hb_b231
                      have ht_v304 := (hX.2.1 _ hb_v304).1.trans ht_v304
                      have hb_v304 := Nat.lt_of_lt_of_le hb_v304 hX.1
                      have hb0_v304 := hb_v304
                      have ht_v308 := (hX.2.1 _ hb_v308).1.trans ht_v308
                      have hb_v308 := Nat.lt_of_lt_of_le hb_v308 hX.1
                      have hb0_v308 := hb_v308
                      have hn := Nat.le_refl n
                      have h94 := hS0.1
                      have hX := @yX.rf n tg I311 R
                      have hS := hS0.x hX
                      have hR := hR0.x hn hX
                      have hz := hX.sz h94
                      have hxn := hX.1
                      have hN := hR0.1
                      have hnb := hR0.2.2.2.2.2.2
                      have hthB := hth
                      refine y_aload_n rfl rfl ?_
                      refine y_getIv (v := Int32.ofInt (3)) rfl (ySh.t hS rfl) (ySh.n hS rfl) rfl rfl hth ?_
                      refine y_if_leF rfl (by decide) ?_
                      refine y_iconst rfl ?_
                      refine y_goto rfl j_X14_refuse_28 ?_
                      refine y_ireturn rfl rfl rfl ?_
                      refine y_ret1 ?_
                      refine y_if_eqF rfl (by decide) ?_
                      refine y_iconst rfl ?_
                      refine y_ireturn rfl rfl rfl ?_
                      exact hQ _ _ _ _ _ _ _ hS ((hR0.grow hX).up (Nat.le_succ K) hk6) (hK.x hRo hno hX) (by omega) (by omega)
                    · refine y_aload rfl rfl ?_
                      obtain ⟨hR_v312, hb_v312, ht_v312⟩ := hR0.ven hlo_b231 hb0_b231 ht_b231 (j := 1) (by decide)
                      have hb0_v312 := hb_v312
                      have hb_v312 := Nat.lt_of_lt_of_le hb_v312 hn
                      have hlo_v312 : 94 ≤ b231 + 1 + 1 := by omega
                      have hR2_v312 := (congrFun (hX.2.1 b231 hb_b231).2.2 1).trans hR_v312
                      refine y_getR rfl ((hX.2.1 _ hb_b231).1.trans ht_b231) (Nat.lt_of_lt_of_le hb_b231 hX.1) rfl rfl hR2_v312 ?_
                      refine y_iload rfl rfl ?_
                      refine y_ialoadC (j := 8) rfl ((hX.2.1 _ hb_v312).1.trans ht_v312) (Nat.lt_of_lt_of_le hb_v312 hX.1) (by decide) (by decide) rfl ?_
                      refine y_iload rfl rfl ?_
                      refine y_icmp_lt rfl j_X14_buyOut_142 (fun h_313 => ?_) (fun h_314 => ?_)
                      · refine y_iconst rfl ?_
                        refine y_goto rfl j_X14_buyOut_147 ?_
                        refine y_iconst rfl ?_
                        refine y_virt rfl rfl rfl rfl rfl (ySh.t hS rfl) (ySh.n hS rfl) ?_
                        refine y_in (M := xm_X14_refuse) (ls := [some _, some _, some _]) rfl rfl rfl ?_
                        refine y_iload_n rfl rfl ?_
                        refine y_if_eqF rfl (by decide) ?_
                        refine y_aload_n rfl rfl ?_
                        refine y_getIv (v := Int32.ofInt (0)) rfl (ySh.t hS rfl) (ySh.n hS rfl) rfl rfl hth ?_
                        refine y_if_neF rfl (by decide) ?_
                        refine y_aload_n rfl rfl ?_
                        refine y_iload_n rfl rfl ?_
                        refine y_putI rfl (ySh.t hS rfl) (ySh.n hS rfl) rfl (Nat.le_of_ble_eq_true rfl) rfl rfl ?_
                        refine y_nameI (fun I315 e315 => ?_)
                        have hR1 := (hR0.grow hX).mod0 e315 (by decide) (by decide)
                        have hK := (hK.x hRo hno hX).upI (upI e315) (by decide) (by decide) (fun i hi => by have := (hRo.l87.2.2.2.2 i hi).2.1; omega) (by rw [e315, upd2_ne (.inr (by decide))]; exact Int.le_refl _)
                        have hth : I315 83 0 = Int32.ofInt (3) := by rw [e315, upd2_self]
                        have hzz : ySz8 I224 I315 := ySz8_of (upI e315) (by rw [e315]; exact ⟨upd2_ne (.inr (by decide)), upd2_ne (.inr (by decide))⟩)
                        have hS0 := hS
                        have hR0 := hR1
                        have ht_b231 := (hX.2.1 _ hb_b231).1.trans ht_b231
                        have hb_b231 := Nat.lt_of_lt_of_le hb_b231 hX.1
                        have hb0_b231 := hb_b231
                        have ht_v304 := (hX.2.1 _ hb_v304).1.trans ht_v304
                        have hb_v304 := Nat.lt_of_lt_of_le hb_v304 hX.1
                        have hb0_v304 := hb_v304
                        have ht_v308 := (hX.2.1 _ hb_v308).1.trans ht_v308
                        have hb_v308 := Nat.lt_of_lt_of_le hb_v308 hX.1
                        have hb0_v308 := hb_v308
                        have ht_v312 := (hX.2.1 _ hb_v312).1.trans ht_v312
                        have hb_v312 := Nat.lt_of_lt_of_le hb_v312 hX.1
                        have hb0_v312 := hb_v312
                        have hn := Nat.le_refl n
                        have h94 := hS0.1
                        have hX := @yX.rf n tg I315 R
                        have hS := hS0.x hX
                        have hR := hR0.x hn hX
                        have hz := hX.sz h94
                        have hxn := hX.1
                        have hN := hR0.1
                        have hnb := hR0.2.2.2.2.2.2
                        have hthB := hth
                        refine y_aload_n rfl rfl ?_
                        refine y_getIv (v := Int32.ofInt (3)) rfl (ySh.t hS rfl) (ySh.n hS rfl) rfl rfl hth ?_
                        refine y_if_leF rfl (by decide) ?_
                        refine y_iconst rfl ?_
                        refine y_goto rfl j_X14_refuse_28 ?_
                        refine y_ireturn rfl rfl rfl ?_
                        refine y_ret1 ?_
                        refine y_if_eqF rfl (by decide) ?_
                        refine y_iconst rfl ?_
                        refine y_ireturn rfl rfl rfl ?_
                        exact hQ _ _ _ _ _ _ _ hS ((hR0.grow hX).up (Nat.le_succ K) hk6) (hK.x hRo hno hX) (by omega) (by omega)
                      · refine y_aload_n rfl rfl ?_
                        refine y_getR rfl (ySh.t hS rfl) (ySh.n hS rfl) rfl rfl (ySh.r hS rfl) ?_
                        refine y_iload rfl rfl ?_
                        refine y_ialoadC (j := 8) rfl (ySh.t hS rfl) (ySh.n hS rfl) (by decide) (by decide) rfl ?_
                        refine y_iload rfl rfl ?_
                        refine y_icmp_ge rfl j_X14_buyOut_146 (fun h_316 => ?_) (fun h_317 => ?_)
                        · refine y_iconst rfl ?_
                          refine y_iconst rfl ?_
                          refine y_virt rfl rfl rfl rfl rfl (ySh.t hS rfl) (ySh.n hS rfl) ?_
                          refine y_in (M := xm_X14_refuse) (ls := [some _, some _, some _]) rfl rfl rfl ?_
                          refine y_iload_n rfl rfl ?_
                          refine y_if_eqT rfl j_X14_refuse_16 (by decide) ?_
                          refine y_aload_n rfl rfl ?_
                          refine y_getIv (v := Int32.ofInt (0)) rfl (ySh.t hS rfl) (ySh.n hS rfl) rfl rfl hth ?_
                          refine y_if_leT rfl j_X14_refuse_27 (by decide) ?_
                          refine y_iconst rfl ?_
                          refine y_ireturn rfl rfl rfl ?_
                          refine y_ret1 ?_
                          refine y_if_eqT rfl j_X14_buyOut_156 (by decide) ?_
                          refine y_aload rfl rfl ?_
                          obtain ⟨hR_v318, hb_v318, ht_v318⟩ := hR0.ven hlo_b231 hb0_b231 ht_b231 (j := 1) (by decide)
                          have hb0_v318 := hb_v318
                          have hb_v318 := Nat.lt_of_lt_of_le hb_v318 hn
                          have hlo_v318 : 94 ≤ b231 + 1 + 1 := by omega
                          have hR2_v318 := (congrFun (hX.2.1 b231 hb_b231).2.2 1).trans hR_v318
                          refine y_getR rfl ((hX.2.1 _ hb_b231).1.trans ht_b231) (Nat.lt_of_lt_of_le hb_b231 hX.1) rfl rfl hR2_v318 ?_
                          refine y_iload rfl rfl ?_
                          refine y_dup2 rfl rfl rfl ?_
                          refine y_ialoadC (j := 8) rfl ((hX.2.1 _ hb_v318).1.trans ht_v318) (Nat.lt_of_lt_of_le hb_v318 hX.1) (by decide) (by decide) rfl ?_
                          refine y_iload rfl rfl ?_
                          refine y_isub rfl ?_
                          refine y_iastoreC (j := 8) rfl ((hX.2.1 _ hb_v318).1.trans ht_v318) (Nat.lt_of_lt_of_le hb_v318 hX.1) (Nat.le_trans (by decide) (by omega : 94 ≤ _)) (by decide) (by decide) rfl ?_
                          refine y_nameI (fun I319 e319 => ?_)
                          have hB1 := (hR0.grow hX).capB1 hlo_b231 (by omega) ((hX.2.1 _ hb_b231).1.trans ht_b231) (by omega) ⟨by omega, by omega⟩ e319
                          have hR1 := hB1.1
                          have hK := (hK.x hRo hno hX).upE hRo hno (upI e319) (by omega) (by omega) (by rw [((hX.2.1 _ hb_v318).1.trans ht_v318)]; decide) (by rw [e319, upd2_ne (.inl (by omega))]; exact Int.le_refl _)
                          have hth := (show I319 83 0 = I224 83 0 by rw [e319, upd2_ne (.inl (by omega))]).trans hth
                          have hzz : ySz I224 I319 := ySz_ofE (upI e319) (by omega)
                          have hS0 := hS
                          have hR0 := hR1
                          have ht_b231 := (hX.2.1 _ hb_b231).1.trans ht_b231
                          have hb_b231 := Nat.lt_of_lt_of_le hb_b231 hX.1
                          have hb0_b231 := hb_b231
                          have ht_v304 := (hX.2.1 _ hb_v304).1.trans ht_v304
                          have hb_v304 := Nat.lt_of_lt_of_le hb_v304 hX.1
                          have hb0_v304 := hb_v304
                          have ht_v308 := (hX.2.1 _ hb_v308).1.trans ht_v308
                          have hb_v308 := Nat.lt_of_lt_of_le hb_v308 hX.1
                          have hb0_v308 := hb_v308
                          have ht_v312 := (hX.2.1 _ hb_v312).1.trans ht_v312
                          have hb_v312 := Nat.lt_of_lt_of_le hb_v312 hX.1
                          have hb0_v312 := hb_v312
                          have ht_v318 := (hX.2.1 _ hb_v318).1.trans ht_v318
                          have hb_v318 := Nat.lt_of_lt_of_le hb_v318 hX.1
                          have hb0_v318 := hb_v318
                          have hn := Nat.le_refl n
                          have h94 := hS0.1
                          have hX := @yX.rf n tg I319 R
                          have hS := hS0.x hX
                          have hR := hR0.x hn hX
                          have hz := hX.sz h94
                          have hxn := hX.1
                          have hN := hR0.1
                          have hnb := hR0.2.2.2.2.2.2
                          have hthB := hth
                          refine y_aload rfl rfl ?_
                          obtain ⟨hR_v320, hb_v320, ht_v320⟩ := hR0.ven hlo_b231 hb0_b231 ht_b231 (j := 1) (by decide)
                          have hb0_v320 := hb_v320
                          have hb_v320 := Nat.lt_of_lt_of_le hb_v320 hn
                          have hlo_v320 : 94 ≤ b231 + 1 + 1 := by omega
                          have hR2_v320 := (congrFun (hX.2.1 b231 hb_b231).2.2 1).trans hR_v320
                          refine y_getR rfl ((hX.2.1 _ hb_b231).1.trans ht_b231) (Nat.lt_of_lt_of_le hb_b231 hX.1) rfl rfl hR2_v320 ?_
                          refine y_iload rfl rfl ?_
                          refine y_dup2 rfl rfl rfl ?_
                          refine y_ialoadC (j := 8) rfl ((hX.2.1 _ hb_v320).1.trans ht_v320) (Nat.lt_of_lt_of_le hb_v320 hX.1) (by decide) (by decide) rfl ?_
                          refine y_iload rfl rfl ?_
                          refine y_iadd rfl ?_
                          refine y_iastoreC (j := 8) rfl ((hX.2.1 _ hb_v320).1.trans ht_v320) (Nat.lt_of_lt_of_le hb_v320 hX.1) (Nat.le_trans (by decide) (by omega : 94 ≤ _)) (by decide) (by decide) rfl ?_
                          refine y_nameI (fun I321 e321 => ?_)
                          have hR1 := (hR0.grow hX).capB2 hlo_b231 (by omega) ((hX.2.1 _ hb_b231).1.trans ht_b231) (by omega) (by omega) hB1.2.1 e321
                          have hK := (hK.x hRo hno hX).upE hRo hno (upI e321) (by omega) (by omega) (by rw [((hX.2.1 _ hb_v320).1.trans ht_v320)]; decide) (by rw [e321, upd2_ne (.inl (by omega))]; exact Int.le_refl _)
                          have hth := (show I321 83 0 = I319 83 0 by rw [e321, upd2_ne (.inl (by omega))]).trans hth
                          have hzz : ySz I319 I321 := ySz_ofE (upI e321) (by omega)
                          have hS0 := hS
                          have hR0 := hR1
                          have ht_b231 := (hX.2.1 _ hb_b231).1.trans ht_b231
                          have hb_b231 := Nat.lt_of_lt_of_le hb_b231 hX.1
                          have hb0_b231 := hb_b231
                          have ht_v304 := (hX.2.1 _ hb_v304).1.trans ht_v304
                          have hb_v304 := Nat.lt_of_lt_of_le hb_v304 hX.1
                          have hb0_v304 := hb_v304
                          have ht_v308 := (hX.2.1 _ hb_v308).1.trans ht_v308
                          have hb_v308 := Nat.lt_of_lt_of_le hb_v308 hX.1
                          have hb0_v308 := hb_v308
                          have ht_v312 := (hX.2.1 _ hb_v312).1.trans ht_v312
                          have hb_v312 := Nat.lt_of_lt_of_le hb_v312 hX.1
                          have hb0_v312 := hb_v312
                          have ht_v318 := (hX.2.1 _ hb_v318).1.trans ht_v318
                          have hb_v318 := Nat.lt_of_lt_of_le hb_v318 hX.1
                          have hb0_v318 := hb_v318
                          have ht_v320 := (hX.2.1 _ hb_v320).1.trans ht_v320
                          have hb_v320 := Nat.lt_of_lt_of_le hb_v320 hX.1
                          have hb0_v320 := hb_v320
                          have hn := Nat.le_refl n
                          have h94 := hS0.1
                          have hX := @yX.rf n tg I321 R
                          have hS := hS0.x hX
                          have hR := hR0.x hn hX
                          have hz := hX.sz h94
                          have hxn := hX.1
                          have hN := hR0.1
                          have hnb := hR0.2.2.2.2.2.2
                          have hthB := hth
                          refine y_aload_n rfl rfl ?_
                          refine y_getR rfl (ySh.t hS rfl) (ySh.n hS rfl) rfl rfl (ySh.r hS rfl) ?_
                          refine y_iload rfl rfl ?_
                          refine y_dup2 rfl rfl rfl ?_
                          refine y_ialoadC (j := 8) rfl (ySh.t hS rfl) (ySh.n hS rfl) (by decide) (by decide) rfl ?_
                          refine y_iload rfl rfl ?_
                          refine y_iadd rfl ?_
                          refine y_iastoreC (j := 8) rfl (ySh.t hS rfl) (ySh.n hS rfl) (Nat.le_of_ble_eq_true rfl) (by decide) (by decide) rfl ?_
                          refine y_nameI (fun I322 e322 => ?_)
                          have hR1 := (hR0.grow hX).arr e322 (by decide)
                          have hK := (hK.x hRo hno hX).upI (upI e322) (by decide) (by decide) (fun i hi => by have := (hRo.l87.2.2.2.2 i hi).2.1; omega) (by rw [e322, upd2_ne (.inl (by omega))]; exact Int.le_refl _)
                          have hth := (show I322 83 0 = I321 83 0 by rw [e322, upd2_ne (.inl (by omega))]).trans hth
                          have hzz : ySz I321 I322 := ySz_ofE (upI e322) (by omega)
                          have hS0 := hS
                          have hR0 := hR1
                          have ht_b231 := (hX.2.1 _ hb_b231).1.trans ht_b231
                          have hb_b231 := Nat.lt_of_lt_of_le hb_b231 hX.1
                          have hb0_b231 := hb_b231
                          have ht_v304 := (hX.2.1 _ hb_v304).1.trans ht_v304
                          have hb_v304 := Nat.lt_of_lt_of_le hb_v304 hX.1
                          have hb0_v304 := hb_v304
                          have ht_v308 := (hX.2.1 _ hb_v308).1.trans ht_v308
                          have hb_v308 := Nat.lt_of_lt_of_le hb_v308 hX.1
                          have hb0_v308 := hb_v308
                          have ht_v312 := (hX.2.1 _ hb_v312).1.trans ht_v312
                          have hb_v312 := Nat.lt_of_lt_of_le hb_v312 hX.1
                          have hb0_v312 := hb_v312
                          have ht_v318 := (hX.2.1 _ hb_v318).1.trans ht_v318
                          have hb_v318 := Nat.lt_of_lt_of_le hb_v318 hX.1
                          have hb0_v318 := hb_v318
                          have ht_v320 := (hX.2.1 _ hb_v320).1.trans ht_v320
                          have hb_v320 := Nat.lt_of_lt_of_le hb_v320 hX.1
                          have hb0_v320 := hb_v320
                          have hn := Nat.le_refl n
                          have h94 := hS0.1
                          have hX := @yX.rf n tg I322 R
                          have hS := hS0.x hX
                          have hR := hR0.x hn hX
                          have hz := hX.sz h94
                          have hxn := hX.1
                          have hN := hR0.1
                          have hnb := hR0.2.2.2.2.2.2
                          have hthB := hth
                          refine y_aload_n rfl rfl ?_
                          refine y_getR rfl (ySh.t hS rfl) (ySh.n hS rfl) rfl rfl (ySh.r hS rfl) ?_
                          refine y_iload rfl rfl ?_
                          refine y_dup2 rfl rfl rfl ?_
                          refine y_ialoadC (j := 8) rfl (ySh.t hS rfl) (ySh.n hS rfl) (by decide) (by decide) rfl ?_
                          refine y_iload rfl rfl ?_
                          refine y_isub rfl ?_
                          refine y_iastoreC (j := 8) rfl (ySh.t hS rfl) (ySh.n hS rfl) (Nat.le_of_ble_eq_true rfl) (by decide) (by decide) rfl ?_
                          refine y_nameI (fun I323 e323 => ?_)
                          have hR1 := (hR0.grow hX).arr e323 (by decide)
                          have hK := (hK.x hRo hno hX).upI (upI e323) (by decide) (by decide) (fun i hi => by have := (hRo.l87.2.2.2.2 i hi).2.1; omega) (by rw [e323, upd2_ne (.inl (by omega))]; exact Int.le_refl _)
                          have hth := (show I323 83 0 = I322 83 0 by rw [e323, upd2_ne (.inl (by omega))]).trans hth
                          have hzz : ySz I322 I323 := ySz_ofE (upI e323) (by omega)
                          have hS0 := hS
                          have hR0 := hR1
                          have ht_b231 := (hX.2.1 _ hb_b231).1.trans ht_b231
                          have hb_b231 := Nat.lt_of_lt_of_le hb_b231 hX.1
                          have hb0_b231 := hb_b231
                          have ht_v304 := (hX.2.1 _ hb_v304).1.trans ht_v304
                          have hb_v304 := Nat.lt_of_lt_of_le hb_v304 hX.1
                          have hb0_v304 := hb_v304
                          have ht_v308 := (hX.2.1 _ hb_v308).1.trans ht_v308
                          have hb_v308 := Nat.lt_of_lt_of_le hb_v308 hX.1
                          have hb0_v308 := hb_v308
                          have ht_v312 := (hX.2.1 _ hb_v312).1.trans ht_v312
                          have hb_v312 := Nat.lt_of_lt_of_le hb_v312 hX.1
                          have hb0_v312 := hb_v312
                          have ht_v318 := (hX.2.1 _ hb_v318).1.trans ht_v318
                          have hb_v318 := Nat.lt_of_lt_of_le hb_v318 hX.1
                          have hb0_v318 := hb_v318
                          have ht_v320 := (hX.2.1 _ hb_v320).1.trans ht_v320
                          have hb_v320 := Nat.lt_of_lt_of_le hb_v320 hX.1
                          have hb0_v320 := hb_v320
                          have hn := Nat.le_refl n
                          have h94 := hS0.1
                          have hX := @yX.rf n tg I323 R
                          have hS := hS0.x hX
                          have hR := hR0.x hn hX
                          have hz := hX.sz h94
                          have hxn := hX.1
                          have hN := hR0.1
                          have hnb := hR0.2.2.2.2.2.2
                          have hthB := hth
                          refine y_aload rfl rfl ?_
                          obtain ⟨hR_v324, hb_v324, ht_v324⟩ := hR0.ven hlo_b231 hb0_b231 ht_b231 (j := 1) (by decide)
                          have hb0_v324 := hb_v324
                          have hb_v324 := Nat.lt_of_lt_of_le hb_v324 hn
                          have hlo_v324 : 94 ≤ b231 + 1 + 1 := by omega
                          have hR2_v324 := (congrFun (hX.2.1 b231 hb_b231).2.2 1).trans hR_v324
                          refine y_getR rfl ((hX.2.1 _ hb_b231).1.trans ht_b231) (Nat.lt_of_lt_of_le hb_b231 hX.1) rfl rfl hR2_v324 ?_
                          refine y_iload rfl rfl ?_
                          refine y_ialoadC (j := 8) rfl ((hX.2.1 _ hb_v324).1.trans ht_v324) (Nat.lt_of_lt_of_le hb_v324 hX.1) (by decide) (by decide) rfl ?_
                          refine y_ireturn rfl rfl rfl ?_
                          exact hQ _ _ _ _ _ _ _ hS ((hR0.grow hX).up (Nat.le_succ K) hk6) (hK.x hRo hno hX) (by omega) (by omega)
                        · refine y_iconst rfl ?_
                          refine y_goto rfl j_X14_buyOut_147 ?_
                          refine y_iconst rfl ?_
                          refine y_virt rfl rfl rfl rfl rfl (ySh.t hS rfl) (ySh.n hS rfl) ?_
                          refine y_in (M := xm_X14_refuse) (ls := [some _, some _, some _]) rfl rfl rfl ?_
                          refine y_iload_n rfl rfl ?_
                          refine y_if_eqF rfl (by decide) ?_
                          refine y_aload_n rfl rfl ?_
                          refine y_getIv (v := Int32.ofInt (0)) rfl (ySh.t hS rfl) (ySh.n hS rfl) rfl rfl hth ?_
                          refine y_if_neF rfl (by decide) ?_
                          refine y_aload_n rfl rfl ?_
                          refine y_iload_n rfl rfl ?_
                          refine y_putI rfl (ySh.t hS rfl) (ySh.n hS rfl) rfl (Nat.le_of_ble_eq_true rfl) rfl rfl ?_
                          refine y_nameI (fun I325 e325 => ?_)
                          have hR1 := (hR0.grow hX).mod0 e325 (by decide) (by decide)
                          have hK := (hK.x hRo hno hX).upI (upI e325) (by decide) (by decide) (fun i hi => by have := (hRo.l87.2.2.2.2 i hi).2.1; omega) (by rw [e325, upd2_ne (.inr (by decide))]; exact Int.le_refl _)
                          have hth : I325 83 0 = Int32.ofInt (3) := by rw [e325, upd2_self]
                          have hzz : ySz8 I224 I325 := ySz8_of (upI e325) (by rw [e325]; exact ⟨upd2_ne (.inr (by decide)), upd2_ne (.inr (by decide))⟩)
                          have hS0 := hS
                          have hR0 := hR1
                          have ht_b231 := (hX.2.1 _ hb_b231).1.trans ht_b231
                          have hb_b231 := Nat.lt_of_lt_of_le hb_b231 hX.1
                          have hb0_b231 := hb_b231
                          have ht_v304 := (hX.2.1 _ hb_v304).1.trans ht_v304
                          have hb_v304 := Nat.lt_of_lt_of_le hb_v304 hX.1
                          have hb0_v304 := hb_v304
                          have ht_v308 := (hX.2.1 _ hb_v308).1.trans ht_v308
                          have hb_v308 := Nat.lt_of_lt_of_le hb_v308 hX.1
                          have hb0_v308 := hb_v308
                          have ht_v312 := (hX.2.1 _ hb_v312).1.trans ht_v312
                          have hb_v312 := Nat.lt_of_lt_of_le hb_v312 hX.1
                          have hb0_v312 := hb_v312
                          have hn := Nat.le_refl n
                          have h94 := hS0.1
                          have hX := @yX.rf n tg I325 R
                          have hS := hS0.x hX
                          have hR := hR0.x hn hX
                          have hz := hX.sz h94
                          have hxn := hX.1
                          have hN := hR0.1
                          have hnb := hR0.2.2.2.2.2.2
                          have hthB := hth
                          refine y_aload_n rfl rfl ?_
                          refine y_getIv (v := Int32.ofInt (3)) rfl (ySh.t hS rfl) (ySh.n hS rfl) rfl rfl hth ?_
                          refine y_if_leF rfl (by decide) ?_
                          refine y_iconst rfl ?_
                          refine y_goto rfl j_X14_refuse_28 ?_
                          refine y_ireturn rfl rfl rfl ?_
                          refine y_ret1 ?_
                          refine y_if_eqF rfl (by decide) ?_
                          refine y_iconst rfl ?_
                          refine y_ireturn rfl rfl rfl ?_
                          exact hQ _ _ _ _ _ _ _ hS ((hR0.grow hX).up (Nat.le_succ K) hk6) (hK.x hRo hno hX) (by omega) (by omega)
            · rw [yz_1] at h_230
              rw [yz_999] at h_230
              refine y_ret1 ?_
              refine y_if_neF rfl (by decide) ?_
              refine y_iconst rfl ?_
              refine y_goto rfl j_X14_buyOut_60 ?_
              refine y_iconst rfl ?_
              refine y_virt rfl rfl rfl rfl rfl (ySh.t hS rfl) (ySh.n hS rfl) ?_
              refine y_in (M := xm_X14_refuse) (ls := [some _, some _, some _]) rfl rfl rfl ?_
              refine y_iload_n rfl rfl ?_
              refine y_if_eqF rfl (by decide) ?_
              refine y_aload_n rfl rfl ?_
              refine y_getIv (v := Int32.ofInt (0)) rfl (ySh.t hS rfl) (ySh.n hS rfl) rfl rfl hth ?_
              refine y_if_neF rfl (by decide) ?_
              refine y_aload_n rfl rfl ?_
              refine y_iload_n rfl rfl ?_
              refine y_putI rfl (ySh.t hS rfl) (ySh.n hS rfl) rfl (Nat.le_of_ble_eq_true rfl) rfl rfl ?_
              refine y_nameI (fun I326 e326 => ?_)
              have hR1 := (hR0.grow hX).mod0 e326 (by decide) (by decide)
              have hK := (hK.x hRo hno hX).upI (upI e326) (by decide) (by decide) (fun i hi => by have := (hRo.l87.2.2.2.2 i hi).2.1; omega) (by rw [e326, upd2_ne (.inr (by decide))]; exact Int.le_refl _)
              have hth : I326 83 0 = Int32.ofInt (2) := by rw [e326, upd2_self]
              have hzz : ySz8 I224 I326 := ySz8_of (upI e326) (by rw [e326]; exact ⟨upd2_ne (.inr (by decide)), upd2_ne (.inr (by decide))⟩)
              have hS0 := hS
              have hR0 := hR1
              have hn := Nat.le_refl n
              have h94 := hS0.1
              have hX := @yX.rf n tg I326 R
              have hS := hS0.x hX
              have hR := hR0.x hn hX
              have hz := hX.sz h94
              have hxn := hX.1
              have hN := hR0.1
              have hnb := hR0.2.2.2.2.2.2
              have hthB := hth
              refine y_aload_n rfl rfl ?_
              refine y_getIv (v := Int32.ofInt (2)) rfl (ySh.t hS rfl) (ySh.n hS rfl) rfl rfl hth ?_
              refine y_if_leF rfl (by decide) ?_
              refine y_iconst rfl ?_
              refine y_goto rfl j_X14_refuse_28 ?_
              refine y_ireturn rfl rfl rfl ?_
              refine y_ret1 ?_
              refine y_if_eqF rfl (by decide) ?_
              refine y_iconst rfl ?_
              refine y_ireturn rfl rfl rfl ?_
              exact hQ _ _ _ _ _ _ _ hS ((hR0.grow hX).up (Nat.le_succ K) hk6) (hK.x hRo hno hX) (by omega) (by omega)
        · rw [yz_m1] at h_223
          refine y_aload_n rfl rfl ?_
          refine y_iload_n rfl rfl ?_
          refine y_virt rfl rfl rfl rfl rfl (ySh.t hS rfl) (ySh.n hS rfl) ?_
          refine y_in (M := xm_X14_isNobody) (ls := [some _, some _]) rfl rfl rfl ?_
          refine y_iload_n rfl rfl ?_
          refine y_iconst rfl ?_
          refine y_aload_n rfl rfl ?_
          refine y_getI rfl (ySh.t hS rfl) (ySh.n hS rfl) rfl rfl ?_
          refine y_iconst rfl ?_
          refine y_isub rfl ?_
          refine y_static rfl rfl rfl rfl rfl ?_
          refine r_isIn (fun h_327 h_328 => ?_) (fun h_329 => ?_)
          · rw [yz_0] at h_327
            try rw [ysub (by rw [yz_1]; omega) (by rw [yz_1]; omega), yz_1] at h_328
            refine y_ret1 ?_
            refine y_if_neT rfl j_X14_isNobody_18 (by decide) ?_
            refine y_iconst rfl ?_
            refine y_ireturn rfl rfl rfl ?_
            refine y_ret1 ?_
            refine y_if_eqT rfl j_X14_isNoOne_17 (by decide) ?_
            refine y_iconst rfl ?_
            refine y_ireturn rfl rfl rfl ?_
            refine y_ret1 ?_
            refine y_if_eqT rfl j_X14_buyOut_29 (by decide) ?_
            refine y_iconst rfl ?_
            refine y_iconst rfl ?_
            refine y_virt rfl rfl rfl rfl rfl (ySh.t hS rfl) (ySh.n hS rfl) ?_
            refine y_in (M := xm_X14_start) (ls := [some _, some _, some _]) rfl rfl rfl ?_
            refine y_aload_n rfl rfl ?_
            refine y_iconst rfl ?_
            refine y_putI rfl (ySh.t hS rfl) (ySh.n hS rfl) rfl (Nat.le_of_ble_eq_true rfl) rfl rfl ?_
            refine y_nameI (fun I330 e330 => ?_)
            have hR1 := (hR0.grow hX).mod0 e330 (by decide) (by decide)
            have hK := (hK.x hRo hno hX).upI (upI e330) (by decide) (by decide) (fun i hi => by have := (hRo.l87.2.2.2.2 i hi).2.1; omega) (by rw [e330, upd2_ne (.inr (by decide))]; exact Int.le_refl _)
            have hth : I330 83 0 = Int32.ofInt (0) := by rw [e330, upd2_self]
            have hzz : ySz8 I I330 := ySz8_of (upI e330) (by rw [e330]; exact ⟨upd2_ne (.inr (by decide)), upd2_ne (.inr (by decide))⟩)
            have hS0 := hS
            have hR0 := hR1
            have hn := Nat.le_refl n
            have h94 := hS0.1
            have hX := @yX.rf n tg I330 R
            have hS := hS0.x hX
            have hR := hR0.x hn hX
            have hz := hX.sz h94
            have hxn := hX.1
            have hN := hR0.1
            have hnb := hR0.2.2.2.2.2.2
            have hthB := hth
            refine y_aload_n rfl rfl ?_
            refine y_iload_n rfl rfl ?_
            refine y_iload_n rfl rfl ?_
            refine y_virt rfl rfl rfl rfl rfl (ySh.t hS rfl) (ySh.n hS rfl) ?_
            refine y_in (M := xm_X14_refuse) (ls := [some _, some _, some _]) rfl rfl rfl ?_
            refine y_iload_n rfl rfl ?_
            refine y_if_eqT rfl j_X14_refuse_16 (by decide) ?_
            refine y_aload_n rfl rfl ?_
            refine y_getIv (v := Int32.ofInt (0)) rfl (ySh.t hS rfl) (ySh.n hS rfl) rfl rfl hth ?_
            refine y_if_leT rfl j_X14_refuse_27 (by decide) ?_
            refine y_iconst rfl ?_
            refine y_ireturn rfl rfl rfl ?_
            refine y_ret1 ?_
            refine y_ireturn rfl rfl rfl ?_
            refine y_ret1 ?_
            refine y_if_neF rfl (by decide) ?_
            refine y_aload_n rfl rfl ?_
            refine y_iload_n rfl rfl ?_
            refine y_iload_n rfl rfl ?_
            refine y_icmp_eq rfl j_X14_buyOut_55 (fun h_331 => ?_) (fun h_332 => ?_)
            · refine y_iconst rfl ?_
              refine y_goto rfl j_X14_buyOut_60 ?_
              refine y_iconst rfl ?_
              refine y_virt rfl rfl rfl rfl rfl (ySh.t hS rfl) (ySh.n hS rfl) ?_
              refine y_in (M := xm_X14_refuse) (ls := [some _, some _, some _]) rfl rfl rfl ?_
              refine y_iload_n rfl rfl ?_
              refine y_if_eqF rfl (by decide) ?_
              refine y_aload_n rfl rfl ?_
              refine y_getIv (v := Int32.ofInt (0)) rfl (ySh.t hS rfl) (ySh.n hS rfl) rfl rfl hth ?_
              refine y_if_neF rfl (by decide) ?_
              refine y_aload_n rfl rfl ?_
              refine y_iload_n rfl rfl ?_
              refine y_putI rfl (ySh.t hS rfl) (ySh.n hS rfl) rfl (Nat.le_of_ble_eq_true rfl) rfl rfl ?_
              refine y_nameI (fun I333 e333 => ?_)
              have hR1 := (hR0.grow hX).mod0 e333 (by decide) (by decide)
              have hK := (hK.x hRo hno hX).upI (upI e333) (by decide) (by decide) (fun i hi => by have := (hRo.l87.2.2.2.2 i hi).2.1; omega) (by rw [e333, upd2_ne (.inr (by decide))]; exact Int.le_refl _)
              have hth : I333 83 0 = Int32.ofInt (2) := by rw [e333, upd2_self]
              have hzz : ySz8 I330 I333 := ySz8_of (upI e333) (by rw [e333]; exact ⟨upd2_ne (.inr (by decide)), upd2_ne (.inr (by decide))⟩)
              have hS0 := hS
              have hR0 := hR1
              have hn := Nat.le_refl n
              have h94 := hS0.1
              have hX := @yX.rf n tg I333 R
              have hS := hS0.x hX
              have hR := hR0.x hn hX
              have hz := hX.sz h94
              have hxn := hX.1
              have hN := hR0.1
              have hnb := hR0.2.2.2.2.2.2
              have hthB := hth
              refine y_aload_n rfl rfl ?_
              refine y_getIv (v := Int32.ofInt (2)) rfl (ySh.t hS rfl) (ySh.n hS rfl) rfl rfl hth ?_
              refine y_if_leF rfl (by decide) ?_
              refine y_iconst rfl ?_
              refine y_goto rfl j_X14_refuse_28 ?_
              refine y_ireturn rfl rfl rfl ?_
              refine y_ret1 ?_
              refine y_if_eqF rfl (by decide) ?_
              refine y_iconst rfl ?_
              refine y_ireturn rfl rfl rfl ?_
              exact hQ _ _ _ _ _ _ _ hS ((hR0.grow hX).up (Nat.le_succ K) hk6) (hK.x hRo hno hX) (by omega) (by omega)
            · refine y_iload rfl rfl ?_
              refine y_iconst rfl ?_
              refine y_sip rfl (by decide) ?_
              refine y_static rfl rfl rfl rfl rfl ?_
              refine r_isIn (fun h_334 h_335 => ?_) (fun h_336 => ?_)
              · rw [yz_1] at h_334
                rw [yz_999] at h_335
                refine y_ret1 ?_
                refine y_if_neT rfl j_X14_buyOut_59 (by decide) ?_
                refine y_iconst rfl ?_
                refine y_iconst rfl ?_
                refine y_virt rfl rfl rfl rfl rfl (ySh.t hS rfl) (ySh.n hS rfl) ?_
                refine y_in (M := xm_X14_refuse) (ls := [some _, some _, some _]) rfl rfl rfl ?_
                refine y_iload_n rfl rfl ?_
                refine y_if_eqT rfl j_X14_refuse_16 (by decide) ?_
                refine y_aload_n rfl rfl ?_
                refine y_getIv (v := Int32.ofInt (0)) rfl (ySh.t hS rfl) (ySh.n hS rfl) rfl rfl hth ?_
                refine y_if_leT rfl j_X14_refuse_27 (by decide) ?_
                refine y_iconst rfl ?_
                refine y_ireturn rfl rfl rfl ?_
                refine y_ret1 ?_
                refine y_if_eqT rfl j_X14_buyOut_69 (by decide) ?_
                refine y_aload_n rfl rfl ?_
                refine y_getR rfl (ySh.t hS rfl) (ySh.n hS rfl) rfl rfl (ySh.r hS rfl) ?_
                refine y_iload_n rfl rfl ?_
                refine y_virt rfl rfl rfl rfl rfl (ySh.t hS rfl) (ySh.n hS rfl) ?_
                refine l_get (nb := n) (ySh.t hS rfl) (ySh.n hS rfl) (Nat.le_trans hn hX.1) hR.l91 (by omega) (by omega) (fun b337 eb_b337 hlo_b337 hb0_b337 ht_b337 => ?_)
                have hb_b337 := Nat.lt_of_lt_of_le hb0_b337 hn
                replace ht_b337 := (hX.2.1 _ hb_b337).1.symm.trans ht_b337
                refine y_ret1 ?_
                refine y_cast rfl ((hX.2.1 _ hb_b337).1.trans ht_b337) (Nat.lt_of_lt_of_le hb_b337 hX.1) ?_
                refine y_astore (ls' := [some _, some _, some _, some _, some _, some _, _, _]) rfl rfl rfl ?_
                refine y_iload_n rfl rfl ?_
                refine y_static rfl rfl rfl rfl rfl ?_
                refine y_in (M := xm_X14_seat) (ls := [some _]) rfl rfl rfl ?_
                refine y_iload_n rfl rfl ?_
                refine y_iconst rfl ?_
                refine y_icmp_ne rfl j_X14_seat_10 (fun h_338 => ?_) (fun h_339 => ?_)
                · rw [yz_m1] at h_338
                  refine y_iload_n rfl rfl ?_
                  refine y_ireturn rfl rfl rfl ?_
                  refine y_ret1 ?_
                  refine y_istore (ls' := [some _, some _, some _, some _, some _, some _, some _, _]) rfl rfl rfl ?_
                  refine y_iload_n rfl rfl ?_
                  refine y_static rfl rfl rfl rfl rfl ?_
                  refine y_in (M := xm_X14_seat) (ls := [some _]) rfl rfl rfl ?_
                  refine y_iload_n rfl rfl ?_
                  refine y_iconst rfl ?_
                  refine y_icmp_ne rfl j_X14_seat_10 (fun h_340 => ?_) (fun h_341 => ?_)
                  · rw [yz_m1] at h_340
                    refine y_iload_n rfl rfl ?_
                    refine y_ireturn rfl rfl rfl ?_
                    refine y_ret1 ?_
                    refine y_istore (ls' := [some _, some _, some _, some _, some _, some _, some _, some _]) rfl rfl rfl ?_
                    refine y_aload_n rfl rfl ?_
                    refine y_aload rfl rfl ?_
                    obtain ⟨hR_v342, hb_v342, ht_v342⟩ := hR0.ven hlo_b337 hb0_b337 ht_b337 (j := 0) (by decide)
                    have hb0_v342 := hb_v342
                    have hb_v342 := Nat.lt_of_lt_of_le hb_v342 hn
                    have hlo_v342 : 94 ≤ b337 + 1 + 0 := by omega
                    have hR2_v342 := (congrFun (hX.2.1 b337 hb_b337).2.2 0).trans hR_v342
                    refine y_getR rfl ((hX.2.1 _ hb_b337).1.trans ht_b337) (Nat.lt_of_lt_of_le hb_b337 hX.1) rfl rfl hR2_v342 ?_
                    refine y_iload rfl rfl ?_
                    refine y_baload rfl ((hX.2.1 _ hb_v342).1.trans ht_v342) rfl (Nat.lt_of_lt_of_le hb_v342 hX.1) (by omega) (by omega) ?_
                    refine y_if_eq rfl j_X14_buyOut_142 (fun h_343 => ?_) (fun h_344 => ?_)
                    · refine y_iconst rfl ?_
                      refine y_goto rfl j_X14_buyOut_147 ?_
                      refine y_iconst rfl ?_
                      refine y_virt rfl rfl rfl rfl rfl (ySh.t hS rfl) (ySh.n hS rfl) ?_
                      refine y_in (M := xm_X14_refuse) (ls := [some _, some _, some _]) rfl rfl rfl ?_
                      refine y_iload_n rfl rfl ?_
                      refine y_if_eqF rfl (by decide) ?_
                      refine y_aload_n rfl rfl ?_
                      refine y_getIv (v := Int32.ofInt (0)) rfl (ySh.t hS rfl) (ySh.n hS rfl) rfl rfl hth ?_
                      refine y_if_neF rfl (by decide) ?_
                      refine y_aload_n rfl rfl ?_
                      refine y_iload_n rfl rfl ?_
                      refine y_putI rfl (ySh.t hS rfl) (ySh.n hS rfl) rfl (Nat.le_of_ble_eq_true rfl) rfl rfl ?_
                      refine y_nameI (fun I345 e345 => ?_)
                      have hR1 := (hR0.grow hX).mod0 e345 (by decide) (by decide)
                      have hK := (hK.x hRo hno hX).upI (upI e345) (by decide) (by decide) (fun i hi => by have := (hRo.l87.2.2.2.2 i hi).2.1; omega) (by rw [e345, upd2_ne (.inr (by decide))]; exact Int.le_refl _)
                      have hth : I345 83 0 = Int32.ofInt (3) := by rw [e345, upd2_self]
                      have hzz : ySz8 I330 I345 := ySz8_of (upI e345) (by rw [e345]; exact ⟨upd2_ne (.inr (by decide)), upd2_ne (.inr (by decide))⟩)
                      have hS0 := hS
                      have hR0 := hR1
                      have ht_b337 := (hX.2.1 _ hb_b337).1.trans ht_b337
                      have hb_b337 := Nat.lt_of_lt_of_le hb_b337 hX.1
                      have hb0_b337 := hb_b337
                      have ht_v342 := (hX.2.1 _ hb_v342).1.trans ht_v342
                      have hb_v342 := Nat.lt_of_lt_of_le hb_v342 hX.1
                      have hb0_v342 := hb_v342
                      have hn := Nat.le_refl n
                      have h94 := hS0.1
                      have hX := @yX.rf n tg I345 R
                      have hS := hS0.x hX
                      have hR := hR0.x hn hX
                      have hz := hX.sz h94
                      have hxn := hX.1
                      have hN := hR0.1
                      have hnb := hR0.2.2.2.2.2.2
                      have hthB := hth
                      refine y_aload_n rfl rfl ?_
                      refine y_getIv (v := Int32.ofInt (3)) rfl (ySh.t hS rfl) (ySh.n hS rfl) rfl rfl hth ?_
                      refine y_if_leF rfl (by decide) ?_
                      refine y_iconst rfl ?_
                      refine y_goto rfl j_X14_refuse_28 ?_
                      refine y_ireturn rfl rfl rfl ?_
                      refine y_ret1 ?_
                      refine y_if_eqF rfl (by decide) ?_
                      refine y_iconst rfl ?_
                      refine y_ireturn rfl rfl rfl ?_
                      exact hQ _ _ _ _ _ _ _ hS ((hR0.grow hX).up (Nat.le_succ K) hk6) (hK.x hRo hno hX) (by omega) (by omega)
                    · refine y_aload rfl rfl ?_
                      obtain ⟨hR_v346, hb_v346, ht_v346⟩ := hR0.ven hlo_b337 hb0_b337 ht_b337 (j := 0) (by decide)
                      have hb0_v346 := hb_v346
                      have hb_v346 := Nat.lt_of_lt_of_le hb_v346 hn
                      have hlo_v346 : 94 ≤ b337 + 1 + 0 := by omega
                      have hR2_v346 := (congrFun (hX.2.1 b337 hb_b337).2.2 0).trans hR_v346
                      refine y_getR rfl ((hX.2.1 _ hb_b337).1.trans ht_b337) (Nat.lt_of_lt_of_le hb_b337 hX.1) rfl rfl hR2_v346 ?_
                      refine y_iload rfl rfl ?_
                      refine y_baload rfl ((hX.2.1 _ hb_v346).1.trans ht_v346) rfl (Nat.lt_of_lt_of_le hb_v346 hX.1) (by omega) (by omega) ?_
                      refine y_if_eq rfl j_X14_buyOut_142 (fun h_347 => ?_) (fun h_348 => ?_)
                      · refine y_iconst rfl ?_
                        refine y_goto rfl j_X14_buyOut_147 ?_
                        refine y_iconst rfl ?_
                        refine y_virt rfl rfl rfl rfl rfl (ySh.t hS rfl) (ySh.n hS rfl) ?_
                        refine y_in (M := xm_X14_refuse) (ls := [some _, some _, some _]) rfl rfl rfl ?_
                        refine y_iload_n rfl rfl ?_
                        refine y_if_eqF rfl (by decide) ?_
                        refine y_aload_n rfl rfl ?_
                        refine y_getIv (v := Int32.ofInt (0)) rfl (ySh.t hS rfl) (ySh.n hS rfl) rfl rfl hth ?_
                        refine y_if_neF rfl (by decide) ?_
                        refine y_aload_n rfl rfl ?_
                        refine y_iload_n rfl rfl ?_
                        refine y_putI rfl (ySh.t hS rfl) (ySh.n hS rfl) rfl (Nat.le_of_ble_eq_true rfl) rfl rfl ?_
                        refine y_nameI (fun I349 e349 => ?_)
                        have hR1 := (hR0.grow hX).mod0 e349 (by decide) (by decide)
                        have hK := (hK.x hRo hno hX).upI (upI e349) (by decide) (by decide) (fun i hi => by have := (hRo.l87.2.2.2.2 i hi).2.1; omega) (by rw [e349, upd2_ne (.inr (by decide))]; exact Int.le_refl _)
                        have hth : I349 83 0 = Int32.ofInt (3) := by rw [e349, upd2_self]
                        have hzz : ySz8 I330 I349 := ySz8_of (upI e349) (by rw [e349]; exact ⟨upd2_ne (.inr (by decide)), upd2_ne (.inr (by decide))⟩)
                        have hS0 := hS
                        have hR0 := hR1
                        have ht_b337 := (hX.2.1 _ hb_b337).1.trans ht_b337
                        have hb_b337 := Nat.lt_of_lt_of_le hb_b337 hX.1
                        have hb0_b337 := hb_b337
                        have ht_v342 := (hX.2.1 _ hb_v342).1.trans ht_v342
                        have hb_v342 := Nat.lt_of_lt_of_le hb_v342 hX.1
                        have hb0_v342 := hb_v342
                        have ht_v346 := (hX.2.1 _ hb_v346).1.trans ht_v346
                        have hb_v346 := Nat.lt_of_lt_of_le hb_v346 hX.1
                        have hb0_v346 := hb_v346
                        have hn := Nat.le_refl n
                        have h94 := hS0.1
                        have hX := @yX.rf n tg I349 R
                        have hS := hS0.x hX
                        have hR := hR0.x hn hX
                        have hz := hX.sz h94
                        have hxn := hX.1
                        have hN := hR0.1
                        have hnb := hR0.2.2.2.2.2.2
                        have hthB := hth
                        refine y_aload_n rfl rfl ?_
                        refine y_getIv (v := Int32.ofInt (3)) rfl (ySh.t hS rfl) (ySh.n hS rfl) rfl rfl hth ?_
                        refine y_if_leF rfl (by decide) ?_
                        refine y_iconst rfl ?_
                        refine y_goto rfl j_X14_refuse_28 ?_
                        refine y_ireturn rfl rfl rfl ?_
                        refine y_ret1 ?_
                        refine y_if_eqF rfl (by decide) ?_
                        refine y_iconst rfl ?_
                        refine y_ireturn rfl rfl rfl ?_
                        exact hQ _ _ _ _ _ _ _ hS ((hR0.grow hX).up (Nat.le_succ K) hk6) (hK.x hRo hno hX) (by omega) (by omega)
                      · refine y_aload rfl rfl ?_
                        obtain ⟨hR_v350, hb_v350, ht_v350⟩ := hR0.ven hlo_b337 hb0_b337 ht_b337 (j := 1) (by decide)
                        have hb0_v350 := hb_v350
                        have hb_v350 := Nat.lt_of_lt_of_le hb_v350 hn
                        have hlo_v350 : 94 ≤ b337 + 1 + 1 := by omega
                        have hR2_v350 := (congrFun (hX.2.1 b337 hb_b337).2.2 1).trans hR_v350
                        refine y_getR rfl ((hX.2.1 _ hb_b337).1.trans ht_b337) (Nat.lt_of_lt_of_le hb_b337 hX.1) rfl rfl hR2_v350 ?_
                        refine y_iload rfl rfl ?_
                        refine y_iaload rfl ((hX.2.1 _ hb_v350).1.trans ht_v350) (Nat.lt_of_lt_of_le hb_v350 hX.1) (by omega) (by omega) ?_
                        refine y_iload rfl rfl ?_
                        refine y_icmp_lt rfl j_X14_buyOut_142 (fun h_351 => ?_) (fun h_352 => ?_)
                        · refine y_iconst rfl ?_
                          refine y_goto rfl j_X14_buyOut_147 ?_
                          refine y_iconst rfl ?_
                          refine y_virt rfl rfl rfl rfl rfl (ySh.t hS rfl) (ySh.n hS rfl) ?_
                          refine y_in (M := xm_X14_refuse) (ls := [some _, some _, some _]) rfl rfl rfl ?_
                          refine y_iload_n rfl rfl ?_
                          refine y_if_eqF rfl (by decide) ?_
                          refine y_aload_n rfl rfl ?_
                          refine y_getIv (v := Int32.ofInt (0)) rfl (ySh.t hS rfl) (ySh.n hS rfl) rfl rfl hth ?_
                          refine y_if_neF rfl (by decide) ?_
                          refine y_aload_n rfl rfl ?_
                          refine y_iload_n rfl rfl ?_
                          refine y_putI rfl (ySh.t hS rfl) (ySh.n hS rfl) rfl (Nat.le_of_ble_eq_true rfl) rfl rfl ?_
                          refine y_nameI (fun I353 e353 => ?_)
                          have hR1 := (hR0.grow hX).mod0 e353 (by decide) (by decide)
                          have hK := (hK.x hRo hno hX).upI (upI e353) (by decide) (by decide) (fun i hi => by have := (hRo.l87.2.2.2.2 i hi).2.1; omega) (by rw [e353, upd2_ne (.inr (by decide))]; exact Int.le_refl _)
                          have hth : I353 83 0 = Int32.ofInt (3) := by rw [e353, upd2_self]
                          have hzz : ySz8 I330 I353 := ySz8_of (upI e353) (by rw [e353]; exact ⟨upd2_ne (.inr (by decide)), upd2_ne (.inr (by decide))⟩)
                          have hS0 := hS
                          have hR0 := hR1
                          have ht_b337 := (hX.2.1 _ hb_b337).1.trans ht_b337
                          have hb_b337 := Nat.lt_of_lt_of_le hb_b337 hX.1
                          have hb0_b337 := hb_b337
                          have ht_v342 := (hX.2.1 _ hb_v342).1.trans ht_v342
                          have hb_v342 := Nat.lt_of_lt_of_le hb_v342 hX.1
                          have hb0_v342 := hb_v342
                          have ht_v346 := (hX.2.1 _ hb_v346).1.trans ht_v346
                          have hb_v346 := Nat.lt_of_lt_of_le hb_v346 hX.1
                          have hb0_v346 := hb_v346
                          have ht_v350 := (hX.2.1 _ hb_v350).1.trans ht_v350
                          have hb_v350 := Nat.lt_of_lt_of_le hb_v350 hX.1
                          have hb0_v350 := hb_v350
                          have hn := Nat.le_refl n
                          have h94 := hS0.1
                          have hX := @yX.rf n tg I353 R
                          have hS := hS0.x hX
                          have hR := hR0.x hn hX
                          have hz := hX.sz h94
                          have hxn := hX.1
                          have hN := hR0.1
                          have hnb := hR0.2.2.2.2.2.2
                          have hthB := hth
                          refine y_aload_n rfl rfl ?_
                          refine y_getIv (v := Int32.ofInt (3)) rfl (ySh.t hS rfl) (ySh.n hS rfl) rfl rfl hth ?_
                          refine y_if_leF rfl (by decide) ?_
                          refine y_iconst rfl ?_
                          refine y_goto rfl j_X14_refuse_28 ?_
                          refine y_ireturn rfl rfl rfl ?_
                          refine y_ret1 ?_
                          refine y_if_eqF rfl (by decide) ?_
                          refine y_iconst rfl ?_
                          refine y_ireturn rfl rfl rfl ?_
                          exact hQ _ _ _ _ _ _ _ hS ((hR0.grow hX).up (Nat.le_succ K) hk6) (hK.x hRo hno hX) (by omega) (by omega)
                        · refine y_aload_n rfl rfl ?_
                          refine y_getR rfl (ySh.t hS rfl) (ySh.n hS rfl) rfl rfl (ySh.r hS rfl) ?_
                          refine y_iload rfl rfl ?_
                          refine y_iaload rfl (ySh.t hS rfl) (ySh.n hS rfl) (by omega) (by omega) ?_
                          refine y_iload rfl rfl ?_
                          refine y_icmp_ge rfl j_X14_buyOut_146 (fun h_354 => ?_) (fun h_355 => ?_)
                          · refine y_iconst rfl ?_
                            refine y_iconst rfl ?_
                            refine y_virt rfl rfl rfl rfl rfl (ySh.t hS rfl) (ySh.n hS rfl) ?_
                            refine y_in (M := xm_X14_refuse) (ls := [some _, some _, some _]) rfl rfl rfl ?_
                            refine y_iload_n rfl rfl ?_
                            refine y_if_eqT rfl j_X14_refuse_16 (by decide) ?_
                            refine y_aload_n rfl rfl ?_
                            refine y_getIv (v := Int32.ofInt (0)) rfl (ySh.t hS rfl) (ySh.n hS rfl) rfl rfl hth ?_
                            refine y_if_leT rfl j_X14_refuse_27 (by decide) ?_
                            refine y_iconst rfl ?_
                            refine y_ireturn rfl rfl rfl ?_
                            refine y_ret1 ?_
                            refine y_if_eqT rfl j_X14_buyOut_156 (by decide) ?_
                            refine y_aload rfl rfl ?_
                            obtain ⟨hR_v356, hb_v356, ht_v356⟩ := hR0.ven hlo_b337 hb0_b337 ht_b337 (j := 1) (by decide)
                            have hb0_v356 := hb_v356
                            have hb_v356 := Nat.lt_of_lt_of_le hb_v356 hn
                            have hlo_v356 : 94 ≤ b337 + 1 + 1 := by omega
                            have hR2_v356 := (congrFun (hX.2.1 b337 hb_b337).2.2 1).trans hR_v356
                            refine y_getR rfl ((hX.2.1 _ hb_b337).1.trans ht_b337) (Nat.lt_of_lt_of_le hb_b337 hX.1) rfl rfl hR2_v356 ?_
                            refine y_iload rfl rfl ?_
                            refine y_dup2 rfl rfl rfl ?_
                            refine y_iaload rfl ((hX.2.1 _ hb_v356).1.trans ht_v356) (Nat.lt_of_lt_of_le hb_v356 hX.1) (by omega) (by omega) ?_
                            refine y_iload rfl rfl ?_
                            refine y_isub rfl ?_
                            refine y_iastore rfl ((hX.2.1 _ hb_v356).1.trans ht_v356) (Nat.lt_of_lt_of_le hb_v356 hX.1) (Nat.le_trans (by decide) (by omega : 94 ≤ _)) (by omega) (by omega) ?_
                            refine y_nameI (fun I357 e357 => ?_)
                            have hB1 := (hR0.grow hX).capB1 hlo_b337 (by omega) ((hX.2.1 _ hb_b337).1.trans ht_b337) (by omega) ⟨by omega, by omega⟩ e357
                            have hR1 := hB1.1
                            have hK := (hK.x hRo hno hX).upE hRo hno (upI e357) (by omega) (by omega) (by rw [((hX.2.1 _ hb_v356).1.trans ht_v356)]; decide) (by rw [e357, upd2_ne (.inl (by omega))]; exact Int.le_refl _)
                            have hth := (show I357 83 0 = I330 83 0 by rw [e357, upd2_ne (.inl (by omega))]).trans hth
                            have hzz : ySz I330 I357 := ySz_ofE (upI e357) (by omega)
                            have hS0 := hS
                            have hR0 := hR1
                            have ht_b337 := (hX.2.1 _ hb_b337).1.trans ht_b337
                            have hb_b337 := Nat.lt_of_lt_of_le hb_b337 hX.1
                            have hb0_b337 := hb_b337
                            have ht_v342 := (hX.2.1 _ hb_v342).1.trans ht_v342
                            have hb_v342 := Nat.lt_of_lt_of_le hb_v342 hX.1
                            have hb0_v342 := hb_v342
                            have ht_v346 := (hX.2.1 _ hb_v346).1.trans ht_v346
                            have hb_v346 := Nat.lt_of_lt_of_le hb_v346 hX.1
                            have hb0_v346 := hb_v346
                            have ht_v350 := (hX.2.1 _ hb_v350).1.trans ht_v350
                            have hb_v350 := Nat.lt_of_lt_of_le hb_v350 hX.1
                            have hb0_v350 := hb_v350
                            have ht_v356 := (hX.2.1 _ hb_v356).1.trans ht_v356
                            have hb_v356 := Nat.lt_of_lt_of_le hb_v356 hX.1
                            have hb0_v356 := hb_v356
                            have hn := Nat.le_refl n
                            have h94 := hS0.1
                            have hX := @yX.rf n tg I357 R
                            have hS := hS0.x hX
                            have hR := hR0.x hn hX
                            have hz := hX.sz h94
                            have hxn := hX.1
                            have hN := hR0.1
                            have hnb := hR0.2.2.2.2.2.2
                            have hthB := hth
                            refine y_aload rfl rfl ?_
                            obtain ⟨hR_v358, hb_v358, ht_v358⟩ := hR0.ven hlo_b337 hb0_b337 ht_b337 (j := 1) (by decide)
                            have hb0_v358 := hb_v358
                            have hb_v358 := Nat.lt_of_lt_of_le hb_v358 hn
                            have hlo_v358 : 94 ≤ b337 + 1 + 1 := by omega
                            have hR2_v358 := (congrFun (hX.2.1 b337 hb_b337).2.2 1).trans hR_v358
                            refine y_getR rfl ((hX.2.1 _ hb_b337).1.trans ht_b337) (Nat.lt_of_lt_of_le hb_b337 hX.1) rfl rfl hR2_v358 ?_
                            refine y_iload rfl rfl ?_
                            refine y_dup2 rfl rfl rfl ?_
                            refine y_iaload rfl ((hX.2.1 _ hb_v358).1.trans ht_v358) (Nat.lt_of_lt_of_le hb_v358 hX.1) (by omega) (by omega) ?_
                            refine y_iload rfl rfl ?_
                            refine y_iadd rfl ?_
                            refine y_iastore rfl ((hX.2.1 _ hb_v358).1.trans ht_v358) (Nat.lt_of_lt_of_le hb_v358 hX.1) (Nat.le_trans (by decide) (by omega : 94 ≤ _)) (by omega) (by omega) ?_
                            refine y_nameI (fun I359 e359 => ?_)
                            have hR1 := (hR0.grow hX).capB2 hlo_b337 (by omega) ((hX.2.1 _ hb_b337).1.trans ht_b337) (by omega) (by omega) hB1.2.1 e359
                            have hK := (hK.x hRo hno hX).upE hRo hno (upI e359) (by omega) (by omega) (by rw [((hX.2.1 _ hb_v358).1.trans ht_v358)]; decide) (by rw [e359, upd2_ne (.inl (by omega))]; exact Int.le_refl _)
                            have hth := (show I359 83 0 = I357 83 0 by rw [e359, upd2_ne (.inl (by omega))]).trans hth
                            have hzz : ySz I357 I359 := ySz_ofE (upI e359) (by omega)
                            have hS0 := hS
                            have hR0 := hR1
                            have ht_b337 := (hX.2.1 _ hb_b337).1.trans ht_b337
                            have hb_b337 := Nat.lt_of_lt_of_le hb_b337 hX.1
                            have hb0_b337 := hb_b337
                            have ht_v342 := (hX.2.1 _ hb_v342).1.trans ht_v342
                            have hb_v342 := Nat.lt_of_lt_of_le hb_v342 hX.1
                            have hb0_v342 := hb_v342
                            have ht_v346 := (hX.2.1 _ hb_v346).1.trans ht_v346
                            have hb_v346 := Nat.lt_of_lt_of_le hb_v346 hX.1
                            have hb0_v346 := hb_v346
                            have ht_v350 := (hX.2.1 _ hb_v350).1.trans ht_v350
                            have hb_v350 := Nat.lt_of_lt_of_le hb_v350 hX.1
                            have hb0_v350 := hb_v350
                            have ht_v356 := (hX.2.1 _ hb_v356).1.trans ht_v356
                            have hb_v356 := Nat.lt_of_lt_of_le hb_v356 hX.1
                            have hb0_v356 := hb_v356
                            have ht_v358 := (hX.2.1 _ hb_v358).1.trans ht_v358
                            have hb_v358 := Nat.lt_of_lt_of_le hb_v358 hX.1
                            have hb0_v358 := hb_v358
                            have hn := Nat.le_refl n
                            have h94 := hS0.1
                            have hX := @yX.rf n tg I359 R
                            have hS := hS0.x hX
                            have hR := hR0.x hn hX
                            have hz := hX.sz h94
                            have hxn := hX.1
                            have hN := hR0.1
                            have hnb := hR0.2.2.2.2.2.2
                            have hthB := hth
                            refine y_aload_n rfl rfl ?_
                            refine y_getR rfl (ySh.t hS rfl) (ySh.n hS rfl) rfl rfl (ySh.r hS rfl) ?_
                            refine y_iload rfl rfl ?_
                            refine y_dup2 rfl rfl rfl ?_
                            refine y_iaload rfl (ySh.t hS rfl) (ySh.n hS rfl) (by omega) (by omega) ?_
                            refine y_iload rfl rfl ?_
                            refine y_iadd rfl ?_
                            refine y_iastore rfl (ySh.t hS rfl) (ySh.n hS rfl) (Nat.le_of_ble_eq_true rfl) (by omega) (by omega) ?_
                            refine y_nameI (fun I360 e360 => ?_)
                            have hR1 := (hR0.grow hX).arr e360 (by decide)
                            have hK := (hK.x hRo hno hX).upI (upI e360) (by decide) (by decide) (fun i hi => by have := (hRo.l87.2.2.2.2 i hi).2.1; omega) (by rw [e360, upd2_ne (.inl (by omega))]; exact Int.le_refl _)
                            have hth := (show I360 83 0 = I359 83 0 by rw [e360, upd2_ne (.inl (by omega))]).trans hth
                            have hzz : ySz I359 I360 := ySz_ofE (upI e360) (by omega)
                            have hS0 := hS
                            have hR0 := hR1
                            have ht_b337 := (hX.2.1 _ hb_b337).1.trans ht_b337
                            have hb_b337 := Nat.lt_of_lt_of_le hb_b337 hX.1
                            have hb0_b337 := hb_b337
                            have ht_v342 := (hX.2.1 _ hb_v342).1.trans ht_v342
                            have hb_v342 := Nat.lt_of_lt_of_le hb_v342 hX.1
                            have hb0_v342 := hb_v342
                            have ht_v346 := (hX.2.1 _ hb_v346).1.trans ht_v346
                            have hb_v346 := Nat.lt_of_lt_of_le hb_v346 hX.1
                            have hb0_v346 := hb_v346
                            have ht_v350 := (hX.2.1 _ hb_v350).1.trans ht_v350
                            have hb_v350 := Nat.lt_of_lt_of_le hb_v350 hX.1
                            have hb0_v350 := hb_v350
                            have ht_v356 := (hX.2.1 _ hb_v356).1.trans ht_v356
                            have hb_v356 := Nat.lt_of_lt_of_le hb_v356 hX.1
                            have hb0_v356 := hb_v356
                            have ht_v358 := (hX.2.1 _ hb_v358).1.trans ht_v358
                            have hb_v358 := Nat.lt_of_lt_of_le hb_v358 hX.1
                            have hb0_v358 := hb_v358
                            have hn := Nat.le_refl n
                            have h94 := hS0.1
                            have hX := @yX.rf n tg I360 R
                            have hS := hS0.x hX
                            have hR := hR0.x hn hX
                            have hz := hX.sz h94
                            have hxn := hX.1
                            have hN := hR0.1
                            have hnb := hR0.2.2.2.2.2.2
                            have hthB := hth
                            refine y_aload_n rfl rfl ?_
                            refine y_getR rfl (ySh.t hS rfl) (ySh.n hS rfl) rfl rfl (ySh.r hS rfl) ?_
                            refine y_iload rfl rfl ?_
                            refine y_dup2 rfl rfl rfl ?_
                            refine y_iaload rfl (ySh.t hS rfl) (ySh.n hS rfl) (by omega) (by omega) ?_
                            refine y_iload rfl rfl ?_
                            refine y_isub rfl ?_
                            refine y_iastore rfl (ySh.t hS rfl) (ySh.n hS rfl) (Nat.le_of_ble_eq_true rfl) (by omega) (by omega) ?_
                            refine y_nameI (fun I361 e361 => ?_)
                            have hR1 := (hR0.grow hX).arr e361 (by decide)
                            have hK := (hK.x hRo hno hX).upI (upI e361) (by decide) (by decide) (fun i hi => by have := (hRo.l87.2.2.2.2 i hi).2.1; omega) (by rw [e361, upd2_ne (.inl (by omega))]; exact Int.le_refl _)
                            have hth := (show I361 83 0 = I360 83 0 by rw [e361, upd2_ne (.inl (by omega))]).trans hth
                            have hzz : ySz I360 I361 := ySz_ofE (upI e361) (by omega)
                            have hS0 := hS
                            have hR0 := hR1
                            have ht_b337 := (hX.2.1 _ hb_b337).1.trans ht_b337
                            have hb_b337 := Nat.lt_of_lt_of_le hb_b337 hX.1
                            have hb0_b337 := hb_b337
                            have ht_v342 := (hX.2.1 _ hb_v342).1.trans ht_v342
                            have hb_v342 := Nat.lt_of_lt_of_le hb_v342 hX.1
                            have hb0_v342 := hb_v342
                            have ht_v346 := (hX.2.1 _ hb_v346).1.trans ht_v346
                            have hb_v346 := Nat.lt_of_lt_of_le hb_v346 hX.1
                            have hb0_v346 := hb_v346
                            have ht_v350 := (hX.2.1 _ hb_v350).1.trans ht_v350
                            have hb_v350 := Nat.lt_of_lt_of_le hb_v350 hX.1
                            have hb0_v350 := hb_v350
                            have ht_v356 := (hX.2.1 _ hb_v356).1.trans ht_v356
                            have hb_v356 := Nat.lt_of_lt_of_le hb_v356 hX.1
                            have hb0_v356 := hb_v356
                            have ht_v358 := (hX.2.1 _ hb_v358).1.trans ht_v358
                            have hb_v358 := Nat.lt_of_lt_of_le hb_v358 hX.1
                            have hb0_v358 := hb_v358
                            have hn := Nat.le_refl n
                            have h94 := hS0.1
                            have hX := @yX.rf n tg I361 R
                            have hS := hS0.x hX
                            have hR := hR0.x hn hX
                            have hz := hX.sz h94
                            have hxn := hX.1
                            have hN := hR0.1
                            have hnb := hR0.2.2.2.2.2.2
                            have hthB := hth
                            refine y_aload rfl rfl ?_
                            obtain ⟨hR_v362, hb_v362, ht_v362⟩ := hR0.ven hlo_b337 hb0_b337 ht_b337 (j := 1) (by decide)
                            have hb0_v362 := hb_v362
                            have hb_v362 := Nat.lt_of_lt_of_le hb_v362 hn
                            have hlo_v362 : 94 ≤ b337 + 1 + 1 := by omega
                            have hR2_v362 := (congrFun (hX.2.1 b337 hb_b337).2.2 1).trans hR_v362
                            refine y_getR rfl ((hX.2.1 _ hb_b337).1.trans ht_b337) (Nat.lt_of_lt_of_le hb_b337 hX.1) rfl rfl hR2_v362 ?_
                            refine y_iload rfl rfl ?_
                            refine y_iaload rfl ((hX.2.1 _ hb_v362).1.trans ht_v362) (Nat.lt_of_lt_of_le hb_v362 hX.1) (by omega) (by omega) ?_
                            refine y_ireturn rfl rfl rfl ?_
                            exact hQ _ _ _ _ _ _ _ hS ((hR0.grow hX).up (Nat.le_succ K) hk6) (hK.x hRo hno hX) (by omega) (by omega)
                          · refine y_iconst rfl ?_
                            refine y_goto rfl j_X14_buyOut_147 ?_
                            refine y_iconst rfl ?_
                            refine y_virt rfl rfl rfl rfl rfl (ySh.t hS rfl) (ySh.n hS rfl) ?_
                            refine y_in (M := xm_X14_refuse) (ls := [some _, some _, some _]) rfl rfl rfl ?_
                            refine y_iload_n rfl rfl ?_
                            refine y_if_eqF rfl (by decide) ?_
                            refine y_aload_n rfl rfl ?_
                            refine y_getIv (v := Int32.ofInt (0)) rfl (ySh.t hS rfl) (ySh.n hS rfl) rfl rfl hth ?_
                            refine y_if_neF rfl (by decide) ?_
                            refine y_aload_n rfl rfl ?_
                            refine y_iload_n rfl rfl ?_
                            refine y_putI rfl (ySh.t hS rfl) (ySh.n hS rfl) rfl (Nat.le_of_ble_eq_true rfl) rfl rfl ?_
                            refine y_nameI (fun I363 e363 => ?_)
                            have hR1 := (hR0.grow hX).mod0 e363 (by decide) (by decide)
                            have hK := (hK.x hRo hno hX).upI (upI e363) (by decide) (by decide) (fun i hi => by have := (hRo.l87.2.2.2.2 i hi).2.1; omega) (by rw [e363, upd2_ne (.inr (by decide))]; exact Int.le_refl _)
                            have hth : I363 83 0 = Int32.ofInt (3) := by rw [e363, upd2_self]
                            have hzz : ySz8 I330 I363 := ySz8_of (upI e363) (by rw [e363]; exact ⟨upd2_ne (.inr (by decide)), upd2_ne (.inr (by decide))⟩)
                            have hS0 := hS
                            have hR0 := hR1
                            have ht_b337 := (hX.2.1 _ hb_b337).1.trans ht_b337
                            have hb_b337 := Nat.lt_of_lt_of_le hb_b337 hX.1
                            have hb0_b337 := hb_b337
                            have ht_v342 := (hX.2.1 _ hb_v342).1.trans ht_v342
                            have hb_v342 := Nat.lt_of_lt_of_le hb_v342 hX.1
                            have hb0_v342 := hb_v342
                            have ht_v346 := (hX.2.1 _ hb_v346).1.trans ht_v346
                            have hb_v346 := Nat.lt_of_lt_of_le hb_v346 hX.1
                            have hb0_v346 := hb_v346
                            have ht_v350 := (hX.2.1 _ hb_v350).1.trans ht_v350
                            have hb_v350 := Nat.lt_of_lt_of_le hb_v350 hX.1
                            have hb0_v350 := hb_v350
                            have hn := Nat.le_refl n
                            have h94 := hS0.1
                            have hX := @yX.rf n tg I363 R
                            have hS := hS0.x hX
                            have hR := hR0.x hn hX
                            have hz := hX.sz h94
                            have hxn := hX.1
                            have hN := hR0.1
                            have hnb := hR0.2.2.2.2.2.2
                            have hthB := hth
                            refine y_aload_n rfl rfl ?_
                            refine y_getIv (v := Int32.ofInt (3)) rfl (ySh.t hS rfl) (ySh.n hS rfl) rfl rfl hth ?_
                            refine y_if_leF rfl (by decide) ?_
                            refine y_iconst rfl ?_
                            refine y_goto rfl j_X14_refuse_28 ?_
                            refine y_ireturn rfl rfl rfl ?_
                            refine y_ret1 ?_
                            refine y_if_eqF rfl (by decide) ?_
                            refine y_iconst rfl ?_
                            refine y_ireturn rfl rfl rfl ?_
                            exact hQ _ _ _ _ _ _ _ hS ((hR0.grow hX).up (Nat.le_succ K) hk6) (hK.x hRo hno hX) (by omega) (by omega)
                  · rw [yz_m1] at h_341
                    refine y_bip rfl (by decide) ?_
                    refine y_goto rfl j_X14_seat_11 ?_
                    refine y_ireturn rfl rfl rfl ?_
                    refine y_ret1 ?_
                    refine y_istore (ls' := [some _, some _, some _, some _, some _, some _, some _, some _]) rfl rfl rfl ?_
                    refine y_aload_n rfl rfl ?_
                    refine y_aload rfl rfl ?_
                    obtain ⟨hR_v364, hb_v364, ht_v364⟩ := hR0.ven hlo_b337 hb0_b337 ht_b337 (j := 0) (by decide)
                    have hb0_v364 := hb_v364
                    have hb_v364 := Nat.lt_of_lt_of_le hb_v364 hn
                    have hlo_v364 : 94 ≤ b337 + 1 + 0 := by omega
                    have hR2_v364 := (congrFun (hX.2.1 b337 hb_b337).2.2 0).trans hR_v364
                    refine y_getR rfl ((hX.2.1 _ hb_b337).1.trans ht_b337) (Nat.lt_of_lt_of_le hb_b337 hX.1) rfl rfl hR2_v364 ?_
                    refine y_iload rfl rfl ?_
                    refine y_baload rfl ((hX.2.1 _ hb_v364).1.trans ht_v364) rfl (Nat.lt_of_lt_of_le hb_v364 hX.1) (by omega) (by omega) ?_
                    refine y_if_eq rfl j_X14_buyOut_142 (fun h_365 => ?_) (fun h_366 => ?_)
                    · refine y_iconst rfl ?_
                      refine y_goto rfl j_X14_buyOut_147 ?_
                      refine y_iconst rfl ?_
                      refine y_virt rfl rfl rfl rfl rfl (ySh.t hS rfl) (ySh.n hS rfl) ?_
                      refine y_in (M := xm_X14_refuse) (ls := [some _, some _, some _]) rfl rfl rfl ?_
                      refine y_iload_n rfl rfl ?_
                      refine y_if_eqF rfl (by decide) ?_
                      refine y_aload_n rfl rfl ?_
                      refine y_getIv (v := Int32.ofInt (0)) rfl (ySh.t hS rfl) (ySh.n hS rfl) rfl rfl hth ?_
                      refine y_if_neF rfl (by decide) ?_
                      refine y_aload_n rfl rfl ?_
                      refine y_iload_n rfl rfl ?_
                      refine y_putI rfl (ySh.t hS rfl) (ySh.n hS rfl) rfl (Nat.le_of_ble_eq_true rfl) rfl rfl ?_
                      refine y_nameI (fun I367 e367 => ?_)
                      have hR1 := (hR0.grow hX).mod0 e367 (by decide) (by decide)
                      have hK := (hK.x hRo hno hX).upI (upI e367) (by decide) (by decide) (fun i hi => by have := (hRo.l87.2.2.2.2 i hi).2.1; omega) (by rw [e367, upd2_ne (.inr (by decide))]; exact Int.le_refl _)
                      have hth : I367 83 0 = Int32.ofInt (3) := by rw [e367, upd2_self]
                      have hzz : ySz8 I330 I367 := ySz8_of (upI e367) (by rw [e367]; exact ⟨upd2_ne (.inr (by decide)), upd2_ne (.inr (by decide))⟩)
                      have hS0 := hS
                      have hR0 := hR1
                      have ht_b337 := (hX.2.1 _ hb_b337).1.trans ht_b337
                      have hb_b337 := Nat.lt_of_lt_of_le hb_b337 hX.1
                      have hb0_b337 := hb_b337
                      have ht_v364 := (hX.2.1 _ hb_v364).1.trans ht_v364
                      have hb_v364 := Nat.lt_of_lt_of_le hb_v364 hX.1
                      have hb0_v364 := hb_v364
                      have hn := Nat.le_refl n
                      have h94 := hS0.1
                      have hX := @yX.rf n tg I367 R
                      have hS := hS0.x hX
                      have hR := hR0.x hn hX
                      have hz := hX.sz h94
                      have hxn := hX.1
                      have hN := hR0.1
                      have hnb := hR0.2.2.2.2.2.2
                      have hthB := hth
                      refine y_aload_n rfl rfl ?_
                      refine y_getIv (v := Int32.ofInt (3)) rfl (ySh.t hS rfl) (ySh.n hS rfl) rfl rfl hth ?_
                      refine y_if_leF rfl (by decide) ?_
                      refine y_iconst rfl ?_
                      refine y_goto rfl j_X14_refuse_28 ?_
                      refine y_ireturn rfl rfl rfl ?_
                      refine y_ret1 ?_
                      refine y_if_eqF rfl (by decide) ?_
                      refine y_iconst rfl ?_
                      refine y_ireturn rfl rfl rfl ?_
                      exact hQ _ _ _ _ _ _ _ hS ((hR0.grow hX).up (Nat.le_succ K) hk6) (hK.x hRo hno hX) (by omega) (by omega)
                    · refine y_aload rfl rfl ?_
                      obtain ⟨hR_v368, hb_v368, ht_v368⟩ := hR0.ven hlo_b337 hb0_b337 ht_b337 (j := 0) (by decide)
                      have hb0_v368 := hb_v368
                      have hb_v368 := Nat.lt_of_lt_of_le hb_v368 hn
                      have hlo_v368 : 94 ≤ b337 + 1 + 0 := by omega
                      have hR2_v368 := (congrFun (hX.2.1 b337 hb_b337).2.2 0).trans hR_v368
                      refine y_getR rfl ((hX.2.1 _ hb_b337).1.trans ht_b337) (Nat.lt_of_lt_of_le hb_b337 hX.1) rfl rfl hR2_v368 ?_
                      refine y_iload rfl rfl ?_
                      refine y_baload rfl ((hX.2.1 _ hb_v368).1.trans ht_v368) rfl (Nat.lt_of_lt_of_le hb_v368 hX.1) (by decide) (by decide) ?_
                      refine y_if_eq rfl j_X14_buyOut_142 (fun h_369 => ?_) (fun h_370 => ?_)
                      · refine y_iconst rfl ?_
                        refine y_goto rfl j_X14_buyOut_147 ?_
                        refine y_iconst rfl ?_
                        refine y_virt rfl rfl rfl rfl rfl (ySh.t hS rfl) (ySh.n hS rfl) ?_
                        refine y_in (M := xm_X14_refuse) (ls := [some _, some _, some _]) rfl rfl rfl ?_
                        refine y_iload_n rfl rfl ?_
                        refine y_if_eqF rfl (by decide) ?_
                        refine y_aload_n rfl rfl ?_
                        refine y_getIv (v := Int32.ofInt (0)) rfl (ySh.t hS rfl) (ySh.n hS rfl) rfl rfl hth ?_
                        refine y_if_neF rfl (by decide) ?_
                        refine y_aload_n rfl rfl ?_
                        refine y_iload_n rfl rfl ?_
                        refine y_putI rfl (ySh.t hS rfl) (ySh.n hS rfl) rfl (Nat.le_of_ble_eq_true rfl) rfl rfl ?_
                        refine y_nameI (fun I371 e371 => ?_)
                        have hR1 := (hR0.grow hX).mod0 e371 (by decide) (by decide)
                        have hK := (hK.x hRo hno hX).upI (upI e371) (by decide) (by decide) (fun i hi => by have := (hRo.l87.2.2.2.2 i hi).2.1; omega) (by rw [e371, upd2_ne (.inr (by decide))]; exact Int.le_refl _)
                        have hth : I371 83 0 = Int32.ofInt (3) := by rw [e371, upd2_self]
                        have hzz : ySz8 I330 I371 := ySz8_of (upI e371) (by rw [e371]; exact ⟨upd2_ne (.inr (by decide)), upd2_ne (.inr (by decide))⟩)
                        have hS0 := hS
                        have hR0 := hR1
                        have ht_b337 := (hX.2.1 _ hb_b337).1.trans ht_b337
                        have hb_b337 := Nat.lt_of_lt_of_le hb_b337 hX.1
                        have hb0_b337 := hb_b337
                        have ht_v364 := (hX.2.1 _ hb_v364).1.trans ht_v364
                        have hb_v364 := Nat.lt_of_lt_of_le hb_v364 hX.1
                        have hb0_v364 := hb_v364
                        have ht_v368 := (hX.2.1 _ hb_v368).1.trans ht_v368
                        have hb_v368 := Nat.lt_of_lt_of_le hb_v368 hX.1
                        have hb0_v368 := hb_v368
                        have hn := Nat.le_refl n
                        have h94 := hS0.1
                        have hX := @yX.rf n tg I371 R
                        have hS := hS0.x hX
                        have hR := hR0.x hn hX
                        have hz := hX.sz h94
                        have hxn := hX.1
                        have hN := hR0.1
                        have hnb := hR0.2.2.2.2.2.2
                        have hthB := hth
                        refine y_aload_n rfl rfl ?_
                        refine y_getIv (v := Int32.ofInt (3)) rfl (ySh.t hS rfl) (ySh.n hS rfl) rfl rfl hth ?_
                        refine y_if_leF rfl (by decide) ?_
                        refine y_iconst rfl ?_
                        refine y_goto rfl j_X14_refuse_28 ?_
                        refine y_ireturn rfl rfl rfl ?_
                        refine y_ret1 ?_
                        refine y_if_eqF rfl (by decide) ?_
                        refine y_iconst rfl ?_
                        refine y_ireturn rfl rfl rfl ?_
                        exact hQ _ _ _ _ _ _ _ hS ((hR0.grow hX).up (Nat.le_succ K) hk6) (hK.x hRo hno hX) (by omega) (by omega)
                      · refine y_aload rfl rfl ?_
                        obtain ⟨hR_v372, hb_v372, ht_v372⟩ := hR0.ven hlo_b337 hb0_b337 ht_b337 (j := 1) (by decide)
                        have hb0_v372 := hb_v372
                        have hb_v372 := Nat.lt_of_lt_of_le hb_v372 hn
                        have hlo_v372 : 94 ≤ b337 + 1 + 1 := by omega
                        have hR2_v372 := (congrFun (hX.2.1 b337 hb_b337).2.2 1).trans hR_v372
                        refine y_getR rfl ((hX.2.1 _ hb_b337).1.trans ht_b337) (Nat.lt_of_lt_of_le hb_b337 hX.1) rfl rfl hR2_v372 ?_
                        refine y_iload rfl rfl ?_
                        refine y_iaload rfl ((hX.2.1 _ hb_v372).1.trans ht_v372) (Nat.lt_of_lt_of_le hb_v372 hX.1) (by omega) (by omega) ?_
                        refine y_iload rfl rfl ?_
                        refine y_icmp_lt rfl j_X14_buyOut_142 (fun h_373 => ?_) (fun h_374 => ?_)
                        · refine y_iconst rfl ?_
                          refine y_goto rfl j_X14_buyOut_147 ?_
                          refine y_iconst rfl ?_
                          refine y_virt rfl rfl rfl rfl rfl (ySh.t hS rfl) (ySh.n hS rfl) ?_
                          refine y_in (M := xm_X14_refuse) (ls := [some _, some _, some _]) rfl rfl rfl ?_
                          refine y_iload_n rfl rfl ?_
                          refine y_if_eqF rfl (by decide) ?_
                          refine y_aload_n rfl rfl ?_
                          refine y_getIv (v := Int32.ofInt (0)) rfl (ySh.t hS rfl) (ySh.n hS rfl) rfl rfl hth ?_
                          refine y_if_neF rfl (by decide) ?_
                          refine y_aload_n rfl rfl ?_
                          refine y_iload_n rfl rfl ?_
                          refine y_putI rfl (ySh.t hS rfl) (ySh.n hS rfl) rfl (Nat.le_of_ble_eq_true rfl) rfl rfl ?_
                          refine y_nameI (fun I375 e375 => ?_)
                          have hR1 := (hR0.grow hX).mod0 e375 (by decide) (by decide)
                          have hK := (hK.x hRo hno hX).upI (upI e375) (by decide) (by decide) (fun i hi => by have := (hRo.l87.2.2.2.2 i hi).2.1; omega) (by rw [e375, upd2_ne (.inr (by decide))]; exact Int.le_refl _)
                          have hth : I375 83 0 = Int32.ofInt (3) := by rw [e375, upd2_self]
                          have hzz : ySz8 I330 I375 := ySz8_of (upI e375) (by rw [e375]; exact ⟨upd2_ne (.inr (by decide)), upd2_ne (.inr (by decide))⟩)
                          have hS0 := hS
                          have hR0 := hR1
                          have ht_b337 := (hX.2.1 _ hb_b337).1.trans ht_b337
                          have hb_b337 := Nat.lt_of_lt_of_le hb_b337 hX.1
                          have hb0_b337 := hb_b337
                          have ht_v364 := (hX.2.1 _ hb_v364).1.trans ht_v364
                          have hb_v364 := Nat.lt_of_lt_of_le hb_v364 hX.1
                          have hb0_v364 := hb_v364
                          have ht_v368 := (hX.2.1 _ hb_v368).1.trans ht_v368
                          have hb_v368 := Nat.lt_of_lt_of_le hb_v368 hX.1
                          have hb0_v368 := hb_v368
                          have ht_v372 := (hX.2.1 _ hb_v372).1.trans ht_v372
                          have hb_v372 := Nat.lt_of_lt_of_le hb_v372 hX.1
                          have hb0_v372 := hb_v372
                          have hn := Nat.le_refl n
                          have h94 := hS0.1
                          have hX := @yX.rf n tg I375 R
                          have hS := hS0.x hX
                          have hR := hR0.x hn hX
                          have hz := hX.sz h94
                          have hxn := hX.1
                          have hN := hR0.1
                          have hnb := hR0.2.2.2.2.2.2
                          have hthB := hth
                          refine y_aload_n rfl rfl ?_
                          refine y_getIv (v := Int32.ofInt (3)) rfl (ySh.t hS rfl) (ySh.n hS rfl) rfl rfl hth ?_
                          refine y_if_leF rfl (by decide) ?_
                          refine y_iconst rfl ?_
                          refine y_goto rfl j_X14_refuse_28 ?_
                          refine y_ireturn rfl rfl rfl ?_
                          refine y_ret1 ?_
                          refine y_if_eqF rfl (by decide) ?_
                          refine y_iconst rfl ?_
                          refine y_ireturn rfl rfl rfl ?_
                          exact hQ _ _ _ _ _ _ _ hS ((hR0.grow hX).up (Nat.le_succ K) hk6) (hK.x hRo hno hX) (by omega) (by omega)
                        · refine y_aload_n rfl rfl ?_
                          refine y_getR rfl (ySh.t hS rfl) (ySh.n hS rfl) rfl rfl (ySh.r hS rfl) ?_
                          refine y_iload rfl rfl ?_
                          refine y_ialoadC (j := 8) rfl (ySh.t hS rfl) (ySh.n hS rfl) (by decide) (by decide) rfl ?_
                          refine y_iload rfl rfl ?_
                          refine y_icmp_ge rfl j_X14_buyOut_146 (fun h_376 => ?_) (fun h_377 => ?_)
                          · refine y_iconst rfl ?_
                            refine y_iconst rfl ?_
                            refine y_virt rfl rfl rfl rfl rfl (ySh.t hS rfl) (ySh.n hS rfl) ?_
                            refine y_in (M := xm_X14_refuse) (ls := [some _, some _, some _]) rfl rfl rfl ?_
                            refine y_iload_n rfl rfl ?_
                            refine y_if_eqT rfl j_X14_refuse_16 (by decide) ?_
                            refine y_aload_n rfl rfl ?_
                            refine y_getIv (v := Int32.ofInt (0)) rfl (ySh.t hS rfl) (ySh.n hS rfl) rfl rfl hth ?_
                            refine y_if_leT rfl j_X14_refuse_27 (by decide) ?_
                            refine y_iconst rfl ?_
                            refine y_ireturn rfl rfl rfl ?_
                            refine y_ret1 ?_
                            refine y_if_eqT rfl j_X14_buyOut_156 (by decide) ?_
                            refine y_aload rfl rfl ?_
                            obtain ⟨hR_v378, hb_v378, ht_v378⟩ := hR0.ven hlo_b337 hb0_b337 ht_b337 (j := 1) (by decide)
                            have hb0_v378 := hb_v378
                            have hb_v378 := Nat.lt_of_lt_of_le hb_v378 hn
                            have hlo_v378 : 94 ≤ b337 + 1 + 1 := by omega
                            have hR2_v378 := (congrFun (hX.2.1 b337 hb_b337).2.2 1).trans hR_v378
                            refine y_getR rfl ((hX.2.1 _ hb_b337).1.trans ht_b337) (Nat.lt_of_lt_of_le hb_b337 hX.1) rfl rfl hR2_v378 ?_
                            refine y_iload rfl rfl ?_
                            refine y_dup2 rfl rfl rfl ?_
                            refine y_iaload rfl ((hX.2.1 _ hb_v378).1.trans ht_v378) (Nat.lt_of_lt_of_le hb_v378 hX.1) (by omega) (by omega) ?_
                            refine y_iload rfl rfl ?_
                            refine y_isub rfl ?_
                            refine y_iastore rfl ((hX.2.1 _ hb_v378).1.trans ht_v378) (Nat.lt_of_lt_of_le hb_v378 hX.1) (Nat.le_trans (by decide) (by omega : 94 ≤ _)) (by omega) (by omega) ?_
                            refine y_nameI (fun I379 e379 => ?_)
                            have hB1 := (hR0.grow hX).capB1 hlo_b337 (by omega) ((hX.2.1 _ hb_b337).1.trans ht_b337) (by omega) ⟨by omega, by omega⟩ e379
                            have hR1 := hB1.1
                            have hK := (hK.x hRo hno hX).upE hRo hno (upI e379) (by omega) (by omega) (by rw [((hX.2.1 _ hb_v378).1.trans ht_v378)]; decide) (by rw [e379, upd2_ne (.inl (by omega))]; exact Int.le_refl _)
                            have hth := (show I379 83 0 = I330 83 0 by rw [e379, upd2_ne (.inl (by omega))]).trans hth
                            have hzz : ySz I330 I379 := ySz_ofE (upI e379) (by omega)
                            have hS0 := hS
                            have hR0 := hR1
                            have ht_b337 := (hX.2.1 _ hb_b337).1.trans ht_b337
                            have hb_b337 := Nat.lt_of_lt_of_le hb_b337 hX.1
                            have hb0_b337 := hb_b337
                            have ht_v364 := (hX.2.1 _ hb_v364).1.trans ht_v364
                            have hb_v364 := Nat.lt_of_lt_of_le hb_v364 hX.1
                            have hb0_v364 := hb_v364
                            have ht_v368 := (hX.2.1 _ hb_v368).1.trans ht_v368
                            have hb_v368 := Nat.lt_of_lt_of_le hb_v368 hX.1
                            have hb0_v368 := hb_v368
                            have ht_v372 := (hX.2.1 _ hb_v372).1.trans ht_v372
                            have hb_v372 := Nat.lt_of_lt_of_le hb_v372 hX.1
                            have hb0_v372 := hb_v372
                            have ht_v378 := (hX.2.1 _ hb_v378).1.trans ht_v378
                            have hb_v378 := Nat.lt_of_lt_of_le hb_v378 hX.1
                            have hb0_v378 := hb_v378
                            have hn := Nat.le_refl n
                            have h94 := hS0.1
                            have hX := @yX.rf n tg I379 R
                            have hS := hS0.x hX
                            have hR := hR0.x hn hX
                            have hz := hX.sz h94
                            have hxn := hX.1
                            have hN := hR0.1
                            have hnb := hR0.2.2.2.2.2.2
                            have hthB := hth
                            refine y_aload rfl rfl ?_
                            obtain ⟨hR_v380, hb_v380, ht_v380⟩ := hR0.ven hlo_b337 hb0_b337 ht_b337 (j := 1) (by decide)
                            have hb0_v380 := hb_v380
                            have hb_v380 := Nat.lt_of_lt_of_le hb_v380 hn
                            have hlo_v380 : 94 ≤ b337 + 1 + 1 := by omega
                            have hR2_v380 := (congrFun (hX.2.1 b337 hb_b337).2.2 1).trans hR_v380
                            refine y_getR rfl ((hX.2.1 _ hb_b337).1.trans ht_b337) (Nat.lt_of_lt_of_le hb_b337 hX.1) rfl rfl hR2_v380 ?_
                            refine y_iload rfl rfl ?_
                            refine y_dup2 rfl rfl rfl ?_
                            refine y_ialoadC (j := 8) rfl ((hX.2.1 _ hb_v380).1.trans ht_v380) (Nat.lt_of_lt_of_le hb_v380 hX.1) (by decide) (by decide) rfl ?_
                            refine y_iload rfl rfl ?_
                            refine y_iadd rfl ?_
                            refine y_iastoreC (j := 8) rfl ((hX.2.1 _ hb_v380).1.trans ht_v380) (Nat.lt_of_lt_of_le hb_v380 hX.1) (Nat.le_trans (by decide) (by omega : 94 ≤ _)) (by decide) (by decide) rfl ?_
                            refine y_nameI (fun I381 e381 => ?_)
                            have hR1 := (hR0.grow hX).capB2 hlo_b337 (by omega) ((hX.2.1 _ hb_b337).1.trans ht_b337) (by omega) (by omega) hB1.2.1 e381
                            have hK := (hK.x hRo hno hX).upE hRo hno (upI e381) (by omega) (by omega) (by rw [((hX.2.1 _ hb_v380).1.trans ht_v380)]; decide) (by rw [e381, upd2_ne (.inl (by omega))]; exact Int.le_refl _)
                            have hth := (show I381 83 0 = I379 83 0 by rw [e381, upd2_ne (.inl (by omega))]).trans hth
                            have hzz : ySz I379 I381 := ySz_ofE (upI e381) (by omega)
                            have hS0 := hS
                            have hR0 := hR1
                            have ht_b337 := (hX.2.1 _ hb_b337).1.trans ht_b337
                            have hb_b337 := Nat.lt_of_lt_of_le hb_b337 hX.1
                            have hb0_b337 := hb_b337
                            have ht_v364 := (hX.2.1 _ hb_v364).1.trans ht_v364
                            have hb_v364 := Nat.lt_of_lt_of_le hb_v364 hX.1
                            have hb0_v364 := hb_v364
                            have ht_v368 := (hX.2.1 _ hb_v368).1.trans ht_v368
                            have hb_v368 := Nat.lt_of_lt_of_le hb_v368 hX.1
                            have hb0_v368 := hb_v368
                            have ht_v372 := (hX.2.1 _ hb_v372).1.trans ht_v372
                            have hb_v372 := Nat.lt_of_lt_of_le hb_v372 hX.1
                            have hb0_v372 := hb_v372
                            have ht_v378 := (hX.2.1 _ hb_v378).1.trans ht_v378
                            have hb_v378 := Nat.lt_of_lt_of_le hb_v378 hX.1
                            have hb0_v378 := hb_v378
                            have ht_v380 := (hX.2.1 _ hb_v380).1.trans ht_v380
                            have hb_v380 := Nat.lt_of_lt_of_le hb_v380 hX.1
                            have hb0_v380 := hb_v380
                            have hn := Nat.le_refl n
                            have h94 := hS0.1
                            have hX := @yX.rf n tg I381 R
                            have hS := hS0.x hX
                            have hR := hR0.x hn hX
                            have hz := hX.sz h94
                            have hxn := hX.1
                            have hN := hR0.1
                            have hnb := hR0.2.2.2.2.2.2
                            have hthB := hth
                            refine y_aload_n rfl rfl ?_
                            refine y_getR rfl (ySh.t hS rfl) (ySh.n hS rfl) rfl rfl (ySh.r hS rfl) ?_
                            refine y_iload rfl rfl ?_
                            refine y_dup2 rfl rfl rfl ?_
                            refine y_iaload rfl (ySh.t hS rfl) (ySh.n hS rfl) (by omega) (by omega) ?_
                            refine y_iload rfl rfl ?_
                            refine y_iadd rfl ?_
                            refine y_iastore rfl (ySh.t hS rfl) (ySh.n hS rfl) (Nat.le_of_ble_eq_true rfl) (by omega) (by omega) ?_
                            refine y_nameI (fun I382 e382 => ?_)
                            have hR1 := (hR0.grow hX).arr e382 (by decide)
                            have hK := (hK.x hRo hno hX).upI (upI e382) (by decide) (by decide) (fun i hi => by have := (hRo.l87.2.2.2.2 i hi).2.1; omega) (by rw [e382, upd2_ne (.inl (by omega))]; exact Int.le_refl _)
                            have hth := (show I382 83 0 = I381 83 0 by rw [e382, upd2_ne (.inl (by omega))]).trans hth
                            have hzz : ySz I381 I382 := ySz_ofE (upI e382) (by omega)
                            have hS0 := hS
                            have hR0 := hR1
                            have ht_b337 := (hX.2.1 _ hb_b337).1.trans ht_b337
                            have hb_b337 := Nat.lt_of_lt_of_le hb_b337 hX.1
                            have hb0_b337 := hb_b337
                            have ht_v364 := (hX.2.1 _ hb_v364).1.trans ht_v364
                            have hb_v364 := Nat.lt_of_lt_of_le hb_v364 hX.1
                            have hb0_v364 := hb_v364
                            have ht_v368 := (hX.2.1 _ hb_v368).1.trans ht_v368
                            have hb_v368 := Nat.lt_of_lt_of_le hb_v368 hX.1
                            have hb0_v368 := hb_v368
                            have ht_v372 := (hX.2.1 _ hb_v372).1.trans ht_v372
                            have hb_v372 := Nat.lt_of_lt_of_le hb_v372 hX.1
                            have hb0_v372 := hb_v372
                            have ht_v378 := (hX.2.1 _ hb_v378).1.trans ht_v378
                            have hb_v378 := Nat.lt_of_lt_of_le hb_v378 hX.1
                            have hb0_v378 := hb_v378
                            have ht_v380 := (hX.2.1 _ hb_v380).1.trans ht_v380
                            have hb_v380 := Nat.lt_of_lt_of_le hb_v380 hX.1
                            have hb0_v380 := hb_v380
                            have hn := Nat.le_refl n
                            have h94 := hS0.1
                            have hX := @yX.rf n tg I382 R
                            have hS := hS0.x hX
                            have hR := hR0.x hn hX
                            have hz := hX.sz h94
                            have hxn := hX.1
                            have hN := hR0.1
                            have hnb := hR0.2.2.2.2.2.2
                            have hthB := hth
                            refine y_aload_n rfl rfl ?_
                            refine y_getR rfl (ySh.t hS rfl) (ySh.n hS rfl) rfl rfl (ySh.r hS rfl) ?_
                            refine y_iload rfl rfl ?_
                            refine y_dup2 rfl rfl rfl ?_
                            refine y_ialoadC (j := 8) rfl (ySh.t hS rfl) (ySh.n hS rfl) (by decide) (by decide) rfl ?_
                            refine y_iload rfl rfl ?_
                            refine y_isub rfl ?_
                            refine y_iastoreC (j := 8) rfl (ySh.t hS rfl) (ySh.n hS rfl) (Nat.le_of_ble_eq_true rfl) (by decide) (by decide) rfl ?_
                            refine y_nameI (fun I383 e383 => ?_)
                            have hR1 := (hR0.grow hX).arr e383 (by decide)
                            have hK := (hK.x hRo hno hX).upI (upI e383) (by decide) (by decide) (fun i hi => by have := (hRo.l87.2.2.2.2 i hi).2.1; omega) (by rw [e383, upd2_ne (.inl (by omega))]; exact Int.le_refl _)
                            have hth := (show I383 83 0 = I382 83 0 by rw [e383, upd2_ne (.inl (by omega))]).trans hth
                            have hzz : ySz I382 I383 := ySz_ofE (upI e383) (by omega)
                            have hS0 := hS
                            have hR0 := hR1
                            have ht_b337 := (hX.2.1 _ hb_b337).1.trans ht_b337
                            have hb_b337 := Nat.lt_of_lt_of_le hb_b337 hX.1
                            have hb0_b337 := hb_b337
                            have ht_v364 := (hX.2.1 _ hb_v364).1.trans ht_v364
                            have hb_v364 := Nat.lt_of_lt_of_le hb_v364 hX.1
                            have hb0_v364 := hb_v364
                            have ht_v368 := (hX.2.1 _ hb_v368).1.trans ht_v368
                            have hb_v368 := Nat.lt_of_lt_of_le hb_v368 hX.1
                            have hb0_v368 := hb_v368
                            have ht_v372 := (hX.2.1 _ hb_v372).1.trans ht_v372
                            have hb_v372 := Nat.lt_of_lt_of_le hb_v372 hX.1
                            have hb0_v372 := hb_v372
                            have ht_v378 := (hX.2.1 _ hb_v378).1.trans ht_v378
                            have hb_v378 := Nat.lt_of_lt_of_le hb_v378 hX.1
                            have hb0_v378 := hb_v378
                            have ht_v380 := (hX.2.1 _ hb_v380).1.trans ht_v380
                            have hb_v380 := Nat.lt_of_lt_of_le hb_v380 hX.1
                            have hb0_v380 := hb_v380
                            have hn := Nat.le_refl n
                            have h94 := hS0.1
                            have hX := @yX.rf n tg I383 R
                            have hS := hS0.x hX
                            have hR := hR0.x hn hX
                            have hz := hX.sz h94
                            have hxn := hX.1
                            have hN := hR0.1
                            have hnb := hR0.2.2.2.2.2.2
                            have hthB := hth
                            refine y_aload rfl rfl ?_
                            obtain ⟨hR_v384, hb_v384, ht_v384⟩ := hR0.ven hlo_b337 hb0_b337 ht_b337 (j := 1) (by decide)
                            have hb0_v384 := hb_v384
                            have hb_v384 := Nat.lt_of_lt_of_le hb_v384 hn
                            have hlo_v384 : 94 ≤ b337 + 1 + 1 := by omega
                            have hR2_v384 := (congrFun (hX.2.1 b337 hb_b337).2.2 1).trans hR_v384
                            refine y_getR rfl ((hX.2.1 _ hb_b337).1.trans ht_b337) (Nat.lt_of_lt_of_le hb_b337 hX.1) rfl rfl hR2_v384 ?_
                            refine y_iload rfl rfl ?_
                            refine y_iaload rfl ((hX.2.1 _ hb_v384).1.trans ht_v384) (Nat.lt_of_lt_of_le hb_v384 hX.1) (by omega) (by omega) ?_
                            refine y_ireturn rfl rfl rfl ?_
                            exact hQ _ _ _ _ _ _ _ hS ((hR0.grow hX).up (Nat.le_succ K) hk6) (hK.x hRo hno hX) (by omega) (by omega)
                          · refine y_iconst rfl ?_
                            refine y_goto rfl j_X14_buyOut_147 ?_
                            refine y_iconst rfl ?_
                            refine y_virt rfl rfl rfl rfl rfl (ySh.t hS rfl) (ySh.n hS rfl) ?_
                            refine y_in (M := xm_X14_refuse) (ls := [some _, some _, some _]) rfl rfl rfl ?_
                            refine y_iload_n rfl rfl ?_
                            refine y_if_eqF rfl (by decide) ?_
                            refine y_aload_n rfl rfl ?_
                            refine y_getIv (v := Int32.ofInt (0)) rfl (ySh.t hS rfl) (ySh.n hS rfl) rfl rfl hth ?_
                            refine y_if_neF rfl (by decide) ?_
                            refine y_aload_n rfl rfl ?_
                            refine y_iload_n rfl rfl ?_
                            refine y_putI rfl (ySh.t hS rfl) (ySh.n hS rfl) rfl (Nat.le_of_ble_eq_true rfl) rfl rfl ?_
                            refine y_nameI (fun I385 e385 => ?_)
                            have hR1 := (hR0.grow hX).mod0 e385 (by decide) (by decide)
                            have hK := (hK.x hRo hno hX).upI (upI e385) (by decide) (by decide) (fun i hi => by have := (hRo.l87.2.2.2.2 i hi).2.1; omega) (by rw [e385, upd2_ne (.inr (by decide))]; exact Int.le_refl _)
                            have hth : I385 83 0 = Int32.ofInt (3) := by rw [e385, upd2_self]
                            have hzz : ySz8 I330 I385 := ySz8_of (upI e385) (by rw [e385]; exact ⟨upd2_ne (.inr (by decide)), upd2_ne (.inr (by decide))⟩)
                            have hS0 := hS
                            have hR0 := hR1
                            have ht_b337 := (hX.2.1 _ hb_b337).1.trans ht_b337
                            have hb_b337 := Nat.lt_of_lt_of_le hb_b337 hX.1
                            have hb0_b337 := hb_b337
                            have ht_v364 := (hX.2.1 _ hb_v364).1.trans ht_v364
                            have hb_v364 := Nat.lt_of_lt_of_le hb_v364 hX.1
                            have hb0_v364 := hb_v364
                            have ht_v368 := (hX.2.1 _ hb_v368).1.trans ht_v368
                            have hb_v368 := Nat.lt_of_lt_of_le hb_v368 hX.1
                            have hb0_v368 := hb_v368
                            have ht_v372 := (hX.2.1 _ hb_v372).1.trans ht_v372
                            have hb_v372 := Nat.lt_of_lt_of_le hb_v372 hX.1
                            have hb0_v372 := hb_v372
                            have hn := Nat.le_refl n
                            have h94 := hS0.1
                            have hX := @yX.rf n tg I385 R
                            have hS := hS0.x hX
                            have hR := hR0.x hn hX
                            have hz := hX.sz h94
                            have hxn := hX.1
                            have hN := hR0.1
                            have hnb := hR0.2.2.2.2.2.2
                            have hthB := hth
                            refine y_aload_n rfl rfl ?_
                            refine y_getIv (v := Int32.ofInt (3)) rfl (ySh.t hS rfl) (ySh.n hS rfl) rfl rfl hth ?_
                            refine y_if_leF rfl (by decide) ?_
                            refine y_iconst rfl ?_
                            refine y_goto rfl j_X14_refuse_28 ?_
                            refine y_ireturn rfl rfl rfl ?_
                            refine y_ret1 ?_
                            refine y_if_eqF rfl (by decide) ?_
                            refine y_iconst rfl ?_
                            refine y_ireturn rfl rfl rfl ?_
                            exact hQ _ _ _ _ _ _ _ hS ((hR0.grow hX).up (Nat.le_succ K) hk6) (hK.x hRo hno hX) (by omega) (by omega)
                · rw [yz_m1] at h_339
                  refine y_bip rfl (by decide) ?_
                  refine y_goto rfl j_X14_seat_11 ?_
                  refine y_ireturn rfl rfl rfl ?_
                  refine y_ret1 ?_
                  refine y_istore (ls' := [some _, some _, some _, some _, some _, some _, some _, _]) rfl rfl rfl ?_
                  refine y_iload_n rfl rfl ?_
                  refine y_static rfl rfl rfl rfl rfl ?_
                  refine y_in (M := xm_X14_seat) (ls := [some _]) rfl rfl rfl ?_
                  refine y_iload_n rfl rfl ?_
                  refine y_iconst rfl ?_
                  refine y_icmp_ne rfl j_X14_seat_10 (fun h_386 => ?_) (fun h_387 => ?_)
                  · rw [yz_m1] at h_386
                    refine y_iload_n rfl rfl ?_
                    refine y_ireturn rfl rfl rfl ?_
                    refine y_ret1 ?_
                    refine y_istore (ls' := [some _, some _, some _, some _, some _, some _, some _, some _]) rfl rfl rfl ?_
                    refine y_aload_n rfl rfl ?_
                    refine y_aload rfl rfl ?_
                    obtain ⟨hR_v388, hb_v388, ht_v388⟩ := hR0.ven hlo_b337 hb0_b337 ht_b337 (j := 0) (by decide)
                    have hb0_v388 := hb_v388
                    have hb_v388 := Nat.lt_of_lt_of_le hb_v388 hn
                    have hlo_v388 : 94 ≤ b337 + 1 + 0 := by omega
                    have hR2_v388 := (congrFun (hX.2.1 b337 hb_b337).2.2 0).trans hR_v388
                    refine y_getR rfl ((hX.2.1 _ hb_b337).1.trans ht_b337) (Nat.lt_of_lt_of_le hb_b337 hX.1) rfl rfl hR2_v388 ?_
                    refine y_iload rfl rfl ?_
                    refine y_baload rfl ((hX.2.1 _ hb_v388).1.trans ht_v388) rfl (Nat.lt_of_lt_of_le hb_v388 hX.1) (by decide) (by decide) ?_
                    refine y_if_eq rfl j_X14_buyOut_142 (fun h_389 => ?_) (fun h_390 => ?_)
                    · refine y_iconst rfl ?_
                      refine y_goto rfl j_X14_buyOut_147 ?_
                      refine y_iconst rfl ?_
                      refine y_virt rfl rfl rfl rfl rfl (ySh.t hS rfl) (ySh.n hS rfl) ?_
                      refine y_in (M := xm_X14_refuse) (ls := [some _, some _, some _]) rfl rfl rfl ?_
                      refine y_iload_n rfl rfl ?_
                      refine y_if_eqF rfl (by decide) ?_
                      refine y_aload_n rfl rfl ?_
                      refine y_getIv (v := Int32.ofInt (0)) rfl (ySh.t hS rfl) (ySh.n hS rfl) rfl rfl hth ?_
                      refine y_if_neF rfl (by decide) ?_
                      refine y_aload_n rfl rfl ?_
                      refine y_iload_n rfl rfl ?_
                      refine y_putI rfl (ySh.t hS rfl) (ySh.n hS rfl) rfl (Nat.le_of_ble_eq_true rfl) rfl rfl ?_
                      refine y_nameI (fun I391 e391 => ?_)
                      have hR1 := (hR0.grow hX).mod0 e391 (by decide) (by decide)
                      have hK := (hK.x hRo hno hX).upI (upI e391) (by decide) (by decide) (fun i hi => by have := (hRo.l87.2.2.2.2 i hi).2.1; omega) (by rw [e391, upd2_ne (.inr (by decide))]; exact Int.le_refl _)
                      have hth : I391 83 0 = Int32.ofInt (3) := by rw [e391, upd2_self]
                      have hzz : ySz8 I330 I391 := ySz8_of (upI e391) (by rw [e391]; exact ⟨upd2_ne (.inr (by decide)), upd2_ne (.inr (by decide))⟩)
                      have hS0 := hS
                      have hR0 := hR1
                      have ht_b337 := (hX.2.1 _ hb_b337).1.trans ht_b337
                      have hb_b337 := Nat.lt_of_lt_of_le hb_b337 hX.1
                      have hb0_b337 := hb_b337
                      have ht_v388 := (hX.2.1 _ hb_v388).1.trans ht_v388
                      have hb_v388 := Nat.lt_of_lt_of_le hb_v388 hX.1
                      have hb0_v388 := hb_v388
                      have hn := Nat.le_refl n
                      have h94 := hS0.1
                      have hX := @yX.rf n tg I391 R
                      have hS := hS0.x hX
                      have hR := hR0.x hn hX
                      have hz := hX.sz h94
                      have hxn := hX.1
                      have hN := hR0.1
                      have hnb := hR0.2.2.2.2.2.2
                      have hthB := hth
                      refine y_aload_n rfl rfl ?_
                      refine y_getIv (v := Int32.ofInt (3)) rfl (ySh.t hS rfl) (ySh.n hS rfl) rfl rfl hth ?_
                      refine y_if_leF rfl (by decide) ?_
                      refine y_iconst rfl ?_
                      refine y_goto rfl j_X14_refuse_28 ?_
                      refine y_ireturn rfl rfl rfl ?_
                      refine y_ret1 ?_
                      refine y_if_eqF rfl (by decide) ?_
                      refine y_iconst rfl ?_
                      refine y_ireturn rfl rfl rfl ?_
                      exact hQ _ _ _ _ _ _ _ hS ((hR0.grow hX).up (Nat.le_succ K) hk6) (hK.x hRo hno hX) (by omega) (by omega)
                    · refine y_aload rfl rfl ?_
                      obtain ⟨hR_v392, hb_v392, ht_v392⟩ := hR0.ven hlo_b337 hb0_b337 ht_b337 (j := 0) (by decide)
                      have hb0_v392 := hb_v392
                      have hb_v392 := Nat.lt_of_lt_of_le hb_v392 hn
                      have hlo_v392 : 94 ≤ b337 + 1 + 0 := by omega
                      have hR2_v392 := (congrFun (hX.2.1 b337 hb_b337).2.2 0).trans hR_v392
                      refine y_getR rfl ((hX.2.1 _ hb_b337).1.trans ht_b337) (Nat.lt_of_lt_of_le hb_b337 hX.1) rfl rfl hR2_v392 ?_
                      refine y_iload rfl rfl ?_
                      refine y_baload rfl ((hX.2.1 _ hb_v392).1.trans ht_v392) rfl (Nat.lt_of_lt_of_le hb_v392 hX.1) (by omega) (by omega) ?_
                      refine y_if_eq rfl j_X14_buyOut_142 (fun h_393 => ?_) (fun h_394 => ?_)
                      · refine y_iconst rfl ?_
                        refine y_goto rfl j_X14_buyOut_147 ?_
                        refine y_iconst rfl ?_
                        refine y_virt rfl rfl rfl rfl rfl (ySh.t hS rfl) (ySh.n hS rfl) ?_
                        refine y_in (M := xm_X14_refuse) (ls := [some _, some _, some _]) rfl rfl rfl ?_
                        refine y_iload_n rfl rfl ?_
                        refine y_if_eqF rfl (by decide) ?_
                        refine y_aload_n rfl rfl ?_
                        refine y_getIv (v := Int32.ofInt (0)) rfl (ySh.t hS rfl) (ySh.n hS rfl) rfl rfl hth ?_
                        refine y_if_neF rfl (by decide) ?_
                        refine y_aload_n rfl rfl ?_
                        refine y_iload_n rfl rfl ?_
                        refine y_putI rfl (ySh.t hS rfl) (ySh.n hS rfl) rfl (Nat.le_of_ble_eq_true rfl) rfl rfl ?_
                        refine y_nameI (fun I395 e395 => ?_)
                        have hR1 := (hR0.grow hX).mod0 e395 (by decide) (by decide)
                        have hK := (hK.x hRo hno hX).upI (upI e395) (by decide) (by decide) (fun i hi => by have := (hRo.l87.2.2.2.2 i hi).2.1; omega) (by rw [e395, upd2_ne (.inr (by decide))]; exact Int.le_refl _)
                        have hth : I395 83 0 = Int32.ofInt (3) := by rw [e395, upd2_self]
                        have hzz : ySz8 I330 I395 := ySz8_of (upI e395) (by rw [e395]; exact ⟨upd2_ne (.inr (by decide)), upd2_ne (.inr (by decide))⟩)
                        have hS0 := hS
                        have hR0 := hR1
                        have ht_b337 := (hX.2.1 _ hb_b337).1.trans ht_b337
                        have hb_b337 := Nat.lt_of_lt_of_le hb_b337 hX.1
                        have hb0_b337 := hb_b337
                        have ht_v388 := (hX.2.1 _ hb_v388).1.trans ht_v388
                        have hb_v388 := Nat.lt_of_lt_of_le hb_v388 hX.1
                        have hb0_v388 := hb_v388
                        have ht_v392 := (hX.2.1 _ hb_v392).1.trans ht_v392
                        have hb_v392 := Nat.lt_of_lt_of_le hb_v392 hX.1
                        have hb0_v392 := hb_v392
                        have hn := Nat.le_refl n
                        have h94 := hS0.1
                        have hX := @yX.rf n tg I395 R
                        have hS := hS0.x hX
                        have hR := hR0.x hn hX
                        have hz := hX.sz h94
                        have hxn := hX.1
                        have hN := hR0.1
                        have hnb := hR0.2.2.2.2.2.2
                        have hthB := hth
                        refine y_aload_n rfl rfl ?_
                        refine y_getIv (v := Int32.ofInt (3)) rfl (ySh.t hS rfl) (ySh.n hS rfl) rfl rfl hth ?_
                        refine y_if_leF rfl (by decide) ?_
                        refine y_iconst rfl ?_
                        refine y_goto rfl j_X14_refuse_28 ?_
                        refine y_ireturn rfl rfl rfl ?_
                        refine y_ret1 ?_
                        refine y_if_eqF rfl (by decide) ?_
                        refine y_iconst rfl ?_
                        refine y_ireturn rfl rfl rfl ?_
                        exact hQ _ _ _ _ _ _ _ hS ((hR0.grow hX).up (Nat.le_succ K) hk6) (hK.x hRo hno hX) (by omega) (by omega)
                      · refine y_aload rfl rfl ?_
                        obtain ⟨hR_v396, hb_v396, ht_v396⟩ := hR0.ven hlo_b337 hb0_b337 ht_b337 (j := 1) (by decide)
                        have hb0_v396 := hb_v396
                        have hb_v396 := Nat.lt_of_lt_of_le hb_v396 hn
                        have hlo_v396 : 94 ≤ b337 + 1 + 1 := by omega
                        have hR2_v396 := (congrFun (hX.2.1 b337 hb_b337).2.2 1).trans hR_v396
                        refine y_getR rfl ((hX.2.1 _ hb_b337).1.trans ht_b337) (Nat.lt_of_lt_of_le hb_b337 hX.1) rfl rfl hR2_v396 ?_
                        refine y_iload rfl rfl ?_
                        refine y_ialoadC (j := 8) rfl ((hX.2.1 _ hb_v396).1.trans ht_v396) (Nat.lt_of_lt_of_le hb_v396 hX.1) (by decide) (by decide) rfl ?_
                        refine y_iload rfl rfl ?_
                        refine y_icmp_lt rfl j_X14_buyOut_142 (fun h_397 => ?_) (fun h_398 => ?_)
                        · refine y_iconst rfl ?_
                          refine y_goto rfl j_X14_buyOut_147 ?_
                          refine y_iconst rfl ?_
                          refine y_virt rfl rfl rfl rfl rfl (ySh.t hS rfl) (ySh.n hS rfl) ?_
                          refine y_in (M := xm_X14_refuse) (ls := [some _, some _, some _]) rfl rfl rfl ?_
                          refine y_iload_n rfl rfl ?_
                          refine y_if_eqF rfl (by decide) ?_
                          refine y_aload_n rfl rfl ?_
                          refine y_getIv (v := Int32.ofInt (0)) rfl (ySh.t hS rfl) (ySh.n hS rfl) rfl rfl hth ?_
                          refine y_if_neF rfl (by decide) ?_
                          refine y_aload_n rfl rfl ?_
                          refine y_iload_n rfl rfl ?_
                          refine y_putI rfl (ySh.t hS rfl) (ySh.n hS rfl) rfl (Nat.le_of_ble_eq_true rfl) rfl rfl ?_
                          refine y_nameI (fun I399 e399 => ?_)
                          have hR1 := (hR0.grow hX).mod0 e399 (by decide) (by decide)
                          have hK := (hK.x hRo hno hX).upI (upI e399) (by decide) (by decide) (fun i hi => by have := (hRo.l87.2.2.2.2 i hi).2.1; omega) (by rw [e399, upd2_ne (.inr (by decide))]; exact Int.le_refl _)
                          have hth : I399 83 0 = Int32.ofInt (3) := by rw [e399, upd2_self]
                          have hzz : ySz8 I330 I399 := ySz8_of (upI e399) (by rw [e399]; exact ⟨upd2_ne (.inr (by decide)), upd2_ne (.inr (by decide))⟩)
                          have hS0 := hS
                          have hR0 := hR1
                          have ht_b337 := (hX.2.1 _ hb_b337).1.trans ht_b337
                          have hb_b337 := Nat.lt_of_lt_of_le hb_b337 hX.1
                          have hb0_b337 := hb_b337
                          have ht_v388 := (hX.2.1 _ hb_v388).1.trans ht_v388
                          have hb_v388 := Nat.lt_of_lt_of_le hb_v388 hX.1
                          have hb0_v388 := hb_v388
                          have ht_v392 := (hX.2.1 _ hb_v392).1.trans ht_v392
                          have hb_v392 := Nat.lt_of_lt_of_le hb_v392 hX.1
                          have hb0_v392 := hb_v392
                          have ht_v396 := (hX.2.1 _ hb_v396).1.trans ht_v396
                          have hb_v396 := Nat.lt_of_lt_of_le hb_v396 hX.1
                          have hb0_v396 := hb_v396
                          have hn := Nat.le_refl n
                          have h94 := hS0.1
                          have hX := @yX.rf n tg I399 R
                          have hS := hS0.x hX
                          have hR := hR0.x hn hX
                          have hz := hX.sz h94
                          have hxn := hX.1
                          have hN := hR0.1
                          have hnb := hR0.2.2.2.2.2.2
                          have hthB := hth
                          refine y_aload_n rfl rfl ?_
                          refine y_getIv (v := Int32.ofInt (3)) rfl (ySh.t hS rfl) (ySh.n hS rfl) rfl rfl hth ?_
                          refine y_if_leF rfl (by decide) ?_
                          refine y_iconst rfl ?_
                          refine y_goto rfl j_X14_refuse_28 ?_
                          refine y_ireturn rfl rfl rfl ?_
                          refine y_ret1 ?_
                          refine y_if_eqF rfl (by decide) ?_
                          refine y_iconst rfl ?_
                          refine y_ireturn rfl rfl rfl ?_
                          exact hQ _ _ _ _ _ _ _ hS ((hR0.grow hX).up (Nat.le_succ K) hk6) (hK.x hRo hno hX) (by omega) (by omega)
                        · refine y_aload_n rfl rfl ?_
                          refine y_getR rfl (ySh.t hS rfl) (ySh.n hS rfl) rfl rfl (ySh.r hS rfl) ?_
                          refine y_iload rfl rfl ?_
                          refine y_iaload rfl (ySh.t hS rfl) (ySh.n hS rfl) (by omega) (by omega) ?_
                          refine y_iload rfl rfl ?_
                          refine y_icmp_ge rfl j_X14_buyOut_146 (fun h_400 => ?_) (fun h_401 => ?_)
                          · refine y_iconst rfl ?_
                            refine y_iconst rfl ?_
                            refine y_virt rfl rfl rfl rfl rfl (ySh.t hS rfl) (ySh.n hS rfl) ?_
                            refine y_in (M := xm_X14_refuse) (ls := [some _, some _, some _]) rfl rfl rfl ?_
                            refine y_iload_n rfl rfl ?_
                            refine y_if_eqT rfl j_X14_refuse_16 (by decide) ?_
                            refine y_aload_n rfl rfl ?_
                            refine y_getIv (v := Int32.ofInt (0)) rfl (ySh.t hS rfl) (ySh.n hS rfl) rfl rfl hth ?_
                            refine y_if_leT rfl j_X14_refuse_27 (by decide) ?_
                            refine y_iconst rfl ?_
                            refine y_ireturn rfl rfl rfl ?_
                            refine y_ret1 ?_
                            refine y_if_eqT rfl j_X14_buyOut_156 (by decide) ?_
                            refine y_aload rfl rfl ?_
                            obtain ⟨hR_v402, hb_v402, ht_v402⟩ := hR0.ven hlo_b337 hb0_b337 ht_b337 (j := 1) (by decide)
                            have hb0_v402 := hb_v402
                            have hb_v402 := Nat.lt_of_lt_of_le hb_v402 hn
                            have hlo_v402 : 94 ≤ b337 + 1 + 1 := by omega
                            have hR2_v402 := (congrFun (hX.2.1 b337 hb_b337).2.2 1).trans hR_v402
                            refine y_getR rfl ((hX.2.1 _ hb_b337).1.trans ht_b337) (Nat.lt_of_lt_of_le hb_b337 hX.1) rfl rfl hR2_v402 ?_
                            refine y_iload rfl rfl ?_
                            refine y_dup2 rfl rfl rfl ?_
                            refine y_ialoadC (j := 8) rfl ((hX.2.1 _ hb_v402).1.trans ht_v402) (Nat.lt_of_lt_of_le hb_v402 hX.1) (by decide) (by decide) rfl ?_
                            refine y_iload rfl rfl ?_
                            refine y_isub rfl ?_
                            refine y_iastoreC (j := 8) rfl ((hX.2.1 _ hb_v402).1.trans ht_v402) (Nat.lt_of_lt_of_le hb_v402 hX.1) (Nat.le_trans (by decide) (by omega : 94 ≤ _)) (by decide) (by decide) rfl ?_
                            refine y_nameI (fun I403 e403 => ?_)
                            have hB1 := (hR0.grow hX).capB1 hlo_b337 (by omega) ((hX.2.1 _ hb_b337).1.trans ht_b337) (by omega) ⟨by omega, by omega⟩ e403
                            have hR1 := hB1.1
                            have hK := (hK.x hRo hno hX).upE hRo hno (upI e403) (by omega) (by omega) (by rw [((hX.2.1 _ hb_v402).1.trans ht_v402)]; decide) (by rw [e403, upd2_ne (.inl (by omega))]; exact Int.le_refl _)
                            have hth := (show I403 83 0 = I330 83 0 by rw [e403, upd2_ne (.inl (by omega))]).trans hth
                            have hzz : ySz I330 I403 := ySz_ofE (upI e403) (by omega)
                            have hS0 := hS
                            have hR0 := hR1
                            have ht_b337 := (hX.2.1 _ hb_b337).1.trans ht_b337
                            have hb_b337 := Nat.lt_of_lt_of_le hb_b337 hX.1
                            have hb0_b337 := hb_b337
                            have ht_v388 := (hX.2.1 _ hb_v388).1.trans ht_v388
                            have hb_v388 := Nat.lt_of_lt_of_le hb_v388 hX.1
                            have hb0_v388 := hb_v388
                            have ht_v392 := (hX.2.1 _ hb_v392).1.trans ht_v392
                            have hb_v392 := Nat.lt_of_lt_of_le hb_v392 hX.1
                            have hb0_v392 := hb_v392
                            have ht_v396 := (hX.2.1 _ hb_v396).1.trans ht_v396
                            have hb_v396 := Nat.lt_of_lt_of_le hb_v396 hX.1
                            have hb0_v396 := hb_v396
                            have ht_v402 := (hX.2.1 _ hb_v402).1.trans ht_v402
                            have hb_v402 := Nat.lt_of_lt_of_le hb_v402 hX.1
                            have hb0_v402 := hb_v402
                            have hn := Nat.le_refl n
                            have h94 := hS0.1
                            have hX := @yX.rf n tg I403 R
                            have hS := hS0.x hX
                            have hR := hR0.x hn hX
                            have hz := hX.sz h94
                            have hxn := hX.1
                            have hN := hR0.1
                            have hnb := hR0.2.2.2.2.2.2
                            have hthB := hth
                            refine y_aload rfl rfl ?_
                            obtain ⟨hR_v404, hb_v404, ht_v404⟩ := hR0.ven hlo_b337 hb0_b337 ht_b337 (j := 1) (by decide)
                            have hb0_v404 := hb_v404
                            have hb_v404 := Nat.lt_of_lt_of_le hb_v404 hn
                            have hlo_v404 : 94 ≤ b337 + 1 + 1 := by omega
                            have hR2_v404 := (congrFun (hX.2.1 b337 hb_b337).2.2 1).trans hR_v404
                            refine y_getR rfl ((hX.2.1 _ hb_b337).1.trans ht_b337) (Nat.lt_of_lt_of_le hb_b337 hX.1) rfl rfl hR2_v404 ?_
                            refine y_iload rfl rfl ?_
                            refine y_dup2 rfl rfl rfl ?_
                            refine y_iaload rfl ((hX.2.1 _ hb_v404).1.trans ht_v404) (Nat.lt_of_lt_of_le hb_v404 hX.1) (by omega) (by omega) ?_
                            refine y_iload rfl rfl ?_
                            refine y_iadd rfl ?_
                            refine y_iastore rfl ((hX.2.1 _ hb_v404).1.trans ht_v404) (Nat.lt_of_lt_of_le hb_v404 hX.1) (Nat.le_trans (by decide) (by omega : 94 ≤ _)) (by omega) (by omega) ?_
                            refine y_nameI (fun I405 e405 => ?_)
                            have hR1 := (hR0.grow hX).capB2 hlo_b337 (by omega) ((hX.2.1 _ hb_b337).1.trans ht_b337) (by omega) (by omega) hB1.2.1 e405
                            have hK := (hK.x hRo hno hX).upE hRo hno (upI e405) (by omega) (by omega) (by rw [((hX.2.1 _ hb_v404).1.trans ht_v404)]; decide) (by rw [e405, upd2_ne (.inl (by omega))]; exact Int.le_refl _)
                            have hth := (show I405 83 0 = I403 83 0 by rw [e405, upd2_ne (.inl (by omega))]).trans hth
                            have hzz : ySz I403 I405 := ySz_ofE (upI e405) (by omega)
                            have hS0 := hS
                            have hR0 := hR1
                            have ht_b337 := (hX.2.1 _ hb_b337).1.trans ht_b337
                            have hb_b337 := Nat.lt_of_lt_of_le hb_b337 hX.1
                            have hb0_b337 := hb_b337
                            have ht_v388 := (hX.2.1 _ hb_v388).1.trans ht_v388
                            have hb_v388 := Nat.lt_of_lt_of_le hb_v388 hX.1
                            have hb0_v388 := hb_v388
                            have ht_v392 := (hX.2.1 _ hb_v392).1.trans ht_v392
                            have hb_v392 := Nat.lt_of_lt_of_le hb_v392 hX.1
                            have hb0_v392 := hb_v392
                            have ht_v396 := (hX.2.1 _ hb_v396).1.trans ht_v396
                            have hb_v396 := Nat.lt_of_lt_of_le hb_v396 hX.1
                            have hb0_v396 := hb_v396
                            have ht_v402 := (hX.2.1 _ hb_v402).1.trans ht_v402
                            have hb_v402 := Nat.lt_of_lt_of_le hb_v402 hX.1
                            have hb0_v402 := hb_v402
                            have ht_v404 := (hX.2.1 _ hb_v404).1.trans ht_v404
                            have hb_v404 := Nat.lt_of_lt_of_le hb_v404 hX.1
                            have hb0_v404 := hb_v404
                            have hn := Nat.le_refl n
                            have h94 := hS0.1
                            have hX := @yX.rf n tg I405 R
                            have hS := hS0.x hX
                            have hR := hR0.x hn hX
                            have hz := hX.sz h94
                            have hxn := hX.1
                            have hN := hR0.1
                            have hnb := hR0.2.2.2.2.2.2
                            have hthB := hth
                            refine y_aload_n rfl rfl ?_
                            refine y_getR rfl (ySh.t hS rfl) (ySh.n hS rfl) rfl rfl (ySh.r hS rfl) ?_
                            refine y_iload rfl rfl ?_
                            refine y_dup2 rfl rfl rfl ?_
                            refine y_ialoadC (j := 8) rfl (ySh.t hS rfl) (ySh.n hS rfl) (by decide) (by decide) rfl ?_
                            refine y_iload rfl rfl ?_
                            refine y_iadd rfl ?_
                            refine y_iastoreC (j := 8) rfl (ySh.t hS rfl) (ySh.n hS rfl) (Nat.le_of_ble_eq_true rfl) (by decide) (by decide) rfl ?_
                            refine y_nameI (fun I406 e406 => ?_)
                            have hR1 := (hR0.grow hX).arr e406 (by decide)
                            have hK := (hK.x hRo hno hX).upI (upI e406) (by decide) (by decide) (fun i hi => by have := (hRo.l87.2.2.2.2 i hi).2.1; omega) (by rw [e406, upd2_ne (.inl (by omega))]; exact Int.le_refl _)
                            have hth := (show I406 83 0 = I405 83 0 by rw [e406, upd2_ne (.inl (by omega))]).trans hth
                            have hzz : ySz I405 I406 := ySz_ofE (upI e406) (by omega)
                            have hS0 := hS
                            have hR0 := hR1
                            have ht_b337 := (hX.2.1 _ hb_b337).1.trans ht_b337
                            have hb_b337 := Nat.lt_of_lt_of_le hb_b337 hX.1
                            have hb0_b337 := hb_b337
                            have ht_v388 := (hX.2.1 _ hb_v388).1.trans ht_v388
                            have hb_v388 := Nat.lt_of_lt_of_le hb_v388 hX.1
                            have hb0_v388 := hb_v388
                            have ht_v392 := (hX.2.1 _ hb_v392).1.trans ht_v392
                            have hb_v392 := Nat.lt_of_lt_of_le hb_v392 hX.1
                            have hb0_v392 := hb_v392
                            have ht_v396 := (hX.2.1 _ hb_v396).1.trans ht_v396
                            have hb_v396 := Nat.lt_of_lt_of_le hb_v396 hX.1
                            have hb0_v396 := hb_v396
                            have ht_v402 := (hX.2.1 _ hb_v402).1.trans ht_v402
                            have hb_v402 := Nat.lt_of_lt_of_le hb_v402 hX.1
                            have hb0_v402 := hb_v402
                            have ht_v404 := (hX.2.1 _ hb_v404).1.trans ht_v404
                            have hb_v404 := Nat.lt_of_lt_of_le hb_v404 hX.1
                            have hb0_v404 := hb_v404
                            have hn := Nat.le_refl n
                            have h94 := hS0.1
                            have hX := @yX.rf n tg I406 R
                            have hS := hS0.x hX
                            have hR := hR0.x hn hX
                            have hz := hX.sz h94
                            have hxn := hX.1
                            have hN := hR0.1
                            have hnb := hR0.2.2.2.2.2.2
                            have hthB := hth
                            refine y_aload_n rfl rfl ?_
                            refine y_getR rfl (ySh.t hS rfl) (ySh.n hS rfl) rfl rfl (ySh.r hS rfl) ?_
                            refine y_iload rfl rfl ?_
                            refine y_dup2 rfl rfl rfl ?_
                            refine y_iaload rfl (ySh.t hS rfl) (ySh.n hS rfl) (by omega) (by omega) ?_
                            refine y_iload rfl rfl ?_
                            refine y_isub rfl ?_
                            refine y_iastore rfl (ySh.t hS rfl) (ySh.n hS rfl) (Nat.le_of_ble_eq_true rfl) (by omega) (by omega) ?_
                            refine y_nameI (fun I407 e407 => ?_)
                            have hR1 := (hR0.grow hX).arr e407 (by decide)
                            have hK := (hK.x hRo hno hX).upI (upI e407) (by decide) (by decide) (fun i hi => by have := (hRo.l87.2.2.2.2 i hi).2.1; omega) (by rw [e407, upd2_ne (.inl (by omega))]; exact Int.le_refl _)
                            have hth := (show I407 83 0 = I406 83 0 by rw [e407, upd2_ne (.inl (by omega))]).trans hth
                            have hzz : ySz I406 I407 := ySz_ofE (upI e407) (by omega)
                            have hS0 := hS
                            have hR0 := hR1
                            have ht_b337 := (hX.2.1 _ hb_b337).1.trans ht_b337
                            have hb_b337 := Nat.lt_of_lt_of_le hb_b337 hX.1
                            have hb0_b337 := hb_b337
                            have ht_v388 := (hX.2.1 _ hb_v388).1.trans ht_v388
                            have hb_v388 := Nat.lt_of_lt_of_le hb_v388 hX.1
                            have hb0_v388 := hb_v388
                            have ht_v392 := (hX.2.1 _ hb_v392).1.trans ht_v392
                            have hb_v392 := Nat.lt_of_lt_of_le hb_v392 hX.1
                            have hb0_v392 := hb_v392
                            have ht_v396 := (hX.2.1 _ hb_v396).1.trans ht_v396
                            have hb_v396 := Nat.lt_of_lt_of_le hb_v396 hX.1
                            have hb0_v396 := hb_v396
                            have ht_v402 := (hX.2.1 _ hb_v402).1.trans ht_v402
                            have hb_v402 := Nat.lt_of_lt_of_le hb_v402 hX.1
                            have hb0_v402 := hb_v402
                            have ht_v404 := (hX.2.1 _ hb_v404).1.trans ht_v404
                            have hb_v404 := Nat.lt_of_lt_of_le hb_v404 hX.1
                            have hb0_v404 := hb_v404
                            have hn := Nat.le_refl n
                            have h94 := hS0.1
                            have hX := @yX.rf n tg I407 R
                            have hS := hS0.x hX
                            have hR := hR0.x hn hX
                            have hz := hX.sz h94
                            have hxn := hX.1
                            have hN := hR0.1
                            have hnb := hR0.2.2.2.2.2.2
                            have hthB := hth
                            refine y_aload rfl rfl ?_
                            obtain ⟨hR_v408, hb_v408, ht_v408⟩ := hR0.ven hlo_b337 hb0_b337 ht_b337 (j := 1) (by decide)
                            have hb0_v408 := hb_v408
                            have hb_v408 := Nat.lt_of_lt_of_le hb_v408 hn
                            have hlo_v408 : 94 ≤ b337 + 1 + 1 := by omega
                            have hR2_v408 := (congrFun (hX.2.1 b337 hb_b337).2.2 1).trans hR_v408
                            refine y_getR rfl ((hX.2.1 _ hb_b337).1.trans ht_b337) (Nat.lt_of_lt_of_le hb_b337 hX.1) rfl rfl hR2_v408 ?_
                            refine y_iload rfl rfl ?_
                            refine y_ialoadC (j := 8) rfl ((hX.2.1 _ hb_v408).1.trans ht_v408) (Nat.lt_of_lt_of_le hb_v408 hX.1) (by decide) (by decide) rfl ?_
                            refine y_ireturn rfl rfl rfl ?_
                            exact hQ _ _ _ _ _ _ _ hS ((hR0.grow hX).up (Nat.le_succ K) hk6) (hK.x hRo hno hX) (by omega) (by omega)
                          · refine y_iconst rfl ?_
                            refine y_goto rfl j_X14_buyOut_147 ?_
                            refine y_iconst rfl ?_
                            refine y_virt rfl rfl rfl rfl rfl (ySh.t hS rfl) (ySh.n hS rfl) ?_
                            refine y_in (M := xm_X14_refuse) (ls := [some _, some _, some _]) rfl rfl rfl ?_
                            refine y_iload_n rfl rfl ?_
                            refine y_if_eqF rfl (by decide) ?_
                            refine y_aload_n rfl rfl ?_
                            refine y_getIv (v := Int32.ofInt (0)) rfl (ySh.t hS rfl) (ySh.n hS rfl) rfl rfl hth ?_
                            refine y_if_neF rfl (by decide) ?_
                            refine y_aload_n rfl rfl ?_
                            refine y_iload_n rfl rfl ?_
                            refine y_putI rfl (ySh.t hS rfl) (ySh.n hS rfl) rfl (Nat.le_of_ble_eq_true rfl) rfl rfl ?_
                            refine y_nameI (fun I409 e409 => ?_)
                            have hR1 := (hR0.grow hX).mod0 e409 (by decide) (by decide)
                            have hK := (hK.x hRo hno hX).upI (upI e409) (by decide) (by decide) (fun i hi => by have := (hRo.l87.2.2.2.2 i hi).2.1; omega) (by rw [e409, upd2_ne (.inr (by decide))]; exact Int.le_refl _)
                            have hth : I409 83 0 = Int32.ofInt (3) := by rw [e409, upd2_self]
                            have hzz : ySz8 I330 I409 := ySz8_of (upI e409) (by rw [e409]; exact ⟨upd2_ne (.inr (by decide)), upd2_ne (.inr (by decide))⟩)
                            have hS0 := hS
                            have hR0 := hR1
                            have ht_b337 := (hX.2.1 _ hb_b337).1.trans ht_b337
                            have hb_b337 := Nat.lt_of_lt_of_le hb_b337 hX.1
                            have hb0_b337 := hb_b337
                            have ht_v388 := (hX.2.1 _ hb_v388).1.trans ht_v388
                            have hb_v388 := Nat.lt_of_lt_of_le hb_v388 hX.1
                            have hb0_v388 := hb_v388
                            have ht_v392 := (hX.2.1 _ hb_v392).1.trans ht_v392
                            have hb_v392 := Nat.lt_of_lt_of_le hb_v392 hX.1
                            have hb0_v392 := hb_v392
                            have ht_v396 := (hX.2.1 _ hb_v396).1.trans ht_v396
                            have hb_v396 := Nat.lt_of_lt_of_le hb_v396 hX.1
                            have hb0_v396 := hb_v396
                            have hn := Nat.le_refl n
                            have h94 := hS0.1
                            have hX := @yX.rf n tg I409 R
                            have hS := hS0.x hX
                            have hR := hR0.x hn hX
                            have hz := hX.sz h94
                            have hxn := hX.1
                            have hN := hR0.1
                            have hnb := hR0.2.2.2.2.2.2
                            have hthB := hth
                            refine y_aload_n rfl rfl ?_
                            refine y_getIv (v := Int32.ofInt (3)) rfl (ySh.t hS rfl) (ySh.n hS rfl) rfl rfl hth ?_
                            refine y_if_leF rfl (by decide) ?_
                            refine y_iconst rfl ?_
                            refine y_goto rfl j_X14_refuse_28 ?_
                            refine y_ireturn rfl rfl rfl ?_
                            refine y_ret1 ?_
                            refine y_if_eqF rfl (by decide) ?_
                            refine y_iconst rfl ?_
                            refine y_ireturn rfl rfl rfl ?_
                            exact hQ _ _ _ _ _ _ _ hS ((hR0.grow hX).up (Nat.le_succ K) hk6) (hK.x hRo hno hX) (by omega) (by omega)
                  · rw [yz_m1] at h_387
                    refine y_bip rfl (by decide) ?_
                    refine y_goto rfl j_X14_seat_11 ?_
                    refine y_ireturn rfl rfl rfl ?_
                    refine y_ret1 ?_
                    refine y_istore (ls' := [some _, some _, some _, some _, some _, some _, some _, some _]) rfl rfl rfl ?_
                    refine y_aload_n rfl rfl ?_
                    refine y_aload rfl rfl ?_
                    obtain ⟨hR_v410, hb_v410, ht_v410⟩ := hR0.ven hlo_b337 hb0_b337 ht_b337 (j := 0) (by decide)
                    have hb0_v410 := hb_v410
                    have hb_v410 := Nat.lt_of_lt_of_le hb_v410 hn
                    have hlo_v410 : 94 ≤ b337 + 1 + 0 := by omega
                    have hR2_v410 := (congrFun (hX.2.1 b337 hb_b337).2.2 0).trans hR_v410
                    refine y_getR rfl ((hX.2.1 _ hb_b337).1.trans ht_b337) (Nat.lt_of_lt_of_le hb_b337 hX.1) rfl rfl hR2_v410 ?_
                    refine y_iload rfl rfl ?_
                    refine y_baload rfl ((hX.2.1 _ hb_v410).1.trans ht_v410) rfl (Nat.lt_of_lt_of_le hb_v410 hX.1) (by decide) (by decide) ?_
                    refine y_if_eq rfl j_X14_buyOut_142 (fun h_411 => ?_) (fun h_412 => ?_)
                    · refine y_iconst rfl ?_
                      refine y_goto rfl j_X14_buyOut_147 ?_
                      refine y_iconst rfl ?_
                      refine y_virt rfl rfl rfl rfl rfl (ySh.t hS rfl) (ySh.n hS rfl) ?_
                      refine y_in (M := xm_X14_refuse) (ls := [some _, some _, some _]) rfl rfl rfl ?_
                      refine y_iload_n rfl rfl ?_
                      refine y_if_eqF rfl (by decide) ?_
                      refine y_aload_n rfl rfl ?_
                      refine y_getIv (v := Int32.ofInt (0)) rfl (ySh.t hS rfl) (ySh.n hS rfl) rfl rfl hth ?_
                      refine y_if_neF rfl (by decide) ?_
                      refine y_aload_n rfl rfl ?_
                      refine y_iload_n rfl rfl ?_
                      refine y_putI rfl (ySh.t hS rfl) (ySh.n hS rfl) rfl (Nat.le_of_ble_eq_true rfl) rfl rfl ?_
                      refine y_nameI (fun I413 e413 => ?_)
                      have hR1 := (hR0.grow hX).mod0 e413 (by decide) (by decide)
                      have hK := (hK.x hRo hno hX).upI (upI e413) (by decide) (by decide) (fun i hi => by have := (hRo.l87.2.2.2.2 i hi).2.1; omega) (by rw [e413, upd2_ne (.inr (by decide))]; exact Int.le_refl _)
                      have hth : I413 83 0 = Int32.ofInt (3) := by rw [e413, upd2_self]
                      have hzz : ySz8 I330 I413 := ySz8_of (upI e413) (by rw [e413]; exact ⟨upd2_ne (.inr (by decide)), upd2_ne (.inr (by decide))⟩)
                      have hS0 := hS
                      have hR0 := hR1
                      have ht_b337 := (hX.2.1 _ hb_b337).1.trans ht_b337
                      have hb_b337 := Nat.lt_of_lt_of_le hb_b337 hX.1
                      have hb0_b337 := hb_b337
                      have ht_v410 := (hX.2.1 _ hb_v410).1.trans ht_v410
                      have hb_v410 := Nat.lt_of_lt_of_le hb_v410 hX.1
                      have hb0_v410 := hb_v410
                      have hn := Nat.le_refl n
                      have h94 := hS0.1
                      have hX := @yX.rf n tg I413 R
                      have hS := hS0.x hX
                      have hR := hR0.x hn hX
                      have hz := hX.sz h94
                      have hxn := hX.1
                      have hN := hR0.1
                      have hnb := hR0.2.2.2.2.2.2
                      have hthB := hth
                      refine y_aload_n rfl rfl ?_
                      refine y_getIv (v := Int32.ofInt (3)) rfl (ySh.t hS rfl) (ySh.n hS rfl) rfl rfl hth ?_
                      refine y_if_leF rfl (by decide) ?_
                      refine y_iconst rfl ?_
                      refine y_goto rfl j_X14_refuse_28 ?_
                      refine y_ireturn rfl rfl rfl ?_
                      refine y_ret1 ?_
                      refine y_if_eqF rfl (by decide) ?_
                      refine y_iconst rfl ?_
                      refine y_ireturn rfl rfl rfl ?_
                      exact hQ _ _ _ _ _ _ _ hS ((hR0.grow hX).up (Nat.le_succ K) hk6) (hK.x hRo hno hX) (by omega) (by omega)
                    · refine y_aload rfl rfl ?_
                      obtain ⟨hR_v414, hb_v414, ht_v414⟩ := hR0.ven hlo_b337 hb0_b337 ht_b337 (j := 0) (by decide)
                      have hb0_v414 := hb_v414
                      have hb_v414 := Nat.lt_of_lt_of_le hb_v414 hn
                      have hlo_v414 : 94 ≤ b337 + 1 + 0 := by omega
                      have hR2_v414 := (congrFun (hX.2.1 b337 hb_b337).2.2 0).trans hR_v414
                      refine y_getR rfl ((hX.2.1 _ hb_b337).1.trans ht_b337) (Nat.lt_of_lt_of_le hb_b337 hX.1) rfl rfl hR2_v414 ?_
                      refine y_iload rfl rfl ?_
                      refine y_baload rfl ((hX.2.1 _ hb_v414).1.trans ht_v414) rfl (Nat.lt_of_lt_of_le hb_v414 hX.1) (by decide) (by decide) ?_
                      refine y_if_eq rfl j_X14_buyOut_142 (fun h_415 => ?_) (fun h_416 => ?_)
                      · refine y_iconst rfl ?_
                        refine y_goto rfl j_X14_buyOut_147 ?_
                        refine y_iconst rfl ?_
                        refine y_virt rfl rfl rfl rfl rfl (ySh.t hS rfl) (ySh.n hS rfl) ?_
                        refine y_in (M := xm_X14_refuse) (ls := [some _, some _, some _]) rfl rfl rfl ?_
                        refine y_iload_n rfl rfl ?_
                        refine y_if_eqF rfl (by decide) ?_
                        refine y_aload_n rfl rfl ?_
                        refine y_getIv (v := Int32.ofInt (0)) rfl (ySh.t hS rfl) (ySh.n hS rfl) rfl rfl hth ?_
                        refine y_if_neF rfl (by decide) ?_
                        refine y_aload_n rfl rfl ?_
                        refine y_iload_n rfl rfl ?_
                        refine y_putI rfl (ySh.t hS rfl) (ySh.n hS rfl) rfl (Nat.le_of_ble_eq_true rfl) rfl rfl ?_
                        refine y_nameI (fun I417 e417 => ?_)
                        have hR1 := (hR0.grow hX).mod0 e417 (by decide) (by decide)
                        have hK := (hK.x hRo hno hX).upI (upI e417) (by decide) (by decide) (fun i hi => by have := (hRo.l87.2.2.2.2 i hi).2.1; omega) (by rw [e417, upd2_ne (.inr (by decide))]; exact Int.le_refl _)
                        have hth : I417 83 0 = Int32.ofInt (3) := by rw [e417, upd2_self]
                        have hzz : ySz8 I330 I417 := ySz8_of (upI e417) (by rw [e417]; exact ⟨upd2_ne (.inr (by decide)), upd2_ne (.inr (by decide))⟩)
                        have hS0 := hS
                        have hR0 := hR1
                        have ht_b337 := (hX.2.1 _ hb_b337).1.trans ht_b337
                        have hb_b337 := Nat.lt_of_lt_of_le hb_b337 hX.1
                        have hb0_b337 := hb_b337
                        have ht_v410 := (hX.2.1 _ hb_v410).1.trans ht_v410
                        have hb_v410 := Nat.lt_of_lt_of_le hb_v410 hX.1
                        have hb0_v410 := hb_v410
                        have ht_v414 := (hX.2.1 _ hb_v414).1.trans ht_v414
                        have hb_v414 := Nat.lt_of_lt_of_le hb_v414 hX.1
                        have hb0_v414 := hb_v414
                        have hn := Nat.le_refl n
                        have h94 := hS0.1
                        have hX := @yX.rf n tg I417 R
                        have hS := hS0.x hX
                        have hR := hR0.x hn hX
                        have hz := hX.sz h94
                        have hxn := hX.1
                        have hN := hR0.1
                        have hnb := hR0.2.2.2.2.2.2
                        have hthB := hth
                        refine y_aload_n rfl rfl ?_
                        refine y_getIv (v := Int32.ofInt (3)) rfl (ySh.t hS rfl) (ySh.n hS rfl) rfl rfl hth ?_
                        refine y_if_leF rfl (by decide) ?_
                        refine y_iconst rfl ?_
                        refine y_goto rfl j_X14_refuse_28 ?_
                        refine y_ireturn rfl rfl rfl ?_
                        refine y_ret1 ?_
                        refine y_if_eqF rfl (by decide) ?_
                        refine y_iconst rfl ?_
                        refine y_ireturn rfl rfl rfl ?_
                        exact hQ _ _ _ _ _ _ _ hS ((hR0.grow hX).up (Nat.le_succ K) hk6) (hK.x hRo hno hX) (by omega) (by omega)
                      · refine y_aload rfl rfl ?_
                        obtain ⟨hR_v418, hb_v418, ht_v418⟩ := hR0.ven hlo_b337 hb0_b337 ht_b337 (j := 1) (by decide)
                        have hb0_v418 := hb_v418
                        have hb_v418 := Nat.lt_of_lt_of_le hb_v418 hn
                        have hlo_v418 : 94 ≤ b337 + 1 + 1 := by omega
                        have hR2_v418 := (congrFun (hX.2.1 b337 hb_b337).2.2 1).trans hR_v418
                        refine y_getR rfl ((hX.2.1 _ hb_b337).1.trans ht_b337) (Nat.lt_of_lt_of_le hb_b337 hX.1) rfl rfl hR2_v418 ?_
                        refine y_iload rfl rfl ?_
                        refine y_ialoadC (j := 8) rfl ((hX.2.1 _ hb_v418).1.trans ht_v418) (Nat.lt_of_lt_of_le hb_v418 hX.1) (by decide) (by decide) rfl ?_
                        refine y_iload rfl rfl ?_
                        refine y_icmp_lt rfl j_X14_buyOut_142 (fun h_419 => ?_) (fun h_420 => ?_)
                        · refine y_iconst rfl ?_
                          refine y_goto rfl j_X14_buyOut_147 ?_
                          refine y_iconst rfl ?_
                          refine y_virt rfl rfl rfl rfl rfl (ySh.t hS rfl) (ySh.n hS rfl) ?_
                          refine y_in (M := xm_X14_refuse) (ls := [some _, some _, some _]) rfl rfl rfl ?_
                          refine y_iload_n rfl rfl ?_
                          refine y_if_eqF rfl (by decide) ?_
                          refine y_aload_n rfl rfl ?_
                          refine y_getIv (v := Int32.ofInt (0)) rfl (ySh.t hS rfl) (ySh.n hS rfl) rfl rfl hth ?_
                          refine y_if_neF rfl (by decide) ?_
                          refine y_aload_n rfl rfl ?_
                          refine y_iload_n rfl rfl ?_
                          refine y_putI rfl (ySh.t hS rfl) (ySh.n hS rfl) rfl (Nat.le_of_ble_eq_true rfl) rfl rfl ?_
                          refine y_nameI (fun I421 e421 => ?_)
                          have hR1 := (hR0.grow hX).mod0 e421 (by decide) (by decide)
                          have hK := (hK.x hRo hno hX).upI (upI e421) (by decide) (by decide) (fun i hi => by have := (hRo.l87.2.2.2.2 i hi).2.1; omega) (by rw [e421, upd2_ne (.inr (by decide))]; exact Int.le_refl _)
                          have hth : I421 83 0 = Int32.ofInt (3) := by rw [e421, upd2_self]
                          have hzz : ySz8 I330 I421 := ySz8_of (upI e421) (by rw [e421]; exact ⟨upd2_ne (.inr (by decide)), upd2_ne (.inr (by decide))⟩)
                          have hS0 := hS
                          have hR0 := hR1
                          have ht_b337 := (hX.2.1 _ hb_b337).1.trans ht_b337
                          have hb_b337 := Nat.lt_of_lt_of_le hb_b337 hX.1
                          have hb0_b337 := hb_b337
                          have ht_v410 := (hX.2.1 _ hb_v410).1.trans ht_v410
                          have hb_v410 := Nat.lt_of_lt_of_le hb_v410 hX.1
                          have hb0_v410 := hb_v410
                          have ht_v414 := (hX.2.1 _ hb_v414).1.trans ht_v414
                          have hb_v414 := Nat.lt_of_lt_of_le hb_v414 hX.1
                          have hb0_v414 := hb_v414
                          have ht_v418 := (hX.2.1 _ hb_v418).1.trans ht_v418
                          have hb_v418 := Nat.lt_of_lt_of_le hb_v418 hX.1
                          have hb0_v418 := hb_v418
                          have hn := Nat.le_refl n
                          have h94 := hS0.1
                          have hX := @yX.rf n tg I421 R
                          have hS := hS0.x hX
                          have hR := hR0.x hn hX
                          have hz := hX.sz h94
                          have hxn := hX.1
                          have hN := hR0.1
                          have hnb := hR0.2.2.2.2.2.2
                          have hthB := hth
                          refine y_aload_n rfl rfl ?_
                          refine y_getIv (v := Int32.ofInt (3)) rfl (ySh.t hS rfl) (ySh.n hS rfl) rfl rfl hth ?_
                          refine y_if_leF rfl (by decide) ?_
                          refine y_iconst rfl ?_
                          refine y_goto rfl j_X14_refuse_28 ?_
                          refine y_ireturn rfl rfl rfl ?_
                          refine y_ret1 ?_
                          refine y_if_eqF rfl (by decide) ?_
                          refine y_iconst rfl ?_
                          refine y_ireturn rfl rfl rfl ?_
                          exact hQ _ _ _ _ _ _ _ hS ((hR0.grow hX).up (Nat.le_succ K) hk6) (hK.x hRo hno hX) (by omega) (by omega)
                        · refine y_aload_n rfl rfl ?_
                          refine y_getR rfl (ySh.t hS rfl) (ySh.n hS rfl) rfl rfl (ySh.r hS rfl) ?_
                          refine y_iload rfl rfl ?_
                          refine y_ialoadC (j := 8) rfl (ySh.t hS rfl) (ySh.n hS rfl) (by decide) (by decide) rfl ?_
                          refine y_iload rfl rfl ?_
                          refine y_icmp_ge rfl j_X14_buyOut_146 (fun h_422 => ?_) (fun h_423 => ?_)
                          · refine y_iconst rfl ?_
                            refine y_iconst rfl ?_
                            refine y_virt rfl rfl rfl rfl rfl (ySh.t hS rfl) (ySh.n hS rfl) ?_
                            refine y_in (M := xm_X14_refuse) (ls := [some _, some _, some _]) rfl rfl rfl ?_
                            refine y_iload_n rfl rfl ?_
                            refine y_if_eqT rfl j_X14_refuse_16 (by decide) ?_
                            refine y_aload_n rfl rfl ?_
                            refine y_getIv (v := Int32.ofInt (0)) rfl (ySh.t hS rfl) (ySh.n hS rfl) rfl rfl hth ?_
                            refine y_if_leT rfl j_X14_refuse_27 (by decide) ?_
                            refine y_iconst rfl ?_
                            refine y_ireturn rfl rfl rfl ?_
                            refine y_ret1 ?_
                            refine y_if_eqT rfl j_X14_buyOut_156 (by decide) ?_
                            refine y_aload rfl rfl ?_
                            obtain ⟨hR_v424, hb_v424, ht_v424⟩ := hR0.ven hlo_b337 hb0_b337 ht_b337 (j := 1) (by decide)
                            have hb0_v424 := hb_v424
                            have hb_v424 := Nat.lt_of_lt_of_le hb_v424 hn
                            have hlo_v424 : 94 ≤ b337 + 1 + 1 := by omega
                            have hR2_v424 := (congrFun (hX.2.1 b337 hb_b337).2.2 1).trans hR_v424
                            refine y_getR rfl ((hX.2.1 _ hb_b337).1.trans ht_b337) (Nat.lt_of_lt_of_le hb_b337 hX.1) rfl rfl hR2_v424 ?_
                            refine y_iload rfl rfl ?_
                            refine y_dup2 rfl rfl rfl ?_
                            refine y_ialoadC (j := 8) rfl ((hX.2.1 _ hb_v424).1.trans ht_v424) (Nat.lt_of_lt_of_le hb_v424 hX.1) (by decide) (by decide) rfl ?_
                            refine y_iload rfl rfl ?_
                            refine y_isub rfl ?_
                            refine y_iastoreC (j := 8) rfl ((hX.2.1 _ hb_v424).1.trans ht_v424) (Nat.lt_of_lt_of_le hb_v424 hX.1) (Nat.le_trans (by decide) (by omega : 94 ≤ _)) (by decide) (by decide) rfl ?_
                            refine y_nameI (fun I425 e425 => ?_)
                            have hB1 := (hR0.grow hX).capB1 hlo_b337 (by omega) ((hX.2.1 _ hb_b337).1.trans ht_b337) (by omega) ⟨by omega, by omega⟩ e425
                            have hR1 := hB1.1
                            have hK := (hK.x hRo hno hX).upE hRo hno (upI e425) (by omega) (by omega) (by rw [((hX.2.1 _ hb_v424).1.trans ht_v424)]; decide) (by rw [e425, upd2_ne (.inl (by omega))]; exact Int.le_refl _)
                            have hth := (show I425 83 0 = I330 83 0 by rw [e425, upd2_ne (.inl (by omega))]).trans hth
                            have hzz : ySz I330 I425 := ySz_ofE (upI e425) (by omega)
                            have hS0 := hS
                            have hR0 := hR1
                            have ht_b337 := (hX.2.1 _ hb_b337).1.trans ht_b337
                            have hb_b337 := Nat.lt_of_lt_of_le hb_b337 hX.1
                            have hb0_b337 := hb_b337
                            have ht_v410 := (hX.2.1 _ hb_v410).1.trans ht_v410
                            have hb_v410 := Nat.lt_of_lt_of_le hb_v410 hX.1
                            have hb0_v410 := hb_v410
                            have ht_v414 := (hX.2.1 _ hb_v414).1.trans ht_v414
                            have hb_v414 := Nat.lt_of_lt_of_le hb_v414 hX.1
                            have hb0_v414 := hb_v414
                            have ht_v418 := (hX.2.1 _ hb_v418).1.trans ht_v418
                            have hb_v418 := Nat.lt_of_lt_of_le hb_v418 hX.1
                            have hb0_v418 := hb_v418
                            have ht_v424 := (hX.2.1 _ hb_v424).1.trans ht_v424
                            have hb_v424 := Nat.lt_of_lt_of_le hb_v424 hX.1
                            have hb0_v424 := hb_v424
                            have hn := Nat.le_refl n
                            have h94 := hS0.1
                            have hX := @yX.rf n tg I425 R
                            have hS := hS0.x hX
                            have hR := hR0.x hn hX
                            have hz := hX.sz h94
                            have hxn := hX.1
                            have hN := hR0.1
                            have hnb := hR0.2.2.2.2.2.2
                            have hthB := hth
                            refine y_aload rfl rfl ?_
                            obtain ⟨hR_v426, hb_v426, ht_v426⟩ := hR0.ven hlo_b337 hb0_b337 ht_b337 (j := 1) (by decide)
                            have hb0_v426 := hb_v426
                            have hb_v426 := Nat.lt_of_lt_of_le hb_v426 hn
                            have hlo_v426 : 94 ≤ b337 + 1 + 1 := by omega
                            have hR2_v426 := (congrFun (hX.2.1 b337 hb_b337).2.2 1).trans hR_v426
                            refine y_getR rfl ((hX.2.1 _ hb_b337).1.trans ht_b337) (Nat.lt_of_lt_of_le hb_b337 hX.1) rfl rfl hR2_v426 ?_
                            refine y_iload rfl rfl ?_
                            refine y_dup2 rfl rfl rfl ?_
                            refine y_ialoadC (j := 8) rfl ((hX.2.1 _ hb_v426).1.trans ht_v426) (Nat.lt_of_lt_of_le hb_v426 hX.1) (by decide) (by decide) rfl ?_
                            refine y_iload rfl rfl ?_
                            refine y_iadd rfl ?_
                            refine y_iastoreC (j := 8) rfl ((hX.2.1 _ hb_v426).1.trans ht_v426) (Nat.lt_of_lt_of_le hb_v426 hX.1) (Nat.le_trans (by decide) (by omega : 94 ≤ _)) (by decide) (by decide) rfl ?_
                            refine y_nameI (fun I427 e427 => ?_)
                            have hR1 := (hR0.grow hX).capB2 hlo_b337 (by omega) ((hX.2.1 _ hb_b337).1.trans ht_b337) (by omega) (by omega) hB1.2.1 e427
                            have hK := (hK.x hRo hno hX).upE hRo hno (upI e427) (by omega) (by omega) (by rw [((hX.2.1 _ hb_v426).1.trans ht_v426)]; decide) (by rw [e427, upd2_ne (.inl (by omega))]; exact Int.le_refl _)
                            have hth := (show I427 83 0 = I425 83 0 by rw [e427, upd2_ne (.inl (by omega))]).trans hth
                            have hzz : ySz I425 I427 := ySz_ofE (upI e427) (by omega)
                            have hS0 := hS
                            have hR0 := hR1
                            have ht_b337 := (hX.2.1 _ hb_b337).1.trans ht_b337
                            have hb_b337 := Nat.lt_of_lt_of_le hb_b337 hX.1
                            have hb0_b337 := hb_b337
                            have ht_v410 := (hX.2.1 _ hb_v410).1.trans ht_v410
                            have hb_v410 := Nat.lt_of_lt_of_le hb_v410 hX.1
                            have hb0_v410 := hb_v410
                            have ht_v414 := (hX.2.1 _ hb_v414).1.trans ht_v414
                            have hb_v414 := Nat.lt_of_lt_of_le hb_v414 hX.1
                            have hb0_v414 := hb_v414
                            have ht_v418 := (hX.2.1 _ hb_v418).1.trans ht_v418
                            have hb_v418 := Nat.lt_of_lt_of_le hb_v418 hX.1
                            have hb0_v418 := hb_v418
                            have ht_v424 := (hX.2.1 _ hb_v424).1.trans ht_v424
                            have hb_v424 := Nat.lt_of_lt_of_le hb_v424 hX.1
                            have hb0_v424 := hb_v424
                            have ht_v426 := (hX.2.1 _ hb_v426).1.trans ht_v426
                            have hb_v426 := Nat.lt_of_lt_of_le hb_v426 hX.1
                            have hb0_v426 := hb_v426
                            have hn := Nat.le_refl n
                            have h94 := hS0.1
                            have hX := @yX.rf n tg I427 R
                            have hS := hS0.x hX
                            have hR := hR0.x hn hX
                            have hz := hX.sz h94
                            have hxn := hX.1
                            have hN := hR0.1
                            have hnb := hR0.2.2.2.2.2.2
                            have hthB := hth
                            refine y_aload_n rfl rfl ?_
                            refine y_getR rfl (ySh.t hS rfl) (ySh.n hS rfl) rfl rfl (ySh.r hS rfl) ?_
                            refine y_iload rfl rfl ?_
                            refine y_dup2 rfl rfl rfl ?_
                            refine y_ialoadC (j := 8) rfl (ySh.t hS rfl) (ySh.n hS rfl) (by decide) (by decide) rfl ?_
                            refine y_iload rfl rfl ?_
                            refine y_iadd rfl ?_
                            refine y_iastoreC (j := 8) rfl (ySh.t hS rfl) (ySh.n hS rfl) (Nat.le_of_ble_eq_true rfl) (by decide) (by decide) rfl ?_
                            refine y_nameI (fun I428 e428 => ?_)
                            have hR1 := (hR0.grow hX).arr e428 (by decide)
                            have hK := (hK.x hRo hno hX).upI (upI e428) (by decide) (by decide) (fun i hi => by have := (hRo.l87.2.2.2.2 i hi).2.1; omega) (by rw [e428, upd2_ne (.inl (by omega))]; exact Int.le_refl _)
                            have hth := (show I428 83 0 = I427 83 0 by rw [e428, upd2_ne (.inl (by omega))]).trans hth
                            have hzz : ySz I427 I428 := ySz_ofE (upI e428) (by omega)
                            have hS0 := hS
                            have hR0 := hR1
                            have ht_b337 := (hX.2.1 _ hb_b337).1.trans ht_b337
                            have hb_b337 := Nat.lt_of_lt_of_le hb_b337 hX.1
                            have hb0_b337 := hb_b337
                            have ht_v410 := (hX.2.1 _ hb_v410).1.trans ht_v410
                            have hb_v410 := Nat.lt_of_lt_of_le hb_v410 hX.1
                            have hb0_v410 := hb_v410
                            have ht_v414 := (hX.2.1 _ hb_v414).1.trans ht_v414
                            have hb_v414 := Nat.lt_of_lt_of_le hb_v414 hX.1
                            have hb0_v414 := hb_v414
                            have ht_v418 := (hX.2.1 _ hb_v418).1.trans ht_v418
                            have hb_v418 := Nat.lt_of_lt_of_le hb_v418 hX.1
                            have hb0_v418 := hb_v418
                            have ht_v424 := (hX.2.1 _ hb_v424).1.trans ht_v424
                            have hb_v424 := Nat.lt_of_lt_of_le hb_v424 hX.1
                            have hb0_v424 := hb_v424
                            have ht_v426 := (hX.2.1 _ hb_v426).1.trans ht_v426
                            have hb_v426 := Nat.lt_of_lt_of_le hb_v426 hX.1
                            have hb0_v426 := hb_v426
                            have hn := Nat.le_refl n
                            have h94 := hS0.1
                            have hX := @yX.rf n tg I428 R
                            have hS := hS0.x hX
                            have hR := hR0.x hn hX
                            have hz := hX.sz h94
                            have hxn := hX.1
                            have hN := hR0.1
                            have hnb := hR0.2.2.2.2.2.2
                            have hthB := hth
                            refine y_aload_n rfl rfl ?_
                            refine y_getR rfl (ySh.t hS rfl) (ySh.n hS rfl) rfl rfl (ySh.r hS rfl) ?_
                            refine y_iload rfl rfl ?_
                            refine y_dup2 rfl rfl rfl ?_
                            refine y_ialoadC (j := 8) rfl (ySh.t hS rfl) (ySh.n hS rfl) (by decide) (by decide) rfl ?_
                            refine y_iload rfl rfl ?_
                            refine y_isub rfl ?_
                            refine y_iastoreC (j := 8) rfl (ySh.t hS rfl) (ySh.n hS rfl) (Nat.le_of_ble_eq_true rfl) (by decide) (by decide) rfl ?_
                            refine y_nameI (fun I429 e429 => ?_)
                            have hR1 := (hR0.grow hX).arr e429 (by decide)
                            have hK := (hK.x hRo hno hX).upI (upI e429) (by decide) (by decide) (fun i hi => by have := (hRo.l87.2.2.2.2 i hi).2.1; omega) (by rw [e429, upd2_ne (.inl (by omega))]; exact Int.le_refl _)
                            have hth := (show I429 83 0 = I428 83 0 by rw [e429, upd2_ne (.inl (by omega))]).trans hth
                            have hzz : ySz I428 I429 := ySz_ofE (upI e429) (by omega)
                            have hS0 := hS
                            have hR0 := hR1
                            have ht_b337 := (hX.2.1 _ hb_b337).1.trans ht_b337
                            have hb_b337 := Nat.lt_of_lt_of_le hb_b337 hX.1
                            have hb0_b337 := hb_b337
                            have ht_v410 := (hX.2.1 _ hb_v410).1.trans ht_v410
                            have hb_v410 := Nat.lt_of_lt_of_le hb_v410 hX.1
                            have hb0_v410 := hb_v410
                            have ht_v414 := (hX.2.1 _ hb_v414).1.trans ht_v414
                            have hb_v414 := Nat.lt_of_lt_of_le hb_v414 hX.1
                            have hb0_v414 := hb_v414
                            have ht_v418 := (hX.2.1 _ hb_v418).1.trans ht_v418
                            have hb_v418 := Nat.lt_of_lt_of_le hb_v418 hX.1
                            have hb0_v418 := hb_v418
                            have ht_v424 := (hX.2.1 _ hb_v424).1.trans ht_v424
                            have hb_v424 := Nat.lt_of_lt_of_le hb_v424 hX.1
                            have hb0_v424 := hb_v424
                            have ht_v426 := (hX.2.1 _ hb_v426).1.trans ht_v426
                            have hb_v426 := Nat.lt_of_lt_of_le hb_v426 hX.1
                            have hb0_v426 := hb_v426
                            have hn := Nat.le_refl n
                            have h94 := hS0.1
                            have hX := @yX.rf n tg I429 R
                            have hS := hS0.x hX
                            have hR := hR0.x hn hX
                            have hz := hX.sz h94
                            have hxn := hX.1
                            have hN := hR0.1
                            have hnb := hR0.2.2.2.2.2.2
                            have hthB := hth
                            refine y_aload rfl rfl ?_
                            obtain ⟨hR_v430, hb_v430, ht_v430⟩ := hR0.ven hlo_b337 hb0_b337 ht_b337 (j := 1) (by decide)
                            have hb0_v430 := hb_v430
                            have hb_v430 := Nat.lt_of_lt_of_le hb_v430 hn
                            have hlo_v430 : 94 ≤ b337 + 1 + 1 := by omega
                            have hR2_v430 := (congrFun (hX.2.1 b337 hb_b337).2.2 1).trans hR_v430
                            refine y_getR rfl ((hX.2.1 _ hb_b337).1.trans ht_b337) (Nat.lt_of_lt_of_le hb_b337 hX.1) rfl rfl hR2_v430 ?_
                            refine y_iload rfl rfl ?_
                            refine y_ialoadC (j := 8) rfl ((hX.2.1 _ hb_v430).1.trans ht_v430) (Nat.lt_of_lt_of_le hb_v430 hX.1) (by decide) (by decide) rfl ?_
                            refine y_ireturn rfl rfl rfl ?_
                            exact hQ _ _ _ _ _ _ _ hS ((hR0.grow hX).up (Nat.le_succ K) hk6) (hK.x hRo hno hX) (by omega) (by omega)
                          · refine y_iconst rfl ?_
                            refine y_goto rfl j_X14_buyOut_147 ?_
                            refine y_iconst rfl ?_
                            refine y_virt rfl rfl rfl rfl rfl (ySh.t hS rfl) (ySh.n hS rfl) ?_
                            refine y_in (M := xm_X14_refuse) (ls := [some _, some _, some _]) rfl rfl rfl ?_
                            refine y_iload_n rfl rfl ?_
                            refine y_if_eqF rfl (by decide) ?_
                            refine y_aload_n rfl rfl ?_
                            refine y_getIv (v := Int32.ofInt (0)) rfl (ySh.t hS rfl) (ySh.n hS rfl) rfl rfl hth ?_
                            refine y_if_neF rfl (by decide) ?_
                            refine y_aload_n rfl rfl ?_
                            refine y_iload_n rfl rfl ?_
                            refine y_putI rfl (ySh.t hS rfl) (ySh.n hS rfl) rfl (Nat.le_of_ble_eq_true rfl) rfl rfl ?_
                            refine y_nameI (fun I431 e431 => ?_)
                            have hR1 := (hR0.grow hX).mod0 e431 (by decide) (by decide)
                            have hK := (hK.x hRo hno hX).upI (upI e431) (by decide) (by decide) (fun i hi => by have := (hRo.l87.2.2.2.2 i hi).2.1; omega) (by rw [e431, upd2_ne (.inr (by decide))]; exact Int.le_refl _)
                            have hth : I431 83 0 = Int32.ofInt (3) := by rw [e431, upd2_self]
                            have hzz : ySz8 I330 I431 := ySz8_of (upI e431) (by rw [e431]; exact ⟨upd2_ne (.inr (by decide)), upd2_ne (.inr (by decide))⟩)
                            have hS0 := hS
                            have hR0 := hR1
                            have ht_b337 := (hX.2.1 _ hb_b337).1.trans ht_b337
                            have hb_b337 := Nat.lt_of_lt_of_le hb_b337 hX.1
                            have hb0_b337 := hb_b337
                            have ht_v410 := (hX.2.1 _ hb_v410).1.trans ht_v410
                            have hb_v410 := Nat.lt_of_lt_of_le hb_v410 hX.1
                            have hb0_v410 := hb_v410
                            have ht_v414 := (hX.2.1 _ hb_v414).1.trans ht_v414
                            have hb_v414 := Nat.lt_of_lt_of_le hb_v414 hX.1
                            have hb0_v414 := hb_v414
                            have ht_v418 := (hX.2.1 _ hb_v418).1.trans ht_v418
                            have hb_v418 := Nat.lt_of_lt_of_le hb_v418 hX.1
                            have hb0_v418 := hb_v418
                            have hn := Nat.le_refl n
                            have h94 := hS0.1
                            have hX := @yX.rf n tg I431 R
                            have hS := hS0.x hX
                            have hR := hR0.x hn hX
                            have hz := hX.sz h94
                            have hxn := hX.1
                            have hN := hR0.1
                            have hnb := hR0.2.2.2.2.2.2
                            have hthB := hth
                            refine y_aload_n rfl rfl ?_
                            refine y_getIv (v := Int32.ofInt (3)) rfl (ySh.t hS rfl) (ySh.n hS rfl) rfl rfl hth ?_
                            refine y_if_leF rfl (by decide) ?_
                            refine y_iconst rfl ?_
                            refine y_goto rfl j_X14_refuse_28 ?_
                            refine y_ireturn rfl rfl rfl ?_
                            refine y_ret1 ?_
                            refine y_if_eqF rfl (by decide) ?_
                            refine y_iconst rfl ?_
                            refine y_ireturn rfl rfl rfl ?_
                            exact hQ _ _ _ _ _ _ _ hS ((hR0.grow hX).up (Nat.le_succ K) hk6) (hK.x hRo hno hX) (by omega) (by omega)
              · rw [yz_1] at h_336
                rw [yz_999] at h_336
                refine y_ret1 ?_
                refine y_if_neF rfl (by decide) ?_
                refine y_iconst rfl ?_
                refine y_goto rfl j_X14_buyOut_60 ?_
                refine y_iconst rfl ?_
                refine y_virt rfl rfl rfl rfl rfl (ySh.t hS rfl) (ySh.n hS rfl) ?_
                refine y_in (M := xm_X14_refuse) (ls := [some _, some _, some _]) rfl rfl rfl ?_
                refine y_iload_n rfl rfl ?_
                refine y_if_eqF rfl (by decide) ?_
                refine y_aload_n rfl rfl ?_
                refine y_getIv (v := Int32.ofInt (0)) rfl (ySh.t hS rfl) (ySh.n hS rfl) rfl rfl hth ?_
                refine y_if_neF rfl (by decide) ?_
                refine y_aload_n rfl rfl ?_
                refine y_iload_n rfl rfl ?_
                refine y_putI rfl (ySh.t hS rfl) (ySh.n hS rfl) rfl (Nat.le_of_ble_eq_true rfl) rfl rfl ?_
                refine y_nameI (fun I432 e432 => ?_)
                have hR1 := (hR0.grow hX).mod0 e432 (by decide) (by decide)
                have hK := (hK.x hRo hno hX).upI (upI e432) (by decide) (by decide) (fun i hi => by have := (hRo.l87.2.2.2.2 i hi).2.1; omega) (by rw [e432, upd2_ne (.inr (by decide))]; exact Int.le_refl _)
                have hth : I432 83 0 = Int32.ofInt (2) := by rw [e432, upd2_self]
                have hzz : ySz8 I330 I432 := ySz8_of (upI e432) (by rw [e432]; exact ⟨upd2_ne (.inr (by decide)), upd2_ne (.inr (by decide))⟩)
                have hS0 := hS
                have hR0 := hR1
                have hn := Nat.le_refl n
                have h94 := hS0.1
                have hX := @yX.rf n tg I432 R
                have hS := hS0.x hX
                have hR := hR0.x hn hX
                have hz := hX.sz h94
                have hxn := hX.1
                have hN := hR0.1
                have hnb := hR0.2.2.2.2.2.2
                have hthB := hth
                refine y_aload_n rfl rfl ?_
                refine y_getIv (v := Int32.ofInt (2)) rfl (ySh.t hS rfl) (ySh.n hS rfl) rfl rfl hth ?_
                refine y_if_leF rfl (by decide) ?_
                refine y_iconst rfl ?_
                refine y_goto rfl j_X14_refuse_28 ?_
                refine y_ireturn rfl rfl rfl ?_
                refine y_ret1 ?_
                refine y_if_eqF rfl (by decide) ?_
                refine y_iconst rfl ?_
                refine y_ireturn rfl rfl rfl ?_
                exact hQ _ _ _ _ _ _ _ hS ((hR0.grow hX).up (Nat.le_succ K) hk6) (hK.x hRo hno hX) (by omega) (by omega)
          · rw [yz_0] at h_329
            try rw [ysub (by rw [yz_1]; omega) (by rw [yz_1]; omega), yz_1] at h_329
            refine y_ret1 ?_
            refine y_if_neF rfl (by decide) ?_
            refine y_iconst rfl ?_
            refine y_goto rfl j_X14_isNobody_19 ?_
            refine y_ireturn rfl rfl rfl ?_
            refine y_ret1 ?_
            refine y_if_eqF rfl (by decide) ?_
            refine y_iconst rfl ?_
            refine y_goto rfl j_X14_isNoOne_18 ?_
            refine y_ireturn rfl rfl rfl ?_
            refine y_ret1 ?_
            refine y_if_eqF rfl (by decide) ?_
            refine y_iconst rfl ?_
            refine y_goto rfl j_X14_buyOut_30 ?_
            refine y_iconst rfl ?_
            refine y_virt rfl rfl rfl rfl rfl (ySh.t hS rfl) (ySh.n hS rfl) ?_
            refine y_in (M := xm_X14_start) (ls := [some _, some _, some _]) rfl rfl rfl ?_
            refine y_aload_n rfl rfl ?_
            refine y_iconst rfl ?_
            refine y_putI rfl (ySh.t hS rfl) (ySh.n hS rfl) rfl (Nat.le_of_ble_eq_true rfl) rfl rfl ?_
            refine y_nameI (fun I433 e433 => ?_)
            have hR1 := (hR0.grow hX).mod0 e433 (by decide) (by decide)
            have hK := (hK.x hRo hno hX).upI (upI e433) (by decide) (by decide) (fun i hi => by have := (hRo.l87.2.2.2.2 i hi).2.1; omega) (by rw [e433, upd2_ne (.inr (by decide))]; exact Int.le_refl _)
            have hth : I433 83 0 = Int32.ofInt (0) := by rw [e433, upd2_self]
            have hzz : ySz8 I I433 := ySz8_of (upI e433) (by rw [e433]; exact ⟨upd2_ne (.inr (by decide)), upd2_ne (.inr (by decide))⟩)
            have hS0 := hS
            have hR0 := hR1
            have hn := Nat.le_refl n
            have h94 := hS0.1
            have hX := @yX.rf n tg I433 R
            have hS := hS0.x hX
            have hR := hR0.x hn hX
            have hz := hX.sz h94
            have hxn := hX.1
            have hN := hR0.1
            have hnb := hR0.2.2.2.2.2.2
            have hthB := hth
            refine y_aload_n rfl rfl ?_
            refine y_iload_n rfl rfl ?_
            refine y_iload_n rfl rfl ?_
            refine y_virt rfl rfl rfl rfl rfl (ySh.t hS rfl) (ySh.n hS rfl) ?_
            refine y_in (M := xm_X14_refuse) (ls := [some _, some _, some _]) rfl rfl rfl ?_
            refine y_iload_n rfl rfl ?_
            refine y_if_eqF rfl (by decide) ?_
            refine y_aload_n rfl rfl ?_
            refine y_getIv (v := Int32.ofInt (0)) rfl (ySh.t hS rfl) (ySh.n hS rfl) rfl rfl hth ?_
            refine y_if_neF rfl (by decide) ?_
            refine y_aload_n rfl rfl ?_
            refine y_iload_n rfl rfl ?_
            refine y_putI rfl (ySh.t hS rfl) (ySh.n hS rfl) rfl (Nat.le_of_ble_eq_true rfl) rfl rfl ?_
            refine y_nameI (fun I434 e434 => ?_)
            have hR1 := (hR0.grow hX).mod0 e434 (by decide) (by decide)
            have hK := (hK.x hRo hno hX).upI (upI e434) (by decide) (by decide) (fun i hi => by have := (hRo.l87.2.2.2.2 i hi).2.1; omega) (by rw [e434, upd2_ne (.inr (by decide))]; exact Int.le_refl _)
            have hth : I434 83 0 = Int32.ofInt (1) := by rw [e434, upd2_self]
            have hzz : ySz8 I433 I434 := ySz8_of (upI e434) (by rw [e434]; exact ⟨upd2_ne (.inr (by decide)), upd2_ne (.inr (by decide))⟩)
            have hS0 := hS
            have hR0 := hR1
            have hn := Nat.le_refl n
            have h94 := hS0.1
            have hX := @yX.rf n tg I434 R
            have hS := hS0.x hX
            have hR := hR0.x hn hX
            have hz := hX.sz h94
            have hxn := hX.1
            have hN := hR0.1
            have hnb := hR0.2.2.2.2.2.2
            have hthB := hth
            refine y_aload_n rfl rfl ?_
            refine y_getIv (v := Int32.ofInt (1)) rfl (ySh.t hS rfl) (ySh.n hS rfl) rfl rfl hth ?_
            refine y_if_leF rfl (by decide) ?_
            refine y_iconst rfl ?_
            refine y_goto rfl j_X14_refuse_28 ?_
            refine y_ireturn rfl rfl rfl ?_
            refine y_ret1 ?_
            refine y_ireturn rfl rfl rfl ?_
            refine y_ret1 ?_
            refine y_if_neT rfl j_X14_buyOut_67 (by decide) ?_
            refine y_iconst rfl ?_
            refine y_ireturn rfl rfl rfl ?_
            exact hQ _ _ _ _ _ _ _ hS ((hR0.grow hX).up (Nat.le_succ K) hk6) (hK.x hRo hno hX) (by omega) (by omega)
      · rw [yz_0] at h_221
        try rw [ysub (by rw [yz_1]; omega) (by rw [yz_1]; omega), yz_1] at h_221
        refine y_ret1 ?_
        refine y_if_neF rfl (by decide) ?_
        refine y_iconst rfl ?_
        refine y_goto rfl j_X14_isNobody_19 ?_
        refine y_ireturn rfl rfl rfl ?_
        refine y_ret1 ?_
        refine y_if_eqF rfl (by decide) ?_
        refine y_iconst rfl ?_
        refine y_goto rfl j_X14_isNoOne_18 ?_
        refine y_ireturn rfl rfl rfl ?_
        refine y_ret1 ?_
        refine y_if_neT rfl j_X14_buyOut_25 (by decide) ?_
        refine y_iconst rfl ?_
        refine y_goto rfl j_X14_buyOut_30 ?_
        refine y_iconst rfl ?_
        refine y_virt rfl rfl rfl rfl rfl (ySh.t hS rfl) (ySh.n hS rfl) ?_
        refine y_in (M := xm_X14_start) (ls := [some _, some _, some _]) rfl rfl rfl ?_
        refine y_aload_n rfl rfl ?_
        refine y_iconst rfl ?_
        refine y_putI rfl (ySh.t hS rfl) (ySh.n hS rfl) rfl (Nat.le_of_ble_eq_true rfl) rfl rfl ?_
        refine y_nameI (fun I435 e435 => ?_)
        have hR1 := (hR0.grow hX).mod0 e435 (by decide) (by decide)
        have hK := (hK.x hRo hno hX).upI (upI e435) (by decide) (by decide) (fun i hi => by have := (hRo.l87.2.2.2.2 i hi).2.1; omega) (by rw [e435, upd2_ne (.inr (by decide))]; exact Int.le_refl _)
        have hth : I435 83 0 = Int32.ofInt (0) := by rw [e435, upd2_self]
        have hzz : ySz8 I I435 := ySz8_of (upI e435) (by rw [e435]; exact ⟨upd2_ne (.inr (by decide)), upd2_ne (.inr (by decide))⟩)
        have hS0 := hS
        have hR0 := hR1
        have hn := Nat.le_refl n
        have h94 := hS0.1
        have hX := @yX.rf n tg I435 R
        have hS := hS0.x hX
        have hR := hR0.x hn hX
        have hz := hX.sz h94
        have hxn := hX.1
        have hN := hR0.1
        have hnb := hR0.2.2.2.2.2.2
        have hthB := hth
        refine y_aload_n rfl rfl ?_
        refine y_iload_n rfl rfl ?_
        refine y_iload_n rfl rfl ?_
        refine y_virt rfl rfl rfl rfl rfl (ySh.t hS rfl) (ySh.n hS rfl) ?_
        refine y_in (M := xm_X14_refuse) (ls := [some _, some _, some _]) rfl rfl rfl ?_
        refine y_iload_n rfl rfl ?_
        refine y_if_eqF rfl (by decide) ?_
        refine y_aload_n rfl rfl ?_
        refine y_getIv (v := Int32.ofInt (0)) rfl (ySh.t hS rfl) (ySh.n hS rfl) rfl rfl hth ?_
        refine y_if_neF rfl (by decide) ?_
        refine y_aload_n rfl rfl ?_
        refine y_iload_n rfl rfl ?_
        refine y_putI rfl (ySh.t hS rfl) (ySh.n hS rfl) rfl (Nat.le_of_ble_eq_true rfl) rfl rfl ?_
        refine y_nameI (fun I436 e436 => ?_)
        have hR1 := (hR0.grow hX).mod0 e436 (by decide) (by decide)
        have hK := (hK.x hRo hno hX).upI (upI e436) (by decide) (by decide) (fun i hi => by have := (hRo.l87.2.2.2.2 i hi).2.1; omega) (by rw [e436, upd2_ne (.inr (by decide))]; exact Int.le_refl _)
        have hth : I436 83 0 = Int32.ofInt (1) := by rw [e436, upd2_self]
        have hzz : ySz8 I435 I436 := ySz8_of (upI e436) (by rw [e436]; exact ⟨upd2_ne (.inr (by decide)), upd2_ne (.inr (by decide))⟩)
        have hS0 := hS
        have hR0 := hR1
        have hn := Nat.le_refl n
        have h94 := hS0.1
        have hX := @yX.rf n tg I436 R
        have hS := hS0.x hX
        have hR := hR0.x hn hX
        have hz := hX.sz h94
        have hxn := hX.1
        have hN := hR0.1
        have hnb := hR0.2.2.2.2.2.2
        have hthB := hth
        refine y_aload_n rfl rfl ?_
        refine y_getIv (v := Int32.ofInt (1)) rfl (ySh.t hS rfl) (ySh.n hS rfl) rfl rfl hth ?_
        refine y_if_leF rfl (by decide) ?_
        refine y_iconst rfl ?_
        refine y_goto rfl j_X14_refuse_28 ?_
        refine y_ireturn rfl rfl rfl ?_
        refine y_ret1 ?_
        refine y_ireturn rfl rfl rfl ?_
        refine y_ret1 ?_
        refine y_if_neT rfl j_X14_buyOut_67 (by decide) ?_
        refine y_iconst rfl ?_
        refine y_ireturn rfl rfl rfl ?_
        exact hQ _ _ _ _ _ _ _ hS ((hR0.grow hX).up (Nat.le_succ K) hk6) (hK.x hRo hno hX) (by omega) (by omega)
  · rw [yz_0] at h_3
    try rw [ysub (by rw [yz_1]; omega) (by rw [yz_1]; omega), yz_1] at h_3
    refine y_ret1 ?_
    refine y_if_neF rfl (by decide) ?_
    refine y_iconst rfl ?_
    refine y_goto rfl j_X14_isNoVenture_22 ?_
    refine y_ireturn rfl rfl rfl ?_
    refine y_ret1 ?_
    refine y_if_neT rfl j_X14_buyOut_25 (by decide) ?_
    refine y_iconst rfl ?_
    refine y_goto rfl j_X14_buyOut_30 ?_
    refine y_iconst rfl ?_
    refine y_virt rfl rfl rfl rfl rfl (ySh.t hS rfl) (ySh.n hS rfl) ?_
    refine y_in (M := xm_X14_start) (ls := [some _, some _, some _]) rfl rfl rfl ?_
    refine y_aload_n rfl rfl ?_
    refine y_iconst rfl ?_
    refine y_putI rfl (ySh.t hS rfl) (ySh.n hS rfl) rfl (Nat.le_of_ble_eq_true rfl) rfl rfl ?_
    refine y_nameI (fun I437 e437 => ?_)
    have hR1 := (hR0.grow hX).mod0 e437 (by decide) (by decide)
    have hK := (hK.x hRo hno hX).upI (upI e437) (by decide) (by decide) (fun i hi => by have := (hRo.l87.2.2.2.2 i hi).2.1; omega) (by rw [e437, upd2_ne (.inr (by decide))]; exact Int.le_refl _)
    have hth : I437 83 0 = Int32.ofInt (0) := by rw [e437, upd2_self]
    have hzz : ySz8 I I437 := ySz8_of (upI e437) (by rw [e437]; exact ⟨upd2_ne (.inr (by decide)), upd2_ne (.inr (by decide))⟩)
    have hS0 := hS
    have hR0 := hR1
    have hn := Nat.le_refl n
    have h94 := hS0.1
    have hX := @yX.rf n tg I437 R
    have hS := hS0.x hX
    have hR := hR0.x hn hX
    have hz := hX.sz h94
    have hxn := hX.1
    have hN := hR0.1
    have hnb := hR0.2.2.2.2.2.2
    have hthB := hth
    refine y_aload_n rfl rfl ?_
    refine y_iload_n rfl rfl ?_
    refine y_iload_n rfl rfl ?_
    refine y_virt rfl rfl rfl rfl rfl (ySh.t hS rfl) (ySh.n hS rfl) ?_
    refine y_in (M := xm_X14_refuse) (ls := [some _, some _, some _]) rfl rfl rfl ?_
    refine y_iload_n rfl rfl ?_
    refine y_if_eqF rfl (by decide) ?_
    refine y_aload_n rfl rfl ?_
    refine y_getIv (v := Int32.ofInt (0)) rfl (ySh.t hS rfl) (ySh.n hS rfl) rfl rfl hth ?_
    refine y_if_neF rfl (by decide) ?_
    refine y_aload_n rfl rfl ?_
    refine y_iload_n rfl rfl ?_
    refine y_putI rfl (ySh.t hS rfl) (ySh.n hS rfl) rfl (Nat.le_of_ble_eq_true rfl) rfl rfl ?_
    refine y_nameI (fun I438 e438 => ?_)
    have hR1 := (hR0.grow hX).mod0 e438 (by decide) (by decide)
    have hK := (hK.x hRo hno hX).upI (upI e438) (by decide) (by decide) (fun i hi => by have := (hRo.l87.2.2.2.2 i hi).2.1; omega) (by rw [e438, upd2_ne (.inr (by decide))]; exact Int.le_refl _)
    have hth : I438 83 0 = Int32.ofInt (1) := by rw [e438, upd2_self]
    have hzz : ySz8 I437 I438 := ySz8_of (upI e438) (by rw [e438]; exact ⟨upd2_ne (.inr (by decide)), upd2_ne (.inr (by decide))⟩)
    have hS0 := hS
    have hR0 := hR1
    have hn := Nat.le_refl n
    have h94 := hS0.1
    have hX := @yX.rf n tg I438 R
    have hS := hS0.x hX
    have hR := hR0.x hn hX
    have hz := hX.sz h94
    have hxn := hX.1
    have hN := hR0.1
    have hnb := hR0.2.2.2.2.2.2
    have hthB := hth
    refine y_aload_n rfl rfl ?_
    refine y_getIv (v := Int32.ofInt (1)) rfl (ySh.t hS rfl) (ySh.n hS rfl) rfl rfl hth ?_
    refine y_if_leF rfl (by decide) ?_
    refine y_iconst rfl ?_
    refine y_goto rfl j_X14_refuse_28 ?_
    refine y_ireturn rfl rfl rfl ?_
    refine y_ret1 ?_
    refine y_ireturn rfl rfl rfl ?_
    refine y_ret1 ?_
    refine y_if_neT rfl j_X14_buyOut_67 (by decide) ?_
    refine y_iconst rfl ?_
    refine y_ireturn rfl rfl rfl ?_
    exact hQ _ _ _ _ _ _ _ hS ((hR0.grow hX).up (Nat.le_succ K) hk6) (hK.x hRo hno hX) (by omega) (by omega)
theorem ySum_bd {f : Nat → Int} {B : Int} : ∀ {k : Nat}, (∀ j, j < k → 0 ≤ f j ∧ f j ≤ B) → 0 ≤ ySum f k ∧ ySum f k ≤ B * k
  | 0, _ => ⟨Int.le_refl 0, by show (0 : Int) ≤ B * 0; omega⟩
  | k + 1, h => by
    have h1 := ySum_bd (k := k) (fun j hj => h j (by omega))
    have h2 := h k (by omega)
    show 0 ≤ ySum f k + f k ∧ ySum f k + f k ≤ B * ((k + 1 : Nat) : Int)
    rw [show B * ((k + 1 : Nat) : Int) = B * k + B by rw [Int.natCast_add, Int.mul_add]; simp]
    omega
theorem ySum_nx {f : Nat → Int} {x v w : Int32} (h0 : 0 ≤ x.toInt) (h9 : x.toInt < 9) (hf : ∀ j, j < 9 → 0 ≤ f j ∧ f j ≤ 1000000) (hv : v.toInt = ySum f x.toInt.toNat) (hw : w.toInt = f x.toInt.toNat) : (v + w).toInt = ySum f (x + Int32.ofInt 1).toInt.toNat := by
  have hb := ySum_bd (f := f) (B := 1000000) (k := x.toInt.toNat) (fun j hj => hf j (by omega))
  have hw2 := hf x.toInt.toNat (by omega)
  have hk : ((x.toInt.toNat : Nat) : Int) ≤ 9 := by omega
  rw [yinc (by omega), show (x.toInt + 1).toNat = x.toInt.toNat + 1 by omega]
  show (v + w).toInt = ySum f x.toInt.toNat + f x.toInt.toNat
  rw [yadd (by rw [hv, hw]; omega) (by rw [hv, hw]; omega), hv, hw]
theorem lp_r_allE {a b : Nat} (ht_pa : tg a = (0, 9)) (ha_pa : a < n) (hc : ∀ j, j < 9 → 0 ≤ (I a j).toInt ∧ (I a j).toInt ≤ 1000000) (hQ : ∀ v : Int32, v.toInt = ySum (fun j => (I a j).toInt) 9 → Q (.inl (some (.int v))) (n, tg, I, R) c s) : ∀ (m : Nat) (x2 : Int32) (x4 : Int32) (x5 : Int32), (x4.toInt = 9) → (0 ≤ x5.toInt) → (x5.toInt ≤ 9) → (x2.toInt = ySum (fun j => (I a j).toInt) x5.toInt.toNat) → 9 - x5.toInt < m → yW xm_X13_all xc_X13_all_11 [some (.ref b), some (.ref a), some (.int x2), some (.ref a), some (.int x4), some (.int x5), none] [] (n, tg, I, R) c s Q := by
  intro m
  induction m with
  | zero => intro x2 x4 x5 i0 i1 i2 i3 hm; exfalso; omega
  | succ m ih =>
    intro x2 x4 x5 i0 i1 i2 i3 hm
    refine y_iload rfl rfl ?_
    refine y_iload rfl rfl ?_
    refine y_icmp_ge rfl j_X13_all_35 (fun h_1 => ?_) (fun h_2 => ?_)
    · refine y_iload_n rfl rfl ?_
      refine y_ireturn rfl rfl rfl ?_
      exact hQ _ (by rw [show (9 : Nat) = x5.toInt.toNat by omega]; assumption)
    · refine y_aload_n rfl rfl ?_
      refine y_iload rfl rfl ?_
      refine y_iaload rfl ht_pa ha_pa (by omega) (by omega) ?_
      refine y_istore (ls' := [some _, some _, some _, some _, some _, some _, some _]) rfl rfl rfl ?_
      refine y_iload_n rfl rfl ?_
      refine y_iload rfl rfl ?_
      refine y_iadd rfl ?_
      refine y_istore_n (ls' := [some _, some _, some _, some _, some _, some _, some _]) rfl rfl rfl ?_
      refine y_iinc (ls' := [some _, some _, some _, some _, some _, some _, some _]) rfl rfl rfl rfl ?_
      refine y_goto rfl j_X13_all_11 ?_
      refine y_fgt (ls := [some _, some _, some _, some _, some _, some _, none]) ⟨rfl, rfl, rfl, rfl, rfl, rfl, trivial⟩ ?_
      exact ih _ _ _ (by assumption) (by first | omega | (rw [yinc (by omega)]; omega)) (by first | omega | (rw [yinc (by omega)]; omega)) (ySum_nx (by omega) (by omega) hc (by assumption) rfl) (by first | omega | (rw [yinc (by omega)]; omega))
theorem r_allE {a b : Nat} (ht_pa : tg a = (0, 9)) (ha_pa : a < n) (hc : ∀ j, j < 9 → 0 ≤ (I a j).toInt ∧ (I a j).toInt ≤ 1000000) (hQ : ∀ v : Int32, v.toInt = ySum (fun j => (I a j).toInt) 9 → Q (.inl (some (.int v))) (n, tg, I, R) c s) : yC 181 [.ref b, .ref a] (n, tg, I, R) c s Q := by
  refine y_in (M := xm_X13_all) (ls := [some _, some _, _, _, _, _, _]) rfl rfl rfl ?_
  refine y_iconst rfl ?_
  refine y_istore_n (ls' := [some _, some _, some _, _, _, _, _]) rfl rfl rfl ?_
  refine y_aload_n rfl rfl ?_
  refine y_astore_n (ls' := [some _, some _, some _, some _, _, _, _]) rfl rfl rfl ?_
  refine y_aload_n rfl rfl ?_
  refine y_alenI (v := 9) rfl ht_pa rfl ha_pa (by decide) ?_
  refine y_istore (ls' := [some _, some _, some _, some _, some _, _, _]) rfl rfl rfl ?_
  refine y_iconst rfl ?_
  refine y_istore (ls' := [some _, some _, some _, some _, some _, some _, _]) rfl rfl rfl ?_
  exact lp_r_allE ht_pa ha_pa hc hQ 100 _ _ _ (by decide) (by decide) (by decide) (by rw [show (Int32.ofInt 0).toInt.toNat = 0 by decide]; show (Int32.ofInt 0).toInt = 0; decide) (by decide)
end YRQ
