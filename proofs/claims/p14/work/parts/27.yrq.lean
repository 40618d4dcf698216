/-! THE REFERENCE: loops that change (by gen27.py) -/
theorem ySum_set {f g : Nat → Int} {j0 : Nat} : ∀ {k : Nat}, j0 < k → (∀ j, j ≠ j0 → g j = f j) → ySum g k = ySum f k - f j0 + g j0
  | 0, h, _ => absurd h (Nat.not_lt_zero _)
  | k + 1, h, hg => by
    show ySum g k + g k = ySum f k + f k - f j0 + g j0
    by_cases hj : j0 = k
    · subst hj
      rw [ySum_eq (f := g) (g := f) (fun j hj => hg j (by omega))]
      omega
    · rw [ySum_set (k := k) (by omega) hg, hg k (Ne.symm hj)]
      omega
theorem yKp.trans {n n1 n2 : Nat} {tg tg1 tg2 : Nat → yT} {I I1 I2 : Nat → Nat → Int32} {R R1 R2 : Nat → Nat → Value} (h : yKp n tg I R n1 tg1 I1 R1) (h2 : yKp n1 tg1 I1 R1 n2 tg2 I2 R2) : yKp n tg I R n2 tg2 I2 R2 := by
  obtain ⟨a1, a2, a3, a4, a5, a6, a7, a8⟩ := h
  obtain ⟨b1, b2, b3, b4, b5, b6, b7, b8⟩ := h2
  have hE : yEl R1 87 = yEl R 87 := yEl_eq a4
  refine ⟨by omega, fun a ha => (b2 a (by omega)).trans (a2 a ha), fun a ha => (b3 a ha).trans (a3 a ha), b4.trans a4, ?_, b6.trans a6, fun i hi => ?_, by omega⟩
  · rw [← hE, b5, hE]; exact a5
  · have := b7 i (by rw [a6]; exact hi)
    rw [show yAd R1 87 i = yAd R 87 i from yAd_eq a4 a5] at this
    exact this.trans (a7 i hi)
theorem yRI.cap {K nb : Nat} {tg : Nat → yT} {I : Nat → Nat → Int32} {R : Nat → Nat → Value} (h : yRI K nb tg I R) {b : Nat} (h1 : 94 ≤ b) (h2 : b < nb) (h3 : tg b = (21, 0)) : (∀ j, j < 9 → 0 ≤ (I (b + 2) j).toInt) ∧ ySum (fun j => (I (b + 2) j).toInt) 9 ≤ 999 * (K : Int) := ((h.2.2.2.1 b h1 h2).2.2.2 h3).2.2.2.2.2.2
theorem yRI.capJ {K nb : Nat} {tg : Nat → yT} {I I' : Nat → Nat → Int32} {R : Nat → Nat → Value} (h : yRI K nb tg I R) {b k : Nat} {x : Int32} (h1 : 94 ≤ b) (h2 : b < nb) (h3 : tg b = (21, 0)) (hk : k < 9) (hx : 0 ≤ x.toInt ∧ x.toInt ≤ 999) (e : I' = upd2 I (b + 1 + 1) k x) (hk6 : K + 1 ≤ 600) : yRI (K + 1) nb tg I' R := by
  obtain ⟨q1, q2⟩ := h.cap h1 h2 h3
  have e : I' = upd2 I (b + 2) k x := e
  have hs := ySum_set (f := fun j => (I (b + 2) j).toInt) (g := fun j => (I' (b + 2) j).toInt) (j0 := k) (k := 9) hk (fun j hj => by rw [e, upd2_ne (.inr hj)])
  have hk0 := q1 k hk
  have hk1 : (I' (b + 2) k).toInt = x.toInt := by rw [e, upd2_self]
  refine (h.up (Nat.le_succ K) hk6).upC h1 h2 h3 (upI e) (fun j hj => ?_) (by rw [hs]; show _ - (I (b + 2) k).toInt + (I' (b + 2) k).toInt ≤ _; omega)
  by_cases hjk : j = k
  · rw [hjk]; omega
  · rw [e, upd2_ne (.inr hjk)]; exact q1 j hj
theorem yRI.capB1 {K nb : Nat} {tg : Nat → yT} {I I' : Nat → Nat → Int32} {R : Nat → Nat → Value} (h : yRI K nb tg I R) {b k : Nat} {x : Int32} (h1 : 94 ≤ b) (h2 : b < nb) (h3 : tg b = (21, 0)) (hk : k < 9) (hx : 0 ≤ x.toInt ∧ x.toInt ≤ (I (b + 1 + 1) k).toInt) (e : I' = upd2 I (b + 1 + 1) k (I (b + 1 + 1) k - x)) : yRI K nb tg I' R ∧ ySum (fun j => (I' (b + 2) j).toInt) 9 + x.toInt ≤ 999 * (K : Int) ∧ ∀ j, j < 9 → 0 ≤ (I' (b + 2) j).toInt := by
  obtain ⟨q1, q2⟩ := h.cap h1 h2 h3
  have e : I' = upd2 I (b + 2) k (I (b + 2) k - x) := e
  have hx : 0 ≤ x.toInt ∧ x.toInt ≤ (I (b + 2) k).toInt := hx
  have hb := (I (b + 2) k).toInt_lt
  have hs := ySum_set (f := fun j => (I (b + 2) j).toInt) (g := fun j => (I' (b + 2) j).toInt) (j0 := k) (k := 9) hk (fun j hj => by rw [e, upd2_ne (.inr hj)])
  have hk1 : (I' (b + 2) k).toInt = (I (b + 2) k).toInt - x.toInt := by rw [e, upd2_self, ysub (by omega) (by omega)]
  have hn : ∀ j, j < 9 → 0 ≤ (I' (b + 2) j).toInt := fun j hj => by
    by_cases hjk : j = k
    · rw [hjk]; omega
    · rw [e, upd2_ne (.inr hjk)]; exact q1 j hj
  have hs2 : ySum (fun j => (I' (b + 2) j).toInt) 9 = ySum (fun j => (I (b + 2) j).toInt) 9 - (I (b + 2) k).toInt + (I' (b + 2) k).toInt := hs
  exact ⟨h.upC h1 h2 h3 (upI e) hn (by omega), by omega, hn⟩
theorem ySum_le {f : Nat → Int} : ∀ {k : Nat}, (∀ j, j < k → 0 ≤ f j) → ∀ j, j < k → f j ≤ ySum f k
  | 0, _, j, hj => absurd hj (Nat.not_lt_zero _)
  | k + 1, h, j, hj => by
    have h0 : ∀ m, (∀ j, j < m → 0 ≤ f j) → 0 ≤ ySum f m := by
      intro m
      induction m with
      | zero => intro _; exact Int.le_refl 0
      | succ m ih => intro hm; show 0 ≤ ySum f m + f m; have := ih (fun j hj => hm j (by omega)); have := hm m (by omega); omega
    show f j ≤ ySum f k + f k
    by_cases hjk : j = k
    · rw [hjk]; have := h0 k (fun j hj => h j (by omega)); omega
    · have := ySum_le (k := k) (fun j hj => h j (by omega)) j (by omega); have := h k (by omega); omega
theorem yRI.capB2 {K nb : Nat} {tg : Nat → yT} {I I' : Nat → Nat → Int32} {R : Nat → Nat → Value} (h : yRI K nb tg I R) {b k : Nat} {x : Int32} (h1 : 94 ≤ b) (h2 : b < nb) (h3 : tg b = (21, 0)) (hk : k < 9) (hx : 0 ≤ x.toInt) (hsum : ySum (fun j => (I (b + 2) j).toInt) 9 + x.toInt ≤ 999 * (K : Int)) (e : I' = upd2 I (b + 1 + 1) k (I (b + 1 + 1) k + x)) : yRI K nb tg I' R := by
  obtain ⟨q1, q2⟩ := h.cap h1 h2 h3
  have e : I' = upd2 I (b + 2) k (I (b + 2) k + x) := e
  have hK := h.1.2.2.2.2.2.2.2.2
  have hle := ySum_le q1 k hk
  have hle : (I (b + 2) k).toInt ≤ ySum (fun j => (I (b + 2) j).toInt) 9 := hle
  have hk0 := q1 k hk
  have hs := ySum_set (f := fun j => (I (b + 2) j).toInt) (g := fun j => (I' (b + 2) j).toInt) (j0 := k) (k := 9) hk (fun j hj => by rw [e, upd2_ne (.inr hj)])
  have hk1 : (I' (b + 2) k).toInt = (I (b + 2) k).toInt + x.toInt := by rw [e, upd2_self, yadd (by omega) (by omega)]
  have hs2 : ySum (fun j => (I' (b + 2) j).toInt) 9 = ySum (fun j => (I (b + 2) j).toInt) 9 - (I (b + 2) k).toInt + (I' (b + 2) k).toInt := hs
  refine h.upC h1 h2 h3 (upI e) (fun j hj => ?_) (by omega)
  by_cases hjk : j = k
  · rw [hjk]; omega
  · rw [e, upd2_ne (.inr hjk)]; exact q1 j hj
theorem yAdd.R {n n1 : Nat} {tg tg1 : Nat → yT} {I I1 : Nat → Nat → Int32} {R R1 : Nat → Nat → Value} {l x : Nat} (h : yAdd n tg I R l x n1 tg1 I1 R1) : ∀ a, a < n → a ≠ l → (a ≠ yEl R l ∨ yEl R l < 94) → R1 a = R a := by obtain ⟨e1, m1, g1, g2, g3, g4, g5, -⟩ := h; exact g5
section YRQ
variable {K nb n : Nat} {tg : Nat → yT} {I : Nat → Nat → Int32} {R : Nat → Nat → Value} {c s : Nat} {Q : yQ}
theorem ySum_bd {f : Nat → Int} {B : Int} : ∀ {k : Nat}, (∀ j, j < k → 0 ≤ f j ∧ f j ≤ B) → 0 ≤ ySum f k ∧ ySum f k ≤ B * k
  | 0, _ => ⟨Int.le_refl 0, by show (0 : Int) ≤ B * 0; omega⟩
  | k + 1, h => by
    have h1 := ySum_bd (k := k) (fun j hj => h j (by omega))
    have h2 := h k (by omega)
    show 0 ≤ ySum f k + f k ∧ ySum f k + f k ≤ B * ((k + 1 : Nat) : Int)
    rw [show B * ((k + 1 : Nat) : Int) = B * k + B by rw [Int.natCast_add, Int.mul_add]; simp]
    omega
theorem ySum_nx {f : Nat → Int} {x v w : Int32} (h0 : 0 ≤ x.toInt) (h9 : x.toInt < 9) (hf : ∀ j, j < 9 → 0 ≤ f j ∧ f j ≤ 1000000) (hv : v.toInt = ySum f x.toInt.toNat) (hw : w.toInt = f x.toInt.toNat) : (v + w).toInt = ySum f (x + Int32.ofInt 1).toInt.toNat := by
  have hb := ySum_bd (f := f) (B := 1000000) (k := x.toInt.toNat) (fun j hj => hf j (by omega))
  have hw2 := hf x.toInt.toNat (by omega)
  have hk : ((x.toInt.toNat : Nat) : Int) ≤ 9 := by omega
  rw [yinc (by omega), show (x.toInt + 1).toNat = x.toInt.toNat + 1 by omega]
  show (v + w).toInt = ySum f x.toInt.toNat + f x.toInt.toNat
  rw [yadd (by rw [hv, hw]; omega) (by rw [hv, hw]; omega), hv, hw]
theorem lp_r_allE {a b : Nat} (ht_pa : tg a = (0, 9)) (ha_pa : a < n) (hc : ∀ j, j < 9 → 0 ≤ (I a j).toInt ∧ (I a j).toInt ≤ 1000000) (hQ : ∀ v : Int32, v.toInt = ySum (fun j => (I a j).toInt) 9 → Q (.inl (some (.int v))) (n, tg, I, R) c s) : ∀ (m : Nat) (x2 : Int32) (x4 : Int32) (x5 : Int32), (x4.toInt = 9) → (0 ≤ x5.toInt) → (x5.toInt ≤ 9) → (x2.toInt = ySum (fun j => (I a j).toInt) x5.toInt.toNat) → 9 - x5.toInt < m → yW xm_X13_all xc_X13_all_11 [some (.ref b), some (.ref a), some (.int x2), some (.ref a), some (.int x4), some (.int x5), none] [] (n, tg, I, R) c s Q := by
  intro m
  induction m with
  | zero => intro x2 x4 x5 i0 i1 i2 i3 hm; exfalso; omega
  | succ m ih =>
    intro x2 x4 x5 i0 i1 i2 i3 hm
    refine y_iload rfl rfl ?_
    refine y_iload rfl rfl ?_
    refine y_icmp_ge rfl j_X13_all_35 (fun h_1 => ?_) (fun h_2 => ?_)
    · refine y_iload_n rfl rfl ?_
      refine y_ireturn rfl rfl rfl ?_
      exact hQ _ (by rw [show (9 : Nat) = x5.toInt.toNat by omega]; assumption)
    · refine y_aload_n rfl rfl ?_
      refine y_iload rfl rfl ?_
      refine y_iaload rfl ht_pa ha_pa (by omega) (by omega) ?_
      refine y_istore (ls' := [some _, some _, some _, some _, some _, some _, some _]) rfl rfl rfl ?_
      refine y_iload_n rfl rfl ?_
      refine y_iload rfl rfl ?_
      refine y_iadd rfl ?_
      refine y_istore_n (ls' := [some _, some _, some _, some _, some _, some _, some _]) rfl rfl rfl ?_
      refine y_iinc (ls' := [some _, some _, some _, some _, some _, some _, some _]) rfl rfl rfl rfl ?_
      refine y_goto rfl j_X13_all_11 ?_
      refine y_fgt (ls := [some _, some _, some _, some _, some _, some _, none]) ⟨rfl, rfl, rfl, rfl, rfl, rfl, trivial⟩ ?_
      exact ih _ _ _ (by assumption) (by first | omega | (rw [yinc (by omega)]; omega)) (by first | omega | (rw [yinc (by omega)]; omega)) (ySum_nx (by omega) (by omega) hc (by assumption) rfl) (by first | omega | (rw [yinc (by omega)]; omega))
theorem r_allE {a b : Nat} (ht_pa : tg a = (0, 9)) (ha_pa : a < n) (hc : ∀ j, j < 9 → 0 ≤ (I a j).toInt ∧ (I a j).toInt ≤ 1000000) (hQ : ∀ v : Int32, v.toInt = ySum (fun j => (I a j).toInt) 9 → Q (.inl (some (.int v))) (n, tg, I, R) c s) : yC 181 [.ref b, .ref a] (n, tg, I, R) c s Q := by
  refine y_in (M := xm_X13_all) (ls := [some _, some _, _, _, _, _, _]) rfl rfl rfl ?_
  refine y_iconst rfl ?_
  refine y_istore_n (ls' := [some _, some _, some _, _, _, _, _]) rfl rfl rfl ?_
  refine y_aload_n rfl rfl ?_
  refine y_astore_n (ls' := [some _, some _, some _, some _, _, _, _]) rfl rfl rfl ?_
  refine y_aload_n rfl rfl ?_
  refine y_alenI (v := 9) rfl ht_pa rfl ha_pa (by decide) ?_
  refine y_istore (ls' := [some _, some _, some _, some _, some _, _, _]) rfl rfl rfl ?_
  refine y_iconst rfl ?_
  refine y_istore (ls' := [some _, some _, some _, some _, some _, some _, _]) rfl rfl rfl ?_
  exact lp_r_allE ht_pa ha_pa hc hQ 100 _ _ _ (by decide) (by decide) (by decide) (by rw [show (Int32.ofInt 0).toInt.toNat = 0 by decide]; show (Int32.ofInt 0).toInt = 0; decide) (by decide)
end YRQ
