/-! MONEY ON BOTH SIDES (rel8m.lean) -/
/-- purses, fees, the pool: C the class's numbers, M the reference's -/
def yMn (C M : Nat → Nat → Int32) : Prop :=
  (∀ j : Nat, j < 9 → C 39 j = M 84 j) ∧ C 38 1 = M 83 2 ∧ (C 74 2 = M 83 3 ∧ C 74 3 = M 83 5 ∧ C 74 4 = M 83 6) ∧
  (∀ j : Nat, j < 8 → (C 75 j = M 85 j ∧ C 76 j = M 86 j) ∧ 0 ≤ (C 75 j).toInt ∧ (C 75 j).toInt ≤ 99999) ∧
  (∀ j : Nat, j < 8 → (C 38 0).toInt ≤ (j : Int) → C 75 j = Int32.ofInt 0 ∧ C 76 j = Int32.ofInt 0)
section YMN
variable {C M C1 M1 : Nat → Nat → Int32}
theorem yAddC_v {p x : Int32} {j : Nat} (h0 : 0 ≤ p.toInt) (h8 : p.toInt ≤ 8) : yAddC C p x 39 j = if j = p.toInt.toNat then C 39 j + x else C 39 j := by
  unfold yAddC
  rw [if_pos ⟨h0, h8⟩]
  by_cases hj : j = p.toInt.toNat
  · rw [if_pos hj, hj, upd2_self]
  · rw [if_neg hj, upd2_ne (.inr hj)]
theorem yAddC_9 {p x : Int32} (h : p.toInt = 9) : yAddC C p x = C := by
  unfold yAddC
  rw [if_neg (by omega)]
theorem mAddC_v {p x : Int32} {j : Nat} (h9 : ¬ p.toInt = 9) : mAddC M p x 84 j = if j = p.toInt.toNat then M 84 j + x else M 84 j := by
  unfold mAddC
  rw [if_neg h9]
  by_cases hj : j = p.toInt.toNat
  · rw [if_pos hj, hj, upd2_self]
  · rw [if_neg hj, upd2_ne (.inr hj)]
theorem mAddC_9 {p x : Int32} (h : p.toInt = 9) : mAddC M p x = M := by
  unfold mAddC
  rw [if_pos h]
/-- purses and fees change, the pool stays -/
theorem yMn.fr (h : yMn C M) (h9 : ∀ j, j < 9 → C1 39 j = M1 84 j) (hf : C1 38 1 = M1 83 2) (h38 : C1 38 0 = C 38 0) (hc : C1 74 = C 74 ∧ C1 75 = C 75 ∧ C1 76 = C 76) (hm : M1 83 3 = M 83 3 ∧ M1 83 5 = M 83 5 ∧ M1 83 6 = M 83 6) (h5 : M1 85 = M 85) (h6 : M1 86 = M 86) : yMn C1 M1 := by
  obtain ⟨-, -, p3, p4, p5⟩ := h
  obtain ⟨c4, c5, c6⟩ := hc
  obtain ⟨m3, m5, m6⟩ := hm
  refine ⟨h9, hf, ?_, fun j hj => ?_, fun j hj hp => ?_⟩
  · rw [c4, m3, m5, m6]; exact p3
  · rw [c5, c6, h5, h6]; exact p4 j hj
  · rw [c5, c6]; exact p5 j hj (by rw [← h38]; exact hp)
/-- nothing of it has changed -/
theorem yMn.cg (h : yMn C M) (hc : ∀ a, a = 38 ∨ a = 39 ∨ a = 74 ∨ a = 75 ∨ a = 76 → C1 a = C a) (hm : ∀ k, k ≠ 0 → M1 83 k = M 83 k) (h84 : ∀ a, 84 ≤ a → a ≤ 86 → M1 a = M a) : yMn C1 M1 :=
  h.fr (fun j hj => by rw [hc 39 (by decide), h84 84 (by decide) (by decide)]; exact h.1 j hj) (by rw [hc 38 (by decide), hm 2 (by decide)]; exact h.2.1) (by rw [hc 38 (by decide)]) ⟨hc 74 (by decide), hc 75 (by decide), hc 76 (by decide)⟩ ⟨hm 3 (by decide), hm 5 (by decide), hm 6 (by decide)⟩ (h84 85 (by decide) (by decide)) (h84 86 (by decide) (by decide))
/-! A day: weights, rents, alms -/
theorem yWeR : ∀ {m : Nat} {k : Nat}, yRec yWeS C m 76 k = if k < m then C 76 k + C 75 k else C 76 k
  | 0, k => by rw [if_neg (by omega)]; rfl
  | m + 1, k => by
    have e75 : yRec yWeS C m 75 = C 75 := yRec_keep fun J k _ _ => upd2_row (by decide)
    show upd2 (yRec yWeS C m) 76 m (yRec yWeS C m 76 m + yRec yWeS C m 75 m) 76 k = _
    by_cases hk : k = m
    · rw [hk, upd2_self, yWeR (m := m) (k := m), if_neg (by omega), if_pos (by omega), e75]
    · rw [upd2_ne (.inr hk), yWeR (m := m) (k := k)]
      by_cases h2 : k < m
      · rw [if_pos h2, if_pos (by omega)]
      · rw [if_neg h2, if_neg (by omega)]
theorem mWeR : ∀ {m : Nat} {k : Nat}, yRec mWeS M m 86 k = if k < m then M 86 k + M 85 k else M 86 k
  | 0, k => by rw [if_neg (by omega)]; rfl
  | m + 1, k => by
    have e85 : yRec mWeS M m 85 = M 85 := yRec_keep fun J k _ _ => upd2_row (by decide)
    show upd2 (yRec mWeS M m) 86 m (yRec mWeS M m 86 m + yRec mWeS M m 85 m) 86 k = _
    by_cases hk : k = m
    · rw [hk, upd2_self, mWeR (m := m) (k := m), if_neg (by omega), if_pos (by omega), e85]
    · rw [upd2_ne (.inr hk), mWeR (m := m) (k := k)]
      by_cases h2 : k < m
      · rw [if_pos h2, if_pos (by omega)]
      · rw [if_neg h2, if_neg (by omega)]
/-- weights -/
theorem yMn.we (h : yMn C M) (h8 : (C 38 0).toInt = (M 83 8).toInt) (h0 : 0 ≤ (C 38 0).toInt ∧ (C 38 0).toInt ≤ 8) : yMn (yDyD (yDyB C)) (mDyD (mWeD M)) := by
  have c := fun {a : Nat} (h4 : a ≠ 34) (h7 : a ≠ 37) (h6 : a ≠ 76) => (show yDyD (yDyB C) a = C a from (upd2_row h4).trans ((yRec_keep fun J k _ _ => upd2_row h6).trans (upd2_row h7)))
  have m := fun {a : Nat} (h3 : a ≠ 83) (h6 : a ≠ 86) => (show mDyD (mWeD M) a = M a from (upd2_row h3).trans (mWeD_row h6))
  have m3 : ∀ k, k ≠ 1 → mDyD (mWeD M) 83 k = M 83 k := fun k hk => (upd2_ne (.inr hk)).trans (congrFun (mWeD_row (by decide)) k)
  have c76 : ∀ k, k < 8 → yDyD (yDyB C) 76 k = C 76 k + C 75 k := fun k hk => by
    rw [show yDyD (yDyB C) 76 = yDyB C 76 from upd2_row (by decide)]
    unfold yDyB
    rw [yWeR, if_pos hk, upd2_row (by decide), upd2_row (by decide)]
  have m86 : ∀ k, mDyD (mWeD M) 86 k = if k < (M 83 8).toInt.toNat then M 86 k + M 85 k else M 86 k := fun k => by
    rw [show mDyD (mWeD M) 86 = mWeD M 86 from upd2_row (by decide)]
    exact mWeR
  obtain ⟨p1, p2, p3, p4, p5⟩ := h
  refine ⟨fun j hj => ?_, ?_, ?_, fun j hj => ?_, fun j hj hp => ?_⟩
  · rw [c (by decide) (by decide) (by decide), m (by decide) (by decide)]; exact p1 j hj
  · rw [c (by decide) (by decide) (by decide), m3 2 (by decide)]; exact p2
  · rw [c (by decide) (by decide) (by decide), m3 3 (by decide), m3 5 (by decide), m3 6 (by decide)]; exact p3
  · rw [c (a := 75) (by decide) (by decide) (by decide), m (a := 85) (by decide) (by decide), c76 j hj, m86]
    refine ⟨⟨(p4 j hj).1.1, ?_⟩, (p4 j hj).2⟩
    by_cases hk : j < (M 83 8).toInt.toNat
    · rw [if_pos hk, (p4 j hj).1.1, (p4 j hj).1.2]
    · rw [if_neg hk, (p5 j hj (by omega)).1, (p4 j hj).1.2]; exact Int32.add_zero _
  · rw [c (a := 38) (by decide) (by decide) (by decide)] at hp
    rw [c (a := 75) (by decide) (by decide) (by decide), c76 j hj, (p5 j hj hp).1, (p5 j hj hp).2]
    exact ⟨rfl, by decide⟩
end YMN
/-! VENTURES ON BOTH SIDES (rel8v.lean) -/
/-- a venture's rows: C the class's numbers, M the reference's, j its place, b its object; row f of 0..3: is there, capital, share, had -/
def yVr (C M : Nat → Nat → Int32) (j b : Nat) : Prop := (∀ f : Nat, f < 4 → ∀ p : Nat, p < 9 → C (70 + f) (j * 9 + p) = M (b + 1 + f) p) ∧ ∀ p : Nat, p < 9 → 0 ≤ (C 72 (j * 9 + p)).toInt ∧ (C 72 (j * 9 + p)).toInt ≤ 100
def yVn (C M : Nat → Nat → Int32) (R : Nat → Nat → Value) : Prop :=
  (∀ j : Nat, (j : Int) < (M 91 2).toInt → yVr C M j (yAd R 91 j)) ∧
  (∀ f : Nat, f < 4 → ∀ q : Nat, (M 91 2).toInt * 9 ≤ (q : Int) → C (70 + f) q = Int32.ofInt 0) ∧
  (∀ i j : Nat, i < j → (j : Int) < (M 91 2).toInt → yAd R 91 i + 4 < yAd R 91 j)
section YVN
variable {C M C1 M1 : Nat → Nat → Int32} {R R1 : Nat → Nat → Value}
theorem yVn.ne (h : yVn C M R) {i j f g : Nat} (hi : (i : Int) < (M 91 2).toInt) (hj : (j : Int) < (M 91 2).toInt) (hf : f < 4) (hg : g < 4) (hij : i ≠ j) : yAd R 91 i + 1 + f ≠ yAd R 91 j + 1 + g := by
  by_cases h1 : i < j
  · have := h.2.2 i j h1 hj; omega
  · have := h.2.2 j i (by omega) hi; omega
/-- nothing of the ventures has changed -/
theorem yVn.cg (h : yVn C M R) (hs : (M1 91 2).toInt = (M 91 2).toInt) (hc : ∀ a, 70 ≤ a → a ≤ 73 → C1 a = C a) (hm : ∀ j : Nat, (j : Int) < (M 91 2).toInt → yAd R1 91 j = yAd R 91 j ∧ ∀ f, f < 4 → M1 (yAd R 91 j + 1 + f) = M (yAd R 91 j + 1 + f)) : yVn C1 M1 R1 := by
  obtain ⟨h1, h2, h3⟩ := h
  refine ⟨fun j hj => ?_, fun f hf q hq => ?_, fun i j hij hj => ?_⟩
  · rw [hs] at hj
    obtain ⟨m1, m2⟩ := hm j hj
    obtain ⟨r1, r2⟩ := h1 j hj
    refine ⟨fun f hf p hp => ?_, fun p hp => ?_⟩
    · rw [hc (70 + f) (by omega) (by omega), m1, m2 f hf]; exact r1 f hf p hp
    · rw [hc 72 (by decide) (by decide)]; exact r2 p hp
  · rw [hc (70 + f) (by omega) (by omega)]; exact h2 f hf q (by rw [← hs]; exact hq)
  · rw [hs] at hj
    rw [(hm i (by omega)).1, (hm j hj).1]; exact h3 i j hij hj
/-- one number of a venture changes on both sides -/
theorem yVn.set {f x p b : Nat} {z : Int32} (h : yVn C M R) (hf : f < 4) (hx : (x : Int) < (M 91 2).toInt) (hp : p < 9) (hb : b = yAd R 91 x) (hb94 : 94 ≤ b) (hz : f = 2 → 0 ≤ z.toInt ∧ z.toInt ≤ 100) : yVn (upd2 C (70 + f) (x * 9 + p) z) (upd2 M (b + 1 + f) p z) R := by
  have h91 : upd2 M (b + 1 + f) p z 91 = M 91 := upd2_row (by omega)
  unfold yVn
  rw [h91]
  refine ⟨fun j hj => ?_, fun g hg q hq => ?_, h.2.2⟩
  · obtain ⟨r1, r2⟩ := h.1 j hj
    have key : ∀ g, g < 4 → ∀ q, q < 9 → upd2 C (70 + f) (x * 9 + p) z (70 + g) (j * 9 + q) = (if g = f ∧ j = x ∧ q = p then z else C (70 + g) (j * 9 + q)) ∧ upd2 M (b + 1 + f) p z (yAd R 91 j + 1 + g) q = (if g = f ∧ j = x ∧ q = p then z else M (yAd R 91 j + 1 + g) q) := fun g hg q hq => by
      by_cases e : g = f ∧ j = x ∧ q = p
      · obtain ⟨e1, e2, e3⟩ := e
        subst e1 e2 e3
        rw [if_pos ⟨rfl, rfl, rfl⟩, if_pos ⟨rfl, rfl, rfl⟩, upd2_self, hb, upd2_self]
        exact ⟨rfl, rfl⟩
      · rw [if_neg e, if_neg e]
        refine ⟨upd2_ne ?_, upd2_ne ?_⟩
        · omega
        · by_cases ej : j = x
          · subst ej; rw [hb]; omega
          · exact .inl (by rw [hb]; exact h.ne hj hx hg hf ej)
    refine ⟨fun g hg q hq => ?_, fun q hq => ?_⟩
    · rw [(key g hg q hq).1, (key g hg q hq).2, r1 g hg q hq]
    · rw [(key 2 (by decide) q hq).1]
      split
      · rename_i e; exact hz e.1.symm
      · exact r2 q hq
  · rw [upd2_ne (.inr (by omega))]; exact h.2.1 g hg q hq
/-- numbers that are none of the ventures' change -/
theorem yVn.skM {a k : Nat} {z : Int32} (h : yVn C M R) (hl : ∀ j : Nat, (j : Int) < (M 91 2).toInt → 94 ≤ yAd R 91 j) (ha : a < 91) : yVn C (upd2 M a k z) R := by
  have h91 : upd2 M a k z 91 = M 91 := upd2_row (by omega)
  exact h.cg (by rw [h91]) (fun _ _ _ => rfl) (fun j hj => ⟨rfl, fun f hf => upd2_row (by have := hl j hj; omega)⟩)
theorem yVn.addC {p x : Int32} (h : yVn C M R) : yVn (yAddC C p x) M R :=
  h.cg rfl (fun c h1 h2 => yAddC_row (by omega)) (fun j hj => ⟨rfl, fun f hf => rfl⟩)
theorem yVn.sum (h : yVn C M R) {x b f : Nat} (hf : f < 4) (hx : (x : Int) < (M 91 2).toInt) (hb : b = yAd R 91 x) : yFz (fun j => C (70 + f) (x * 9 + j)) 9 = yFz (M (b + 1 + f)) 9 := yFz_cg fun j hj => by
  rw [hb]; exact (h.1 x hx).1 f hf j hj
end YVN
/-! PROFIT AND LOSS ON BOTH SIDES (rel9l.lean) -/
theorem yPor_g {b c : Int32} {a : Int64} {A : Int} (hA : a.toInt = A) (hb : 0 ≤ b.toInt) (hc : 0 ≤ c.toInt) (h0 : 0 ≤ A) (hr : b.toInt * c.toInt / A < 2147483648) : (yPor b.toInt64 c.toInt64 a).toInt = b.toInt * c.toInt / A := by
  have bb : b.toInt ≤ 2147483647 := by have := b.toInt_lt; omega
  have bc : c.toInt ≤ 2147483647 := by have := c.toInt_lt; omega
  have hp0 : 0 ≤ b.toInt * c.toInt := Int.mul_nonneg hb hc
  have hp1 : b.toInt * c.toInt ≤ 2147483647 * 2147483647 := Int.mul_le_mul bb bc hc (by decide)
  unfold yPor
  by_cases h : 0 < A
  · rw [if_pos (by rw [Int64.lt_iff_toInt_lt, hA]; exact h)]
    have e1 : (b.toInt64 * c.toInt64).toInt = b.toInt * c.toInt := by
      rw [Int64.toInt_mul, Int32.toInt_toInt64, Int32.toInt_toInt64]
      exact Int.bmod_eq_of_le (by omega) (by omega)
    have hd0 : 0 ≤ b.toInt * c.toInt / A := Int.ediv_nonneg hp0 h0
    have e2 : (b.toInt64 * c.toInt64 / a).toInt = b.toInt * c.toInt / A := by
      rw [Int64.toInt_div, e1, hA, Int.tdiv_eq_ediv_of_nonneg hp0]
      exact Int.bmod_eq_of_le (by omega) (by omega)
    rw [Int64.toInt_toInt32, e2]
    exact Int.bmod_eq_of_le (by omega) (by omega)
  · have hz : A = 0 := by omega
    rw [if_neg (by rw [Int64.lt_iff_toInt_lt, hA]; exact h), hz, Int.ediv_zero]
    decide
theorem yPor_c {b c a : Int32} (hb : 0 ≤ b.toInt) (hc : 0 ≤ c.toInt) (h : b.toInt ≤ a.toInt) : (yPor b.toInt64 c.toInt64 a.toInt64).toInt = b.toInt * c.toInt / a.toInt := by
  refine yPor_g (Int32.toInt_toInt64 a) hb hc (by omega) ?_
  have bc : c.toInt ≤ 2147483647 := by have := c.toInt_lt; omega
  by_cases h0 : a.toInt = 0
  · rw [h0, Int.ediv_zero]; decide
  · refine Int.ediv_lt_of_lt_mul (by omega) ?_
    have : b.toInt * c.toInt ≤ a.toInt * c.toInt := Int.mul_le_mul_of_nonneg_right h hc
    have h3 : c.toInt * a.toInt < 2147483648 * a.toInt := Int.mul_lt_mul_of_pos_right (by omega) (by omega)
    rw [Int.mul_comm a.toInt] at this
    omega
/-- the sum of nine numbers, bounded -/
theorem yFz_ySum {f : Nat → Int32} {m : Int} : ∀ {k : Nat}, (∀ j, j < k → 0 ≤ (f j).toInt) → ySum (fun j => (f j).toInt) k ≤ m → m < 2147483648 → (yFz f k).toInt = ySum (fun j => (f j).toInt) k ∧ 0 ≤ ySum (fun j => (f j).toInt) k
  | 0, _, _, _ => ⟨rfl, Int.le_refl 0⟩
  | k + 1, h, hm, h2 => by
    have hs : ySum (fun j => (f j).toInt) (k + 1) = ySum (fun j => (f j).toInt) k + (f k).toInt := rfl
    have hk := h k (by omega)
    obtain ⟨q1, q2⟩ := yFz_ySum (f := f) (k := k) (m := m) (fun j hj => h j (by omega)) (by omega) h2
    rw [yFz_s, yadd (by omega) (by omega), hs]; omega
section YLO
variable {I : Nat → Nat → Int32} {v b a : Int32} {x : Nat}
theorem yAtI_n {p : Nat} (hv : v.toInt = (x : Int)) (hx : x < 6) (hp : p < 9) : (yAtI v (Int32.ofInt (p : Int))).toInt.toNat = x * 9 + p := by
  have e : (Int32.ofInt (p : Int)).toInt = (p : Int) := ofn_v (by omega)
  rw [yAtI_v (by omega) (by omega) (by omega) (by omega), e]; omega
/-- the first round of a loss -/
theorem yBlS_k (hv : v.toInt = (x : Int)) (hx : x < 6) : ∀ {m : Nat}, m ≤ 9 → (∀ j, j < 9 → yRec (yBlS v b a) I m 71 (x * 9 + j) = if j < m then I 71 (x * 9 + j) - yPor b.toInt64 (I 71 (x * 9 + j)).toInt64 a.toInt64 else I 71 (x * 9 + j)) ∧ (∀ q, ¬ (x * 9 ≤ q ∧ q < x * 9 + 9) → yRec (yBlS v b a) I m 71 q = I 71 q) ∧ ∀ c, c ≠ 71 → yRec (yBlS v b a) I m c = I c
  | 0, _ => ⟨fun j _ => by rw [if_neg (by omega)]; rfl, fun _ _ => rfl, fun _ _ => rfl⟩
  | m + 1, hm => by
    obtain ⟨q1, q2, q3⟩ := yBlS_k hv hx (m := m) (by omega)
    have eat := yAtI_n hv hx (p := m) (by omega)
    have st : yRec (yBlS v b a) I (m + 1) = upd2 (yRec (yBlS v b a) I m) 71 (x * 9 + m) (I 71 (x * 9 + m) - yPor b.toInt64 (I 71 (x * 9 + m)).toInt64 a.toInt64) := by
      show upd2 (yRec (yBlS v b a) I m) 71 (yAtI v (Int32.ofInt (m : Int))).toInt.toNat (yRec (yBlS v b a) I m 71 (yAtI v (Int32.ofInt (m : Int))).toInt.toNat - yPor b.toInt64 (yRec (yBlS v b a) I m 71 (yAtI v (Int32.ofInt (m : Int))).toInt.toNat).toInt64 a.toInt64) = _
      rw [eat, q1 m (by omega), if_neg (by omega)]
    rw [st]
    refine ⟨fun j hj => ?_, fun q hq => ?_, fun c hc => ?_⟩
    · by_cases hjm : j = m
      · rw [hjm, upd2_self, if_pos (by omega)]
      · rw [upd2_ne (.inr (by omega)), q1 j hj]
        by_cases h2 : j < m
        · rw [if_pos h2, if_pos (by omega)]
        · rw [if_neg h2, if_neg (by omega)]
    · rw [upd2_ne (.inr (by omega))]; exact q2 q hq
    · rw [upd2_row hc]; exact q3 c hc
theorem yBlL_k (hv : v.toInt = (x : Int)) (hx : x < 6) : ∀ {m : Nat}, m ≤ 9 → yBlL I v b a m = b - yFz (fun j => yPor b.toInt64 (I 71 (x * 9 + j)).toInt64 a.toInt64) m
  | 0, _ => by show b = b - Int32.ofInt 0; exact (Int32.sub_zero b).symm
  | m + 1, hm => by
    have e := yBlL_k hv hx (m := m) (by omega)
    have eat := yAtI_n hv hx (p := m) (by omega)
    show yBlL I v b a m - yPor b.toInt64 (yRec (yBlS v b a) I m 71 (yAtI v (Int32.ofInt (m : Int))).toInt.toNat).toInt64 a.toInt64 = _
    rw [eat, (yBlS_k hv hx (m := m) (by omega)).1 m (by omega), if_neg (by omega), e, yFz_s]
    grind
end YLO
section YLP
variable {I J0 : Nat → Nat → Int32} {v b a L0 : Int32} {x : Nat} {q cap : Nat → Int}
/-- the second round of a loss: one each -/
theorem yBlB_k (hv : v.toInt = (x : Int)) (hx : x < 6) (hJ : ∀ j, j < 9 → (J0 71 (x * 9 + j)).toInt = cap j - q j) (hq : ∀ j, j < 9 → q j ≤ cap j) : ∀ {m : Nat}, m ≤ 9 → (yRecP (yBlB v) (J0, L0) m).2.toInt = lL q cap L0.toInt m ∧ (∀ j, j < 9 → ((yRecP (yBlB v) (J0, L0) m).1 71 (x * 9 + j)).toInt = if j < m then cap j - q j - dL q cap L0.toInt j else cap j - q j) ∧ (∀ r, ¬ (x * 9 ≤ r ∧ r < x * 9 + 9) → (yRecP (yBlB v) (J0, L0) m).1 71 r = J0 71 r) ∧ ∀ c, c ≠ 71 → (yRecP (yBlB v) (J0, L0) m).1 c = J0 c
  | 0, _ => ⟨rfl, fun j hj => by rw [if_neg (by omega)]; exact hJ j hj, fun _ _ => rfl, fun _ _ => rfl⟩
  | m + 1, hm => by
    obtain ⟨q1, q2, q3, q4⟩ := yBlB_k hv hx hJ hq (m := m) (by omega)
    have eat := yAtI_n hv hx (p := m) (by omega)
    have em : ((yRecP (yBlB v) (J0, L0) m).1 71 (x * 9 + m)).toInt = cap m - q m := by rw [q2 m (by omega), if_neg (by omega)]
    have st : yRecP (yBlB v) (J0, L0) (m + 1) = yBlB v (yRecP (yBlB v) (J0, L0) m) m := rfl
    have z1 : (Int32.ofInt 1).toInt = 1 := by decide
    have zm : (Int32.ofInt (-1)).toInt = -1 := by decide
    have hlL : lL q cap L0.toInt (m + 1) = if 0 < lL q cap L0.toInt m ∧ q m < cap m then lL q cap L0.toInt m - 1 else lL q cap L0.toInt m := rfl
    rw [st, hlL]
    clear st
    generalize yRecP (yBlB v) (J0, L0) m = Z at q1 q2 q3 q4 em ⊢
    unfold yBlB
    rw [eat, em, q1]
    by_cases hc : 0 < lL q cap L0.toInt m ∧ q m < cap m
    · have hd : dL q cap L0.toInt m = 1 := if_pos hc
      have hlt := Int32.toInt_lt Z.2
      rw [if_pos (show 0 < lL q cap L0.toInt m ∧ 0 < cap m - q m by omega), if_pos hc]
      refine ⟨?_, fun j hj => ?_, fun r hr => ?_, fun c hc => ?_⟩
      · show (Z.2 + Int32.ofInt (-1)).toInt = _
        rw [yadd (by rw [zm]; omega) (by rw [zm]; omega), zm, q1]; omega
      · show (upd2 Z.1 71 (x * 9 + m) (Z.1 71 (x * 9 + m) - Int32.ofInt 1) 71 (x * 9 + j)).toInt = _
        by_cases hjm : j = m
        · have hl2 := Int32.toInt_lt (Z.1 71 (x * 9 + m))
          rw [hjm, upd2_self, if_pos (by omega), ysub (by rw [z1]; omega) (by rw [z1]; omega), z1, em, hd]
        · rw [upd2_ne (.inr (by omega)), q2 j hj]
          by_cases h2 : j < m
          · rw [if_pos h2, if_pos (by omega)]
          · rw [if_neg h2, if_neg (by omega)]
      · show upd2 Z.1 71 (x * 9 + m) (Z.1 71 (x * 9 + m) - Int32.ofInt 1) 71 r = _
        rw [upd2_ne (.inr (by omega))]; exact q3 r hr
      · show upd2 Z.1 71 (x * 9 + m) (Z.1 71 (x * 9 + m) - Int32.ofInt 1) c = _
        rw [upd2_row hc]; exact q4 c hc
    · have hd : dL q cap L0.toInt m = 0 := if_neg hc
      rw [if_neg (show ¬ (0 < lL q cap L0.toInt m ∧ 0 < cap m - q m) by omega), if_neg hc]
      refine ⟨q1, fun j hj => ?_, q3, q4⟩
      rw [q2 j hj]
      by_cases hjm : j = m
      · rw [hjm, if_neg (by omega), if_pos (by omega), hd]; omega
      · by_cases h2 : j < m
        · rw [if_pos h2, if_pos (by omega)]
        · rw [if_neg h2, if_neg (by omega)]
theorem ySum_mono9 {f g : Nat → Int} : ∀ {k : Nat}, (∀ j, j < k → f j ≤ g j) → ySum f k ≤ ySum g k
  | 0, _ => Int.le_refl _
  | k + 1, h => by
    have q := ySum_mono9 (f := f) (g := g) (k := k) fun j hj => h j (by omega)
    have q2 := h k (by omega)
    show ySum f k + f k ≤ ySum g k + g k
    omega
theorem qL_le {b a : Int} {cap : Nat → Int} {j : Nat} (hb : 0 ≤ b) (hba : b ≤ a) (hc : 0 ≤ cap j) : 0 ≤ qL b a cap j ∧ qL b a cap j ≤ cap j := by
  unfold qL
  refine ⟨Int.ediv_nonneg (Int.mul_nonneg hb hc) (by omega), ?_⟩
  by_cases h0 : a = 0
  · rw [h0, Int.ediv_zero]; exact hc
  · refine Int.ediv_le_of_le_mul (by omega) ?_
    rw [Int.mul_comm (cap j)]
    exact Int.mul_le_mul_of_nonneg_right hba hc
/-- a loss, as the class bears it -/
theorem yBlD_v {loss : Int32} (hv : v.toInt = (x : Int)) (hx : x < 6) (hl : 0 ≤ loss.toInt) (hcap : ∀ j, cap j = (I 71 (x * 9 + j)).toInt) (hc : ∀ j, j < 9 → 0 ≤ cap j) (hs : ySum cap 9 ≤ 600000) {B : Int} (hB : B = if ySum cap 9 < loss.toInt then ySum cap 9 else loss.toInt) : (∀ j, j < 9 → (yBlD I v loss 71 (x * 9 + j)).toInt = cap j - (qL B (ySum cap 9) cap j + dL (qL B (ySum cap 9) cap) cap (B - ySum (qL B (ySum cap 9) cap) 9) j)) ∧ (∀ r, ¬ (x * 9 ≤ r ∧ r < x * 9 + 9) → yBlD I v loss 71 r = I 71 r) ∧ ∀ c, c ≠ 71 → yBlD I v loss c = I c := by
  have hcap' : cap = fun j => (I 71 (x * 9 + j)).toInt := funext hcap
  have hvn : v.toInt.toNat = x := by omega
  have eA : (yVs I 71 v).toInt = ySum cap 9 ∧ 0 ≤ ySum cap 9 := by
    have q := yFz_ySum (f := fun j => I 71 (x * 9 + j)) (m := 600000) (k := 9) (fun j hj => by rw [← hcap]; exact hc j hj) (by rw [← hcap']; exact hs) (by decide)
    rw [← hcap'] at q
    unfold yVs
    rw [hvn]; exact q
  have eb : (yMnn loss (yVs I 71 v)).toInt = B := by
    unfold yMnn
    rw [hB]
    by_cases h : yVs I 71 v < loss
    · rw [if_pos h]
      rw [Int32.lt_iff_toInt_lt, eA.1] at h
      rw [if_pos h]; exact eA.1
    · rw [if_neg h]
      rw [Int32.lt_iff_toInt_lt, eA.1] at h
      rw [if_neg h]
  have hB0 : 0 ≤ B := by rw [hB]; split <;> omega
  have hBA : B ≤ ySum cap 9 := by rw [hB]; split <;> omega
  have eq : ∀ j, j < 9 → (yPor (yMnn loss (yVs I 71 v)).toInt64 (I 71 (x * 9 + j)).toInt64 (yVs I 71 v).toInt64).toInt = qL B (ySum cap 9) cap j := fun j hj => by
    rw [yPor_c (by omega) (by rw [← hcap]; exact hc j hj) (by omega), eb, eA.1, ← hcap]; rfl
  have hql : ∀ j, j < 9 → 0 ≤ qL B (ySum cap 9) cap j ∧ qL B (ySum cap 9) cap j ≤ cap j := fun j hj => qL_le hB0 hBA (hc j hj)
  have hsq : ySum (qL B (ySum cap 9) cap) 9 ≤ ySum cap 9 := ySum_mono9 fun j hj => (hql j hj).2
  obtain ⟨s1, s2, s3⟩ := yBlS_k (I := I) (b := yMnn loss (yVs I 71 v)) (a := yVs I 71 v) hv hx (m := 9) (Nat.le_refl 9)
  have hsum : (yFz (fun j => yPor (yMnn loss (yVs I 71 v)).toInt64 (I 71 (x * 9 + j)).toInt64 (yVs I 71 v).toInt64) 9).toInt = ySum (qL B (ySum cap 9) cap) 9 ∧ 0 ≤ ySum (qL B (ySum cap 9) cap) 9 := by
    have he : ySum (fun j => (yPor (yMnn loss (yVs I 71 v)).toInt64 (I 71 (x * 9 + j)).toInt64 (yVs I 71 v).toInt64).toInt) 9 = ySum (qL B (ySum cap 9) cap) 9 := ySum_eq fun j hj => eq j hj
    have q := yFz_ySum (f := fun j => yPor (yMnn loss (yVs I 71 v)).toInt64 (I 71 (x * 9 + j)).toInt64 (yVs I 71 v).toInt64) (m := 600000) (k := 9) (fun j hj => by rw [eq j hj]; exact (hql j hj).1) (by rw [he]; omega) (by decide)
    rw [he] at q; exact q
  have eL : (yBlL I v (yMnn loss (yVs I 71 v)) (yVs I 71 v) 9).toInt = B - ySum (qL B (ySum cap 9) cap) 9 := by
    rw [yBlL_k hv hx (Nat.le_refl 9), ysub (by omega) (by omega), eb, hsum.1]
  obtain ⟨t1, t2, t3, t4⟩ := yBlB_k (J0 := yRec (yBlS v (yMnn loss (yVs I 71 v)) (yVs I 71 v)) I 9) (L0 := yBlL I v (yMnn loss (yVs I 71 v)) (yVs I 71 v) 9) (q := qL B (ySum cap 9) cap) (cap := cap) hv hx (fun j hj => by
    have e1 := eq j hj
    have e2 := hql j hj
    have e3 := hc j hj
    have hlt := Int32.toInt_lt (I 71 (x * 9 + j))
    rw [s1 j hj, if_pos hj, ysub (by rw [e1, ← hcap]; omega) (by rw [e1, ← hcap]; rw [hcap] at *; omega), e1, ← hcap]) (fun j hj => (hql j hj).2) (m := 9) (Nat.le_refl 9)
  refine ⟨fun j hj => ?_, fun r hr => (t3 r hr).trans (s2 r hr), fun c hc => (t4 c hc).trans (s3 c hc)⟩
  unfold yBlD
  rw [t2 j hj, if_pos hj, eL]; omega
end YLP
section YPR
variable {C M : Nat → Nat → Int32} {R : Nat → Nat → Value} {v r a : Int32} {x b p : Nat}
/-- one is credited, on both sides -/
theorem yCrd_2 (h : yVn C M R ∧ yMn C M) (hv : v.toInt = (x : Int)) (hx : x < 6) (hx2 : (x : Int) < (M 91 2).toInt) (hp : p < 9) (hb : b = yAd R 91 x) (hb94 : 94 ≤ b) (hl : ∀ j : Nat, (j : Int) < (M 91 2).toInt → 94 ≤ yAd R 91 j) : (yVn (yCrd C v (Int32.ofInt (p : Int)) a) (upd2 (upd2 M (b + 1 + 3) p (M (b + 1 + 3) p + a)) 84 p (M 84 p + a)) R ∧ yMn (yCrd C v (Int32.ofInt (p : Int)) a) (upd2 (upd2 M (b + 1 + 3) p (M (b + 1 + 3) p + a)) 84 p (M 84 p + a))) := by
  have eat := yAtI_n hv hx hp
  have ep : (Int32.ofInt (p : Int)).toInt = (p : Int) := ofn_v (by omega)
  have e73 : C 73 (x * 9 + p) = M (b + 1 + 3) p := by rw [hb]; exact (h.1.1 x hx2).1 3 (by decide) p hp
  unfold yCrd
  rw [eat]
  refine ⟨((h.1.set (f := 3) (z := C 73 (x * 9 + p) + a) (by decide) hx2 hp hb hb94 (fun q => absurd q (by decide))).addC.skM (fun j hj => by rw [upd2_row (by omega)] at hj; exact hl j hj) (by decide)) |> (fun q => by rw [← e73]; exact q), ?_⟩
  have r3 : ∀ c, c < 94 → upd2 M (b + 1 + 3) p (M (b + 1 + 3) p + a) c = M c := fun c hc => upd2_row (by omega)
  refine h.2.fr (fun j hj => ?_) ?_ ?_ ⟨?_, ?_, ?_⟩ ⟨?_, ?_, ?_⟩ ?_ ?_
  · rw [yAddC_v (by omega) (by omega), upd2_row (by decide), ep, Int.toNat_natCast]
    by_cases e : j = p
    · rw [if_pos e, e, upd2_self, h.2.1 p hp]
    · rw [if_neg e, upd2_ne (.inr e), r3 84 (by decide), h.2.1 j hj]
  · rw [yAddC_row (by decide), upd2_row (by decide), upd2_row (by decide), r3 83 (by decide)]; exact h.2.2.1
  · rw [yAddC_row (by decide), upd2_row (by decide)]
  · rw [yAddC_row (by decide), upd2_row (by decide)]
  · rw [yAddC_row (by decide), upd2_row (by decide)]
  · rw [yAddC_row (by decide), upd2_row (by decide)]
  · rw [upd2_row (by decide), r3 83 (by decide)]
  · rw [upd2_row (by decide), r3 83 (by decide)]
  · rw [upd2_row (by decide), r3 83 (by decide)]
  · rw [upd2_row (by decide), r3 85 (by decide)]
  · rw [upd2_row (by decide), r3 86 (by decide)]
/-- a portion of a profit -/
theorem yPpt_eq (h : yVn C M R) (hv : v.toInt = (x : Int)) (hx2 : (x : Int) < (M 91 2).toInt) (hp : p < 9) (hb : b = yAd R 91 x) (h0 : 0 ≤ r.toInt) (h1 : r.toInt ≤ 999) : yPpt C v r p = mPpt M b r p := by
  obtain ⟨q1, q2⟩ := h.1 x hx2
  have e : C 72 (x * 9 + p) = M (yAd R 91 x + 1 + 2) p := q1 2 (by decide) p hp
  have hs := q2 p hp
  have hvn : v.toInt.toNat = x := by omega
  unfold yPpt mPpt
  rw [hvn, hb]
  rw [e] at hs ⊢
  generalize M (yAd R 91 x + 1 + 2) p = s at hs
  have hp0 : 0 ≤ r.toInt * s.toInt := Int.mul_nonneg h0 hs.1
  have hp1 : r.toInt * s.toInt ≤ 999 * 100 := Int.mul_le_mul h1 hs.2 hs.1 (by decide)
  refine yext ?_
  rw [yPor_g (A := 100) (by decide) h0 hs.1 (by decide) (by omega)]
  have em : (r * s).toInt = r.toInt * s.toInt := by
    rw [Int32.toInt_mul]
    exact Int.bmod_eq_of_le (by omega) (by omega)
  rw [Int32.toInt_div, em, show (Int32.ofInt 100).toInt = 100 by decide, Int.tdiv_eq_ediv_of_nonneg hp0]
  exact (Int.bmod_eq_of_le (by omega) (by omega)).symm
/-- a profit, on both sides -/
theorem yPr_2 (h : yVn C M R ∧ yMn C M) (hv : v.toInt = (x : Int)) (hx : x < 6) (hx2 : (x : Int) < (M 91 2).toInt) (hb : b = yAd R 91 x) (hb94 : 94 ≤ b) (hl : ∀ j : Nat, (j : Int) < (M 91 2).toInt → 94 ≤ yAd R 91 j) (h0 : 0 ≤ r.toInt) (h1 : r.toInt ≤ 999) : yVn (yPrD C v r) (mPrD M b r) R ∧ yMn (yPrD C v r) (mPrD M b r) := by
  have m91 : ∀ m, yRec (mPrS M b r) M m 91 = M 91 := fun m => yRec_keep fun J k _ _ => mPrS_row (by decide) (by omega)
  have eL : ∀ m, m ≤ 8 → yPrL C v r m = mPrL M b r m := fun m => by
    induction m with
    | zero => intro _; rfl
    | succ m ih =>
      intro hm
      show yPrL C v r m - yPpt C v r m = if m = 8 then mPrL M b r m - mPrL M b r m else mPrL M b r m - mPpt M b r m
      rw [if_neg (by omega), ih (by omega), yPpt_eq h.1 hv hx2 (by omega) hb h0 h1]
  have key : ∀ m, m ≤ 8 → yVn (yRec (yPrS C v r) C m) (yRec (mPrS M b r) M m) R ∧ yMn (yRec (yPrS C v r) C m) (yRec (mPrS M b r) M m) := fun m => by
    induction m with
    | zero => intro _; exact h
    | succ m ih =>
      intro hm
      have q := yCrd_2 (a := yPpt C v r m) (ih (by omega)) hv hx (p := m) (by rw [m91]; exact hx2) (by omega) hb hb94 (by rw [m91]; exact hl)
      have eA : mPrA M b r m = yPpt C v r m := by unfold mPrA; rw [if_neg (by omega), yPpt_eq h.1 hv hx2 (by omega) hb h0 h1]
      show yVn (yCrd (yRec (yPrS C v r) C m) v (Int32.ofInt (m : Int)) (yPpt C v r m)) (mPrS M b r (yRec (mPrS M b r) M m) m) R ∧ yMn (yCrd (yRec (yPrS C v r) C m) v (Int32.ofInt (m : Int)) (yPpt C v r m)) (mPrS M b r (yRec (mPrS M b r) M m) m)
      have eS : mPrS M b r (yRec (mPrS M b r) M m) m = upd2 (upd2 (yRec (mPrS M b r) M m) (b + 1 + 3) m (yRec (mPrS M b r) M m (b + 1 + 3) m + yPpt C v r m)) 84 m (yRec (mPrS M b r) M m 84 m + yPpt C v r m) := by
        show upd2 (upd2 (yRec (mPrS M b r) M m) (b + 1 + 3) m (yRec (mPrS M b r) M m (b + 1 + 3) m + mPrA M b r m)) 84 m (yRec (mPrS M b r) M m 84 m + mPrA M b r m) = _
        rw [eA]
      rw [eS]; exact q
  have q := yCrd_2 (a := yPrL C v r 8) (key 8 (Nat.le_refl 8)) hv hx (p := 8) (by rw [m91]; exact hx2) (by decide) hb hb94 (by rw [m91]; exact hl)
  have eA : mPrA M b r 8 = yPrL C v r 8 := by unfold mPrA; rw [if_pos rfl, eL 8 (Nat.le_refl 8)]
  have eS : mPrD M b r = upd2 (upd2 (yRec (mPrS M b r) M 8) (b + 1 + 3) 8 (yRec (mPrS M b r) M 8 (b + 1 + 3) 8 + yPrL C v r 8)) 84 8 (yRec (mPrS M b r) M 8 84 8 + yPrL C v r 8) := by
    show upd2 (upd2 (yRec (mPrS M b r) M 8) (b + 1 + 3) 8 (yRec (mPrS M b r) M 8 (b + 1 + 3) 8 + mPrA M b r 8)) 84 8 (yRec (mPrS M b r) M 8 84 8 + mPrA M b r 8) = _
    rw [eA]
  rw [eS]; exact q
end YPR
section YLS
variable {C M C1 M1 : Nat → Nat → Int32} {R : Nat → Nat → Value} {v l : Int32} {x b : Nat}
/-- a venture's capital changes on both sides -/
theorem yVn.row (h : yVn C M R) (hx : (x : Int) < (M 91 2).toInt) (hb : b = yAd R 91 x) (hb94 : 94 ≤ b) (hC : ∀ c, c ≠ 71 → C1 c = C c) (h71 : ∀ q, ¬ (x * 9 ≤ q ∧ q < x * 9 + 9) → C1 71 q = C 71 q) (hM : ∀ a, a ≠ b + 1 + 1 → M1 a = M a) (he : ∀ j, j < 9 → C1 71 (x * 9 + j) = M1 (b + 1 + 1) j) : yVn C1 M1 R := by
  have h91 : M1 91 = M 91 := hM 91 (by omega)
  unfold yVn
  rw [h91]
  refine ⟨fun j hj => ?_, fun f hf q hq => ?_, h.2.2⟩
  · obtain ⟨r1, r2⟩ := h.1 j hj
    refine ⟨fun f hf p hp => ?_, fun p hp => ?_⟩
    · by_cases hjx : j = x
      · subst hjx
        by_cases hf1 : f = 1
        · subst hf1; rw [← hb]; exact he p hp
        · rw [hC _ (by omega), hM _ (by rw [hb]; omega)]; exact r1 f hf p hp
      · have hne : yAd R 91 j + 1 + f ≠ b + 1 + 1 := by rw [hb]; exact h.ne hj hx hf (by decide) hjx
        rw [hM _ hne]
        by_cases hf1 : f = 1
        · subst hf1; rw [show 70 + 1 = 71 from rfl, h71 _ (by omega)]; exact r1 1 hf p hp
        · rw [hC _ (by omega)]; exact r1 f hf p hp
    · rw [hC 72 (by decide)]; exact r2 p hp
  · by_cases hf1 : f = 1
    · subst hf1; rw [show 70 + 1 = 71 from rfl, h71 _ (by omega)]; exact h.2.1 1 hf q hq
    · rw [hC _ (by omega)]; exact h.2.1 f hf q hq
theorem dL_b {q cap : Nat → Int} {L : Int} {j : Nat} (h : q j ≤ cap j) : 0 ≤ dL q cap L j ∧ q j + dL q cap L j ≤ cap j := by
  unfold dL
  split <;> omega
/-- a loss, on both sides -/
theorem yLs_2 (h : yVn C M R ∧ yMn C M) (hv : v.toInt = (x : Int)) (hx : x < 6) (hx2 : (x : Int) < (M 91 2).toInt) (hb : b = yAd R 91 x) (hb94 : 94 ≤ b) (hl : 0 ≤ l.toInt) (hc : ∀ j, j < 9 → 0 ≤ (M (b + 1 + 1) j).toInt) (hs : ySum (fun j => (M (b + 1 + 1) j).toInt) 9 ≤ 600000) {le : Nat → Int32} (hle : ∀ j, j < 9 → (le j).toInt = mLe M b l j) : yVn (yBlD C v l) (mLsD M b le) R ∧ yMn (yBlD C v l) (mLsD M b le) := by
  obtain ⟨cap, hcap⟩ : ∃ cap : Nat → Int, ∀ j, cap j = (C 71 (x * 9 + j)).toInt := ⟨_, fun _ => rfl⟩
  have hcm : ∀ j, j < 9 → cap j = mCap M b j := fun j hj => by
    rw [hcap]
    have e : C 71 (x * 9 + j) = M (yAd R 91 x + 1 + 1) j := (h.1.1 x hx2).1 1 (by decide) j hj
    rw [e, ← hb]; rfl
  have es : ySum cap 9 = ySum (mCap M b) 9 := ySum_eq fun j hj => hcm j hj
  have hs' : ySum (mCap M b) 9 ≤ 600000 := hs
  have hS0 : 0 ≤ ySum (mCap M b) 9 := by
    have := (yFz_ySum (f := fun j => M (b + 1 + 1) j) (m := 600000) (k := 9) hc hs (by decide)).2
    exact this
  have hB0 : 0 ≤ mBo M b l := by unfold mBo; split <;> omega
  have hBA : mBo M b l ≤ ySum (mCap M b) 9 := by unfold mBo; split <;> omega
  obtain ⟨t1, t2, t3⟩ := yBlD_v (I := C) (cap := cap) hv hx hl hcap (fun j hj => by rw [hcm j hj]; exact hc j hj) (by rw [es]; exact hs') (B := mBo M b l) (by rw [es]; rfl)
  rw [es] at t1
  -- the portions are one
  have eq : ∀ j, j < 9 → qL (mBo M b l) (ySum (mCap M b) 9) cap j = qL (mBo M b l) (ySum (mCap M b) 9) (mCap M b) j := fun j hj => by unfold qL; rw [hcm j hj]
  have esq : ySum (qL (mBo M b l) (ySum (mCap M b) 9) cap) 9 = ySum (qL (mBo M b l) (ySum (mCap M b) 9) (mCap M b)) 9 := ySum_eq fun j hj => eq j hj
  have elL : ∀ L t, t ≤ 9 → lL (qL (mBo M b l) (ySum (mCap M b) 9) cap) cap L t = lL (qL (mBo M b l) (ySum (mCap M b) 9) (mCap M b)) (mCap M b) L t := fun L t => by
    induction t with
    | zero => intro _; rfl
    | succ t ih =>
      intro ht
      unfold lL
      rw [ih (by omega), eq t (by omega), hcm t (by omega)]
  have edL : ∀ L t, t < 9 → dL (qL (mBo M b l) (ySum (mCap M b) 9) cap) cap L t = dL (qL (mBo M b l) (ySum (mCap M b) 9) (mCap M b)) (mCap M b) L t := fun L t ht => by
    unfold dL
    rw [elL L t (by omega), eq t ht, hcm t ht]
  have hM : ∀ a, a ≠ b + 1 + 1 → mLsD M b le a = M a := fun a ha => mLsD_row ha
  refine ⟨h.1.row hx2 hb hb94 t3 t2 hM (fun j hj => ?_), h.2.cg (fun a ha => t3 a (by omega)) (fun k _ => by rw [hM 83 (by omega)]) (fun a h1 h2 => hM a (by omega))⟩
  have hq := qL_le (b := mBo M b l) (a := ySum (mCap M b) 9) (cap := mCap M b) (j := j) hB0 hBA (hc j hj)
  have hd := dL_b (q := qL (mBo M b l) (ySum (mCap M b) 9) (mCap M b)) (cap := mCap M b) (L := mBo M b l - ySum (qL (mBo M b l) (ySum (mCap M b) 9) (mCap M b)) 9) (j := j) hq.2
  have hlj := hle j hj
  unfold mLe at hlj
  have hlt := Int32.toInt_lt (M (b + 1 + 1) j)
  have ecap : mCap M b j = (M (b + 1 + 1) j).toInt := rfl
  refine yext ?_
  rw [t1 j hj, eq j hj, esq, edL _ j hj]
  show _ = (mLsD M b le (b + 1 + 1) j).toInt
  unfold mLsD
  rw [mLsD_k 9 j, if_pos hj, ysub (by omega) (by omega), hlj]
  rw [hcm j hj, ecap]
end YLS
/-! THE POOL'S SHARING ON BOTH SIDES (rel9s.lean) -/
section YSS
variable {C M J : Nat → Nat → Int32}
theorem yMnn_d (x y : Int32) : yMnn x y = yMnn y x := by
  unfold yMnn
  split <;> split <;> rename_i p q
  · rw [Int32.lt_iff_toInt_lt] at p q; omega
  · rfl
  · rfl
  · rw [Int32.lt_iff_toInt_lt] at p q; exact yext (by omega)
theorem yWs_eq (h : ∀ j, j < 8 → C 76 j = M 86 j) : ∀ m : Nat, m ≤ 8 → yWsum C m = mWs (M 86) m
  | 0, _ => rfl
  | m + 1, hm => by
    show yWsum C m + (C 76 m).toInt64 = mWs (M 86) m + (M 86 m).toInt64
    rw [yWs_eq h m (by omega), h m (by omega)]
/-- what is smoothed away, told in two ways -/
theorem ySmo_eq {r t s : Int32} {al : Int} : ySmo r t s al = r - mMor r t s al := by
  unfold ySmo mMor
  by_cases h : 3 ≤ al
  · rw [if_pos h, if_pos h]
    by_cases h2 : t.toInt < r.toInt
    · rw [if_pos h2, if_pos h2]; grind
    · rw [if_neg h2, if_neg h2, yMnn_d]; grind
  · rw [if_neg h, if_neg h]
    exact (Int32.sub_zero r).symm
theorem yPoP_ms {sh : Int32} {w : Int64} {p : Nat} {n : Int} (e5 : J 75 p = M 85 p) (e6 : J 76 p = M 86 p) (h0 : 0 ≤ (M 85 p).toInt) (h1 : (M 85 p).toInt ≤ 99999) (hz : n ≤ (p : Int) → M 86 p = Int32.ofInt 0) : yPoP J sh w p = if (p : Int) < n ∧ 0 < w then mMd M sh w p else 0 := by
  have z0 : (Int32.ofInt 0).toInt = 0 := by decide
  have z9 : (Int32.ofInt 99999).toInt = 99999 := by decide
  have hs : (Int32.ofInt 99999 - M 85 p).toInt = 99999 - (M 85 p).toInt := by rw [ysub (by rw [z9]; omega) (by rw [z9]; omega), z9]
  have hmin : yMnn (Int32.ofInt 0) (Int32.ofInt 99999 - M 85 p) = 0 := by
    unfold yMnn
    rw [if_neg (by rw [Int32.lt_iff_toInt_lt, hs, z0]; omega)]; rfl
  unfold yPoP yPor
  rw [e5, e6]
  by_cases hw : 0 < w
  · rw [if_pos hw]
    by_cases hp : (p : Int) < n
    · rw [if_pos ⟨hp, hw⟩]
      unfold mMd
      exact yMnn_d _ _
    · rw [if_neg (fun q => hp q.1), hz (by omega)]
      have e : (sh.toInt64 * (Int32.ofInt 0).toInt64 / w).toInt32 = Int32.ofInt 0 := by
        rw [show (Int32.ofInt 0).toInt64 = 0 from rfl, Int64.mul_zero, Int64.zero_div]; rfl
      rw [e]; exact hmin
  · rw [if_neg hw, if_neg (fun q => hw q.2)]; exact hmin
/-- the class's round of sharing -/
theorem yPoS_k {sh : Int32} {w : Int64} : ∀ {m : Nat}, m ≤ 8 → (∀ p, yRec (yPoS sh w) J m 75 p = if p < m then J 75 p + yPoP J sh w p else J 75 p) ∧ (∀ p, yRec (yPoS sh w) J m 76 p = if p < m then Int32.ofInt 0 else J 76 p) ∧ yPoG J sh w m = yFz (yPoP J sh w) m
  | 0, _ => ⟨fun p => by rw [if_neg (by omega)]; rfl, fun p => by rw [if_neg (by omega)]; rfl, rfl⟩
  | m + 1, hm => by
    obtain ⟨q1, q2, q3⟩ := yPoS_k (sh := sh) (w := w) (m := m) (by omega)
    have e5 : yRec (yPoS sh w) J m 75 m = J 75 m := by rw [q1, if_neg (by omega)]
    have e6 : yRec (yPoS sh w) J m 76 m = J 76 m := by rw [q2, if_neg (by omega)]
    have ep : yPoP (yRec (yPoS sh w) J m) sh w m = yPoP J sh w m := by unfold yPoP; rw [e5, e6]
    have st : yRec (yPoS sh w) J (m + 1) = upd2 (upd2 (yRec (yPoS sh w) J m) 75 m (J 75 m + yPoP J sh w m)) 76 m (Int32.ofInt 0) := by
      show upd2 (upd2 (yRec (yPoS sh w) J m) 75 m (yRec (yPoS sh w) J m 75 m + yPoP (yRec (yPoS sh w) J m) sh w m)) 76 m (Int32.ofInt 0) = _
      rw [e5, ep]
    refine ⟨fun p => ?_, fun p => ?_, ?_⟩
    · rw [st, upd2_row (by decide)]
      by_cases hpm : p = m
      · rw [hpm, upd2_self, if_pos (by omega)]
      · rw [upd2_ne (.inr hpm), q1]
        by_cases h2 : p < m
        · rw [if_pos h2, if_pos (by omega)]
        · rw [if_neg h2, if_neg (by omega)]
    · rw [st]
      by_cases hpm : p = m
      · rw [hpm, upd2_self, if_pos (by omega)]
      · rw [upd2_ne (.inr hpm), upd2_row (by decide), q2]
        by_cases h2 : p < m
        · rw [if_pos h2, if_pos (by omega)]
        · rw [if_neg h2, if_neg (by omega)]
    · show yPoG J sh w m + yPoP (yRec (yPoS sh w) J m) sh w m = _
      rw [q3, ep, yFz_s]
/-- and the reference's -/
theorem mShS_k {ms : Nat → Int32} : ∀ {m : Nat}, (∀ p, yRec (mShS ms) M m 85 p = if p < m then M 85 p + ms p else M 85 p) ∧ (∀ p, yRec (mShS ms) M m 86 p = if p < m then Int32.ofInt 0 else M 86 p)
  | 0 => ⟨fun p => by rw [if_neg (by omega)]; rfl, fun p => by rw [if_neg (by omega)]; rfl⟩
  | m + 1 => by
    obtain ⟨q1, q2⟩ := mShS_k (ms := ms) (m := m)
    have st : yRec (mShS ms) M (m + 1) = upd2 (upd2 (yRec (mShS ms) M m) 85 m (M 85 m + ms m)) 86 m (Int32.ofInt 0) := by
      show upd2 (upd2 (yRec (mShS ms) M m) 85 m (yRec (mShS ms) M m 85 m + ms m)) 86 m (Int32.ofInt 0) = _
      rw [q1, if_neg (by omega)]
    refine ⟨fun p => ?_, fun p => ?_⟩
    · rw [st, upd2_row (by decide)]
      by_cases hpm : p = m
      · rw [hpm, upd2_self, if_pos (by omega)]
      · rw [upd2_ne (.inr hpm), q1]
        by_cases h2 : p < m
        · rw [if_pos h2, if_pos (by omega)]
        · rw [if_neg h2, if_neg (by omega)]
    · rw [st]
      by_cases hpm : p = m
      · rw [hpm, upd2_self, if_pos (by omega)]
      · rw [upd2_ne (.inr hpm), upd2_row (by decide), q2]
        by_cases h2 : p < m
        · rw [if_pos h2, if_pos (by omega)]
        · rw [if_neg h2, if_neg (by omega)]
/-- what is left of what was to be shared -/
theorem mLf_eq {rest : Int32} {w : Int64} : ∀ m : Nat, mLf M rest w m = rest - yFz (mMd M rest w) m
  | 0 => (Int32.sub_zero rest).symm
  | m + 1 => by
    show mLf M rest w m - mMd M rest w m = _
    rw [mLf_eq m, yFz_s]; grind
end YSS
section YST
variable {C M : Nat → Nat → Int32}
theorem yFz_tr {f g : Nat → Int32} {n : Nat} : ∀ {k : Nat}, n ≤ k → (∀ j, j < n → f j = g j) → (∀ j, n ≤ j → j < k → f j = Int32.ofInt 0) → yFz f k = yFz g n
  | 0, h, _, _ => by rw [show n = 0 by omega]; rfl
  | k + 1, h, h1, h2 => by
    by_cases e : n = k + 1
    · subst e; exact yFz_cg h1
    · rw [yFz_s, yFz_tr (by omega) h1 (fun j q1 q2 => h2 j q1 (by omega)), h2 k (by omega) (by omega)]
      exact Int32.add_zero _
theorem yWsum_v : ∀ {m : Nat}, m ≤ 8 → (∀ j, j < 8 → 0 ≤ (C 76 j).toInt) → 0 ≤ (yWsum C m).toInt ∧ (yWsum C m).toInt ≤ 2147483648 * (m : Int) ∧ ∀ j, j < m → (C 76 j).toInt ≤ (yWsum C m).toInt
  | 0, _, _ => ⟨by show 0 ≤ (Int64.ofNat 0).toInt; decide, by show (Int64.ofNat 0).toInt ≤ _; decide, fun j hj => by omega⟩
  | m + 1, hm, h => by
    obtain ⟨q1, q2, q3⟩ := yWsum_v (m := m) (by omega) h
    have hk := h m (by omega)
    have hlt := Int32.toInt_lt (C 76 m)
    have e : (yWsum C (m + 1)).toInt = (yWsum C m).toInt + (C 76 m).toInt := by
      show (yWsum C m + (C 76 m).toInt64).toInt = _
      rw [Int64.toInt_add, Int32.toInt_toInt64]
      exact Int.bmod_eq_of_le (by omega) (by omega)
    rw [e]
    refine ⟨by omega, by omega, fun j hj => ?_⟩
    by_cases hjm : j = m
    · rw [hjm]; omega
    · have := q3 j (by omega); omega
theorem yPor_nn {sh c : Int32} {w : Int64} (h0 : 0 ≤ sh.toInt) (h1 : 0 ≤ c.toInt) (h2 : c.toInt ≤ w.toInt) : 0 ≤ (yPor sh.toInt64 c.toInt64 w).toInt := by
  have hlt := Int32.toInt_lt sh
  rw [yPor_g rfl h0 h1 (by omega) ?_]
  · exact Int.ediv_nonneg (Int.mul_nonneg h0 h1) (by omega)
  · by_cases hz : w.toInt = 0
    · rw [hz, Int.ediv_zero]; decide
    · refine Int.ediv_lt_of_lt_mul (by omega) ?_
      have h3 : sh.toInt * c.toInt ≤ sh.toInt * w.toInt := Int.mul_le_mul_of_nonneg_left h2 h0
      have h4 : sh.toInt * w.toInt < 2147483648 * w.toInt := Int.mul_lt_mul_of_pos_right (by omega) (by omega)
      omega
/-- the pool shares, on both sides -/
theorem ySh_2 {x1 x2 x3 own more rest crest shh g z : Int32} {al : Int} {ms : Nat → Int32} {J : Nat → Nat → Int32} {w : Int64} (h : yMn C M) (hn : (C 38 0).toInt = (M 83 8).toInt) (hn8 : (M 83 8).toInt ≤ 8) (hw0 : ∀ j, j < 8 → 0 ≤ (C 76 j).toInt) (hsh : 0 ≤ shh.toInt)
    (eo : own = x1 * x3 / Int32.ofInt 100) (em : more = mMor (x1 - own) x2 (M 83 3) al) (er : rest = x1 - own - more)
    (hms : ∀ j : Nat, j < 8 → ms j = if (j : Int) < (M 83 8).toInt ∧ 0 < mWs (M 86) 8 then mMd M rest (mWs (M 86) 8) j else 0) (h8 : ms 8 = own) (h9 : ms 9 = more) (h10 : ms 10 = if 0 < mWs (M 86) 8 then mLf M rest (mWs (M 86) 8) (M 83 8).toInt.toNat else rest)
    (ec : crest = x1 - x1 * x3 / Int32.ofInt 100) (es : shh = ySmo crest x2 (C 74 2) al) (eJ : J = upd2 (upd2 (upd2 C 74 3 x2) 74 4 x3) 74 2 (C 74 2 + (crest - shh))) (ew : w = yWsum J 8) (eg : g = yPoG J shh w 8) :
    yMn (upd2 (yAddC (yRec (yPoS shh w) J 8) (Int32.ofInt 8) (x1 - crest)) 38 1 (C 38 1 + (shh - g))) (mShD (upd2 (upd2 (upd2 M 83 0 z) 83 5 x2) 83 6 x3) ms) ∧ g = yFz ms 8 := by
  obtain ⟨p1, p2, ⟨p3a, p3b, p3c⟩, p4, p5⟩ := h
  have e1 : shh = rest := by rw [es, ySmo_eq, ec, ← eo, p3a, ← em, er]
  have e2 : crest - shh = more := by rw [e1, er, ec, ← eo]; grind
  have e3 : x1 - crest = own := by rw [ec, ← eo]; grind
  have jr : ∀ a, a ≠ 74 → J a = C a := fun a ha => by rw [eJ, upd2_row ha, upd2_row ha, upd2_row ha]
  have hw : w = mWs (M 86) 8 := by
    rw [ew]
    exact yWs_eq (fun j hj => by rw [jr 76 (by decide)]; exact (p4 j hj).1.2) 8 (Nat.le_refl 8)
  have hwv := yWsum_v (C := J) (m := 8) (Nat.le_refl 8) (fun j hj => by rw [jr 76 (by decide)]; exact hw0 j hj)
  rw [← ew] at hwv
  have hp : ∀ p, p < 8 → yPoP J shh w p = ms p := fun p hp => by
    obtain ⟨⟨q1, q2⟩, q3, q4⟩ := p4 p hp
    rw [yPoP_ms (M := M) (n := (M 83 8).toInt) (by rw [jr 75 (by decide)]; exact q1) (by rw [jr 76 (by decide)]; exact q2) (by rw [← q1]; exact q3) (by rw [← q1]; exact q4) (fun hz => by rw [← q2]; exact (p5 p hp (by omega)).2), hms p hp, hw, e1]
  have hms0 : ∀ p, p < 8 → 0 ≤ (ms p).toInt ∧ (ms p).toInt ≤ 99999 - (C 75 p).toInt := fun p hq => by
    obtain ⟨⟨q1, q2⟩, q3, q4⟩ := p4 p hq
    have z9 : (Int32.ofInt 99999).toInt = 99999 := by decide
    have hs : (Int32.ofInt 99999 - J 75 p).toInt = 99999 - (C 75 p).toInt := by rw [jr 75 (by decide), ysub (by rw [z9]; omega) (by rw [z9]; omega), z9]
    have hnn := yPor_nn (w := w) (c := J 76 p) hsh (by rw [jr 76 (by decide)]; exact hw0 p hq) (hwv.2.2 p hq)
    rw [← hp p hq]
    unfold yPoP yMnn
    split
    · rw [hs]; omega
    · rename_i hc
      rw [Int32.lt_iff_toInt_lt, hs] at hc
      omega
  obtain ⟨s5, s6, sg⟩ := yPoS_k (J := J) (sh := shh) (w := w) (m := 8) (Nat.le_refl 8)
  have hg : g = yFz ms 8 := by rw [eg, sg]; exact yFz_cg hp
  have rC : ∀ a, a ≠ 39 → a ≠ 38 → upd2 (yAddC (yRec (yPoS shh w) J 8) (Int32.ofInt 8) (x1 - crest)) 38 1 (C 38 1 + (shh - g)) a = yRec (yPoS shh w) J 8 a := fun a h1 h2 => by rw [upd2_row h2, yAddC_row h1]
  have rS : ∀ a, a ≠ 75 → a ≠ 76 → yRec (yPoS shh w) J 8 a = J a := fun a h1 h2 => yRec_keep fun _ _ _ _ => yPoS_row h1 h2
  obtain ⟨m5, m6⟩ := mShS_k (M := upd2 (upd2 (upd2 M 83 0 z) 83 5 x2) 83 6 x3) (ms := ms) (m := 8)
  have mS : ∀ a, a ≠ 85 → a ≠ 86 → yRec (mShS ms) (upd2 (upd2 (upd2 M 83 0 z) 83 5 x2) 83 6 x3) 8 a = upd2 (upd2 (upd2 M 83 0 z) 83 5 x2) 83 6 x3 a := fun a h1 h2 => yRec_keep fun _ _ _ _ => mShS_row h1 h2
  have mr : ∀ a, a ≠ 83 → upd2 (upd2 (upd2 M 83 0 z) 83 5 x2) 83 6 x3 a = M a := fun a ha => by rw [upd2_row ha, upd2_row ha, upd2_row ha]
  have z8 : (Int32.ofInt 8).toInt = 8 := by decide
  refine ⟨⟨fun j hj => ?_, ?_, ⟨?_, ?_, ?_⟩, fun j hj => ?_, fun j hj hz => ?_⟩, hg⟩
  · rw [upd2_row (by decide), yAddC_v (by rw [z8]; decide) (by rw [z8]; decide), z8, rS 39 (by decide) (by decide), jr 39 (by decide)]
    unfold mShD
    rw [upd2_row (by decide), upd2_row (by decide), mr 84 (by decide), e3, h8]
    by_cases h8' : j = 8
    · rw [if_pos (by rw [h8']; rfl), h8', upd2_self, p1 8 (by decide)]
    · rw [if_neg (by show ¬ j = 8; exact h8'), upd2_ne (.inr h8'), mS 84 (by decide) (by decide), mr 84 (by decide)]; exact p1 j hj
  · rw [upd2_self]
    unfold mShD
    rw [upd2_self, upd2_ne (.inr (by decide)), upd2_ne (.inr (by decide)), upd2_ne (.inr (by decide)), p2, hg, e1, h10]
    refine congrArg (M 83 2 + ·) ?_
    by_cases h0 : 0 < mWs (M 86) 8
    · rw [if_pos h0, mLf_eq]
      refine congrArg (rest - ·) (yFz_tr (by omega) (fun j hj => ?_) fun j h1 h2 => ?_)
      · rw [hms j (by omega), if_pos ⟨by omega, h0⟩]
      · rw [hms j h2, if_neg (fun q => by have := q.1; omega)]; rfl
    · rw [if_neg h0, yFz_0 fun j hj => by rw [hms j hj, if_neg (fun q => h0 q.2)]; rfl]
      exact Int32.sub_zero rest
  · rw [rC 74 (by decide) (by decide), rS 74 (by decide) (by decide), eJ, upd2_self]
    unfold mShD
    rw [upd2_ne (.inr (by decide)), upd2_self, upd2_ne (.inr (by decide)), upd2_ne (.inr (by decide)), upd2_ne (.inr (by decide)), h9, e2, p3a]
  · rw [rC 74 (by decide) (by decide), rS 74 (by decide) (by decide), eJ, upd2_ne (.inr (by decide)), upd2_ne (.inr (by decide)), upd2_self]
    unfold mShD
    rw [upd2_ne (.inr (by decide)), upd2_ne (.inr (by decide)), upd2_row (by decide), mS 83 (by decide) (by decide), upd2_ne (.inr (by decide)), upd2_self]
  · rw [rC 74 (by decide) (by decide), rS 74 (by decide) (by decide), eJ, upd2_ne (.inr (by decide)), upd2_self]
    unfold mShD
    rw [upd2_ne (.inr (by decide)), upd2_ne (.inr (by decide)), upd2_row (by decide), mS 83 (by decide) (by decide), upd2_self]
  · obtain ⟨⟨q1, q2⟩, q3, q4⟩ := p4 j hj
    have hb := hms0 j hj
    rw [rC 75 (by decide) (by decide), rC 76 (by decide) (by decide), s5, s6, if_pos hj, if_pos hj, jr 75 (by decide), hp j hj]
    unfold mShD
    rw [upd2_row (by decide), upd2_row (by decide), upd2_row (by decide), upd2_row (by decide), upd2_row (by decide), upd2_row (by decide), m5, m6, if_pos hj, if_pos hj, mr 85 (by decide), q1]
    rw [q1] at hb q3 q4
    exact ⟨⟨rfl, rfl⟩, by rw [yadd (by omega) (by omega)]; omega⟩
  · have hz' : (C 38 0).toInt ≤ (j : Int) := by
      rw [upd2_ne (.inr (by decide)), yAddC_row (by decide), rS 38 (by decide) (by decide), jr 38 (by decide)] at hz; exact hz
    obtain ⟨t1, t2⟩ := p5 j hj hz'
    rw [rC 75 (by decide) (by decide), rC 76 (by decide) (by decide), s5, s6, if_pos hj, if_pos hj, jr 75 (by decide), hp j hj, t1, hms j hj, if_neg (fun q => by have := q.1; omega)]
    exact ⟨rfl, rfl⟩
end YST
/-! PURSES, METHOD BY METHOD (rel9p.lean): C, M the numbers of both sides ahead, then their chains -/
section YPU
variable {C M C1 M1 : Nat → Nat → Int32} {R : Nat → Nat → Value} {z x x1 x2 x3 x4 p s t : Int32} {b k q : Nat}
theorem m9_person (h : yMn C M) (hk : (k : Int) = (C 38 0).toInt) (h8 : (C 38 0).toInt < 8) : yMn (upd2 (upd2 C 39 k x) 38 0 (C 38 0 + Int32.ofInt 1)) (upd2 (upd2 (upd2 M 83 0 z) 84 k x) 83 8 (M 83 8 + Int32.ofInt 1)) := by
  obtain ⟨p1, p2, ⟨a1, a2, a3⟩, p4, p5⟩ := h
  refine ⟨fun j hj => ?_, ?_, ⟨?_, ?_, ?_⟩, fun j hj => ?_, fun j hj hz => ?_⟩
  · rw [upd2_row (a := 38) (b := 39) (by decide), upd2_row (a := 83) (b := 84) (by decide)]
    by_cases e : j = k
    · rw [e, upd2_self, upd2_self]
    · rw [upd2_ne (.inr e), upd2_ne (.inr e), upd2_row (by decide)]; exact p1 j hj
  · rw [upd2_ne (.inr (by decide)), upd2_row (by decide), upd2_ne (.inr (by decide)), upd2_row (by decide), upd2_ne (.inr (by decide))]; exact p2
  · rw [upd2_row (by decide), upd2_row (by decide), upd2_ne (.inr (by decide)), upd2_row (by decide), upd2_ne (.inr (by decide))]; exact a1
  · rw [upd2_row (by decide), upd2_row (by decide), upd2_ne (.inr (by decide)), upd2_row (by decide), upd2_ne (.inr (by decide))]; exact a2
  · rw [upd2_row (by decide), upd2_row (by decide), upd2_ne (.inr (by decide)), upd2_row (by decide), upd2_ne (.inr (by decide))]; exact a3
  · rw [upd2_row (by decide), upd2_row (by decide), upd2_row (by decide), upd2_row (by decide), upd2_row (by decide), upd2_row (by decide), upd2_row (by decide), upd2_row (by decide), upd2_row (by decide), upd2_row (by decide)]; exact p4 j hj
  · rw [upd2_self, yinc (by omega)] at hz
    rw [upd2_row (by decide), upd2_row (by decide), upd2_row (by decide), upd2_row (by decide)]; exact p5 j hj (by omega)
/-- one purse takes x, on both sides -/
theorem yMn.one (h : yMn C M) (hp0 : 0 ≤ p.toInt) (hp8 : p.toInt ≤ 8) (hC : ∀ a, a = 38 ∨ a = 74 ∨ a = 75 ∨ a = 76 → C1 a = C a) (h39 : C1 39 = yAddC C p x 39) (hM : ∀ k, k ≠ 0 → M1 83 k = M 83 k) (h84 : ∀ j, j < 9 → M1 84 j = if j = p.toInt.toNat then M 84 j + x else M 84 j) (h5 : M1 85 = M 85) (h6 : M1 86 = M 86) : yMn C1 M1 :=
  h.fr (fun j hj => by rw [h39, yAddC_v hp0 hp8, h84 j hj, h.1 j hj]) (by rw [hC 38 (.inl rfl), hM 2 (by decide)]; exact h.2.1) (by rw [hC 38 (.inl rfl)]) ⟨hC 74 (by decide), hC 75 (by decide), hC 76 (by decide)⟩ ⟨hM 3 (by decide), hM 5 (by decide), hM 6 (by decide)⟩ h5 h6
/-- somebody comes into a venture -/
theorem m9_join (h : yMn C M) (hp0 : 0 ≤ s.toInt) (hp8 : s.toInt ≤ 8) (hb : 94 ≤ b) : yMn (upd2 (upd2 (upd2 (yAddC C s (-x3)) 70 q (Int32.ofInt 1)) 71 q x3) 72 q x4) (upd2 (upd2 (upd2 (upd2 (upd2 M 83 0 z) (b + 1 + 0) s.toInt.toNat (Int32.ofInt 1)) (b + 1 + 1) s.toInt.toNat x3) (b + 1 + 2) s.toInt.toNat x4) 84 s.toInt.toNat (M 84 s.toInt.toNat - x3)) := by
  have r : ∀ a, a < 94 → a ≠ 84 → a ≠ 83 → upd2 (upd2 (upd2 (upd2 (upd2 M 83 0 z) (b + 1 + 0) s.toInt.toNat (Int32.ofInt 1)) (b + 1 + 1) s.toInt.toNat x3) (b + 1 + 2) s.toInt.toNat x4) 84 s.toInt.toNat (M 84 s.toInt.toNat - x3) a = M a := fun a h1 h2 h3 => by
    rw [upd2_row h2, upd2_row (by omega), upd2_row (by omega), upd2_row (by omega), upd2_row h3]
  refine h.one (x := -x3) hp0 hp8 (fun a ha => by rw [upd2_row (by omega), upd2_row (by omega), upd2_row (by omega), yAddC_row (by omega)]) (by rw [upd2_row (by decide), upd2_row (by decide), upd2_row (by decide)]) (fun k hk => ?_) (fun j hj => ?_) (r 85 (by decide) (by decide) (by decide)) (r 86 (by decide) (by decide) (by decide))
  · rw [upd2_row (by decide), upd2_row (by omega), upd2_row (by omega), upd2_row (by omega), upd2_ne (.inr hk)]
  · by_cases e : j = s.toInt.toNat
    · rw [if_pos e, e, upd2_self, Int32.sub_eq_add_neg]
    · rw [if_neg e, upd2_ne (.inr e), upd2_row (by omega), upd2_row (by omega), upd2_row (by omega), upd2_row (by decide)]
/-- a place in a venture changes hands: s sells to t -/
theorem m9_buyOut (h : yMn C M) (hs0 : 0 ≤ s.toInt) (hs8 : s.toInt ≤ 8) (ht0 : 0 ≤ t.toInt) (ht8 : t.toInt ≤ 8) (hst : ¬ s.toInt = t.toInt) (hb : 94 ≤ b) {y1 y2 w1 w2 : Int32} {q1 q2 k1 k2 : Nat} (J : Nat → Nat → Int32) (eJ : J = upd2 (upd2 (upd2 (upd2 M 83 0 z) (b + 1 + 1) k1 w1) (b + 1 + 1) k2 w2) 84 s.toInt.toNat (M 84 s.toInt.toNat + x)) : yMn (upd2 (upd2 (yAddC (yAddC C t (-x)) s x) 71 q1 y1) 71 q2 y2) (upd2 J 84 t.toInt.toNat (J 84 t.toInt.toNat - x)) := by
  have r : ∀ a, a < 94 → a ≠ 84 → a ≠ 83 → upd2 J 84 t.toInt.toNat (J 84 t.toInt.toNat - x) a = M a := fun a h1 h2 h3 => by
    rw [upd2_row h2, eJ, upd2_row h2, upd2_row (by omega), upd2_row (by omega), upd2_row h3]
  have r3 : ∀ k, k ≠ 0 → upd2 J 84 t.toInt.toNat (J 84 t.toInt.toNat - x) 83 k = M 83 k := fun k hk => by
    rw [upd2_row (by decide), eJ, upd2_row (by decide), upd2_row (by omega), upd2_row (by omega), upd2_ne (.inr hk)]
  have eJ84 : ∀ j, J 84 j = if j = s.toInt.toNat then M 84 j + x else M 84 j := fun j => by
    rw [eJ]
    by_cases e : j = s.toInt.toNat
    · rw [if_pos e, e, upd2_self]
    · rw [if_neg e, upd2_ne (.inr e), upd2_row (by omega), upd2_row (by omega), upd2_row (by decide)]
  refine h.fr (fun j hj => ?_) ?_ ?_ ⟨?_, ?_, ?_⟩ ⟨r3 3 (by decide), r3 5 (by decide), r3 6 (by decide)⟩ (r 85 (by decide) (by decide) (by decide)) (r 86 (by decide) (by decide) (by decide))
  · rw [upd2_row (by decide), upd2_row (by decide), yAddC_v hs0 hs8, yAddC_v ht0 ht8, h.1 j hj]
    by_cases e : j = t.toInt.toNat
    · have h' : ¬ t.toInt.toNat = s.toInt.toNat := by omega
      rw [e, upd2_self, eJ84, if_neg h', if_pos rfl, if_neg h', Int32.sub_eq_add_neg]
    · rw [upd2_ne (.inr e), eJ84, if_neg e]
  · rw [upd2_row (by decide), upd2_row (by decide), yAddC_row (by decide), yAddC_row (by decide), r3 2 (by decide)]; exact h.2.1
  · rw [upd2_row (by decide), upd2_row (by decide), yAddC_row (by decide), yAddC_row (by decide)]
  · rw [upd2_row (by decide), upd2_row (by decide), yAddC_row (by decide), yAddC_row (by decide)]
  · rw [upd2_row (by decide), upd2_row (by decide), yAddC_row (by decide), yAddC_row (by decide)]
  · rw [upd2_row (by decide), upd2_row (by decide), yAddC_row (by decide), yAddC_row (by decide)]
/-- a loss that one bears alone -/
theorem m9_alone (h : yMn C M) (hp0 : 0 ≤ s.toInt) (hp8 : s.toInt ≤ 8) : yMn (yAddC C s x) (upd2 (upd2 M 83 0 z) 84 s.toInt.toNat (M 84 s.toInt.toNat + x)) := by
  refine h.one (x := x) hp0 hp8 (fun a ha => yAddC_row (by omega)) rfl (fun k hk => ?_) (fun j hj => ?_) ?_ ?_
  · rw [upd2_row (by decide), upd2_ne (.inr hk)]
  · by_cases e : j = s.toInt.toNat
    · rw [if_pos e, e, upd2_self]
    · rw [if_neg e, upd2_ne (.inr e), upd2_row (by decide)]
  · rw [upd2_row (by decide), upd2_row (by decide)]
  · rw [upd2_row (by decide), upd2_row (by decide)]
/-- a deposit -/
theorem m9_deposit (h : yMn C M) (hp0 : 0 ≤ p.toInt) (hp8 : p.toInt < (C 38 0).toInt) (h8 : (C 38 0).toInt ≤ 8) (hb : 0 ≤ (C 75 p.toInt.toNat + x).toInt ∧ (C 75 p.toInt.toNat + x).toInt ≤ 99999) : yMn (upd2 (yAddC C p (-x)) 75 p.toInt.toNat (C 75 p.toInt.toNat + x)) (upd2 (upd2 (upd2 M 83 0 z) 85 p.toInt.toNat (M 85 p.toInt.toNat + x)) 84 p.toInt.toNat (M 84 p.toInt.toNat - x)) := by
  obtain ⟨p1, p2, ⟨a1, a2, a3⟩, p4, p5⟩ := h
  refine ⟨fun j hj => ?_, ?_, ⟨?_, ?_, ?_⟩, fun j hj => ?_, fun j hj hz => ?_⟩
  · rw [upd2_row (by decide), yAddC_v hp0 (by omega), p1 j hj]
    by_cases e : j = p.toInt.toNat
    · rw [if_pos e, e, upd2_self, Int32.sub_eq_add_neg]
    · rw [if_neg e, upd2_ne (.inr e), upd2_row (by decide), upd2_row (by decide)]
  · rw [upd2_row (by decide), yAddC_row (by decide), upd2_row (by decide), upd2_row (by decide), upd2_ne (.inr (by decide))]; exact p2
  · rw [upd2_row (by decide), yAddC_row (by decide), upd2_row (by decide), upd2_row (by decide), upd2_ne (.inr (by decide))]; exact a1
  · rw [upd2_row (by decide), yAddC_row (by decide), upd2_row (by decide), upd2_row (by decide), upd2_ne (.inr (by decide))]; exact a2
  · rw [upd2_row (by decide), yAddC_row (by decide), upd2_row (by decide), upd2_row (by decide), upd2_ne (.inr (by decide))]; exact a3
  · obtain ⟨⟨q1, q2⟩, q3⟩ := p4 j hj
    rw [upd2_row (a := 75) (b := 76) (by decide), yAddC_row (a := 76) (by decide), upd2_row (a := 84) (b := 86) (by decide), upd2_row (a := 85) (b := 86) (by decide), upd2_row (a := 83) (b := 86) (by decide), upd2_row (a := 84) (b := 85) (by decide)]
    refine ⟨⟨?_, q2⟩, ?_⟩
    · by_cases e : j = p.toInt.toNat
      · rw [e, upd2_self, upd2_self, ← e, q1]
      · rw [upd2_ne (.inr e), upd2_ne (.inr e), yAddC_row (by decide), upd2_row (by decide)]; exact q1
    · by_cases e : j = p.toInt.toNat
      · rw [e, upd2_self]; exact hb
      · rw [upd2_ne (.inr e), yAddC_row (by decide)]; exact q3
  · rw [upd2_row (by decide), yAddC_row (by decide)] at hz
    rw [upd2_ne (.inr (by omega)), yAddC_row (by decide), upd2_row (by decide), yAddC_row (by decide)]
    exact p5 j hj hz
end YPU
section YPV
variable {C M C1 M1 : Nat → Nat → Int32} {z x w o fe y1 y2 y3 y4 : Int32} {b : Nat}
/-- the house buys: w out of its purse, into the owner's if there is one -/
theorem m9_buy (h : yMn C M) (ho0 : 0 ≤ o.toInt) (ho9 : o.toInt ≤ 9) (ho8 : ¬ o.toInt = 8) (hb : 94 ≤ b) {k1 k2 k3 k4 k : Nat} {u1 u2 u3 u4 : Int32} : yMn (upd2 (upd2 (upd2 (upd2 (yAddC (yAddC C (Int32.ofInt 8) (-w)) o w) 45 k y1) 46 k y2) 42 k y3) 43 k y4) (upd2 (upd2 (upd2 (upd2 (mAddC (upd2 (upd2 M 83 0 z) 84 8 (M 84 8 - w)) o w) b k1 u1) b k2 u2) b k3 u3) b k4 u4) := by
  have z8 : (Int32.ofInt 8).toInt = 8 := by decide
  have rC : ∀ a, a = 38 ∨ a = 74 ∨ a = 75 ∨ a = 76 → upd2 (upd2 (upd2 (upd2 (yAddC (yAddC C (Int32.ofInt 8) (-w)) o w) 45 k y1) 46 k y2) 42 k y3) 43 k y4 a = C a := fun a ha => by
    rw [upd2_row (by omega), upd2_row (by omega), upd2_row (by omega), upd2_row (by omega), yAddC_row (by omega), yAddC_row (by omega)]
  have rb : ∀ a, a < 94 → upd2 (upd2 (upd2 (upd2 (mAddC (upd2 (upd2 M 83 0 z) 84 8 (M 84 8 - w)) o w) b k1 u1) b k2 u2) b k3 u3) b k4 u4 a = mAddC (upd2 (upd2 M 83 0 z) 84 8 (M 84 8 - w)) o w a := fun a ha => by
    rw [upd2_row (by omega), upd2_row (by omega), upd2_row (by omega), upd2_row (by omega)]
  have rm : ∀ a, a ≠ 84 → mAddC (upd2 (upd2 M 83 0 z) 84 8 (M 84 8 - w)) o w a = upd2 M 83 0 z a := fun a ha => by
    unfold mAddC
    split
    · exact upd2_row ha
    · rw [upd2_row ha, upd2_row ha]
  have r3 : ∀ k, k ≠ 0 → upd2 (upd2 (upd2 (upd2 (mAddC (upd2 (upd2 M 83 0 z) 84 8 (M 84 8 - w)) o w) b k1 u1) b k2 u2) b k3 u3) b k4 u4 83 k = M 83 k := fun k hk => by
    rw [rb 83 (by decide), rm 83 (by decide), upd2_ne (.inr hk)]
  refine h.fr (fun j hj => ?_) (by rw [rC 38 (by decide), r3 2 (by decide)]; exact h.2.1) (by rw [rC 38 (by decide)]) ⟨rC 74 (by decide), rC 75 (by decide), rC 76 (by decide)⟩ ⟨r3 3 (by decide), r3 5 (by decide), r3 6 (by decide)⟩ (by rw [rb 85 (by decide), rm 85 (by decide), upd2_row (by decide)]) (by rw [rb 86 (by decide), rm 86 (by decide), upd2_row (by decide)])
  have hJ : ∀ j, upd2 (upd2 M 83 0 z) 84 8 (M 84 8 - w) 84 j = if j = 8 then M 84 8 - w else M 84 j := fun j => by
    by_cases e : j = 8
    · rw [if_pos e, e, upd2_self]
    · rw [if_neg e, upd2_ne (.inr e), upd2_row (by decide)]
  have h8j := h.1 j hj
  rw [rb 84 (by decide), upd2_row (by decide), upd2_row (by decide), upd2_row (by decide), upd2_row (by decide)]
  by_cases h9 : o.toInt = 9
  · rw [yAddC_9 h9, mAddC_9 h9, yAddC_v (by rw [z8]; decide) (by rw [z8]; decide), z8, hJ, h8j]
    by_cases e : j = 8
    · rw [if_pos (by rw [e]; rfl), if_pos e, e, Int32.sub_eq_add_neg]
    · rw [if_neg (by show ¬ j = 8; exact e), if_neg e]
  · rw [yAddC_v ho0 (by omega), yAddC_v (by rw [z8]; decide) (by rw [z8]; decide), mAddC_v h9, z8, hJ, h8j]
    by_cases e : j = 8
    · rw [if_neg (by omega), if_pos (by rw [e]; rfl), if_neg (by omega), if_pos e, e, Int32.sub_eq_add_neg]
    · have e' : ¬ j = Int.toNat 8 := e
      rw [if_neg e', if_neg e]
/-- a part is paid: x of it to the house, fe into the fees -/
theorem m9_pay (h : yMn C M) (ho0 : 0 ≤ o.toInt) (ho8 : o.toInt < 8) (hb : 94 ≤ b) {k1 k2 k3 k : Nat} {u1 u2 u3 : Int32} (J : Nat → Nat → Int32) (eJ : J = upd2 (upd2 (upd2 (upd2 (upd2 (upd2 M 83 0 z) b k1 u1) b k2 u2) b k3 u3) 83 2 (M 83 2 + fe)) 84 o.toInt.toNat (M 84 o.toInt.toNat - (x + fe))) : yMn (upd2 (upd2 (upd2 (upd2 (yAddC (yAddC (yAddC C o (-x)) (Int32.ofInt 8) x) o (-fe)) 38 1 (C 38 1 + fe)) 55 k y1) 57 k y2) 58 k y3) (upd2 J 84 8 (J 84 8 + x)) := by
  have z8 : (Int32.ofInt 8).toInt = 8 := by decide
  have rC : ∀ a, a = 74 ∨ a = 75 ∨ a = 76 → upd2 (upd2 (upd2 (upd2 (yAddC (yAddC (yAddC C o (-x)) (Int32.ofInt 8) x) o (-fe)) 38 1 (C 38 1 + fe)) 55 k y1) 57 k y2) 58 k y3 a = C a := fun a ha => by
    rw [upd2_row (by omega), upd2_row (by omega), upd2_row (by omega), upd2_row (by omega), yAddC_row (by omega), yAddC_row (by omega), yAddC_row (by omega)]
  have rJ : ∀ a, a < 94 → a ≠ 84 → a ≠ 83 → J a = M a := fun a h1 h2 h3 => by
    rw [eJ, upd2_row h2, upd2_row h3, upd2_row (by omega), upd2_row (by omega), upd2_row (by omega), upd2_row h3]
  have r3 : ∀ k, k ≠ 0 → k ≠ 2 → upd2 J 84 8 (J 84 8 + x) 83 k = M 83 k := fun k h0 h2 => by
    rw [upd2_row (by decide), eJ, upd2_row (by decide), upd2_ne (.inr h2), upd2_row (by omega), upd2_row (by omega), upd2_row (by omega), upd2_ne (.inr h0)]
  have eJ84 : ∀ j, J 84 j = if j = o.toInt.toNat then M 84 j - (x + fe) else M 84 j := fun j => by
    rw [eJ]
    by_cases e : j = o.toInt.toNat
    · rw [if_pos e, e, upd2_self]
    · rw [if_neg e, upd2_ne (.inr e), upd2_row (by decide), upd2_row (by omega), upd2_row (by omega), upd2_row (by omega), upd2_row (by decide)]
  refine h.fr (fun j hj => ?_) ?_ ?_ ⟨rC 74 (by decide), rC 75 (by decide), rC 76 (by decide)⟩ ⟨r3 3 (by decide) (by decide), r3 5 (by decide) (by decide), r3 6 (by decide) (by decide)⟩ (by rw [upd2_row (by decide)]; exact rJ 85 (by decide) (by decide) (by decide)) (by rw [upd2_row (by decide)]; exact rJ 86 (by decide) (by decide) (by decide))
  · rw [upd2_row (by decide), upd2_row (by decide), upd2_row (by decide), upd2_row (by decide), yAddC_v ho0 (by omega), yAddC_v (by rw [z8]; decide) (by rw [z8]; decide), yAddC_v ho0 (by omega), z8, h.1 j hj]
    by_cases e : j = 8
    · have e8 : ¬ (8 : Nat) = o.toInt.toNat := by omega
      rw [e, upd2_self, eJ84, if_neg e8, if_neg e8, if_pos (show (8 : Nat) = Int.toNat 8 from rfl), if_neg e8]
    · have e' : ¬ j = Int.toNat 8 := e
      rw [upd2_ne (.inr e), eJ84, if_neg e']
      by_cases e2 : j = o.toInt.toNat
      · rw [if_pos e2, if_pos e2, if_pos e2]; grind
      · rw [if_neg e2, if_neg e2, if_neg e2]
  · rw [upd2_row (by decide), upd2_row (by decide), upd2_row (by decide), upd2_self, upd2_row (by decide), eJ, upd2_row (by decide), upd2_self, h.2.1]
  · rw [upd2_row (by decide), upd2_row (by decide), upd2_row (by decide), upd2_ne (.inr (by decide)), yAddC_row (by decide), yAddC_row (by decide), yAddC_row (by decide)]
/-- a dividend: t of x goes into the fees -/
theorem m9_dividend {t : Int32} (h : yMn C M) (hb : 94 ≤ b) {k1 k : Nat} {u1 : Int32} : yMn (upd2 (upd2 (yAddC (yAddC C (Int32.ofInt 8) x) (Int32.ofInt 8) (-t)) 38 1 (C 38 1 + t)) 80 k y1) (upd2 (upd2 (upd2 (upd2 M 83 0 z) b k1 u1) 83 2 (M 83 2 + t)) 84 8 (M 84 8 + (x - t))) := by
  have z8 : (Int32.ofInt 8).toInt = 8 := by decide
  have rC : ∀ a, a = 74 ∨ a = 75 ∨ a = 76 → upd2 (upd2 (yAddC (yAddC C (Int32.ofInt 8) x) (Int32.ofInt 8) (-t)) 38 1 (C 38 1 + t)) 80 k y1 a = C a := fun a ha => by
    rw [upd2_row (by omega), upd2_row (by omega), yAddC_row (by omega), yAddC_row (by omega)]
  have r3 : ∀ k, k ≠ 0 → k ≠ 2 → upd2 (upd2 (upd2 (upd2 M 83 0 z) b k1 u1) 83 2 (M 83 2 + t)) 84 8 (M 84 8 + (x - t)) 83 k = M 83 k := fun k h0 h2 => by
    rw [upd2_row (by decide), upd2_ne (.inr h2), upd2_row (by omega), upd2_ne (.inr h0)]
  have r5 : ∀ a, a < 94 → a ≠ 83 → a ≠ 84 → upd2 (upd2 (upd2 (upd2 M 83 0 z) b k1 u1) 83 2 (M 83 2 + t)) 84 8 (M 84 8 + (x - t)) a = M a := fun a h1 h2 h3 => by
    rw [upd2_row h3, upd2_row h2, upd2_row (by omega), upd2_row h2]
  refine h.fr (fun j hj => ?_) ?_ ?_ ⟨rC 74 (by decide), rC 75 (by decide), rC 76 (by decide)⟩ ⟨r3 3 (by decide) (by decide), r3 5 (by decide) (by decide), r3 6 (by decide) (by decide)⟩ (r5 85 (by decide) (by decide) (by decide)) (r5 86 (by decide) (by decide) (by decide))
  · rw [upd2_row (by decide), upd2_row (by decide), yAddC_v (by rw [z8]; decide) (by rw [z8]; decide), yAddC_v (by rw [z8]; decide) (by rw [z8]; decide), z8, h.1 j hj]
    by_cases e : j = 8
    · rw [e, upd2_self, if_pos (show (8 : Nat) = Int.toNat 8 from rfl)]; grind
    · have e' : ¬ j = Int.toNat 8 := e
      rw [if_neg e', if_neg e', upd2_ne (.inr e), upd2_row (by decide), upd2_row (by omega), upd2_row (by decide)]
  · rw [upd2_row (by decide), upd2_self, upd2_row (by decide), upd2_self, h.2.1]
  · rw [upd2_row (by decide), upd2_ne (.inr (by decide)), yAddC_row (by decide), yAddC_row (by decide)]
/-- an investment: x comes out of it, or goes into it -/
theorem m9_invest (h : yMn C M) {k : Nat} : yMn (upd2 (yAddC C (Int32.ofInt 8) x) 77 k y1) (upd2 (upd2 (upd2 M 83 0 z) 84 8 (M 84 8 + x)) 83 7 y2) := by
  have z8 : (Int32.ofInt 8).toInt = 8 := by decide
  have rC : ∀ a, a = 38 ∨ a = 74 ∨ a = 75 ∨ a = 76 → upd2 (yAddC C (Int32.ofInt 8) x) 77 k y1 a = C a := fun a ha => by rw [upd2_row (by omega), yAddC_row (by omega)]
  have r3 : ∀ k, k ≠ 0 → k ≠ 7 → upd2 (upd2 (upd2 M 83 0 z) 84 8 (M 84 8 + x)) 83 7 y2 83 k = M 83 k := fun k h0 h7 => by
    rw [upd2_ne (.inr h7), upd2_row (by decide), upd2_ne (.inr h0)]
  refine h.fr (fun j hj => ?_) (by rw [rC 38 (by decide), r3 2 (by decide) (by decide)]; exact h.2.1) (by rw [rC 38 (by decide)]) ⟨rC 74 (by decide), rC 75 (by decide), rC 76 (by decide)⟩ ⟨r3 3 (by decide) (by decide), r3 5 (by decide) (by decide), r3 6 (by decide) (by decide)⟩ ?_ ?_
  · rw [upd2_row (a := 77) (b := 39) (by decide), yAddC_v (by rw [z8]; decide) (by rw [z8]; decide), z8, h.1 j hj, upd2_row (a := 83) (b := 84) (by decide)]
    by_cases e : j = 8
    · rw [e, upd2_self, if_pos (show (8 : Nat) = Int.toNat 8 from rfl)]
    · have e' : ¬ j = Int.toNat 8 := e
      rw [if_neg e', upd2_ne (.inr e), upd2_row (by decide)]
  · rw [upd2_row (by decide), upd2_row (by decide), upd2_row (by decide)]
  · rw [upd2_row (by decide), upd2_row (by decide), upd2_row (by decide)]
end YPV
/-! VENTURES, METHOD BY METHOD (rel9v.lean) -/
section YVM
variable {C M : Nat → Nat → Int32} {R : Nat → Nat → Value} {z v x3 x4 s t w : Int32} {b x q q1 q2 : Nat}
theorem v9_join (h : yVn C M R) (hl : ∀ j : Nat, (j : Int) < (M 91 2).toInt → 94 ≤ yAd R 91 j) (hx : (x : Int) < (M 91 2).toInt) (hs0 : 0 ≤ s.toInt) (hs8 : s.toInt ≤ 8) (hb : b = yAd R 91 x) (hq : q = x * 9 + s.toInt.toNat) (h4 : 0 ≤ x4.toInt ∧ x4.toInt ≤ 100) : yVn (upd2 (upd2 (upd2 (yAddC C s (-x3)) 70 q (Int32.ofInt 1)) 71 q x3) 72 q x4) (upd2 (upd2 (upd2 (upd2 (upd2 M 83 0 z) (b + 1 + 0) s.toInt.toNat (Int32.ofInt 1)) (b + 1 + 1) s.toInt.toNat x3) (b + 1 + 2) s.toInt.toNat x4) 84 s.toInt.toNat w) R := by
  have hb94 : 94 ≤ b := by rw [hb]; exact hl x hx
  have hp : s.toInt.toNat < 9 := by omega
  have e91 : ∀ (J : Nat → Nat → Int32) (a k : Nat) (y : Int32), a ≠ 91 → upd2 J a k y 91 = J 91 := fun J a k y ha => upd2_row (Ne.symm ha)
  subst hq
  have s0 := (h.skM (a := 83) (k := 0) (z := z) hl (by decide)).addC (p := s) (x := -x3)
  have s1 := s0.set (f := 0) (p := s.toInt.toNat) (z := Int32.ofInt 1) (by decide) (by rw [e91 _ _ _ _ (by decide)]; exact hx) hp hb hb94 (fun q => absurd q (by decide))
  have s2 := s1.set (f := 1) (p := s.toInt.toNat) (z := x3) (by decide) (by rw [e91 _ _ _ _ (by omega), e91 _ _ _ _ (by decide)]; exact hx) hp hb hb94 (fun q => absurd q (by decide))
  have s3 := s2.set (f := 2) (p := s.toInt.toNat) (z := x4) (by decide) (by rw [e91 _ _ _ _ (by omega), e91 _ _ _ _ (by omega), e91 _ _ _ _ (by decide)]; exact hx) hp hb hb94 (fun _ => h4)
  exact s3.skM (fun j hj => by rw [e91 _ _ _ _ (by omega), e91 _ _ _ _ (by omega), e91 _ _ _ _ (by omega), e91 _ _ _ _ (by decide)] at hj; exact hl j hj) (by decide)
theorem v9_buyOut (h : yVn C M R) (hl : ∀ j : Nat, (j : Int) < (M 91 2).toInt → 94 ≤ yAd R 91 j) (hx : (x : Int) < (M 91 2).toInt) (hs0 : 0 ≤ s.toInt) (hs8 : s.toInt ≤ 8) (ht0 : 0 ≤ t.toInt) (ht8 : t.toInt ≤ 8) (hb : b = yAd R 91 x) (hq1 : q1 = x * 9 + s.toInt.toNat) (hq2 : q2 = x * 9 + t.toInt.toNat) {C0 : Nat → Nat → Int32} (hC0 : ∀ a, a ≠ 39 → C0 a = C a) {w1 w2 : Int32} :
    yVn (upd2 (upd2 C0 71 q1 (C 71 q1 - x4)) 71 q2 (upd2 C0 71 q1 (C 71 q1 - x4) 71 q2 + x4)) (upd2 (upd2 (upd2 (upd2 (upd2 M 83 0 z) (b + 1 + 1) s.toInt.toNat (M (b + 1 + 1) s.toInt.toNat - x4)) (b + 1 + 1) t.toInt.toNat (upd2 (upd2 M 83 0 z) (b + 1 + 1) s.toInt.toNat (M (b + 1 + 1) s.toInt.toNat - x4) (b + 1 + 1) t.toInt.toNat + x4)) 84 s.toInt.toNat w1) 84 t.toInt.toNat w2) R := by
  have hb94 : 94 ≤ b := by rw [hb]; exact hl x hx
  have hp : s.toInt.toNat < 9 := by omega
  have hp2 : t.toInt.toNat < 9 := by omega
  have e91 : ∀ (J : Nat → Nat → Int32) (a k : Nat) (y : Int32), a ≠ 91 → upd2 J a k y 91 = J 91 := fun J a k y ha => upd2_row (Ne.symm ha)
  subst hq1 hq2
  have s0 : yVn C0 (upd2 M 83 0 z) R := (h.skM (a := 83) (k := 0) (z := z) hl (by decide)).cg rfl (fun a h1 h2 => hC0 a (by omega)) (fun j hj => ⟨rfl, fun f hf => rfl⟩)
  have ev : C 71 (x * 9 + s.toInt.toNat) = M (b + 1 + 1) s.toInt.toNat := by rw [hb]; exact (h.1 x hx).1 1 (by decide) _ hp
  have s1 := s0.set (f := 1) (p := s.toInt.toNat) (z := C 71 (x * 9 + s.toInt.toNat) - x4) (by decide) (by rw [e91 _ _ _ _ (by decide)]; exact hx) hp hb hb94 (fun q => absurd q (by decide))
  have hx1 : (x : Int) < (upd2 (upd2 M 83 0 z) (b + 1 + 1) s.toInt.toNat (C 71 (x * 9 + s.toInt.toNat) - x4) 91 2).toInt := by rw [e91 _ _ _ _ (by omega), e91 _ _ _ _ (by decide)]; exact hx
  have ev2 : upd2 C0 71 (x * 9 + s.toInt.toNat) (C 71 (x * 9 + s.toInt.toNat) - x4) 71 (x * 9 + t.toInt.toNat) = upd2 (upd2 M 83 0 z) (b + 1 + 1) s.toInt.toNat (C 71 (x * 9 + s.toInt.toNat) - x4) (b + 1 + 1) t.toInt.toNat := by
    have := (s1.1 x hx1).1 1 (by decide) _ hp2
    rw [← hb] at this; exact this
  have s2 := s1.set (f := 1) (p := t.toInt.toNat) (z := upd2 C0 71 (x * 9 + s.toInt.toNat) (C 71 (x * 9 + s.toInt.toNat) - x4) 71 (x * 9 + t.toInt.toNat) + x4) (by decide) hx1 hp2 hb hb94 (fun q => absurd q (by decide))
  have s3 := (s2.skM (a := 84) (k := s.toInt.toNat) (z := w1) (fun j hj => by rw [e91 _ _ _ _ (by omega), e91 _ _ _ _ (by omega), e91 _ _ _ _ (by decide)] at hj; exact hl j hj) (by decide)).skM (a := 84) (k := t.toInt.toNat) (z := w2) (fun j hj => by rw [e91 _ _ _ _ (by decide), e91 _ _ _ _ (by omega), e91 _ _ _ _ (by omega), e91 _ _ _ _ (by decide)] at hj; exact hl j hj) (by decide)
  rw [← ev, ← ev2]
  exact s3
end YVM
/-! A NEW VENTURE; BOUNDS OF THE POOL (rel9b.lean) -/
section YVB
variable {C M C1 M1 I : Nat → Nat → Int32} {R R1 : Nat → Nat → Value} {b c : Nat}
theorem yVn.new (h : yVn C M R) (hc : (M 91 2).toInt = (c : Int)) (hs : (M1 91 2).toInt = (c : Int) + 1) (hC : ∀ a, 70 ≤ a → a ≤ 73 → C1 a = C a) (hA : ∀ j, j < c → yAd R1 91 j = yAd R 91 j ∧ ∀ f, f < 4 → M1 (yAd R 91 j + 1 + f) = M (yAd R 91 j + 1 + f)) (hlt : ∀ j, j < c → yAd R 91 j + 4 < b) (hb : yAd R1 91 c = b) (hz : ∀ f, f < 4 → ∀ k, M1 (b + 1 + f) k = 0) : yVn C1 M1 R1 := by
  obtain ⟨h1, h2, h3⟩ := h
  refine ⟨fun j hj => ?_, fun f hf q hq => ?_, fun i j hij hj => ?_⟩
  · by_cases hjc : j = c
    · subst hjc
      have hn : ∀ f, f < 4 → ∀ p, p < 9 → C1 (70 + f) (j * 9 + p) = Int32.ofInt 0 := fun f hf p hp => by
        rw [hC _ (by omega) (by omega)]; exact h2 f hf _ (by omega)
      refine ⟨fun f hf p hp => ?_, fun p hp => ?_⟩
      · rw [hn f hf p hp, hb, hz f hf p]; rfl
      · rw [show C1 72 (j * 9 + p) = Int32.ofInt 0 from hn 2 (by decide) p hp]; decide
    · obtain ⟨r1, r2⟩ := h1 j (by omega)
      obtain ⟨a1, a2⟩ := hA j (by omega)
      refine ⟨fun f hf p hp => ?_, fun p hp => ?_⟩
      · rw [hC _ (by omega) (by omega), a1, a2 f hf]; exact r1 f hf p hp
      · rw [hC 72 (by decide) (by decide)]; exact r2 p hp
  · rw [hC _ (by omega) (by omega)]; exact h2 f hf q (by omega)
  · by_cases hjc : j = c
    · subst hjc
      rw [(hA i hij).1, hb]; exact hlt i hij
    · rw [(hA i (by omega)).1, (hA j (by omega)).1]; exact h3 i j hij (by omega)
/-- the reserve after K calls, the weights at the day that it is -/
def yMb (K : Nat) (I : Nat → Nat → Int32) : Prop := (0 ≤ (I 74 2).toInt ∧ (I 74 2).toInt ≤ 9999 * (K : Int)) ∧ ∀ j : Nat, j < 8 → 0 ≤ (I 76 j).toInt ∧ (I 76 j).toInt ≤ 99999 * (I 34 8).toInt
theorem yMb.cg {K K1 : Nat} (h : yMb K C) (hK : K ≤ K1) (h4 : C1 74 2 = C 74 2) (h6 : C1 76 = C 76) (h8 : (C1 34 8).toInt = (C 34 8).toInt) : yMb K1 C1 := by
  unfold yMb
  rw [h4, h6, h8]
  exact ⟨⟨h.1.1, by have := h.1.2; omega⟩, h.2⟩
theorem yMnn_b {x y : Int32} : (yMnn x y).toInt = if y.toInt < x.toInt then y.toInt else x.toInt := by
  unfold yMnn
  by_cases h : y < x
  · rw [if_pos h, if_pos (Int32.lt_iff_toInt_lt.1 h)]
  · rw [if_neg h, if_neg (fun q => h (Int32.lt_iff_toInt_lt.2 q))]
/-- what is shared, and the reserve behind it -/
theorem ySmo_b {r t s : Int32} {al : Int} {m : Int} (h0 : 0 ≤ r.toInt) (h1 : r.toInt ≤ 9999) (ht : 0 ≤ t.toInt ∧ t.toInt ≤ 999) (hs0 : 0 ≤ s.toInt) (hs1 : s.toInt ≤ m) (hm : m ≤ 7000000) : 0 ≤ (ySmo r t s al).toInt ∧ 0 ≤ (s + (r - ySmo r t s al)).toInt ∧ (s + (r - ySmo r t s al)).toInt ≤ m + 9999 := by
  unfold ySmo
  by_cases h : 3 ≤ al
  · rw [if_pos h]
    by_cases h2 : t.toInt < r.toInt
    · rw [if_pos h2]
      have e : (r - t).toInt = r.toInt - t.toInt := ysub (by omega) (by omega)
      rw [yadd (by omega) (by omega), e]; omega
    · rw [if_neg h2]
      have e : (t - r).toInt = t.toInt - r.toInt := ysub (by omega) (by omega)
      have em := yMnn_b (x := t - r) (y := s)
      rw [e] at em
      have hr : (r + yMnn (t - r) s).toInt = r.toInt + (yMnn (t - r) s).toInt := by
        refine yadd ?_ ?_ <;> (rw [em]; split <;> omega)
      have hd : r - (r + yMnn (t - r) s) = -(yMnn (t - r) s) := by grind
      have hn : (s + -(yMnn (t - r) s)) = s - yMnn (t - r) s := by grind
      rw [hd, hn, hr, ysub (by rw [em]; split <;> omega) (by rw [em]; split <;> omega), em]
      split <;> omega
  · rw [if_neg h]
    have e : r - r = Int32.ofInt 0 := by grind
    have e2 : s + Int32.ofInt 0 = s := Int32.add_zero s
    rw [e, e2]; omega
end YVB
/-! MONEY AND VENTURES: THE RELATION AND ITS FRAMES (rel8g.lean) -/
def yR8 (K : Nat) (I : Nat → Nat → Int32) (R : Nat → Nat → Value) : Prop := yR7 I R ∧ yMn I I ∧ yVn I I R ∧ yMb K I
section YR8F
variable {K K1 n n1 : Nat} {tg tg1 : Nat → yT} {I Ia I1 : Nat → Nat → Int32} {R R1 : Nat → Nat → Value}
theorem yR8.out {k : Nat} {v : Value} (h : yR8 K I R) (h3 : yRI K1 n tg I R) : yR8 K I (upd2 R 93 k v) :=
  ⟨h.1.out h3, h.2.1, h.2.2.1.cg rfl (fun _ _ _ => rfl) (fun j hj => ⟨yLk.out h3 91 (by decide) (by decide) j hj, fun _ _ => rfl⟩), h.2.2.2⟩
/-- old ventures' rows stay -/
def yVk (n : Nat) (tg : Nat → yT) (I : Nat → Nat → Int32) (R : Nat → Nat → Value) (I1 : Nat → Nat → Int32) : Prop := ∀ j : Nat, (j : Int) < (I 91 2).toInt → ∀ f : Nat, f < 4 → I1 (yAd R 91 j + 1 + f) = I (yAd R 91 j + 1 + f)
theorem yVk.of (h3 : yRI K1 n tg I R) (h : ∀ a, 94 ≤ a → a < n → I1 a = I a) : yVk n tg I R I1 := fun j hj f hf => by
  obtain ⟨-, q0, q1, q2⟩ := h3.l91.2.2.2.2 j hj
  have := (h3.ven q0 q1 q2 (j := f) hf).2.1
  exact h _ (by omega) (by omega)
theorem yR8.rf {K2 : Nat} (h : yR8 K I R) (h7 : yR7 I1 R1) (h3 : yRI K2 n tg I R) (hr : yRf n I R I1 R1) (hK : K ≤ K1) : yR8 K1 I1 R1 := by
  have h94 := h3.2.2.2.2.2.2
  have hlo : ∀ a, a < 94 → a ≠ 83 → I1 a = I a := fun a h1 h2 => hr.1 a (by omega) h2
  refine ⟨h7, h.2.1.cg (fun a ha => hlo a (by omega) (by omega)) hr.2.1 (fun a h1 h2 => hlo a (by omega) (by omega)), h.2.2.1.cg (by rw [hlo 91 (by decide) (by decide)]) (fun a h1 h2 => hlo a (by omega) (by omega)) (fun j hj => ⟨yLk.oldR h3 hr.2.2 91 (by decide) (by decide) j hj, fun f hf => yVk.of h3 (fun a h1 h2 => hr.1 a h2 (by omega)) j hj f hf⟩), h.2.2.2.cg hK (by rw [hlo 74 (by decide) (by decide)]) (hlo 76 (by decide) (by decide)) (by rw [hlo 34 (by decide) (by decide)])⟩
end YR8F
