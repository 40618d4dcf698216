/-! LEASES' RENTS (by ex6r.py) -/
/-! a day of both sides -/
/-- the middle of a day's rents: a lease that waits -/
def yLsE (M : Nat → Nat → Int32) (b : Nat) (d : Int) : Prop := (M b 4).toInt + 30 * (M b 6).toInt < d ∧ ((M b 5).toInt = 0 → d ≤ (M b 4).toInt + 30 * ((M b 6).toInt + 1))
def yLmd (C M : Nat → Nat → Int32) (R : Nat → Nat → Value) (k : Nat) : Prop := (∀ j : Nat, (j : Int) < (M 90 2).toInt → yLs0 C M j (yAd R 90 j) ∧ (j < k → yLsD M (yAd R 90 j) (M 83 1).toInt) ∧ (k ≤ j → yLsE M (yAd R 90 j) (M 83 1).toInt)) ∧ ∀ j : Nat, (M 90 2).toInt ≤ (j : Int) → C 67 j = Int32.ofInt 0 ∧ C 68 j = Int32.ofInt 0
/-- what stays through a day -/
def yLb (K nb : Nat) (tg : Nat → yT) (C M : Nat → Nat → Int32) (R : Nat → Nat → Value) : Prop :=
  (∀ j : Nat, (j : Int) < (M 90 2).toInt → C 60 j = M (yAd R 90 j) 0 ∧ C 62 j = M (yAd R 90 j) 1 ∧ C 65 j = M (yAd R 90 j) 5 ∧ 0 ≤ (C 60 j).toInt ∧ (C 60 j).toInt < (M 88 2).toInt) ∧
  (∀ i : Nat, (i : Int) < (M 88 2).toInt → C 41 i = M (yAd R 88 i) 0) ∧ (C 59 0).toInt = (M 90 2).toInt ∧ (C 34 8).toInt = (M 83 1).toInt ∧ C 34 9 = M 83 4 ∧
  (∀ i j : Nat, i < j → (j : Int) < (M 90 2).toInt → yAd R 90 i < yAd R 90 j) ∧ yRI K nb tg M R
theorem yCoS_v {C : Nat → Nat → Int32} {k a j : Nat} (ha : a ≠ 39) : yCoS C k a j = if (C 65 k).toInt = 0 ∧ (C 66 k).toInt = (C 34 8).toInt then (if a = 68 ∧ j = k then C 68 k + yRn (C 61 k) (C 34 9) (C 63 k) (C 64 k) else if a = 67 ∧ j = k then C 67 k + Int32.ofInt 1 else if a = 66 ∧ j = k then C 66 k + Int32.ofInt 30 else C a j) else C a j := by
  unfold yCoS
  split
  · rw [yAddC_row ha, yAddC_row ha]; rfl
  · rfl
theorem yCoS_row {C : Nat → Nat → Int32} {k a : Nat} (ha : a ≠ 39) (h6 : a ≠ 66) (h7 : a ≠ 67) (h8 : a ≠ 68) : yCoS C k a = C a := funext fun j => by
  rw [yCoS_v ha]
  simp [h6, h7, h8]
theorem mReB_v {M : Nat → Nat → Int32} {b t y f : Nat} (hy : y ≠ 84) : mReB M b t y f = if y = b ∧ f = 7 then M b 7 + mRn M b t else if y = b ∧ f = 6 then M b 6 + Int32.ofInt 1 else M y f := by
  unfold mReB
  rw [upd2_ne (.inl hy), upd2_ne (.inl hy)]; rfl
theorem y30 {x : Int32} (h0 : 0 ≤ x.toInt) (h1 : x.toInt ≤ 4000) : (x - x / Int32.ofInt 30 * Int32.ofInt 30).toInt = x.toInt % 30 := by
  have e30 : (Int32.ofInt 30).toInt = 30 := by decide
  have hd : (x / Int32.ofInt 30).toInt = x.toInt / 30 := by
    rw [Int32.toInt_div, e30, Int.tdiv_eq_ediv_of_nonneg h0]
    exact Int.bmod_eq_of_le (by omega) (by omega)
  have hm : (x / Int32.ofInt 30 * Int32.ofInt 30).toInt = x.toInt / 30 * 30 := by
    rw [Int32.toInt_mul, hd, e30]
    exact Int.bmod_eq_of_le (by omega) (by omega)
  rw [ysub (by rw [hm]; omega) (by rw [hm]; omega), hm]; omega
theorem yMxx_c (x y : Int32) : yMxx x y = yMxx y x := by
  unfold yMxx
  split <;> split <;> rename_i p q
  · rw [Int32.lt_iff_toInt_lt] at p q; omega
  · rfl
  · rfl
  · rw [Int32.lt_iff_toInt_lt] at p q; exact yext (by omega)
theorem yMnn_c (x y : Int32) : yMnn x y = yMnn y x := by
  unfold yMnn
  split <;> split <;> rename_i p q
  · rw [Int32.lt_iff_toInt_lt] at p q; omega
  · rfl
  · rfl
  · rw [Int32.lt_iff_toInt_lt] at p q; exact yext (by omega)
section YDAY
variable {K nb : Nat} {tg : Nat → yT} {C M : Nat → Nat → Int32} {R : Nat → Nat → Value}
theorem yLb.inj (h : yLb K nb tg C M R) {i j : Nat} (hi : (i : Int) < (M 90 2).toInt) (hj : (j : Int) < (M 90 2).toInt) (e : yAd R 90 i = yAd R 90 j) : i = j := by
  have ho := h.2.2.2.2.2.1
  by_cases h1 : i < j
  · have := ho i j h1 hj; omega
  · by_cases h2 : j < i
    · have := ho j i h2 hi; omega
    · omega
theorem yLb.ad (h : yLb K nb tg C M R) {j : Nat} (hj : (j : Int) < (M 90 2).toInt) : 94 ≤ yAd R 90 j ∧ yAd R 90 j < nb ∧ tg (yAd R 90 j) = (18, 0) := (h.2.2.2.2.2.2.l90.2.2.2.2 j hj).2
/-- both sides collect at once -/
theorem yLmd.due (h : yLb K nb tg C M R) {k : Nat} (hm : yLmd C M R k) (hk : (k : Int) < (M 90 2).toInt) : ((C 65 k).toInt = 0 ∧ (C 66 k).toInt = (C 34 8).toInt) ↔ mDue M (yAd R 90 k) := by
  obtain ⟨q1, q2, q3, q4, q5⟩ := h.1 k hk
  obtain ⟨⟨a1, a2, a3, a4, a5, a6, a7, a8⟩, -, hE⟩ := hm.1 k hk
  obtain ⟨e1, e2⟩ := hE (Nat.le_refl k)
  have hday := h.2.2.2.1
  have hN := h.2.2.2.2.2.2.1
  unfold mDue
  rw [q3, hday, a6]
  have hs : (M 83 1 - M (yAd R 90 k) 4).toInt = (M 83 1).toInt - (M (yAd R 90 k) 4).toInt := ysub (by omega) (by omega)
  rw [y30 (by omega) (by omega), hs]
  constructor
  · intro q; omega
  · intro q
    have := e2 q.1
    omega
theorem yLmd.rent (h : yLb K nb tg C M R) {k : Nat} (hm : yLmd C M R k) (hk : (k : Int) < (M 90 2).toInt) : yRn (C 61 k) (C 34 9) (C 63 k) (C 64 k) = mRn M (yAd R 90 k) (yAd R 88 (M (yAd R 90 k) 0).toInt.toNat) := by
  obtain ⟨q1, q2, q3, q4, q5⟩ := h.1 k hk
  obtain ⟨⟨a1, a2, a3, a4, a5, a6, a7, a8⟩, -, -⟩ := hm.1 k hk
  unfold yRn mRn
  rw [a1, a2, a3, h.2.1 _ (by omega), q1, h.2.2.2.2.1, yMxx_c, yMnn_c]
/-- rows of a step that is due, or is none -/
theorem yLb.stp (h : yLb K nb tg C M R) {k : Nat} (hm : yLmd C M R k) (hk : (k : Int) < (M 90 2).toInt) : (∀ a, a ≠ 84 → a < 94 → mReS R M k a = M a) ∧ (∀ a, a ≠ 84 → a ≠ yAd R 90 k → mReS R M k a = M a) ∧ ∀ f, f ≠ 6 → f ≠ 7 → mReS R M k (yAd R 90 k) f = M (yAd R 90 k) f := by
  obtain ⟨b1, b2, b3⟩ := h.ad hk
  refine ⟨fun a h1 h2 => mReS_row h1 (by omega), fun a h1 h2 => mReS_row h1 h2, fun f h1 h2 => ?_⟩
  unfold mReS
  split
  · rw [mReB_v (by omega)]; simp [h1, h2]
  · rfl
theorem yLb.step (h : yLb K nb tg C M R) {k : Nat} (hm : yLmd C M R k) (hk : (k : Int) < (M 90 2).toInt) : yLb K nb tg (yCoS C k) (mReS R M k) R := by
  obtain ⟨s1, s2, s3⟩ := h.stp hm hk
  obtain ⟨a1, a2, a3, a4, a5, a6, a7⟩ := h
  have hb := (a7.l90.2.2.2.2 k hk).2
  have r := fun {a : Nat} (h1 : a ≠ 39) (h6 : a ≠ 66) (h7 : a ≠ 67) (h8 : a ≠ 68) => yCoS_row (C := C) (k := k) h1 h6 h7 h8
  have hf : ∀ j : Nat, (j : Int) < (M 90 2).toInt → ∀ f, f ≠ 6 → f ≠ 7 → mReS R M k (yAd R 90 j) f = M (yAd R 90 j) f := fun j hj f h6 h7 => by
    have hbj := (a7.l90.2.2.2.2 j hj).2
    by_cases e : yAd R 90 j = yAd R 90 k
    · rw [e]; exact s3 f h6 h7
    · rw [s2 _ (by omega) e]
  unfold yLb
  rw [s1 90 (by decide) (by decide), s1 88 (by decide) (by decide), s1 83 (by decide) (by decide), r (a := 60) (by decide) (by decide) (by decide) (by decide), r (a := 62) (by decide) (by decide) (by decide) (by decide), r (a := 65) (by decide) (by decide) (by decide) (by decide), r (a := 41) (by decide) (by decide) (by decide) (by decide), r (a := 59) (by decide) (by decide) (by decide) (by decide), r (a := 34) (by decide) (by decide) (by decide) (by decide)]
  refine ⟨fun j hj => ?_, fun i hi => ?_, a3, a4, a5, a6, mReS_ri a7 hk⟩
  · rw [hf j hj 0 (by decide) (by decide), hf j hj 1 (by decide) (by decide), hf j hj 5 (by decide) (by decide)]
    exact a1 j hj
  · have ht := (a7.l88.2.2.2.2 i hi).2
    rw [s2 _ (by omega) (fun e => by rw [e] at ht; have := ht.2.2.symm.trans hb.2.2; cases this)]
    exact a2 i hi
theorem yLmd.step (h : yLb K nb tg C M R) {k : Nat} (hm : yLmd C M R k) (hk : (k : Int) < (M 90 2).toInt) : yLmd (yCoS C k) (mReS R M k) R (k + 1) := by
  obtain ⟨s1, s2, s3⟩ := h.stp hm hk
  have hdue := hm.due h hk
  have hrent := hm.rent h hk
  have hadk := h.ad hk
  have hN := h.2.2.2.2.2.2.1
  obtain ⟨p1, p2, p3, p4, p5⟩ := h.1 k hk
  have hday := h.2.2.2.1
  have r := fun {a : Nat} (h1 : a ≠ 39) (h6 : a ≠ 66) (h7 : a ≠ 67) (h8 : a ≠ 68) => yCoS_row (C := C) (k := k) h1 h6 h7 h8
  unfold yLmd
  rw [s1 90 (by decide) (by decide), s1 83 (by decide) (by decide)]
  refine ⟨fun j hj => ?_, fun j hj => ?_⟩
  · obtain ⟨⟨a1, a2, a3, a4, a5, a6, a7, a8⟩, hD, hE⟩ := hm.1 j hj
    have hadj := h.ad hj
    unfold yLs0 yLsD yLsE
    rw [r (a := 61) (by decide) (by decide) (by decide) (by decide), r (a := 41) (by decide) (by decide) (by decide) (by decide), r (a := 60) (by decide) (by decide) (by decide) (by decide), r (a := 63) (by decide) (by decide) (by decide) (by decide), r (a := 64) (by decide) (by decide) (by decide) (by decide), yCoS_v (a := 67) (by decide), yCoS_v (a := 68) (by decide), yCoS_v (a := 66) (by decide)]
    by_cases hjk : j = k
    · subst hjk
      obtain ⟨e1, e2⟩ := hE (Nat.le_refl _)
      rw [s3 2 (by decide) (by decide), s3 3 (by decide) (by decide), s3 4 (by decide) (by decide), s3 5 (by decide) (by decide)]
      by_cases hd : mDue M (yAd R 90 j)
      · have hc := hdue.2 hd
        have hst : mReS R M j = mReB M (yAd R 90 j) (yAd R 88 (M (yAd R 90 j) 0).toInt.toNat) := if_pos hd
        have hb6 : mReS R M j (yAd R 90 j) 6 = M (yAd R 90 j) 6 + Int32.ofInt 1 := by rw [hst, mReB_v (by omega)]; simp
        have hb7 : mReS R M j (yAd R 90 j) 7 = M (yAd R 90 j) 7 + mRn M (yAd R 90 j) (yAd R 88 (M (yAd R 90 j) 0).toInt.toNat) := by rw [hst, mReB_v (by omega)]; simp
        rw [if_pos hc, if_pos hc, if_pos hc, hb6, hb7, ← hrent, ← a4, ← a5]
        have h6 : (M (yAd R 90 j) 6).toInt ≤ 4000 := by omega
        have e66 : (C 66 j + Int32.ofInt 30).toInt = (C 66 j).toInt + 30 := by
          have e30 : (Int32.ofInt 30).toInt = 30 := by decide
          rw [yadd (by rw [e30]; omega) (by rw [e30]; omega), e30]
        have e67 : (C 67 j + Int32.ofInt 1).toInt = (C 67 j).toInt + 1 := by rw [a4]; exact yinc (by omega)
        refine ⟨⟨a1, a2, a3, by simp, by simp, ?_, a7, ?_⟩, fun _ => ⟨?_, fun q => ?_⟩, fun q => by omega⟩
        · rw [if_neg (show ¬ ((66 : Nat) = 68 ∧ j = j) from fun q => absurd q.1 (by decide)), if_neg (show ¬ ((66 : Nat) = 67 ∧ j = j) from fun q => absurd q.1 (by decide)), if_pos (show (66 : Nat) = 66 ∧ j = j from ⟨rfl, rfl⟩), e66, e67, a6, a4]; omega
        · rw [e67, a4]; omega
        · rw [e67, a4]; obtain ⟨c1, c2⟩ := hc; rw [a6] at c2; omega
        · rw [e67, a4]; obtain ⟨c1, c2⟩ := hc; rw [a6] at c2; omega
      · have hc : ¬ ((C 65 j).toInt = 0 ∧ (C 66 j).toInt = (C 34 8).toInt) := fun q => hd (hdue.1 q)
        have hst : mReS R M j = M := if_neg hd
        rw [if_neg hc, if_neg hc, if_neg hc, hst]
        refine ⟨⟨a1, a2, a3, a4, a5, a6, a7, a8⟩, fun _ => ⟨by omega, fun q => ?_⟩, fun q => by omega⟩
        have := e2 q
        rw [← p3] at q
        have : ¬ (C 66 j).toInt = (C 34 8).toInt := fun e => hc ⟨q, e⟩
        rw [a6] at this; omega
    · have hne : yAd R 90 j ≠ yAd R 90 k := fun e => hjk (h.inj hj hk e)
      rw [s2 _ (by omega) hne]
      simp only [hjk, and_false, if_false, ite_self]
      exact ⟨⟨a1, a2, a3, a4, a5, a6, a7, a8⟩, fun q => hD (by omega), fun q => hE (by omega)⟩
  · rw [yCoS_v (a := 67) (by decide), yCoS_v (a := 68) (by decide)]
    have hjk : j ≠ k := by omega
    simp only [hjk, and_false, if_false, ite_self]
    exact hm.2 j hj
/-- all leases of a day -/
theorem yLmd.all (h : yLb K nb tg C M R) (hm : yLmd C M R 0) : ∀ k : Nat, (k : Int) ≤ (M 90 2).toInt → yLb K nb tg (yRec yCoS C k) (yRec (mReS R) M k) R ∧ yLmd (yRec yCoS C k) (yRec (mReS R) M k) R k ∧ (yRec (mReS R) M k 90 2).toInt = (M 90 2).toInt
  | 0, _ => ⟨h, hm, rfl⟩
  | k + 1, hk => by
    obtain ⟨a1, a2, a3⟩ := yLmd.all h hm k (by omega)
    have hk' : (k : Int) < (yRec (mReS R) M k 90 2).toInt := by omega
    exact ⟨a1.step a2 hk', yLmd.step a1 a2 hk', by
      show (mReS R (yRec (mReS R) M k) k 90 2).toInt = _
      rw [(a1.stp a2 hk').1 90 (by decide) (by decide)]; exact a3⟩
theorem yDyB_row {a : Nat} (h1 : a ≠ 37) (h2 : a ≠ 76) : yDyB C a = C a := by
  unfold yDyB
  exact (yRec_keep fun J k _ _ => upd2_row h2).trans (upd2_row h1)
theorem yAlm_row {a : Nat} (h1 : a ≠ 38) (h2 : a ≠ 39) : yAlm C a = C a := by
  unfold yAlm
  split
  · exact yRec_keep fun J k _ _ => by
      unfold yAlS
      split
      · rw [upd2_row h1, upd2_row h2]
      · rfl
  · rfl
theorem yAlm_38 {k : Nat} (h1 : k ≠ 1) : yAlm C 38 k = C 38 k := by
  unfold yAlm
  split
  · exact yRec_ind (S := yAlS) (P := fun J => J 38 k = C 38 k) rfl fun J j _ hJ => by
      unfold yAlS
      split
      · rw [upd2_ne (.inr h1), upd2_ne (.inl (by decide))]; exact hJ
      · exact hJ
  · rfl
theorem yDyC_row {a : Nat} (h1 : a ≠ 39) (h6 : a ≠ 66) (h7 : a ≠ 67) (h8 : a ≠ 68) : yDyC C a = C a := yRec_keep fun J k _ _ => yCoS_row h1 h6 h7 h8
theorem yDy_row {a k : Nat} (h : a ≠ 34 ∧ a ≠ 37 ∧ a ≠ 38 ∧ a ≠ 39 ∧ a ≠ 66 ∧ a ≠ 67 ∧ a ≠ 68 ∧ a ≠ 76) : yDy C k a = C a := by
  obtain ⟨h1, h2, h3, h4, h5, h6, h7, h8⟩ := h
  unfold yDy
  rw [yAlm_row h3 h4, yDyC_row h4 h5 h6 h7]
  unfold yDyD
  rw [upd2_row h1, yDyB_row h2 h8]
theorem yDy_38 {k : Nat} : yDy C k 38 0 = C 38 0 := by
  unfold yDy
  rw [yAlm_38 (by decide), yDyC_row (by decide) (by decide) (by decide) (by decide)]
  unfold yDyD
  rw [upd2_row (by decide), yDyB_row (by decide) (by decide)]
theorem yDy_34 {k j : Nat} : yDy C k 34 j = if j = 8 then C 34 8 + Int32.ofInt 1 else C 34 j := by
  unfold yDy
  rw [yAlm_row (by decide) (by decide), yDyC_row (by decide) (by decide) (by decide) (by decide)]
  unfold yDyD
  rw [yDyB_row (by decide) (by decide)]
  unfold upd2
  simp [yDyB_row]
/-- a whole day -/
theorem yL6x.day (h : yL6x C M R) (hb : yLb K nb tg C M R) (hd : (M 83 1).toInt < 4000) {q : Nat} : yL6x (yDy C q) (mDyS R M q) R ∧ yLb K nb tg (yDy C q) (mDyS R M q) R := by
  have hri := mDy_ri hb.2.2.2.2.2.2 hd
  have hN := hb.2.2.2.2.2.2.1
  have m83 : ∀ k, mDyD (mWeD M) 83 k = if k = 1 then M 83 1 + Int32.ofInt 1 else M 83 k := fun k => by
    unfold mDyD
    rw [mWeD_row (by decide)]
    unfold upd2
    simp [mWeD_row]
  have mrow : ∀ a, a ≠ 83 → a ≠ 86 → mDyD (mWeD M) a = M a := fun a h1 h2 => by
    unfold mDyD
    rw [upd2_row h1, mWeD_row h2]
  have crow : ∀ a, a ≠ 34 → a ≠ 37 → a ≠ 76 → yDyD (yDyB C) a = C a := fun a h1 h2 h3 => by
    unfold yDyD
    rw [upd2_row h1, yDyB_row h2 h3]
  have c34 : ∀ k, yDyD (yDyB C) 34 k = if k = 8 then C 34 8 + Int32.ofInt 1 else C 34 k := fun k => by
    unfold yDyD
    rw [yDyB_row (by decide) (by decide)]
    unfold upd2
    simp [yDyB_row]
  have hM1 : (mDyD (mWeD M) 83 1).toInt = (M 83 1).toInt + 1 := by rw [m83, if_pos rfl, yinc (by omega)]
  have hC1 : (yDyD (yDyB C) 34 8).toInt = (M 83 1).toInt + 1 := by rw [c34, if_pos rfl, yinc (by have := hb.2.2.2.1; omega), hb.2.2.2.1]
  have hlo : ∀ j : Nat, (j : Int) < (M 90 2).toInt → mDyD (mWeD M) (yAd R 90 j) = M (yAd R 90 j) := fun j hj => by
    have := hb.ad hj
    exact mrow _ (by omega) (by omega)
  have hlt : ∀ i : Nat, (i : Int) < (M 88 2).toInt → mDyD (mWeD M) (yAd R 88 i) = M (yAd R 88 i) := fun i hi => by
    have := (hb.2.2.2.2.2.2.l88.2.2.2.2 i hi).2.1
    exact mrow _ (by omega) (by omega)
  have hb1 : yLb K nb tg (yDyD (yDyB C)) (mDyD (mWeD M)) R := by
    obtain ⟨a1, a2, a3, a4, a5, a6, a7⟩ := hb
    unfold yLb
    rw [mrow 90 (by decide) (by decide), mrow 88 (by decide) (by decide), crow 60 (by decide) (by decide) (by decide), crow 62 (by decide) (by decide) (by decide), crow 65 (by decide) (by decide) (by decide), crow 41 (by decide) (by decide) (by decide), crow 59 (by decide) (by decide) (by decide)]
    exact ⟨fun j hj => by rw [hlo j hj]; exact a1 j hj, fun i hi => by rw [hlt i hi]; exact a2 i hi, a3, by omega, by rw [c34, m83]; exact a5, a6, hri⟩
  have hm1 : yLmd (yDyD (yDyB C)) (mDyD (mWeD M)) R 0 := by
    unfold yLmd
    rw [mrow 90 (by decide) (by decide), crow 67 (by decide) (by decide) (by decide), crow 68 (by decide) (by decide) (by decide)]
    refine ⟨fun j hj => ?_, h.2⟩
    obtain ⟨q1, q2, q3⟩ := h.1 j hj
    unfold yLs0 yLsD yLsE
    rw [crow 61 (by decide) (by decide) (by decide), crow 41 (by decide) (by decide) (by decide), crow 60 (by decide) (by decide) (by decide), crow 63 (by decide) (by decide) (by decide), crow 64 (by decide) (by decide) (by decide), crow 67 (by decide) (by decide) (by decide), crow 68 (by decide) (by decide) (by decide), crow 66 (by decide) (by decide) (by decide), hlo j hj, hM1]
    exact ⟨q1, fun q => by omega, fun _ => ⟨by omega, fun q => by have := q3 q; omega⟩⟩
  have h59 : (yDyD (yDyB C) 59 0).toInt = (M 90 2).toInt := by rw [crow 59 (by decide) (by decide) (by decide)]; exact hb.2.2.1
  obtain ⟨a1, a2, a3⟩ := yLmd.all hb1 hm1 (M 90 2).toInt.toNat (by rw [mrow 90 (by decide) (by decide)]; omega)
  have eC : yDyC (yDyD (yDyB C)) = yRec yCoS (yDyD (yDyB C)) (M 90 2).toInt.toNat := by unfold yDyC; rw [h59]
  have eM : mReD R (mDyD (mWeD M)) = yRec (mReS R) (mDyD (mWeD M)) (M 90 2).toInt.toNat := by unfold mReD; rw [mrow 90 (by decide) (by decide)]
  rw [← eC, ← eM] at a1 a2
  rw [← eM, mrow 90 (by decide) (by decide)] at a3
  have hrow : ∀ a, a ≠ 83 → a ≠ 84 → mDyS R M q a = mReD R (mDyD (mWeD M)) a := fun a h1 h2 => mAlm_row h2 h1
  have h83 : ∀ k, k ≠ 2 → mDyS R M q 83 k = mReD R (mDyD (mWeD M)) 83 k := fun k hk => mAlm_83 hk
  have hcw : ∀ a, a ≠ 38 → a ≠ 39 → yDy C q a = yDyC (yDyD (yDyB C)) a := fun a h1 h2 => yAlm_row h1 h2
  have hlo2 : ∀ j : Nat, (j : Int) < (M 90 2).toInt → mDyS R M q (yAd R 90 j) = mReD R (mDyD (mWeD M)) (yAd R 90 j) := fun j hj => by
    have := hb.ad hj
    exact hrow _ (by omega) (by omega)
  have hlt2 : ∀ i : Nat, (i : Int) < (M 88 2).toInt → mDyS R M q (yAd R 88 i) = mReD R (mDyD (mWeD M)) (yAd R 88 i) := fun i hi => by
    have := (hb.2.2.2.2.2.2.l88.2.2.2.2 i hi).2.1
    exact hrow _ (by omega) (by omega)
  have m88 : (mReD R (mDyD (mWeD M)) 88 2).toInt = (M 88 2).toInt := by rw [mReD_lo hri (by decide) (by decide), mrow 88 (by decide) (by decide)]
  constructor
  · unfold yL6x
    rw [hrow 90 (by decide) (by decide), h83 1 (by decide), hcw 67 (by decide) (by decide), hcw 68 (by decide) (by decide)]
    refine ⟨fun j hj => ?_, a2.2⟩
    obtain ⟨q1, q2, -⟩ := a2.1 j hj
    have hj' : (j : Int) < (M 90 2).toInt := by omega
    unfold yLs0 at q1 ⊢
    unfold yLsD at q2 ⊢
    rw [hcw 61 (by decide) (by decide), hcw 41 (by decide) (by decide), hcw 60 (by decide) (by decide), hcw 63 (by decide) (by decide), hcw 64 (by decide) (by decide), hcw 67 (by decide) (by decide), hcw 68 (by decide) (by decide), hcw 66 (by decide) (by decide), hlo2 j hj']
    exact ⟨q1, q2 (by omega)⟩
  · obtain ⟨b1, b2, b3, b4, b5, b6, b7⟩ := a1
    unfold yLb
    rw [hrow 90 (by decide) (by decide), hrow 88 (by decide) (by decide), h83 1 (by decide), h83 4 (by decide), hcw 60 (by decide) (by decide), hcw 62 (by decide) (by decide), hcw 65 (by decide) (by decide), hcw 41 (by decide) (by decide), hcw 59 (by decide) (by decide), hcw 34 (by decide) (by decide)]
    exact ⟨fun j hj => by rw [hlo2 j (by omega)]; exact b1 j hj, fun i hi => by rw [hlt2 i (by omega)]; exact b2 i hi, b3, b4, b5, b6, mAlm_ri b7⟩
theorem yL6x.days (h : yL6x C M R) (hb : yLb K nb tg C M R) : ∀ m : Nat, (M 83 1).toInt + (m : Int) ≤ 4000 → yL6x (yRec yDy C m) (yRec (mDyS R) M m) R ∧ yLb K nb tg (yRec yDy C m) (yRec (mDyS R) M m) R
  | 0, _ => ⟨h, hb⟩
  | m + 1, hm => by
    obtain ⟨a1, a2⟩ := yL6x.days h hb m (by omega)
    exact a1.day a2 (by rw [(mPa_ri hb.2.2.2.2.2.2 m (by omega)).2.1]; omega)
end YDAY
section YRL6
variable {K n n1 : Nat} {tg tg1 : Nat → yT} {I Ia I1 : Nat → Nat → Int32} {R R1 : Nat → Nat → Value} {CH MCH : Nat → Nat → Int32}
theorem yR6.two {Ra : Nat → Nat → Value} (h : yR6 I R) (hF : yFu I Ia) (hRa : yRI K n tg Ia Ra) (hHa : yHr Ia Ra) (hLa : yLk I R Ra) (hK : yKp n tg Ia Ra n1 tg1 I1 R1) (hO : yOb4 Ia Ra I1) (hO5 : yOb5 Ia Ra I1) (hO6 : yOb6 Ia Ra I1) (hL : yLk Ia Ra R1) (hrl : yRl I1) (s1 : (I1 88 2).toInt = (I 88 2).toInt) (s2 : (I1 90 2).toInt = (I 90 2).toInt) (s5 : (I1 89 2).toInt = (I 89 2).toInt) (sd : (I1 83 1).toInt = (I 83 1).toInt) : yR6 I1 R1 := by
  have hhi : ∀ a, 83 ≤ a → Ia a = I a := fun a ha => funext fun k => hF a k (.inr (.inl ha))
  refine ⟨h.1.two hF hRa hHa hLa hK hO hO5 hL hrl s1 s2 s5, h.2.fr h.a s2 sd (fun a ha => (hK.2.2.1 a (p4.lo ha)).trans (funext fun k => hF a k (.inr (.inr (.inr ha))))) (fun j hj => ?_) fun l h1 h2 i hi => (hL l h1 h2 i (by rw [hhi l (by omega)]; exact hi)).trans (hLa l h1 h2 i hi)⟩
  have e := hO6 j (by rw [hhi 90 (by decide)]; exact hj)
  have hlo := (hRa.l90.2.2.2.2 j (by rw [hhi 90 (by decide)]; exact hj)).2.1
  rw [hLa 90 (by decide) (by decide) j hj] at e hlo
  rw [hhi _ (by omega)] at e
  exact e
theorem yR6.hold {k : Nat} {v : Value} {Ra : Nat → Nat → Value} (h : yR6 I R) (hR : yRI K n tg I R) (hI : ∀ a, a ≠ 36 → Ia a = I a) (eR : Ra = upd2 R 93 k v) (h83 : ∀ a, a < 83 → I1 a = Ia a) (hO : yOb4 Ia Ra I1) (hO5 : yOb5 Ia Ra I1) (hO6 : yOb6 Ia Ra I1) (hL : yLk Ia Ra R1) (hrl : yRl I1) (hH : yHr I1 R1) (s1 : (I1 88 2).toInt = (I 88 2).toInt) (s2 : (I1 90 2).toInt = (I 90 2).toInt) (s5 : (I1 89 2).toInt = (I 89 2).toInt) (sd : (I1 83 1).toInt = (I 83 1).toInt) : yR6 I1 R1 := by
  refine ⟨h.1.hold hR hI eR h83 hO hO5 hL hrl hH s1 s2 s5, ?_⟩
  subst eR
  refine h.2.fr h.a s2 sd (fun a ha => (h83 a (p4.lo ha)).trans (hI a (fun e => by subst e; cases ha))) (fun j hj => ?_) fun l h1 h2 i hi => (hL l h1 h2 i (by rw [hI l (by omega)]; exact hi)).trans (yLk.out hR l h1 h2 i hi)
  have e := hO6 j (by rw [hI 90 (by decide)]; exact hj)
  have hlo := (hR.l90.2.2.2.2 j hj).2.1
  rw [yLk.out hR 90 (by decide) (by decide) j hj, hI _ (by omega)] at e
  exact e
/-- a step of a method that leaves the leases' numbers alone -/
theorem yStp.l6 (S : yStp K n tg I I1 R R1 CH MCH) (h6 : yL6 I R) (hs : (I1 90 2).toInt = (I 90 2).toInt) (hd : (I1 83 1).toInt = (I 83 1).toInt) (h41 : ∀ i : Nat, (i : Int) < (I 40 0).toInt → CH 41 i = I 41 i) (h60 : CH 60 = I 60) (h61 : CH 61 = I 61) (h63 : CH 63 = I 63) (h64 : CH 64 = I 64) (h66 : CH 66 = I 66) (h67 : CH 67 = I 67) (h68 : CH 68 = I 68) (hm : ∀ j : Nat, (j : Int) < (I 90 2).toInt → MCH (yAd R 90 j) 2 = I (yAd R 90 j) 2 ∧ MCH (yAd R 90 j) 3 = I (yAd R 90 j) 3 ∧ MCH (yAd R 90 j) 4 = I (yAd R 90 j) 4 ∧ MCH (yAd R 90 j) 6 = I (yAd R 90 j) 6 ∧ MCH (yAd R 90 j) 7 = I (yAd R 90 j) 7 ∧ ((MCH (yAd R 90 j) 5).toInt = 0 → (I (yAd R 90 j) 5).toInt = 0)) : yL6 I1 R1 := by
  have c := fun {a : Nat} (h1 : 40 ≤ a) (h2 : a ≤ 68) => S.2.2.1 a h1 h2
  refine h6.mv (fun j hj => S.1.2.2.2.2.2.1 j (by have := S.1.1.2.2.2.2.2.2.2; omega)) hs hd (fun i hi => by rw [c (by decide) (by decide)]; exact h41 i hi) ((c (by decide) (by decide)).trans h60) ((c (by decide) (by decide)).trans h61) ((c (by decide) (by decide)).trans h63) ((c (by decide) (by decide)).trans h64) ((c (by decide) (by decide)).trans h66) ((c (by decide) (by decide)).trans h67) ((c (by decide) (by decide)).trans h68) (fun j hj => S.2.2.2.2.1 90 (by decide) (by decide) j hj) (fun j hj => ?_)
  obtain ⟨-, q0, q1, -⟩ := S.2.1.l90.2.2.2.2 j hj
  rw [S.2.2.2.1 _ q0 q1]
  exact hm j hj
/-- the cells of things, sales, leases that a day leaves alone -/
def p5 (a : Nat) : Bool := (Nat.ble 40 a && Nat.ble a 60) || (Nat.beq a 62 || Nat.beq a 65)
theorem yR5.mv (h : yR5 I R) (hp : ∀ a, p5 a = true → I1 a = I a) (hrl : yRl I1) (hH : yHr I1 R1) (s8 : (I1 88 2).toInt = (I 88 2).toInt) (s9 : (I1 89 2).toInt = (I 89 2).toInt) (s0 : (I1 90 2).toInt = (I 90 2).toInt) (hL : yLk I R R1) (hO : yOb4 I R I1) (hO5 : yOb5 I R I1) : yR5 I1 R1 := by
  obtain ⟨⟨h1, h2, h3, h4, h5, h6⟩, g1, g2, g3⟩ := h
  refine ⟨⟨hrl, hH, fun l hl i j hij hj => ?_, fun i hi f hf => ?_, fun j hj => ?_, ?_⟩, fun j hj f hf => ?_, fun i j hij hj => ?_, ?_⟩
  · have hj : (j : Int) < (I l 2).toInt := by rcases hl with rfl | rfl <;> omega
    have hlr : 87 ≤ l ∧ l ≤ 92 := by omega
    rw [hL l hlr.1 hlr.2 i (by omega), hL l hlr.1 hlr.2 j hj]
    exact h3 l hl i j hij hj
  · rw [s8] at hi
    have hpf : p5 (41 + f) = true := by
      rcases (by omega : f = 0 ∨ f = 1 ∨ f = 2 ∨ f = 3 ∨ f = 4 ∨ f = 5) with rfl | rfl | rfl | rfl | rfl | rfl <;> rfl
    rw [hL 88 (by decide) (by decide) i hi, hO.1 i hi f hf, hp _ hpf]
    exact h4 i hi f hf
  · rw [s0] at hj
    rw [hL 90 (by decide) (by decide) j hj]
    obtain ⟨q1, q2, q3⟩ := hO.2 j hj
    rw [q1, q2, q3, hp 60 rfl, hp 62 rfl, hp 65 rfl]
    exact h5 j hj
  · unfold yCo4 at h6 ⊢
    rw [hp 59 rfl, hp 60 rfl, hp 40 rfl, hp 65 rfl, hp 47 rfl, hp 44 rfl, hp 45 rfl]
    exact h6
  · rw [s9] at hj
    have hpf : p5 (ySc f) = true := by
      rcases (by omega : f = 0 ∨ f = 1 ∨ f = 2 ∨ f = 3 ∨ f = 4 ∨ f = 5 ∨ f = 6 ∨ f = 7 ∨ f = 8 ∨ f = 9) with rfl | rfl | rfl | rfl | rfl | rfl | rfl | rfl | rfl | rfl <;> rfl
    rw [hL 89 (by decide) (by decide) j hj, hO5 j hj f hf, hp _ hpf]
    exact g1 j hj f hf
  · rw [s9] at hj
    rw [hL 89 (by decide) (by decide) i (by omega), hL 89 (by decide) (by decide) j hj]
    exact g2 i j hij hj
  · unfold yCo5 at g3 ⊢
    rw [hp 48 rfl, hp 54 rfl, hp 55 rfl, hp 51 rfl, hp 52 rfl, hp 57 rfl, hp 58 rfl, hp 40 rfl, hp 41 rfl, hp 45 rfl]
    exact g3
/-- the class's numbers after days -/
theorem yDys_row {m a : Nat} (h : a ≠ 34 ∧ a ≠ 37 ∧ a ≠ 38 ∧ a ≠ 39 ∧ a ≠ 66 ∧ a ≠ 67 ∧ a ≠ 68 ∧ a ≠ 76) : yRec yDy I m a = I a := yRec_keep fun _ _ _ _ => yDy_row h
theorem yDys_34 : ∀ m : Nat, 0 ≤ (I 34 8).toInt → (I 34 8).toInt + (m : Int) ≤ 4000 → (yRec yDy I m 34 8).toInt = (I 34 8).toInt + (m : Int) ∧ yRec yDy I m 34 9 = I 34 9 ∧ yRec yDy I m 38 0 = I 38 0
  | 0, _, _ => ⟨by show (I 34 8).toInt = _; omega, rfl, rfl⟩
  | m + 1, h0, h => by
    obtain ⟨a1, a2, a3⟩ := yDys_34 m h0 (by omega)
    refine ⟨?_, ?_, yDy_38.trans a3⟩
    · show (yDy (yRec yDy I m) m 34 8).toInt = _
      rw [yDy_34, if_pos rfl, yinc (by omega)]; omega
    · show yDy (yRec yDy I m) m 34 9 = _
      rw [yDy_34, if_neg (by decide)]; exact a2
theorem yR6.pass {m : Nat} {z : Int32} {Ra : Nat → Nat → Value} {k : Nat} {v : Value} (h : yR6 I R) (hR : yRI K n tg I R) (hm : (I 83 1).toInt + (m : Int) ≤ 4000) (eA : Ia = yRec yDy I m) (eR : Ra = upd2 R 93 k v) (hK : yKp n tg Ia Ra n1 tg1 I1 R1) (hX : yX n tg (yRec (mDyS Ra) (upd2 Ia 83 0 z) m) Ra n1 tg1 I1 R1) : yR6 I1 R1 := by
  have hN := hR.1
  have h94 := hR.2.2.2.2.2.2
  obtain ⟨r1, r2, r3, r4, r5, r6, r7, r8⟩ := h.1.1.1
  obtain ⟨d1, d2, d3⟩ := yDys_34 (I := I) m (by omega) (by omega)
  have hFt : yFt I Ia := fun a j ha => by
    rw [eA]
    exact congrFun (yDys_row (by omega)) j
  have hhi : ∀ a, 83 ≤ a → Ia a = I a := fun a ha => hFt.hi ha
  have hRa : yRI K n tg Ia Ra := (hR.ft hFt).outR fun a ha => by rw [eR]; exact upd2_row ha
  have hR0 : yRI K n tg (upd2 Ia 83 0 z) Ra := hRa.mod0 rfl (by decide) (by decide)
  have hM83 : ∀ j, j ≠ 0 → upd2 Ia 83 0 z 83 j = I 83 j := fun j hj => by rw [upd2_ne (.inr hj), hhi 83 (by decide)]
  have hMr : ∀ a, 84 ≤ a → upd2 Ia 83 0 z a = I a := fun a ha => by rw [upd2_row (by omega), hhi a (by omega)]
  obtain ⟨p1, p2, p3, p4_⟩ := mPa_ri hR0 m (by rw [hM83 1 (by decide)]; exact hm)
  rw [hM83 1 (by decide)] at p2
  have hLa : yLk I R Ra := by rw [eR]; exact yLk.out hR
  have hLR : yLk I R R1 := fun l h1 h2 i hi => by
    have hlt := (hRa.lt6 l h1 h2)
    exact (yAd_eq (hX.2.1 l (by omega)).2.2 (hX.2.1 _ hlt).2.2).trans (hLa l h1 h2 i hi)
  have h90a : ∀ q : Nat, (q : Int) < (upd2 Ia 83 0 z 90 2).toInt → 94 ≤ yAd Ra 90 q ∧ yAd Ra 90 q < n ∧ tg (yAd Ra 90 q) = (18, 0) := fun q hq => (hR0.l90.2.2.2.2 q hq).2
  -- old cells that the days leave alone
  have hold : ∀ a, 84 ≤ a → a ≠ 84 → a ≠ 86 → a < n → (94 ≤ a → tg a ≠ (18, 0)) → I1 a = I a := fun a h1 h2 h3 h4 h5 => by
    rw [hX.n h4, p4_ a (by omega) h2 h3 (fun q hq e => ?_), hMr a h1]
    have := h90a q hq
    exact h5 (by omega) (by rw [e]; exact this.2.2)
  have s8 : I1 88 = I 88 := hold 88 (by decide) (by decide) (by decide) (by omega) (fun q => absurd q (by decide))
  have s9 : I1 89 = I 89 := hold 89 (by decide) (by decide) (by decide) (by omega) (fun q => absurd q (by decide))
  have s0 : I1 90 = I 90 := hold 90 (by decide) (by decide) (by decide) (by omega) (fun q => absurd q (by decide))
  have s1 : I1 91 = I 91 := hold 91 (by decide) (by decide) (by decide) (by omega) (fun q => absurd q (by decide))
  have s2 : I1 92 = I 92 := hold 92 (by decide) (by decide) (by decide) (by omega) (fun q => absurd q (by decide))
  have hlo : ∀ a, a < 83 → I1 a = Ia a := fun a ha => hK.2.2.1 a ha
  have hc : ∀ a, a < 83 → (a ≠ 34 ∧ a ≠ 37 ∧ a ≠ 38 ∧ a ≠ 39 ∧ a ≠ 66 ∧ a ≠ 67 ∧ a ≠ 68 ∧ a ≠ 76) → I1 a = I a := fun a h1 h2 => by rw [hlo a h1, eA]; exact yDys_row h2
  have g83 : ∀ j, I1 83 j = yRec (mDyS Ra) (upd2 Ia 83 0 z) m 83 j := fun j => by rw [hX.n (show 83 < n by omega)]
  have hrl : yRl I1 := by
    refine ⟨?_, ?_, ?_, ?_, ?_, ?_, ?_, ?_⟩
    · rw [hlo 34 (by decide), eA, d2, g83, p3 4 (by decide) (by decide), hM83 4 (by decide)]; exact r1
    · rw [hlo 34 (by decide), eA, d1, g83, p2]; omega
    · rw [hlo 38 (by decide), eA, d3, g83, p3 8 (by decide) (by decide), hM83 8 (by decide)]; exact r3
    · rw [hc 40 (by decide) (by decide), s8]; exact r4
    · rw [hc 69 (by decide) (by decide), s1]; exact r5
    · rw [hc 77 (by decide) (by decide), s2]; exact r6
    · rw [hc 48 (by decide) (by decide), s9]; exact r7
    · rw [hc 59 (by decide) (by decide), s0]; exact r8
  have hH : yHr I1 R1 := by
    have := yHr.a (k := k) (v := v) h.1.1 hR hFt
    rw [← eR] at this
    exact this.kp hK
  have hp5 : ∀ a, p5 a = true → I1 a = I a := fun a ha => by
    unfold p5 at ha
    simp only [Bool.or_eq_true, Bool.and_eq_true] at ha
    have : (40 ≤ a ∧ a ≤ 60) ∨ a = 62 ∨ a = 65 := by
      rcases ha with ⟨q1, q2⟩ | q | q
      · exact .inl ⟨Nat.le_of_ble_eq_true q1, Nat.le_of_ble_eq_true q2⟩
      · exact .inr (.inl (Nat.eq_of_beq_eq_true q))
      · exact .inr (.inr (Nat.eq_of_beq_eq_true q))
    exact hc a (by omega) (by omega)
  -- the leases, through the days
  have h0L : yL6x I (upd2 Ia 83 0 z) Ra := by
    unfold yL6x
    rw [hMr 90 (by decide), hM83 1 (by decide)]
    refine ⟨fun j hj => ?_, h.2.2⟩
    have hq := (hR.l90.2.2.2.2 j hj).2.1
    have hr := h.2.1 j hj
    unfold yLs0 yLsD at hr ⊢
    rw [hLa 90 (by decide) (by decide) j hj, hMr _ (by omega)]
    exact hr
  have h0b : yLb K n tg I (upd2 Ia 83 0 z) Ra := by
    unfold yLb
    rw [hMr 90 (by decide), hMr 88 (by decide), hM83 1 (by decide), hM83 4 (by decide)]
    refine ⟨fun j hj => ?_, fun i hi => ?_, by omega, by omega, yext r1, fun i j hij hj => ?_, hR0⟩
    · have hq := (hR.l90.2.2.2.2 j hj).2.1
      obtain ⟨q1, q2, q3⟩ := h.1.1.2.2.2.2.1 j hj
      have hA := h.a j hj
      rw [hLa 90 (by decide) (by decide) j hj, hMr _ (by omega)]
      exact ⟨q1, q2, q3, hA.1, by omega⟩
    · have hq := (hR.l88.2.2.2.2 i hi).2.1
      rw [hLa 88 (by decide) (by decide) i hi, hMr _ (by omega)]
      exact h.1.1.2.2.2.1 i hi 0 (by decide)
    · rw [hLa 90 (by decide) (by decide) i (by omega), hLa 90 (by decide) (by decide) j hj]
      exact h.1.1.2.2.1 90 (.inr rfl) i j hij hj
  obtain ⟨f1, f2⟩ := h0L.days h0b m (by rw [hM83 1 (by decide)]; exact hm)
  have g90 : yRec (mDyS Ra) (upd2 Ia 83 0 z) m 90 = I 90 := by rw [← hX.n (show 90 < n by omega)]; exact s0
  have gEl : ∀ j : Nat, (j : Int) < (I 90 2).toInt → I1 (yAd R 90 j) = yRec (mDyS Ra) (upd2 Ia 83 0 z) m (yAd R 90 j) := fun j hj => hX.n (hR.l90.2.2.2.2 j hj).2.2.1
  refine ⟨h.1.mv hp5 hrl hH (by rw [s8]) (by rw [s9]) (by rw [s0]) hLR ⟨fun i hi f hf => ?_, fun j hj => ?_⟩ (fun j hj f hf => ?_), ?_⟩
  · obtain ⟨-, q0, q1, q2⟩ := hR.l88.2.2.2.2 i hi
    rw [hold _ (by omega) (by omega) (by omega) q1 (fun _ => by rw [q2]; decide)]
  · obtain ⟨q1, q2, q3, -⟩ := f2.1 j (by rw [g90]; exact hj)
    obtain ⟨t1, t2, t3⟩ := h.1.1.2.2.2.2.1 j hj
    rw [hLa 90 (by decide) (by decide) j hj] at q1 q2 q3
    rw [gEl j hj, ← q1, ← q2, ← q3, yDys_row (by decide), yDys_row (by decide), yDys_row (by decide)]
    exact ⟨t1, t2, t3⟩
  · obtain ⟨-, q0, q1, q2⟩ := hR.l89.2.2.2.2 j hj
    rw [hold _ (by omega) (by omega) (by omega) q1 (fun _ => by rw [q2]; decide)]
  · unfold yL6 yL6x
    unfold yL6x at f1
    rw [g90] at f1
    have hr := fun {a : Nat} (ha : a < 83) => (hlo a ha).trans (congrFun eA a)
    rw [s0, hr (a := 67) (by decide), hr (a := 68) (by decide)]
    refine ⟨fun j hj => ?_, f1.2⟩
    have hq := f1.1 j hj
    unfold yLs0 yLsD at hq ⊢
    rw [hLa 90 (by decide) (by decide) j hj] at hq
    rw [hLR 90 (by decide) (by decide) j hj, gEl j hj, hr (a := 61) (by decide), hr (a := 41) (by decide), hr (a := 60) (by decide), hr (a := 63) (by decide), hr (a := 64) (by decide), hr (a := 66) (by decide), hr (a := 67) (by decide), hr (a := 68) (by decide), g83 1]
    exact hq
theorem y30p {a : Int32} (h0 : 0 ≤ a.toInt) (h1 : a.toInt ≤ 4000) : (a + Int32.ofInt 30).toInt = a.toInt + 30 := by
  have e30 : (Int32.ofInt 30).toInt = 30 := by decide
  rw [yadd (by rw [e30]; omega) (by rw [e30]; omega), e30]
theorem rel6_buy {x b : Nat} (hx : (x : Int) < (I 40 0).toInt) (hb : b = yAd R 88 x) (hs : (I1 90 2).toInt = (I 90 2).toInt) (h6 : yL6 I R) (hdy : (I1 83 1).toInt = (I 83 1).toInt) (S : yStp K n tg I I1 R R1 (upd2 (upd2 (upd2 (upd2 I 45 x (I 41 x)) 46 x (I 42 x)) 42 x (Int32.ofInt 8)) 43 x (Int32.ofInt 0)) (upd2 (upd2 (upd2 (upd2 I b 4 (I b 0)) b 5 (I b 1)) b 1 (Int32.ofInt 8)) b 2 (Int32.ofInt 0))) : yL6 I1 R1 := by
  refine S.l6 h6 hs hdy (fun i _ => congrFun (show (upd2 (upd2 (upd2 (upd2 I 45 x (I 41 x)) 46 x (I 42 x)) 42 x (Int32.ofInt 8)) 43 x (Int32.ofInt 0)) 41 = I 41 from by first | rfl | (repeat rw [upd2_row (by decide)])) i) (show (upd2 (upd2 (upd2 (upd2 I 45 x (I 41 x)) 46 x (I 42 x)) 42 x (Int32.ofInt 8)) 43 x (Int32.ofInt 0)) 60 = I 60 from by first | rfl | (repeat rw [upd2_row (by decide)])) (show (upd2 (upd2 (upd2 (upd2 I 45 x (I 41 x)) 46 x (I 42 x)) 42 x (Int32.ofInt 8)) 43 x (Int32.ofInt 0)) 61 = I 61 from by first | rfl | (repeat rw [upd2_row (by decide)])) (show (upd2 (upd2 (upd2 (upd2 I 45 x (I 41 x)) 46 x (I 42 x)) 42 x (Int32.ofInt 8)) 43 x (Int32.ofInt 0)) 63 = I 63 from by first | rfl | (repeat rw [upd2_row (by decide)])) (show (upd2 (upd2 (upd2 (upd2 I 45 x (I 41 x)) 46 x (I 42 x)) 42 x (Int32.ofInt 8)) 43 x (Int32.ofInt 0)) 64 = I 64 from by first | rfl | (repeat rw [upd2_row (by decide)])) (show (upd2 (upd2 (upd2 (upd2 I 45 x (I 41 x)) 46 x (I 42 x)) 42 x (Int32.ofInt 8)) 43 x (Int32.ofInt 0)) 66 = I 66 from by first | rfl | (repeat rw [upd2_row (by decide)])) (show (upd2 (upd2 (upd2 (upd2 I 45 x (I 41 x)) 46 x (I 42 x)) 42 x (Int32.ofInt 8)) 43 x (Int32.ofInt 0)) 67 = I 67 from by first | rfl | (repeat rw [upd2_row (by decide)])) (show (upd2 (upd2 (upd2 (upd2 I 45 x (I 41 x)) 46 x (I 42 x)) 42 x (Int32.ofInt 8)) 43 x (Int32.ofInt 0)) 68 = I 68 from by first | rfl | (repeat rw [upd2_row (by decide)])) (fun j hj => ?_)
  have hne_b : yAd R 90 j ≠ b := by rw [hb]; exact fun e => S.2.1.ne8890 (i := x) (by have := S.1.1.2.2.2.1; omega) hj e.symm
  rw [upd2_row hne_b, upd2_row hne_b, upd2_row hne_b, upd2_row hne_b]
  exact ⟨rfl, rfl, rfl, rfl, rfl, id⟩
theorem rel6_take {x b : Nat} (hx : (x : Int) < (I 40 0).toInt) (hb : b = yAd R 88 x) (hs : (I1 90 2).toInt = (I 90 2).toInt) (h6 : yL6 I R) (hdy : (I1 83 1).toInt = (I 83 1).toInt) (S : yStp K n tg I I1 R R1 (upd2 I 43 x (Int32.ofInt 1)) (upd2 I b 2 (Int32.ofInt 1))) : yL6 I1 R1 := by
  refine S.l6 h6 hs hdy (fun i _ => congrFun (show (upd2 I 43 x (Int32.ofInt 1)) 41 = I 41 from by first | rfl | (repeat rw [upd2_row (by decide)])) i) (show (upd2 I 43 x (Int32.ofInt 1)) 60 = I 60 from by first | rfl | (repeat rw [upd2_row (by decide)])) (show (upd2 I 43 x (Int32.ofInt 1)) 61 = I 61 from by first | rfl | (repeat rw [upd2_row (by decide)])) (show (upd2 I 43 x (Int32.ofInt 1)) 63 = I 63 from by first | rfl | (repeat rw [upd2_row (by decide)])) (show (upd2 I 43 x (Int32.ofInt 1)) 64 = I 64 from by first | rfl | (repeat rw [upd2_row (by decide)])) (show (upd2 I 43 x (Int32.ofInt 1)) 66 = I 66 from by first | rfl | (repeat rw [upd2_row (by decide)])) (show (upd2 I 43 x (Int32.ofInt 1)) 67 = I 67 from by first | rfl | (repeat rw [upd2_row (by decide)])) (show (upd2 I 43 x (Int32.ofInt 1)) 68 = I 68 from by first | rfl | (repeat rw [upd2_row (by decide)])) (fun j hj => ?_)
  have hne_b : yAd R 90 j ≠ b := by rw [hb]; exact fun e => S.2.1.ne8890 (i := x) (by have := S.1.1.2.2.2.1; omega) hj e.symm
  rw [upd2_row hne_b]
  exact ⟨rfl, rfl, rfl, rfl, rfl, id⟩
theorem rel6_ruinA {x b : Nat} (hx : (x : Int) < (I 40 0).toInt) (hb : b = yAd R 88 x) (hl : (I 47 x).toInt = -1) (hs : (I1 90 2).toInt = (I 90 2).toInt) (h6 : yL6 I R) (hdy : (I1 83 1).toInt = (I 83 1).toInt) (S : yStp K n tg I I1 R R1 (upd2 (upd2 I 47 x (Int32.ofInt (-1))) 44 x (Int32.ofInt 1)) (upd2 I b 3 (Int32.ofInt 1))) : yL6 I1 R1 := by
  refine S.l6 h6 hs hdy (fun i _ => congrFun (show (upd2 (upd2 I 47 x (Int32.ofInt (-1))) 44 x (Int32.ofInt 1)) 41 = I 41 from by first | rfl | (repeat rw [upd2_row (by decide)])) i) (show (upd2 (upd2 I 47 x (Int32.ofInt (-1))) 44 x (Int32.ofInt 1)) 60 = I 60 from by first | rfl | (repeat rw [upd2_row (by decide)])) (show (upd2 (upd2 I 47 x (Int32.ofInt (-1))) 44 x (Int32.ofInt 1)) 61 = I 61 from by first | rfl | (repeat rw [upd2_row (by decide)])) (show (upd2 (upd2 I 47 x (Int32.ofInt (-1))) 44 x (Int32.ofInt 1)) 63 = I 63 from by first | rfl | (repeat rw [upd2_row (by decide)])) (show (upd2 (upd2 I 47 x (Int32.ofInt (-1))) 44 x (Int32.ofInt 1)) 64 = I 64 from by first | rfl | (repeat rw [upd2_row (by decide)])) (show (upd2 (upd2 I 47 x (Int32.ofInt (-1))) 44 x (Int32.ofInt 1)) 66 = I 66 from by first | rfl | (repeat rw [upd2_row (by decide)])) (show (upd2 (upd2 I 47 x (Int32.ofInt (-1))) 44 x (Int32.ofInt 1)) 67 = I 67 from by first | rfl | (repeat rw [upd2_row (by decide)])) (show (upd2 (upd2 I 47 x (Int32.ofInt (-1))) 44 x (Int32.ofInt 1)) 68 = I 68 from by first | rfl | (repeat rw [upd2_row (by decide)])) (fun j hj => ?_)
  have hne_b : yAd R 90 j ≠ b := by rw [hb]; exact fun e => S.2.1.ne8890 (i := x) (by have := S.1.1.2.2.2.1; omega) hj e.symm
  rw [upd2_row hne_b]
  exact ⟨rfl, rfl, rfl, rfl, rfl, id⟩
theorem rel6_ruinB {x b l d : Nat} (hx : (x : Int) < (I 40 0).toInt) (hb : b = yAd R 88 x) (hl : (I 47 x).toInt = (l : Int)) (hln : (l : Int) < (I 59 0).toInt) (hd : d = yAd R 90 l) (hs : (I1 90 2).toInt = (I 90 2).toInt) (h6 : yL6 I R) (hdy : (I1 83 1).toInt = (I 83 1).toInt) (S : yStp K n tg I I1 R R1 (upd2 (upd2 (upd2 I 65 l (Int32.ofInt 1)) 47 x (Int32.ofInt (-1))) 44 x (Int32.ofInt 1)) (upd2 (upd2 I b 3 (Int32.ofInt 1)) d 5 (Int32.ofInt 1))) : yL6 I1 R1 := by
  refine S.l6 h6 hs hdy (fun i _ => congrFun (show (upd2 (upd2 (upd2 I 65 l (Int32.ofInt 1)) 47 x (Int32.ofInt (-1))) 44 x (Int32.ofInt 1)) 41 = I 41 from by first | rfl | (repeat rw [upd2_row (by decide)])) i) (show (upd2 (upd2 (upd2 I 65 l (Int32.ofInt 1)) 47 x (Int32.ofInt (-1))) 44 x (Int32.ofInt 1)) 60 = I 60 from by first | rfl | (repeat rw [upd2_row (by decide)])) (show (upd2 (upd2 (upd2 I 65 l (Int32.ofInt 1)) 47 x (Int32.ofInt (-1))) 44 x (Int32.ofInt 1)) 61 = I 61 from by first | rfl | (repeat rw [upd2_row (by decide)])) (show (upd2 (upd2 (upd2 I 65 l (Int32.ofInt 1)) 47 x (Int32.ofInt (-1))) 44 x (Int32.ofInt 1)) 63 = I 63 from by first | rfl | (repeat rw [upd2_row (by decide)])) (show (upd2 (upd2 (upd2 I 65 l (Int32.ofInt 1)) 47 x (Int32.ofInt (-1))) 44 x (Int32.ofInt 1)) 64 = I 64 from by first | rfl | (repeat rw [upd2_row (by decide)])) (show (upd2 (upd2 (upd2 I 65 l (Int32.ofInt 1)) 47 x (Int32.ofInt (-1))) 44 x (Int32.ofInt 1)) 66 = I 66 from by first | rfl | (repeat rw [upd2_row (by decide)])) (show (upd2 (upd2 (upd2 I 65 l (Int32.ofInt 1)) 47 x (Int32.ofInt (-1))) 44 x (Int32.ofInt 1)) 67 = I 67 from by first | rfl | (repeat rw [upd2_row (by decide)])) (show (upd2 (upd2 (upd2 I 65 l (Int32.ofInt 1)) 47 x (Int32.ofInt (-1))) 44 x (Int32.ofInt 1)) 68 = I 68 from by first | rfl | (repeat rw [upd2_row (by decide)])) (fun j hj => ?_)
  have hne_b : yAd R 90 j ≠ b := by rw [hb]; exact fun e => S.2.1.ne8890 (i := x) (by have := S.1.1.2.2.2.1; omega) hj e.symm
  have h2 : ∀ f, f ≠ 5 → (upd2 (upd2 I b 3 (Int32.ofInt 1)) d 5 (Int32.ofInt 1)) (yAd R 90 j) f = I (yAd R 90 j) f := fun f hf => by simp [upd2, hne_b, hf]
  refine ⟨h2 2 (by decide), h2 3 (by decide), h2 4 (by decide), h2 6 (by decide), h2 7 (by decide), fun q => ?_⟩
  by_cases hjd : yAd R 90 j = d
  · have hz : (upd2 (upd2 I b 3 (Int32.ofInt 1)) d 5 (Int32.ofInt 1)) (yAd R 90 j) 5 = Int32.ofInt 1 := by rw [hjd] at hne_b ⊢; simp [upd2, hne_b]
    rw [hz] at q
    exact absurd q (by decide)
  · have hz : (upd2 (upd2 I b 3 (Int32.ofInt 1)) d 5 (Int32.ofInt 1)) (yAd R 90 j) 5 = I (yAd R 90 j) 5 := by simp [upd2, hjd, hne_b]
    rw [hz] at q
    exact q
theorem rel6_endA {x l d : Nat} (hln : (l : Int) < (I 59 0).toInt) (ho : (I 65 l).toInt = 0) (hx : x = (I 60 l).toInt.toNat) (hd : d = yAd R 90 l) (hs : (I1 90 2).toInt = (I 90 2).toInt) (h6 : yL6 I R) (hdy : (I1 83 1).toInt = (I 83 1).toInt) (S : yStp K n tg I I1 R R1 (upd2 (upd2 I 65 l (Int32.ofInt 1)) 47 x (Int32.ofInt (-1))) (upd2 I d 5 (Int32.ofInt 1))) : yL6 I1 R1 := by
  refine S.l6 h6 hs hdy (fun i _ => congrFun (show (upd2 (upd2 I 65 l (Int32.ofInt 1)) 47 x (Int32.ofInt (-1))) 41 = I 41 from by first | rfl | (repeat rw [upd2_row (by decide)])) i) (show (upd2 (upd2 I 65 l (Int32.ofInt 1)) 47 x (Int32.ofInt (-1))) 60 = I 60 from by first | rfl | (repeat rw [upd2_row (by decide)])) (show (upd2 (upd2 I 65 l (Int32.ofInt 1)) 47 x (Int32.ofInt (-1))) 61 = I 61 from by first | rfl | (repeat rw [upd2_row (by decide)])) (show (upd2 (upd2 I 65 l (Int32.ofInt 1)) 47 x (Int32.ofInt (-1))) 63 = I 63 from by first | rfl | (repeat rw [upd2_row (by decide)])) (show (upd2 (upd2 I 65 l (Int32.ofInt 1)) 47 x (Int32.ofInt (-1))) 64 = I 64 from by first | rfl | (repeat rw [upd2_row (by decide)])) (show (upd2 (upd2 I 65 l (Int32.ofInt 1)) 47 x (Int32.ofInt (-1))) 66 = I 66 from by first | rfl | (repeat rw [upd2_row (by decide)])) (show (upd2 (upd2 I 65 l (Int32.ofInt 1)) 47 x (Int32.ofInt (-1))) 67 = I 67 from by first | rfl | (repeat rw [upd2_row (by decide)])) (show (upd2 (upd2 I 65 l (Int32.ofInt 1)) 47 x (Int32.ofInt (-1))) 68 = I 68 from by first | rfl | (repeat rw [upd2_row (by decide)])) (fun j hj => ?_)
  have h2 : ∀ f, f ≠ 5 → (upd2 I d 5 (Int32.ofInt 1)) (yAd R 90 j) f = I (yAd R 90 j) f := fun f hf => by simp [upd2, hf]
  refine ⟨h2 2 (by decide), h2 3 (by decide), h2 4 (by decide), h2 6 (by decide), h2 7 (by decide), fun q => ?_⟩
  by_cases hjd : yAd R 90 j = d
  · have hz : (upd2 I d 5 (Int32.ofInt 1)) (yAd R 90 j) 5 = Int32.ofInt 1 := by rw [hjd]; simp [upd2]
    rw [hz] at q
    exact absurd q (by decide)
  · have hz : (upd2 I d 5 (Int32.ofInt 1)) (yAd R 90 j) 5 = I (yAd R 90 j) 5 := by simp [upd2, hjd]
    rw [hz] at q
    exact q
theorem rel6_endB {x b l d : Nat} (hln : (l : Int) < (I 59 0).toInt) (ho : (I 65 l).toInt = 0) (hx : x = (I 60 l).toInt.toNat) (hd : d = yAd R 90 l) (hb : b = yAd R 88 x) (hs : (I1 90 2).toInt = (I 90 2).toInt) (h6 : yL6 I R) (hdy : (I1 83 1).toInt = (I 83 1).toInt) (S : yStp K n tg I I1 R R1 (upd2 (upd2 (upd2 (upd2 I 65 l (Int32.ofInt 1)) 47 x (Int32.ofInt (-1))) 42 x (I 62 l)) 43 x (Int32.ofInt 1)) (upd2 (upd2 (upd2 I d 5 (Int32.ofInt 1)) b 1 (I d 1)) b 2 (Int32.ofInt 1))) : yL6 I1 R1 := by
  refine S.l6 h6 hs hdy (fun i _ => congrFun (show (upd2 (upd2 (upd2 (upd2 I 65 l (Int32.ofInt 1)) 47 x (Int32.ofInt (-1))) 42 x (I 62 l)) 43 x (Int32.ofInt 1)) 41 = I 41 from by first | rfl | (repeat rw [upd2_row (by decide)])) i) (show (upd2 (upd2 (upd2 (upd2 I 65 l (Int32.ofInt 1)) 47 x (Int32.ofInt (-1))) 42 x (I 62 l)) 43 x (Int32.ofInt 1)) 60 = I 60 from by first | rfl | (repeat rw [upd2_row (by decide)])) (show (upd2 (upd2 (upd2 (upd2 I 65 l (Int32.ofInt 1)) 47 x (Int32.ofInt (-1))) 42 x (I 62 l)) 43 x (Int32.ofInt 1)) 61 = I 61 from by first | rfl | (repeat rw [upd2_row (by decide)])) (show (upd2 (upd2 (upd2 (upd2 I 65 l (Int32.ofInt 1)) 47 x (Int32.ofInt (-1))) 42 x (I 62 l)) 43 x (Int32.ofInt 1)) 63 = I 63 from by first | rfl | (repeat rw [upd2_row (by decide)])) (show (upd2 (upd2 (upd2 (upd2 I 65 l (Int32.ofInt 1)) 47 x (Int32.ofInt (-1))) 42 x (I 62 l)) 43 x (Int32.ofInt 1)) 64 = I 64 from by first | rfl | (repeat rw [upd2_row (by decide)])) (show (upd2 (upd2 (upd2 (upd2 I 65 l (Int32.ofInt 1)) 47 x (Int32.ofInt (-1))) 42 x (I 62 l)) 43 x (Int32.ofInt 1)) 66 = I 66 from by first | rfl | (repeat rw [upd2_row (by decide)])) (show (upd2 (upd2 (upd2 (upd2 I 65 l (Int32.ofInt 1)) 47 x (Int32.ofInt (-1))) 42 x (I 62 l)) 43 x (Int32.ofInt 1)) 67 = I 67 from by first | rfl | (repeat rw [upd2_row (by decide)])) (show (upd2 (upd2 (upd2 (upd2 I 65 l (Int32.ofInt 1)) 47 x (Int32.ofInt (-1))) 42 x (I 62 l)) 43 x (Int32.ofInt 1)) 68 = I 68 from by first | rfl | (repeat rw [upd2_row (by decide)])) (fun j hj => ?_)
  have hne_b : yAd R 90 j ≠ b := by rw [hb]; exact fun e => S.2.1.ne8890 (i := x) (by have := S.1.1.2.2.2.1; have := S.1.2.2.2.2.2.1 l hln; omega) hj e.symm
  have h2 : ∀ f, f ≠ 5 → (upd2 (upd2 (upd2 I d 5 (Int32.ofInt 1)) b 1 (I d 1)) b 2 (Int32.ofInt 1)) (yAd R 90 j) f = I (yAd R 90 j) f := fun f hf => by simp [upd2, hne_b, hf]
  refine ⟨h2 2 (by decide), h2 3 (by decide), h2 4 (by decide), h2 6 (by decide), h2 7 (by decide), fun q => ?_⟩
  by_cases hjd : yAd R 90 j = d
  · have hz : (upd2 (upd2 (upd2 I d 5 (Int32.ofInt 1)) b 1 (I d 1)) b 2 (Int32.ofInt 1)) (yAd R 90 j) 5 = Int32.ofInt 1 := by rw [hjd] at hne_b ⊢; simp [upd2, hne_b]
    rw [hz] at q
    exact absurd q (by decide)
  · have hz : (upd2 (upd2 (upd2 I d 5 (Int32.ofInt 1)) b 1 (I d 1)) b 2 (Int32.ofInt 1)) (yAd R 90 j) 5 = I (yAd R 90 j) 5 := by simp [upd2, hjd, hne_b]
    rw [hz] at q
    exact q
theorem rel6_thing {k y : Nat} {x1 own : Int32} (hk : (k : Int) = (I 40 0).toInt) (h16 : (I 40 0).toInt < 16) (hy : y = yAd R1 88 (I 88 2).toInt.toNat) (hny : n ≤ y) (f0 : I1 y 0 = x1) (f1 : I1 y 1 = own) (f2 : I1 y 2 = Int32.ofInt 1) (f3 : I1 y 3 = Int32.ofInt 0) (f4 : I1 y 4 = Int32.ofInt 0) (f5 : I1 y 5 = Int32.ofInt (-1)) (hs : (I1 90 2).toInt = (I 90 2).toInt) (h6 : yL6 I R) (hdy : (I1 83 1).toInt = (I 83 1).toInt) (S : yStp K n tg I I1 R R1 (upd2 (upd2 (upd2 (upd2 (upd2 (upd2 I 41 k x1) 42 k own) 43 k (Int32.ofInt 1)) 46 k (Int32.ofInt (-1))) 47 k (Int32.ofInt (-1))) 40 0 (I 40 0 + Int32.ofInt 1)) I) : yL6 I1 R1 := by
  refine S.l6 h6 hs hdy (fun i hi => by
      have hik : i ≠ k := by omega
      simp [upd2, hik]) (show (upd2 (upd2 (upd2 (upd2 (upd2 (upd2 I 41 k x1) 42 k own) 43 k (Int32.ofInt 1)) 46 k (Int32.ofInt (-1))) 47 k (Int32.ofInt (-1))) 40 0 (I 40 0 + Int32.ofInt 1)) 60 = I 60 from by first | rfl | (repeat rw [upd2_row (by decide)])) (show (upd2 (upd2 (upd2 (upd2 (upd2 (upd2 I 41 k x1) 42 k own) 43 k (Int32.ofInt 1)) 46 k (Int32.ofInt (-1))) 47 k (Int32.ofInt (-1))) 40 0 (I 40 0 + Int32.ofInt 1)) 61 = I 61 from by first | rfl | (repeat rw [upd2_row (by decide)])) (show (upd2 (upd2 (upd2 (upd2 (upd2 (upd2 I 41 k x1) 42 k own) 43 k (Int32.ofInt 1)) 46 k (Int32.ofInt (-1))) 47 k (Int32.ofInt (-1))) 40 0 (I 40 0 + Int32.ofInt 1)) 63 = I 63 from by first | rfl | (repeat rw [upd2_row (by decide)])) (show (upd2 (upd2 (upd2 (upd2 (upd2 (upd2 I 41 k x1) 42 k own) 43 k (Int32.ofInt 1)) 46 k (Int32.ofInt (-1))) 47 k (Int32.ofInt (-1))) 40 0 (I 40 0 + Int32.ofInt 1)) 64 = I 64 from by first | rfl | (repeat rw [upd2_row (by decide)])) (show (upd2 (upd2 (upd2 (upd2 (upd2 (upd2 I 41 k x1) 42 k own) 43 k (Int32.ofInt 1)) 46 k (Int32.ofInt (-1))) 47 k (Int32.ofInt (-1))) 40 0 (I 40 0 + Int32.ofInt 1)) 66 = I 66 from by first | rfl | (repeat rw [upd2_row (by decide)])) (show (upd2 (upd2 (upd2 (upd2 (upd2 (upd2 I 41 k x1) 42 k own) 43 k (Int32.ofInt 1)) 46 k (Int32.ofInt (-1))) 47 k (Int32.ofInt (-1))) 40 0 (I 40 0 + Int32.ofInt 1)) 67 = I 67 from by first | rfl | (repeat rw [upd2_row (by decide)])) (show (upd2 (upd2 (upd2 (upd2 (upd2 (upd2 I 41 k x1) 42 k own) 43 k (Int32.ofInt 1)) 46 k (Int32.ofInt (-1))) 47 k (Int32.ofInt (-1))) 40 0 (I 40 0 + Int32.ofInt 1)) 68 = I 68 from by first | rfl | (repeat rw [upd2_row (by decide)])) (fun j hj => ?_)
  exact ⟨rfl, rfl, rfl, rfl, rfl, id⟩
theorem rel6_sellA {k x b : Nat} {y1 y2 y3 y4 y5 y6 y7 y8 x2 : Int32} (hx : (x : Int) < (I 40 0).toInt) (hb : b = yAd R 88 x) (hs : (I1 90 2).toInt = (I 90 2).toInt) (h6 : yL6 I R) (hdy : (I1 83 1).toInt = (I 83 1).toInt) (S : yStp K n tg I I1 R R1 (upd2 (upd2 (upd2 (upd2 (upd2 (upd2 (upd2 (upd2 (upd2 (upd2 I 49 k y1) 50 k y2) 51 k y3) 52 k y4) 53 k y5) 54 k y6) 56 k y7) 48 0 y8) 42 x x2) 43 x (Int32.ofInt 1)) (upd2 (upd2 I b 1 x2) b 2 (Int32.ofInt 1))) : yL6 I1 R1 := by
  refine S.l6 h6 hs hdy (fun i _ => congrFun (show (upd2 (upd2 (upd2 (upd2 (upd2 (upd2 (upd2 (upd2 (upd2 (upd2 I 49 k y1) 50 k y2) 51 k y3) 52 k y4) 53 k y5) 54 k y6) 56 k y7) 48 0 y8) 42 x x2) 43 x (Int32.ofInt 1)) 41 = I 41 from by first | rfl | (repeat rw [upd2_row (by decide)])) i) (show (upd2 (upd2 (upd2 (upd2 (upd2 (upd2 (upd2 (upd2 (upd2 (upd2 I 49 k y1) 50 k y2) 51 k y3) 52 k y4) 53 k y5) 54 k y6) 56 k y7) 48 0 y8) 42 x x2) 43 x (Int32.ofInt 1)) 60 = I 60 from by first | rfl | (repeat rw [upd2_row (by decide)])) (show (upd2 (upd2 (upd2 (upd2 (upd2 (upd2 (upd2 (upd2 (upd2 (upd2 I 49 k y1) 50 k y2) 51 k y3) 52 k y4) 53 k y5) 54 k y6) 56 k y7) 48 0 y8) 42 x x2) 43 x (Int32.ofInt 1)) 61 = I 61 from by first | rfl | (repeat rw [upd2_row (by decide)])) (show (upd2 (upd2 (upd2 (upd2 (upd2 (upd2 (upd2 (upd2 (upd2 (upd2 I 49 k y1) 50 k y2) 51 k y3) 52 k y4) 53 k y5) 54 k y6) 56 k y7) 48 0 y8) 42 x x2) 43 x (Int32.ofInt 1)) 63 = I 63 from by first | rfl | (repeat rw [upd2_row (by decide)])) (show (upd2 (upd2 (upd2 (upd2 (upd2 (upd2 (upd2 (upd2 (upd2 (upd2 I 49 k y1) 50 k y2) 51 k y3) 52 k y4) 53 k y5) 54 k y6) 56 k y7) 48 0 y8) 42 x x2) 43 x (Int32.ofInt 1)) 64 = I 64 from by first | rfl | (repeat rw [upd2_row (by decide)])) (show (upd2 (upd2 (upd2 (upd2 (upd2 (upd2 (upd2 (upd2 (upd2 (upd2 I 49 k y1) 50 k y2) 51 k y3) 52 k y4) 53 k y5) 54 k y6) 56 k y7) 48 0 y8) 42 x x2) 43 x (Int32.ofInt 1)) 66 = I 66 from by first | rfl | (repeat rw [upd2_row (by decide)])) (show (upd2 (upd2 (upd2 (upd2 (upd2 (upd2 (upd2 (upd2 (upd2 (upd2 I 49 k y1) 50 k y2) 51 k y3) 52 k y4) 53 k y5) 54 k y6) 56 k y7) 48 0 y8) 42 x x2) 43 x (Int32.ofInt 1)) 67 = I 67 from by first | rfl | (repeat rw [upd2_row (by decide)])) (show (upd2 (upd2 (upd2 (upd2 (upd2 (upd2 (upd2 (upd2 (upd2 (upd2 I 49 k y1) 50 k y2) 51 k y3) 52 k y4) 53 k y5) 54 k y6) 56 k y7) 48 0 y8) 42 x x2) 43 x (Int32.ofInt 1)) 68 = I 68 from by first | rfl | (repeat rw [upd2_row (by decide)])) (fun j hj => ?_)
  have hne_b : yAd R 90 j ≠ b := by rw [hb]; exact fun e => S.2.1.ne8890 (i := x) (by have := S.1.1.2.2.2.1; omega) hj e.symm
  rw [upd2_row hne_b, upd2_row hne_b]
  exact ⟨rfl, rfl, rfl, rfl, rfl, id⟩
theorem rel6_sellB {k : Nat} {y1 y2 y3 y4 y5 y6 y7 y8 : Int32}  (hs : (I1 90 2).toInt = (I 90 2).toInt) (h6 : yL6 I R) (hdy : (I1 83 1).toInt = (I 83 1).toInt) (S : yStp K n tg I I1 R R1 (upd2 (upd2 (upd2 (upd2 (upd2 (upd2 (upd2 (upd2 I 49 k y1) 50 k y2) 51 k y3) 52 k y4) 53 k y5) 54 k y6) 56 k y7) 48 0 y8) I) : yL6 I1 R1 := by
  refine S.l6 h6 hs hdy (fun i _ => congrFun (show (upd2 (upd2 (upd2 (upd2 (upd2 (upd2 (upd2 (upd2 I 49 k y1) 50 k y2) 51 k y3) 52 k y4) 53 k y5) 54 k y6) 56 k y7) 48 0 y8) 41 = I 41 from by first | rfl | (repeat rw [upd2_row (by decide)])) i) (show (upd2 (upd2 (upd2 (upd2 (upd2 (upd2 (upd2 (upd2 I 49 k y1) 50 k y2) 51 k y3) 52 k y4) 53 k y5) 54 k y6) 56 k y7) 48 0 y8) 60 = I 60 from by first | rfl | (repeat rw [upd2_row (by decide)])) (show (upd2 (upd2 (upd2 (upd2 (upd2 (upd2 (upd2 (upd2 I 49 k y1) 50 k y2) 51 k y3) 52 k y4) 53 k y5) 54 k y6) 56 k y7) 48 0 y8) 61 = I 61 from by first | rfl | (repeat rw [upd2_row (by decide)])) (show (upd2 (upd2 (upd2 (upd2 (upd2 (upd2 (upd2 (upd2 I 49 k y1) 50 k y2) 51 k y3) 52 k y4) 53 k y5) 54 k y6) 56 k y7) 48 0 y8) 63 = I 63 from by first | rfl | (repeat rw [upd2_row (by decide)])) (show (upd2 (upd2 (upd2 (upd2 (upd2 (upd2 (upd2 (upd2 I 49 k y1) 50 k y2) 51 k y3) 52 k y4) 53 k y5) 54 k y6) 56 k y7) 48 0 y8) 64 = I 64 from by first | rfl | (repeat rw [upd2_row (by decide)])) (show (upd2 (upd2 (upd2 (upd2 (upd2 (upd2 (upd2 (upd2 I 49 k y1) 50 k y2) 51 k y3) 52 k y4) 53 k y5) 54 k y6) 56 k y7) 48 0 y8) 66 = I 66 from by first | rfl | (repeat rw [upd2_row (by decide)])) (show (upd2 (upd2 (upd2 (upd2 (upd2 (upd2 (upd2 (upd2 I 49 k y1) 50 k y2) 51 k y3) 52 k y4) 53 k y5) 54 k y6) 56 k y7) 48 0 y8) 67 = I 67 from by first | rfl | (repeat rw [upd2_row (by decide)])) (show (upd2 (upd2 (upd2 (upd2 (upd2 (upd2 (upd2 (upd2 I 49 k y1) 50 k y2) 51 k y3) 52 k y4) 53 k y5) 54 k y6) 56 k y7) 48 0 y8) 68 = I 68 from by first | rfl | (repeat rw [upd2_row (by decide)])) (fun j hj => ?_)
  exact ⟨rfl, rfl, rfl, rfl, rfl, id⟩
theorem rel6_pay {x b : Nat} {fe re : Int32} (hx : (x : Int) < (I 48 0).toInt) (hb : b = yAd R 89 x) (ho : (I 55 x).toInt < (I 54 x).toInt) (hs : (I1 90 2).toInt = (I 90 2).toInt) (h6 : yL6 I R) (hdy : (I1 83 1).toInt = (I 83 1).toInt) (S : yStp K n tg I I1 R R1 (upd2 (upd2 (upd2 I 55 x (I 55 x + Int32.ofInt 1)) 57 x (I 57 x + fe)) 58 x (I 58 x + re)) (upd2 (upd2 (upd2 I b 7 (I b 7 + Int32.ofInt 1)) b 8 (I b 8 + fe)) b 9 (I b 9 + re))) : yL6 I1 R1 := by
  refine S.l6 h6 hs hdy (fun i _ => congrFun (show (upd2 (upd2 (upd2 I 55 x (I 55 x + Int32.ofInt 1)) 57 x (I 57 x + fe)) 58 x (I 58 x + re)) 41 = I 41 from by first | rfl | (repeat rw [upd2_row (by decide)])) i) (show (upd2 (upd2 (upd2 I 55 x (I 55 x + Int32.ofInt 1)) 57 x (I 57 x + fe)) 58 x (I 58 x + re)) 60 = I 60 from by first | rfl | (repeat rw [upd2_row (by decide)])) (show (upd2 (upd2 (upd2 I 55 x (I 55 x + Int32.ofInt 1)) 57 x (I 57 x + fe)) 58 x (I 58 x + re)) 61 = I 61 from by first | rfl | (repeat rw [upd2_row (by decide)])) (show (upd2 (upd2 (upd2 I 55 x (I 55 x + Int32.ofInt 1)) 57 x (I 57 x + fe)) 58 x (I 58 x + re)) 63 = I 63 from by first | rfl | (repeat rw [upd2_row (by decide)])) (show (upd2 (upd2 (upd2 I 55 x (I 55 x + Int32.ofInt 1)) 57 x (I 57 x + fe)) 58 x (I 58 x + re)) 64 = I 64 from by first | rfl | (repeat rw [upd2_row (by decide)])) (show (upd2 (upd2 (upd2 I 55 x (I 55 x + Int32.ofInt 1)) 57 x (I 57 x + fe)) 58 x (I 58 x + re)) 66 = I 66 from by first | rfl | (repeat rw [upd2_row (by decide)])) (show (upd2 (upd2 (upd2 I 55 x (I 55 x + Int32.ofInt 1)) 57 x (I 57 x + fe)) 58 x (I 58 x + re)) 67 = I 67 from by first | rfl | (repeat rw [upd2_row (by decide)])) (show (upd2 (upd2 (upd2 I 55 x (I 55 x + Int32.ofInt 1)) 57 x (I 57 x + fe)) 58 x (I 58 x + re)) 68 = I 68 from by first | rfl | (repeat rw [upd2_row (by decide)])) (fun j hj => ?_)
  have hne_b : yAd R 90 j ≠ b := by rw [hb]; exact fun e => S.2.1.ne9089 (j := x) hj (by have := S.1.1.2.2.2.2.2.2.1; omega) e.symm
  rw [upd2_row hne_b, upd2_row hne_b, upd2_row hne_b]
  exact ⟨rfl, rfl, rfl, rfl, rfl, id⟩
theorem rel6_lease {k x y : Nat} {x1 x2 y1 y3 y4 y6 : Int32} (hk : (k : Int) = (I 59 0).toInt) (hx : (x : Int) < (I 40 0).toInt) (hx1 : x1.toInt = (x : Int)) (e1 : y1 = I 41 x) (e6 : y6.toInt = (I 83 1).toInt + 30) (hy : y = yAd R1 90 (I 90 2).toInt.toNat) (g2 : I1 y 2 = y3) (g3 : I1 y 3 = y4) (g4 : (I1 y 4).toInt = (I 83 1).toInt) (g6 : I1 y 6 = Int32.ofInt 0) (g7 : I1 y 7 = Int32.ofInt 0) (hs : (I1 90 2).toInt = (I 90 2).toInt + 1) (h6 : yL6 I R) (hdy : (I1 83 1).toInt = (I 83 1).toInt) (S : yStp K n tg I I1 R R1 (upd2 (upd2 (upd2 (upd2 (upd2 (upd2 (upd2 (upd2 I 60 k x1) 61 k y1) 62 k x2) 63 k y3) 64 k y4) 66 k y6) 59 0 (I 59 0 + Int32.ofInt 1)) 47 x (I 59 0)) I) : yL6 I1 R1 := by
  have h90 : (I 59 0).toInt = (I 90 2).toInt := S.1.1.2.2.2.2.2.2.2
  have hN := S.2.1.1
  have z0 : (Int32.ofInt 0).toInt = 0 := by decide
  have c60 : ∀ i, I1 60 i = if i = k then x1 else I 60 i := fun i => by rw [S.2.2.1 60 (by decide) (by decide)]; simp [upd2]
  have c61 : ∀ i, I1 61 i = if i = k then y1 else I 61 i := fun i => by rw [S.2.2.1 61 (by decide) (by decide)]; simp [upd2]
  have c63 : ∀ i, I1 63 i = if i = k then y3 else I 63 i := fun i => by rw [S.2.2.1 63 (by decide) (by decide)]; simp [upd2]
  have c64 : ∀ i, I1 64 i = if i = k then y4 else I 64 i := fun i => by rw [S.2.2.1 64 (by decide) (by decide)]; simp [upd2]
  have c66 : ∀ i, I1 66 i = if i = k then y6 else I 66 i := fun i => by rw [S.2.2.1 66 (by decide) (by decide)]; simp [upd2]
  have c41 : I1 41 = I 41 := (S.2.2.1 41 (by decide) (by decide)).trans (show (upd2 (upd2 (upd2 (upd2 (upd2 (upd2 (upd2 (upd2 I 60 k x1) 61 k y1) 62 k x2) 63 k y3) 64 k y4) 66 k y6) 59 0 (I 59 0 + Int32.ofInt 1)) 47 x (I 59 0)) 41 = I 41 from by first | rfl | (repeat rw [upd2_row (by decide)]))
  have c67 : I1 67 = I 67 := (S.2.2.1 67 (by decide) (by decide)).trans (show (upd2 (upd2 (upd2 (upd2 (upd2 (upd2 (upd2 (upd2 I 60 k x1) 61 k y1) 62 k x2) 63 k y3) 64 k y4) 66 k y6) 59 0 (I 59 0 + Int32.ofInt 1)) 47 x (I 59 0)) 67 = I 67 from by first | rfl | (repeat rw [upd2_row (by decide)]))
  have c68 : I1 68 = I 68 := (S.2.2.1 68 (by decide) (by decide)).trans (show (upd2 (upd2 (upd2 (upd2 (upd2 (upd2 (upd2 (upd2 I 60 k x1) 61 k y1) 62 k x2) 63 k y3) 64 k y4) 66 k y6) 59 0 (I 59 0 + Int32.ofInt 1)) 47 x (I 59 0)) 68 = I 68 from by first | rfl | (repeat rw [upd2_row (by decide)]))
  refine ⟨fun j hj => ?_, fun j hj => ?_⟩
  · by_cases hjl : (j : Int) < (I 90 2).toInt
    · obtain ⟨⟨a1, a2, a3, a4, a5, a6, a7, a8⟩, b1, b2⟩ := h6.1 j hjl
      obtain ⟨-, q0, q1, -⟩ := S.2.1.l90.2.2.2.2 j hjl
      have hjk : j ≠ k := by omega
      unfold yLs0 yLsD
      rw [S.2.2.2.2.1 90 (by decide) (by decide) j hjl, S.2.2.2.1 _ q0 q1, c60, c61, c63, c64, c66, c67, c68, c41, if_neg hjk, if_neg hjk, if_neg hjk, if_neg hjk, if_neg hjk, hdy]
      exact ⟨⟨a1, a2, a3, a4, a5, a6, a7, a8⟩, b1, b2⟩
    · have hjk : j = (I 90 2).toInt.toNat := by omega
      have hjk2 : j = k := by omega
      have hyj : yAd R1 90 j = y := by rw [hjk]; exact hy.symm
      unfold yLs0 yLsD
      rw [hyj, c60, c61, c63, c64, c66, c67, c68, c41, if_pos hjk2, if_pos hjk2, if_pos hjk2, if_pos hjk2, if_pos hjk2, hdy, g2, g3, g6, g7, z0]
      obtain ⟨w1, w2⟩ := h6.2 j (by omega)
      exact ⟨⟨by rw [e1, show x1.toInt.toNat = x by omega], rfl, rfl, w1, w2, by omega, by omega, by omega⟩, by omega, fun _ => by omega⟩
  · rw [c67, c68]
    exact h6.2 j (by omega)
end YRL6
