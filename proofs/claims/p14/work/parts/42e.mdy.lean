/-! MONEY THROUGH THE DAYS (rel8d.lean) -/
section YMD
variable {K nb : Nat} {tg : Nat → yT} {C M C1 M1 : Nat → Nat → Int32} {R : Nat → Nat → Value}
theorem yAlS_v {k : Nat} : (∀ j, yAlS C k 39 j = if j = k ∧ 85 ≤ (C 39 k).toInt then C 39 k - C 39 k / Int32.ofInt 40 else C 39 j) ∧ (∀ j, yAlS C k 38 j = if j = 1 ∧ 85 ≤ (C 39 k).toInt then C 38 1 + C 39 k / Int32.ofInt 40 else C 38 j) ∧ ∀ a, a ≠ 38 → a ≠ 39 → yAlS C k a = C a := by
  unfold yAlS
  by_cases h : 85 ≤ (C 39 k).toInt
  · rw [if_pos h]
    refine ⟨fun j => ?_, fun j => ?_, fun a h1 h2 => (upd2_row h1).trans (upd2_row h2)⟩
    · rw [upd2_ne (.inl (by decide))]
      by_cases hj : j = k
      · rw [if_pos ⟨hj, h⟩, hj, upd2_self, Int32.sub_eq_add_neg]
      · rw [if_neg (fun q => hj q.1), upd2_ne (.inr hj)]
    · by_cases hj : j = 1
      · rw [if_pos ⟨hj, h⟩, hj, upd2_self]
      · rw [if_neg (fun q => hj q.1), upd2_ne (.inr hj), upd2_ne (.inl (by decide))]
  · rw [if_neg h]
    exact ⟨fun j => (if_neg (fun q => h q.2)).symm, fun j => (if_neg (fun q => h q.2)).symm, fun _ _ _ => rfl⟩
theorem mAlS_v {k : Nat} : (∀ j, mAlS M k 84 j = if j = k ∧ 85 ≤ (M 84 k).toInt then M 84 k - M 84 k / Int32.ofInt 40 else M 84 j) ∧ (∀ j, mAlS M k 83 j = if j = 2 ∧ 85 ≤ (M 84 k).toInt then M 83 2 + M 84 k / Int32.ofInt 40 else M 83 j) ∧ ∀ a, a ≠ 83 → a ≠ 84 → mAlS M k a = M a := by
  unfold mAlS
  have hz : ∀ x : Int32, x - Int32.ofInt 0 = x ∧ x + Int32.ofInt 0 = x := fun x => ⟨Int32.sub_zero x, Int32.add_zero x⟩
  refine ⟨fun j => ?_, fun j => ?_, fun a h1 h2 => (upd2_row h1).trans (upd2_row h2)⟩
  · rw [upd2_ne (.inl (by decide))]
    by_cases hj : j = k
    · rw [hj, upd2_self]
      unfold mAm
      by_cases h : 85 ≤ (M 84 k).toInt
      · rw [if_neg (by omega), if_pos ⟨rfl, h⟩]
      · rw [if_pos (by omega), if_neg (fun q => h q.2), (hz _).1]
    · rw [if_neg (fun q => hj q.1), upd2_ne (.inr hj)]
  · by_cases hj : j = 2
    · rw [hj, upd2_self]
      unfold mAm
      by_cases h : 85 ≤ (M 84 k).toInt
      · rw [if_neg (by omega), if_pos ⟨rfl, h⟩]
      · rw [if_pos (by omega), if_neg (fun q => h q.2), (hz _).2]
    · rw [if_neg (fun q => hj q.1), upd2_ne (.inr hj), upd2_ne (.inl (by decide))]
theorem yMn.alS (h : yMn C M) {k : Nat} (hk : k < 9) : yMn (yAlS C k) (mAlS M k) := by
  obtain ⟨a1, a2, a3⟩ := yAlS_v (C := C) (k := k)
  obtain ⟨b1, b2, b3⟩ := mAlS_v (M := M) (k := k)
  have e := h.1 k hk
  refine h.fr (fun j hj => ?_) ?_ ?_ ⟨a3 74 (by decide) (by decide), a3 75 (by decide) (by decide), a3 76 (by decide) (by decide)⟩ ⟨?_, ?_, ?_⟩ (b3 85 (by decide) (by decide)) (b3 86 (by decide) (by decide))
  · rw [a1, b1, e, h.1 j hj]
  · rw [a2, b2, e, h.2.1]
    by_cases q : 85 ≤ (M 84 k).toInt
    · rw [if_pos ⟨rfl, q⟩, if_pos ⟨rfl, q⟩]
    · rw [if_neg (fun z => q z.2), if_neg (fun z => q z.2)]
  · rw [a2, if_neg (fun q => absurd q.1 (by decide))]
  · rw [b2, if_neg (fun q => absurd q.1 (by decide))]
  · rw [b2, if_neg (fun q => absurd q.1 (by decide))]
  · rw [b2, if_neg (fun q => absurd q.1 (by decide))]
theorem yMn.al (h : yMn C M) : ∀ {m : Nat}, m ≤ 9 → yMn (yRec yAlS C m) (yRec mAlS M m)
  | 0, _ => h
  | m + 1, hm => (h.al (m := m) (by omega)).alS (by omega)
theorem yMn.alm (h : yMn C M) (hd : C 34 8 = M 83 1) (h8 : (C 38 0).toInt = (M 83 8).toInt) (h9 : (C 38 0).toInt ≤ 8) : yMn (yAlm C) (mAlm M) := by
  unfold yAlm mAlm
  rw [hd, h8]
  by_cases q : (M 83 1 - M 83 1 / Int32.ofInt 354 * Int32.ofInt 354).toInt = 0
  · rw [if_pos q, if_pos q]; exact h.al (by omega)
  · rw [if_neg q, if_neg q]; exact h
/-- a rent -/
theorem yMn.co (h : yMn C M) (hL : yLb K nb tg C M R) {k : Nat} (hm : yLmd C M R k) (hk : (k : Int) < (M 90 2).toInt) : yMn (yCoS C k) (mReS R M k) := by
  have hdue := hm.due hL hk
  have hrent := hm.rent hL hk
  have hadk := hL.ad hk
  have hob := ((hL.2.2.2.2.2.2.2.2.2.1 _ hadk.1 hadk.2.1).2.2.1 hadk.2.2).2
  obtain ⟨q1, q2, q3, q4, q5⟩ := hL.1 k hk
  by_cases hd : mDue M (yAd R 90 k)
  · have hc := hdue.2 hd
    have hst : mReS R M k = mReB M (yAd R 90 k) (yAd R 88 (M (yAd R 90 k) 0).toInt.toNat) := if_pos hd
    have hcs : yCoS C k = yAddC (yAddC (upd2 (upd2 (upd2 C 66 k (C 66 k + Int32.ofInt 30)) 67 k (C 67 k + Int32.ofInt 1)) 68 k (C 68 k + yRn (C 61 k) (C 34 9) (C 63 k) (C 64 k))) (C 62 k) (-(yRn (C 61 k) (C 34 9) (C 63 k) (C 64 k)))) (Int32.ofInt 8) (yRn (C 61 k) (C 34 9) (C 63 k) (C 64 k)) := if_pos hc
    have z8 : (Int32.ofInt 8).toInt = 8 := by decide
    have r := fun {a : Nat} (ha : a ≠ 84) (hb : a ≠ yAd R 90 k) => mReS_row (G := M) (k := k) ha hb
    have c := fun {a : Nat} (h1 : a ≠ 39) (h6 : a ≠ 66) (h7 : a ≠ 67) (h8 : a ≠ 68) => yCoS_row (C := C) (k := k) h1 h6 h7 h8
    refine h.fr (fun j hj => ?_) ?_ ?_ ⟨c (by decide) (by decide) (by decide) (by decide), c (by decide) (by decide) (by decide) (by decide), c (by decide) (by decide) (by decide) (by decide)⟩ ⟨by rw [r (by decide) (by omega)], by rw [r (by decide) (by omega)], by rw [r (by decide) (by omega)]⟩ (r (by decide) (by omega)) (r (by decide) (by omega))
    · rw [hcs, hst, yAddC_v (by rw [z8]; decide) (by rw [z8]; decide), yAddC_v (by rw [q2]; omega) (by rw [q2]; omega), upd2_row (by decide), upd2_row (by decide), upd2_row (by decide), hrent, q2, h.1 j hj, z8]
      unfold mReB
      by_cases h8 : j = 8
      · subst h8
        rw [if_pos (by decide), if_neg (by omega), upd2_self, upd2_ne (.inr (by omega))]
      · rw [if_neg (by show ¬ j = 8; exact h8), upd2_ne (.inr h8)]
        by_cases hp : j = (M (yAd R 90 k) 1).toInt.toNat
        · rw [if_pos hp, hp, upd2_self, Int32.sub_eq_add_neg]
        · rw [if_neg hp, upd2_ne (.inr hp), upd2_row (by omega), upd2_row (by omega)]
    · rw [c (by decide) (by decide) (by decide) (by decide), r (by decide) (by omega)]; exact h.2.1
    · rw [c (by decide) (by decide) (by decide) (by decide)]
  · have hc : ¬ ((C 65 k).toInt = 0 ∧ (C 66 k).toInt = (C 34 8).toInt) := fun q => hd (hdue.1 q)
    rw [show mReS R M k = M from if_neg hd, show yCoS C k = C from if_neg hc]
    exact h
theorem yMn.cos (h : yMn C M) (hL : yLb K nb tg C M R) (hm : yLmd C M R 0) : ∀ k : Nat, (k : Int) ≤ (M 90 2).toInt → yMn (yRec yCoS C k) (yRec (mReS R) M k)
  | 0, _ => h
  | k + 1, hk => by
    obtain ⟨a1, a2, a3⟩ := yLmd.all hL hm k (by omega)
    exact (yMn.cos h hL hm k (by omega)).co a1 a2 (by omega)
/-- the middle of a day -/
theorem yL6x.mid (h : yL6x C M R) (hb : yLb K nb tg C M R) (hd : (M 83 1).toInt < 4000) : yLb K nb tg (yDyD (yDyB C)) (mDyD (mWeD M)) R ∧ yLmd (yDyD (yDyB C)) (mDyD (mWeD M)) R 0 := by
  have hri := mDy_ri hb.2.2.2.2.2.2 hd
  have hN := hb.2.2.2.2.2.2.1
  have m83 : ∀ k, mDyD (mWeD M) 83 k = if k = 1 then M 83 1 + Int32.ofInt 1 else M 83 k := fun k => by
    unfold mDyD
    rw [mWeD_row (by decide)]
    unfold upd2
    simp [mWeD_row]
  have mrow : ∀ a, a ≠ 83 → a ≠ 86 → mDyD (mWeD M) a = M a := fun a h1 h2 => by
    unfold mDyD
    rw [upd2_row h1, mWeD_row h2]
  have crow : ∀ a, a ≠ 34 → a ≠ 37 → a ≠ 76 → yDyD (yDyB C) a = C a := fun a h1 h2 h3 => by
    unfold yDyD
    rw [upd2_row h1, yDyB_row h2 h3]
  have c34 : ∀ k, yDyD (yDyB C) 34 k = if k = 8 then C 34 8 + Int32.ofInt 1 else C 34 k := fun k => by
    unfold yDyD
    rw [yDyB_row (by decide) (by decide)]
    unfold upd2
    simp [yDyB_row]
  have hM1 : (mDyD (mWeD M) 83 1).toInt = (M 83 1).toInt + 1 := by rw [m83, if_pos rfl, yinc (by omega)]
  have hC1 : (yDyD (yDyB C) 34 8).toInt = (M 83 1).toInt + 1 := by rw [c34, if_pos rfl, yinc (by have := hb.2.2.2.1; omega), hb.2.2.2.1]
  have hlo : ∀ j : Nat, (j : Int) < (M 90 2).toInt → mDyD (mWeD M) (yAd R 90 j) = M (yAd R 90 j) := fun j hj => by
    have := hb.ad hj
    exact mrow _ (by omega) (by omega)
  have hlt : ∀ i : Nat, (i : Int) < (M 88 2).toInt → mDyD (mWeD M) (yAd R 88 i) = M (yAd R 88 i) := fun i hi => by
    have := (hb.2.2.2.2.2.2.l88.2.2.2.2 i hi).2.1
    exact mrow _ (by omega) (by omega)
  have hb1 : yLb K nb tg (yDyD (yDyB C)) (mDyD (mWeD M)) R := by
    obtain ⟨a1, a2, a3, a4, a5, a6, a7⟩ := hb
    unfold yLb
    rw [mrow 90 (by decide) (by decide), mrow 88 (by decide) (by decide), crow 60 (by decide) (by decide) (by decide), crow 62 (by decide) (by decide) (by decide), crow 65 (by decide) (by decide) (by decide), crow 41 (by decide) (by decide) (by decide), crow 59 (by decide) (by decide) (by decide)]
    exact ⟨fun j hj => by rw [hlo j hj]; exact a1 j hj, fun i hi => by rw [hlt i hi]; exact a2 i hi, a3, by omega, by rw [c34, m83]; exact a5, a6, hri⟩
  have hm1 : yLmd (yDyD (yDyB C)) (mDyD (mWeD M)) R 0 := by
    unfold yLmd
    rw [mrow 90 (by decide) (by decide), crow 67 (by decide) (by decide) (by decide), crow 68 (by decide) (by decide) (by decide)]
    refine ⟨fun j hj => ?_, h.2⟩
    obtain ⟨q1, q2, q3⟩ := h.1 j hj
    unfold yLs0 yLsD yLsE
    rw [crow 61 (by decide) (by decide) (by decide), crow 41 (by decide) (by decide) (by decide), crow 60 (by decide) (by decide) (by decide), crow 63 (by decide) (by decide) (by decide), crow 64 (by decide) (by decide) (by decide), crow 67 (by decide) (by decide) (by decide), crow 68 (by decide) (by decide) (by decide), crow 66 (by decide) (by decide) (by decide), hlo j hj, hM1]
    exact ⟨q1, fun q => by omega, fun _ => ⟨by omega, fun q => by have := q3 q; omega⟩⟩
  exact ⟨hb1, hm1⟩
theorem yMn.day (h : yMn C M) (h6 : yL6x C M R) (hb : yLb K nb tg C M R) (hd : (M 83 1).toInt < 4000) (h8 : (C 38 0).toInt = (M 83 8).toInt) {q : Nat} : yMn (yDy C q) (mDyS R M q) := by
  obtain ⟨hb1, hm1⟩ := h6.mid hb hd
  have hN := hb.2.2.2.2.2.2.1
  have hri := mDy_ri hb.2.2.2.2.2.2 hd
  have e90 : mDyD (mWeD M) 90 = M 90 := (upd2_row (by decide)).trans (mWeD_row (by decide))
  have e59 : (yDyD (yDyB C) 59 0).toInt = (M 90 2).toInt := by
    rw [show yDyD (yDyB C) 59 = C 59 from (upd2_row (by decide)).trans (yDyB_row (by decide) (by decide))]; exact hb.2.2.1
  have h1 := (h.we h8 (by omega)).cos hb1 hm1 (M 90 2).toInt.toNat (by rw [e90]; omega)
  have eC : yDyC (yDyD (yDyB C)) = yRec yCoS (yDyD (yDyB C)) (M 90 2).toInt.toNat := by unfold yDyC; rw [e59]
  have eM : mReD R (mDyD (mWeD M)) = yRec (mReS R) (mDyD (mWeD M)) (M 90 2).toInt.toNat := by unfold mReD; rw [e90]
  rw [← eC, ← eM] at h1
  have c34 : yDyC (yDyD (yDyB C)) 34 8 = C 34 8 + Int32.ofInt 1 := by
    rw [yDyC_row (by decide) (by decide) (by decide) (by decide)]
    unfold yDyD
    rw [upd2_self, yDyB_row (by decide) (by decide)]
  have c38 : yDyC (yDyD (yDyB C)) 38 0 = C 38 0 := by
    rw [yDyC_row (by decide) (by decide) (by decide) (by decide)]
    unfold yDyD
    rw [upd2_row (by decide), yDyB_row (by decide) (by decide)]
  have m83 : ∀ k, mReD R (mDyD (mWeD M)) 83 k = if k = 1 then M 83 1 + Int32.ofInt 1 else M 83 k := fun k => by
    rw [mReD_lo hri (by decide) (by decide)]
    unfold mDyD
    by_cases hk : k = 1
    · rw [if_pos hk, hk, upd2_self, mWeD_row (by decide)]
    · rw [if_neg hk, upd2_ne (.inr hk), mWeD_row (by decide)]
  unfold yDy mDyS
  refine h1.alm ?_ ?_ ?_
  · rw [c34, m83, if_pos rfl, show C 34 8 = M 83 1 from yext hb.2.2.2.1]
  · rw [c38, m83, if_neg (by decide)]; exact h8
  · rw [c38]; omega
theorem yMn.days (h : yMn C M) (h6 : yL6x C M R) (hb : yLb K nb tg C M R) (h8 : (C 38 0).toInt = (M 83 8).toInt) : ∀ m : Nat, (M 83 1).toInt + (m : Int) ≤ 4000 → yMn (yRec yDy C m) (yRec (mDyS R) M m)
  | 0, _ => h
  | m + 1, hm => by
    obtain ⟨a1, a2⟩ := h6.days hb m (by omega)
    obtain ⟨-, p2, p3, -⟩ := mPa_ri hb.2.2.2.2.2.2 m (by omega)
    have e38 : yRec yDy C m 38 0 = C 38 0 := yRec_ind (S := yDy) (P := fun J => J 38 0 = C 38 0) rfl fun J j _ hJ => yDy_38.trans hJ
    exact (yMn.days h h6 hb h8 m (by omega)).day a1 a2 (by rw [p2]; omega) (by rw [e38, p3 8 (by decide) (by decide)]; exact h8)
end YMD
/-! THE WEIGHTS' BOUNDS THROUGH THE DAYS (rel9d.lean) -/
section YWB
variable {K nb : Nat} {tg : Nat → yT} {C M : Nat → Nat → Int32} {R : Nat → Nat → Value}
theorem yMb.day (h : yMb K C) (hm : yMn C M) (hd : 0 ≤ (C 34 8).toInt) (h4 : (C 34 8).toInt < 4000) {q : Nat} : yMb K (yDy C q) := by
  have c34 : yDy C q 34 8 = C 34 8 + Int32.ofInt 1 := by rw [yDy_34, if_pos rfl]
  have c74 : yDy C q 74 = C 74 := yDy_row (by decide)
  have c76 : ∀ j, j < 8 → yDy C q 76 j = C 76 j + C 75 j := fun j hj => by
    unfold yDy
    rw [yAlm_row (by decide) (by decide), yDyC_row (by decide) (by decide) (by decide) (by decide)]
    unfold yDyD
    rw [upd2_row (by decide)]
    unfold yDyB
    rw [yWeR, if_pos hj, upd2_row (by decide), upd2_row (by decide)]
  unfold yMb
  rw [c74, c34, yinc (by omega)]
  refine ⟨h.1, fun j hj => ?_⟩
  have h1 := h.2 j hj
  have h2 := (hm.2.2.2.1 j hj).2
  rw [c76 j hj, yadd (by omega) (by omega)]; omega
theorem yMb.days (h : yMb K C) (hm : yMn C M) (h6 : yL6x C M R) (hb : yLb K nb tg C M R) (h8 : (C 38 0).toInt = (M 83 8).toInt) : ∀ m : Nat, (M 83 1).toInt + (m : Int) ≤ 4000 → yMb K (yRec yDy C m)
  | 0, _ => h
  | m + 1, hq => by
    have ih := yMb.days h hm h6 hb h8 m (by omega)
    have hmm := hm.days h6 hb h8 m (by omega)
    obtain ⟨a1, a2⟩ := h6.days hb m (by omega)
    have e := a2.2.2.2.1
    obtain ⟨-, p2, -, -⟩ := mPa_ri hb.2.2.2.2.2.2 m (by omega)
    have hN := hb.2.2.2.2.2.2.1
    exact ih.day hmm (by omega) (by omega)
end YWB
