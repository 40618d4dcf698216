/-! CHANGES OF THE REFERENCE'S WORLD (by gen24.py) -/
theorem yRI.cong {K nb : Nat} {tg : Nat → yT} {I I' : Nat → Nat → Int32} {R : Nat → Nat → Value} (h : yRI K nb tg I R) (hI : ∀ b, b = 83 ∨ (87 ≤ b ∧ b ≤ 92) ∨ (94 ≤ b ∧ b < nb) → I' b = I b) : yRI K nb tg I' R := by
  obtain ⟨h1, ⟨l1, l2, l3, l4, l5, l6⟩, h3, h4, h5, h6, h7⟩ := h
  have li : ∀ {l et}, (87 ≤ l ∧ l ≤ 92) → yLI nb tg I R l et → yLI nb tg I' R l et := fun {l et} hl hq => hq.same (fun _ _ => rfl) (by rw [hI l (.inr (.inl hl))]) rfl rfl
  have e : ∀ b, 94 ≤ b → b < nb → I' b = I b := fun b h1 h2 => hI b (.inr (.inr ⟨h1, h2⟩))
  refine ⟨?_, ⟨li (by omega) l1, li (by omega) l2, li (by omega) l3, li (by omega) l4, li (by omega) l5, li (by omega) l6⟩, h3, fun b b1 b2 => ?_, fun i hi => ?_, fun i hi => ?_, h7⟩
  · unfold yNum
    rw [hI 83 (.inl rfl), hI 87 (by omega), hI 88 (by omega), hI 89 (by omega), hI 90 (by omega), hI 91 (by omega), hI 92 (by omega)]
    exact h1
  · obtain ⟨q1, q2, q3, q4⟩ := h4 b b1 b2
    unfold yOb
    rw [e b b1 b2, hI 88 (by omega)]
    refine ⟨q1, q2, q3, fun hb => ?_⟩
    obtain ⟨v1, v2, v3, v4, v5, v6, v7, v8⟩ := q4 hb
    exact ⟨v1, v2, v3, v4, v5, v6, fun j hj => by rw [e _ (by omega) (by omega)]; exact v7 j hj, by rw [e _ (by omega) (by omega)]; exact v8⟩
  · rw [hI 92 (by omega)] at hi
    rw [e _ (l6.2.2.2.2 i hi).2.1 (l6.2.2.2.2 i hi).2.2.1]
    exact h5 i hi
  · rw [hI 87 (by omega)] at hi
    rw [e _ (l1.2.2.2.2 i hi).2.1 (l1.2.2.2.2 i hi).2.2.1, hI 83 (.inl rfl)]
    exact h6 i hi
/-- a field of the reference itself -/
theorem yRI.mod {K nb : Nat} {tg : Nat → yT} {I I' : Nat → Nat → Int32} {R : Nat → Nat → Value} (h : yRI K nb tg I R) (hI : ∀ b, b ≠ 83 → I' b = I b) (h8 : 0 ≤ (I' 83 8).toInt ∧ (I' 83 8).toInt ≤ 8) (hd : (I 83 1).toInt ≤ (I' 83 1).toInt ∧ (I' 83 1).toInt ≤ 4000) : yRI K nb tg I' R := by
  obtain ⟨h1, ⟨l1, l2, l3, l4, l5, l6⟩, h3, h4, h5, h6, h7⟩ := h
  have li : ∀ {l et}, (87 ≤ l ∧ l ≤ 92) → yLI nb tg I R l et → yLI nb tg I' R l et := fun {l et} hl hq => hq.same (fun _ _ => rfl) (by rw [hI l (by omega)]) rfl rfl
  have e : ∀ b, 94 ≤ b → b < nb → I' b = I b := fun b h1 h2 => hI b (by omega)
  refine ⟨?_, ⟨li (by omega) l1, li (by omega) l2, li (by omega) l3, li (by omega) l4, li (by omega) l5, li (by omega) l6⟩, h3, fun b b1 b2 => ?_, fun i hi => ?_, fun i hi => ?_, h7⟩
  · unfold yNum
    rw [hI 87 (by omega), hI 88 (by omega), hI 89 (by omega), hI 90 (by omega), hI 91 (by omega), hI 92 (by omega)]
    exact ⟨h8, ⟨by omega, hd.2⟩, h1.2.2⟩
  · obtain ⟨q1, q2, q3, q4⟩ := h4 b b1 b2
    unfold yOb
    rw [e b b1 b2, hI 88 (by omega)]
    refine ⟨q1, q2, q3, fun hb => ?_⟩
    obtain ⟨v1, v2, v3, v4, v5, v6, v7, v8⟩ := q4 hb
    exact ⟨v1, v2, v3, v4, v5, v6, fun j hj => by rw [e _ (by omega) (by omega)]; exact v7 j hj, by rw [e _ (by omega) (by omega)]; exact v8⟩
  · rw [hI 92 (by omega)] at hi
    rw [e _ (l6.2.2.2.2 i hi).2.1 (l6.2.2.2.2 i hi).2.2.1]
    exact h5 i hi
  · rw [hI 87 (by omega)] at hi
    rw [e _ (l1.2.2.2.2 i hi).2.1 (l1.2.2.2.2 i hi).2.2.1]
    obtain ⟨a1, a2⟩ := h6 i hi
    exact ⟨Int.le_trans a1 hd.1, a2⟩
/-- a cell of the reference's own -/
theorem yRI.elm {K nb : Nat} {tg : Nat → yT} {I I' : Nat → Nat → Int32} {R : Nat → Nat → Value} (h : yRI K nb tg I R) {a : Nat} (hI : ∀ b, b ≠ a → I' b = I b) (ha : 94 ≤ a) (hT : tg a = (20, 0) → 0 ≤ (I' a 1).toInt ∧ (I' a 1).toInt ≤ 9)
    (hS : tg a = (19, 0) → (0 ≤ (I' a 1).toInt ∧ (I' a 1).toInt ≤ 7) ∧ (0 ≤ (I' a 3).toInt ∧ (I' a 3).toInt ≤ 99) ∧ (1 ≤ (I' a 4).toInt ∧ (I' a 4).toInt ≤ 12)) (hL : tg a = (18, 0) → (0 ≤ (I' a 0).toInt ∧ (I' a 0).toInt < (I 88 2).toInt) ∧ (0 ≤ (I' a 1).toInt ∧ (I' a 1).toInt ≤ 7))
    (hV : ∀ b, 94 ≤ b → b < nb → tg b = (21, 0) → b + 2 = a → (∀ j, j < 9 → 0 ≤ (I' a j).toInt) ∧ ySum (fun j => (I' a j).toInt) 9 ≤ 999 * (K : Int)) (hF : tg a = (0, 7) → I' a 0 = I a 0) (hw : tg a = (0, 4) → I' a = I a) : yRI K nb tg I' R := by
  obtain ⟨h1, ⟨l1, l2, l3, l4, l5, l6⟩, h3, h4, h5, h6, h7⟩ := h
  have li : ∀ {l et}, (87 ≤ l ∧ l ≤ 92) → yLI nb tg I R l et → yLI nb tg I' R l et := fun {l et} hl hq => hq.same (fun _ _ => rfl) (by rw [hI l (by omega)]) rfl rfl
  refine ⟨?_, ⟨li (by omega) l1, li (by omega) l2, li (by omega) l3, li (by omega) l4, li (by omega) l5, li (by omega) l6⟩, h3, fun b b1 b2 => ?_, fun i hi => ?_, fun i hi => ?_, h7⟩
  · unfold yNum
    rw [hI 83 (by omega), hI 87 (by omega), hI 88 (by omega), hI 89 (by omega), hI 90 (by omega), hI 91 (by omega), hI 92 (by omega)]
    exact h1
  · obtain ⟨q1, q2, q3, q4⟩ := h4 b b1 b2
    have q4' : tg b = (21, 0) → yVe K nb tg I' R b := fun hb => by
      obtain ⟨v1, v2, v3, v4, v5, v6, v7, v8⟩ := q4 hb
      by_cases hba : b + 2 = a
      · obtain ⟨w1, w2⟩ := hV b b1 b2 hb hba
        exact ⟨v1, v2, v3, v4, v5, v6, by rw [hba]; exact w1, by rw [hba]; exact w2⟩
      · exact ⟨v1, v2, v3, v4, v5, v6, fun j hj => by rw [hI _ hba]; exact v7 j hj, by rw [hI _ hba]; exact v8⟩
    unfold yOb
    rw [hI 88 (by omega)]
    by_cases hba : b = a
    · subst hba; exact ⟨hT, hS, hL, q4'⟩
    · rw [hI b hba]; exact ⟨q1, q2, q3, q4'⟩
  · rw [hI 92 (by omega)] at hi
    by_cases hba : yAd R 92 i = a
    · rw [hba, hF (hba ▸ (l6.2.2.2.2 i hi).2.2.2), ← hba]; exact h5 i hi
    · rw [hI _ hba]; exact h5 i hi
  · rw [hI 87 (by omega)] at hi
    rw [hI 83 (by omega)]
    by_cases hba : yAd R 87 i = a
    · rw [hba, hw (hba ▸ (l1.2.2.2.2 i hi).2.2.2), ← hba]; exact h6 i hi
    · rw [hI _ hba]; exact h6 i hi
theorem yRI.vt {K nb : Nat} {tg : Nat → yT} {I : Nat → Nat → Int32} {R : Nat → Nat → Value} (h : yRI K nb tg I R) {b : Nat} (h1 : 94 ≤ b) (h2 : b < nb) (h3 : tg b = (21, 0)) : tg (b + 2) = (0, 9) := ((h.2.2.2.1 b h1 h2).2.2.2 h3).2.2.2.1
/-- a thing -/
theorem yRI.upT {K nb : Nat} {tg : Nat → yT} {I I' : Nat → Nat → Int32} {R : Nat → Nat → Value} (h : yRI K nb tg I R) {a k : Nat} {x : Int32} (e : I' = upd2 I a k x) (ha : 94 ≤ a) (hb : a < nb) (ht : tg a = (20, 0)) (hx : k = 1 → 0 ≤ x.toInt ∧ x.toInt ≤ 9) : yRI K nb tg I' R := by
  refine h.elm (upI e) ha (fun _ => ?_) (fun hq => ?_) (fun hq => ?_) (fun b b1 b2 b3 b4 => ?_) (fun hq => ?_) (fun hq => ?_)
  · rw [e]
    by_cases hk : 1 = k
    · subst hk; rw [upd2_self]; exact hx rfl
    · rw [upd2_ne (.inr hk)]; exact h.thi ha hb ht
  · rw [ht] at hq; exact absurd hq (by decide)
  · rw [ht] at hq; exact absurd hq (by decide)
  · have := h.vt b1 b2 b3; rw [b4, ht] at this; exact absurd this (by decide)
  · rw [ht] at hq; exact absurd hq (by decide)
  · rw [ht] at hq; exact absurd hq (by decide)
/-- a sale, behind its first seven fields -/
theorem yRI.upS {K nb : Nat} {tg : Nat → yT} {I I' : Nat → Nat → Int32} {R : Nat → Nat → Value} (h : yRI K nb tg I R) {a k : Nat} {x : Int32} (e : I' = upd2 I a k x) (ha : 94 ≤ a) (hb : a < nb) (ht : tg a = (19, 0)) (hk : 7 ≤ k) : yRI K nb tg I' R := by
  refine h.elm (upI e) ha (fun hq => ?_) (fun _ => ?_) (fun hq => ?_) (fun b b1 b2 b3 b4 => ?_) (fun hq => ?_) (fun hq => ?_)
  · rw [ht] at hq; exact absurd hq (by decide)
  · rw [e, upd2_ne (.inr (by omega)), upd2_ne (.inr (by omega)), upd2_ne (.inr (by omega))]; exact h.sal ha hb ht
  · rw [ht] at hq; exact absurd hq (by decide)
  · have := h.vt b1 b2 b3; rw [b4, ht] at this; exact absurd this (by decide)
  · rw [ht] at hq; exact absurd hq (by decide)
  · rw [ht] at hq; exact absurd hq (by decide)
/-- a lease, behind its first five fields -/
theorem yRI.upL {K nb : Nat} {tg : Nat → yT} {I I' : Nat → Nat → Int32} {R : Nat → Nat → Value} (h : yRI K nb tg I R) {a k : Nat} {x : Int32} (e : I' = upd2 I a k x) (ha : 94 ≤ a) (hb : a < nb) (ht : tg a = (18, 0)) (hk : 5 ≤ k) : yRI K nb tg I' R := by
  refine h.elm (upI e) ha (fun hq => ?_) (fun hq => ?_) (fun _ => ?_) (fun b b1 b2 b3 b4 => ?_) (fun hq => ?_) (fun hq => ?_)
  · rw [ht] at hq; exact absurd hq (by decide)
  · rw [ht] at hq; exact absurd hq (by decide)
  · rw [e, upd2_ne (.inr (by omega)), upd2_ne (.inr (by omega))]; exact h.lea ha hb ht
  · have := h.vt b1 b2 b3; rw [b4, ht] at this; exact absurd this (by decide)
  · rw [ht] at hq; exact absurd hq (by decide)
  · rw [ht] at hq; exact absurd hq (by decide)
/-- a row of a firm, but its first number -/
theorem yRI.upF {K nb : Nat} {tg : Nat → yT} {I I' : Nat → Nat → Int32} {R : Nat → Nat → Value} (h : yRI K nb tg I R) {a k : Nat} {x : Int32} (e : I' = upd2 I a k x) (ha : 94 ≤ a) (ht : tg a = (0, 7)) (hk : 1 ≤ k) : yRI K nb tg I' R := by
  refine h.elm (upI e) ha (fun hq => ?_) (fun hq => ?_) (fun hq => ?_) (fun b b1 b2 b3 b4 => ?_) (fun _ => ?_) (fun hq => ?_)
  · rw [ht] at hq; exact absurd hq (by decide)
  · rw [ht] at hq; exact absurd hq (by decide)
  · rw [ht] at hq; exact absurd hq (by decide)
  · have := h.vt b1 b2 b3; rw [b4, ht] at this; exact absurd this (by decide)
  · rw [e, upd2_ne (.inr (by omega))]
  · rw [ht] at hq; exact absurd hq (by decide)
/-- rows of a venture but CAPITAL -/
theorem yRI.upV {K nb : Nat} {tg : Nat → yT} {I I' : Nat → Nat → Int32} {R : Nat → Nat → Value} (h : yRI K nb tg I R) {b j k : Nat} {x : Int32} (hb : 94 ≤ b) (hb2 : b < nb) (ht : tg b = (21, 0)) (hj : j = 0 ∨ j = 2 ∨ j = 3) (e : I' = upd2 I (b + 1 + j) k x) : yRI K nb tg I' R := by
  obtain ⟨v1, v2, v3, v4, v5, v6, v7, v8⟩ := (h.2.2.2.1 b hb hb2).2.2.2 ht
  have ht' : tg (b + 1 + j) = yVt j := (h.ven hb hb2 ht (by omega)).2.2
  have hq9 : ∀ t : yT, tg (b + 1 + j) = t → t = (1, 9) ∨ t = (0, 9) := fun t hq => by
    rw [ht'] at hq; unfold yVt at hq
    split at hq
    · exact .inl hq.symm
    · exact .inr hq.symm
  refine h.elm (upI e) (by omega) (fun hq => ?_) (fun hq => ?_) (fun hq => ?_) (fun b' b1 b2 b3 b4 => ?_) (fun hq => ?_) (fun hq => ?_)
  · exact absurd (hq9 _ hq) (by decide)
  · exact absurd (hq9 _ hq) (by decide)
  · exact absurd (hq9 _ hq) (by decide)
  · have hv := h.vt b1 b2 b3
    rcases hj with rfl | rfl | rfl
    · rw [b4, show b + 1 + 0 = b + 1 from rfl, v3] at hv; exact absurd hv (by decide)
    · rw [show b' = b + 1 by omega, v3] at b3; exact absurd b3 (by decide)
    · rw [show b' = b + 2 by omega, v4] at b3; exact absurd b3 (by decide)
  · exact absurd (hq9 _ hq) (by decide)
  · exact absurd (hq9 _ hq) (by decide)
/-- CAPITAL of a venture -/
theorem yRI.upC {K nb : Nat} {tg : Nat → yT} {I I' : Nat → Nat → Int32} {R : Nat → Nat → Value} (h : yRI K nb tg I R) {b : Nat} (hb : 94 ≤ b) (hb2 : b < nb) (ht : tg b = (21, 0)) (e : ∀ a, a ≠ b + 2 → I' a = I a) (h1 : ∀ j, j < 9 → 0 ≤ (I' (b + 2) j).toInt) (h2 : ySum (fun j => (I' (b + 2) j).toInt) 9 ≤ 999 * (K : Int)) : yRI K nb tg I' R := by
  have ht' := h.vt hb hb2 ht
  refine h.elm e (by omega) (fun hq => ?_) (fun hq => ?_) (fun hq => ?_) (fun b' b1 b2 b3 b4 => ⟨h1, h2⟩) (fun hq => ?_) (fun hq => ?_)
  · rw [ht'] at hq; exact absurd hq (by decide)
  · rw [ht'] at hq; exact absurd hq (by decide)
  · rw [ht'] at hq; exact absurd hq (by decide)
  · rw [ht'] at hq; exact absurd hq (by decide)
  · rw [ht'] at hq; exact absurd hq (by decide)
theorem yRI.up {K K' nb : Nat} {tg : Nat → yT} {I : Nat → Nat → Int32} {R : Nat → Nat → Value} (h : yRI K nb tg I R) (hk : K ≤ K') (hk2 : K' ≤ 600) : yRI K' nb tg I R := by
  obtain ⟨h1, h2, h3, h4, h5, h6, h7⟩ := h
  refine ⟨?_, h2, h3, fun b b1 b2 => ?_, h5, h6, h7⟩
  · unfold yNum at h1 ⊢; omega
  · obtain ⟨q1, q2, q3, q4⟩ := h4 b b1 b2
    refine ⟨q1, q2, q3, fun hb => ?_⟩
    obtain ⟨v1, v2, v3, v4, v5, v6, v7, v8⟩ := q4 hb
    exact ⟨v1, v2, v3, v4, v5, v6, v7, by omega⟩
/-- what a call of the reference leaves alone (but hold): the class's part, the board -/
def yKp (n : Nat) (tg : Nat → yT) (I : Nat → Nat → Int32) (R : Nat → Nat → Value) (n' : Nat) (tg' : Nat → yT) (I' : Nat → Nat → Int32) (R' : Nat → Nat → Value) : Prop :=
  n ≤ n' ∧ (∀ a, a < n → tg' a = tg a) ∧ (∀ a, a < 83 → I' a = I a) ∧ R' 87 = R 87 ∧ R' (yEl R 87) = R (yEl R 87) ∧ I' 87 = I 87 ∧ (∀ i : Nat, (i : Int) < (I 87 2).toInt → I' (yAd R 87 i) = I (yAd R 87 i)) ∧ (I 83 1).toInt ≤ (I' 83 1).toInt
theorem yKp.rf {n : Nat} {tg : Nat → yT} {I : Nat → Nat → Int32} {R : Nat → Nat → Value} : yKp n tg I R n tg I R := ⟨Nat.le_refl n, fun _ _ => rfl, fun _ _ => rfl, rfl, rfl, rfl, fun _ _ => rfl, Int.le_refl _⟩
theorem yKp.x {K nb n n1 n2 : Nat} {tg tg1 tg2 : Nat → yT} {I I1 I2 : Nat → Nat → Int32} {R R1 R2 : Nat → Nat → Value} (h : yKp n tg I R n1 tg1 I1 R1) (hr : yRI K nb tg I R) (hn : nb ≤ n) (hx : yX n1 tg1 I1 R1 n2 tg2 I2 R2) : yKp n tg I R n2 tg2 I2 R2 := by
  obtain ⟨h1, h2, h3, h4, h5, h6, h7, h8⟩ := h
  have hb := hr.2.2.2.2.2.2
  refine ⟨Nat.le_trans h1 hx.1, fun a ha => ((hx.2.1 a (by omega)).1).trans (h2 a ha), fun a ha => ((hx.2.1 a (by omega)).2.1).trans (h3 a ha), ((hx.2.1 87 (by omega)).2.2).trans h4, ?_, ((hx.2.1 87 (by omega)).2.1).trans h6, fun i hi => ?_, ?_⟩
  · have := hr.li.1
    exact ((hx.2.1 _ (by omega)).2.2).trans h5
  · have := (hr.l87.2.2.2.2 i hi).2.2.1
    exact ((hx.2.1 _ (by omega)).2.1).trans (h7 i hi)
  · rw [(hx.2.1 83 (by omega)).2.1]; exact h8
theorem yKp.upI {n n1 : Nat} {tg tg1 : Nat → yT} {I I1 I2 : Nat → Nat → Int32} {R R1 : Nat → Nat → Value} {a : Nat} (h : yKp n tg I R n1 tg1 I1 R1) (hI : ∀ b, b ≠ a → I2 b = I1 b) (ha : 83 ≤ a) (ha7 : a ≠ 87) (hr : ∀ i : Nat, (i : Int) < (I 87 2).toInt → yAd R 87 i ≠ a) (hd : (I1 83 1).toInt ≤ (I2 83 1).toInt) : yKp n tg I R n1 tg1 I2 R1 := by
  obtain ⟨h1, h2, h3, h4, h5, h6, h7, h8⟩ := h
  exact ⟨h1, h2, fun b hb => (hI b (by omega)).trans (h3 b hb), h4, h5, (hI 87 (Ne.symm ha7)).trans h6, fun i hi => (hI _ (hr i hi)).trans (h7 i hi), Int.le_trans h8 hd⟩
/-- a cell that is no word of the board -/
theorem yKp.upE {K nb n n1 : Nat} {tg tg1 : Nat → yT} {I I1 I2 : Nat → Nat → Int32} {R R1 : Nat → Nat → Value} {a : Nat} (h : yKp n tg I R n1 tg1 I1 R1) (hr : yRI K nb tg I R) (hn : nb ≤ n) (hI : ∀ b, b ≠ a → I2 b = I1 b) (ha : 83 ≤ a) (ha7 : a ≠ 87) (ht : tg1 a ≠ (0, 4)) (hd : (I1 83 1).toInt ≤ (I2 83 1).toInt) : yKp n tg I R n1 tg1 I2 R1 :=
  h.upI hI ha ha7 (fun i hi e => by
    obtain ⟨-, q1, q2, q3⟩ := hr.l87.2.2.2.2 i hi
    exact ht (by rw [← e, h.2.1 _ (by omega)]; exact q3)) hd
theorem yKp.upR {K nb n n1 : Nat} {tg tg1 : Nat → yT} {I I1 : Nat → Nat → Int32} {R R1 R2 : Nat → Nat → Value} (h : yKp n tg I R n1 tg1 I1 R1) (h1 : R2 87 = R1 87) (h2 : R2 (yEl R 87) = R1 (yEl R 87)) : yKp n tg I R n1 tg1 I1 R2 := by
  obtain ⟨a1, a2, a3, a4, a5, a6, a7, a8⟩ := h
  exact ⟨a1, a2, a3, h1.trans a4, h2.trans a5, a6, a7, a8⟩
theorem yCI.cong {I I' : Nat → Nat → Int32} (h : yCI I) (hI : ∀ a, a < 83 → I' a = I a) : yCI I' := by
  unfold yCI at h ⊢
  rw [hI 38 (by decide), hI 40 (by decide), hI 48 (by decide), hI 59 (by decide), hI 69 (by decide), hI 77 (by decide), hI 34 (by decide), hI 70 (by decide)]
  exact h
theorem yRI.grow {K n n' : Nat} {tg tg' : Nat → yT} {I I' : Nat → Nat → Int32} {R R' : Nat → Nat → Value} (h : yRI K n tg I R) (hx : yX n tg I R n' tg' I' R') : yRI K n' tg' I' R' := by
  obtain ⟨h1, ⟨l1, l2, l3, l4, l5, l6⟩, h3, h4, h5, h6, h7⟩ := h.x (Nat.le_refl n) hx
  have hn := hx.1
  have li : ∀ {l et}, yLI n tg' I' R' l et → yLI n' tg' I' R' l et := fun {l et} hq => ⟨hq.1, by have := hq.2.1; omega, hq.2.2.1, hq.2.2.2.1, fun i hi => by
    obtain ⟨a, b, d, e⟩ := hq.2.2.2.2 i hi
    exact ⟨a, b, by omega, e⟩⟩
  refine ⟨h1, ⟨li l1, li l2, li l3, li l4, li l5, li l6⟩, h3, fun b b1 b2 => ?_, h5, h6, by omega⟩
  by_cases hb : b < n
  · obtain ⟨q1, q2, q3, q4⟩ := h4 b b1 hb
    refine ⟨q1, q2, q3, fun hq => ?_⟩
    obtain ⟨v1, v2⟩ := q4 hq
    exact ⟨by omega, v2⟩
  · have := hx.2.2 b (by omega) b2
    refine ⟨fun hq => ?_, fun hq => ?_, fun hq => ?_, fun hq => ?_⟩ <;> · rw [hq] at this; exact absurd this (by decide)
theorem yshr1 {x : Int32} (h : 0 ≤ x.toInt) : 0 ≤ (x >>> (Int32.ofInt 1 &&& 31)).toInt ∧ (x >>> (Int32.ofInt 1 &&& 31)).toInt ≤ x.toInt := by
  have e : (Int32.ofInt 1 &&& 31) = 1 := by decide
  rw [e]
  have h1 : (x >>> (1 : Int32)).toInt = (x.toBitVec.sshiftRight 1).toInt := by
    show (x >>> (1 : Int32)).toBitVec.toInt = _
    rw [Int32.toBitVec_shiftRight]
    rfl
  rw [h1, BitVec.toInt_sshiftRight, Int.shiftRight_eq_div_pow]
  have h2 : x.toBitVec.toInt = x.toInt := rfl
  rw [h2]
  omega
section YADD
variable {K nb n : Nat} {tg : Nat → yT} {I : Nat → Nat → Int32} {R : Nat → Nat → Value} {c s : Nat} {Q : yQ}
theorem l_newLength {x0 x1 x2 : Int32} {w : yS} (h0 : 0 < x0.toInt + (if x1.toInt < x2.toInt then x2.toInt else x1.toInt)) (h1 : x0.toInt + (if x1.toInt < x2.toInt then x2.toInt else x1.toInt) ≤ 2147483639) (hQ : ∀ v : Int32, v.toInt = x0.toInt + (if x1.toInt < x2.toInt then x2.toInt else x1.toInt) → Q (.inl (some (.int v))) w c s) : yC 315 [.int x0, .int x1, .int x2] w c s Q := by
  have hmx : (if x1 < x2 then x2 else x1).toInt = (if x1.toInt < x2.toInt then x2.toInt else x1.toInt) := by
    by_cases h : x1 < x2
    · rw [if_pos h, if_pos (Int32.lt_iff_toInt_lt.mp h)]
    · rw [if_neg h, if_neg (fun h2 => h (Int32.lt_iff_toInt_lt.mpr h2))]
  have hs : (x0 + (if x1 < x2 then x2 else x1)).toInt = x0.toInt + (if x1.toInt < x2.toInt then x2.toInt else x1.toInt) := by rw [yadd (by omega) (by omega), hmx]
  refine y_in (M := xm_J8_newLength_cabcc) (ls := [some _, some _, some _, none]) rfl rfl rfl ?_
  refine y_iload_n rfl rfl ?_
  refine y_iload_n rfl rfl ?_
  refine y_iload_n rfl rfl ?_
  refine y_max rfl rfl ?_
  refine y_iadd rfl ?_
  refine y_istore_n (ls' := [some _, some _, some _, some _]) rfl rfl rfl ?_
  refine y_iconst rfl ?_
  refine y_iload_n rfl rfl ?_
  refine y_icmp_ge rfl j_J8_newLength_cabcc_21 (fun h_1 => ?_) (fun h_2 => ?_)
  · rw [yz_0] at h_1
    exact absurd h_1 (by omega)
  · rw [yz_0] at h_2
    refine y_iload_n rfl rfl ?_
    refine y_ldcI (v := (2147483639 : Int)) rfl rfl rfl (by decide) ?_
    refine y_icmp_gt rfl j_J8_newLength_cabcc_21 (fun h_3 => ?_) (fun h_4 => ?_)
    · rw [yz_2147483639] at h_3
      exact absurd h_3 (by omega)
    · rw [yz_2147483639] at h_4
      refine y_iload_n rfl rfl ?_
      refine y_ireturn rfl rfl rfl ?_
      exact hQ _ hs
theorem l_grow0 {l : Nat} {x1 : Int32} (hS : ySh n tg R) (h87 : 87 ≤ l) (hl94 : l < 94) (tl : tg l = (7, 0)) (hl : l < n) (hE : R l 1 = .ref 0) (te : tg 0 = (3, 0)) (he : 0 < n) (h94 : 94 ≤ n) (hmn : x1.toInt = 1) (hQ : ∀ tg1 I1 R1 m1, tg1 n = (3, m1) → (∀ a, a < n → tg1 a = tg a) → (∀ a, a < n → I1 a = I a) → (∀ a, a < n → a ≠ l → R1 a = R a) → (∀ k, k ≠ 1 → R1 l k = R l k) → R1 l 1 = .ref n → (∀ i, i < 0 → R1 n i = R 0 i) → 0 + 1 ≤ m1 → 10 ≤ m1 → m1 ≤ 2 * 0 + 10 → Q (.inl (some (.ref n))) (n + 1, tg1, I1, R1) (c + 1) (s + m1)) : yC 300 [.ref l, .int x1] (n, tg, I, R) c s Q := by
  have hl0 := hl
  refine y_in (M := xm_Jx4a65c_grow_92f84) (ls := [some _, some _, none, none]) rfl rfl rfl ?_
  refine y_aload_n rfl rfl ?_
  refine y_getR rfl tl hl rfl rfl hE ?_
  refine y_alen rfl te rfl he ?_
  refine y_istore_n (ls' := [some _, some _, some _, _]) rfl rfl rfl ?_
  refine y_iload_n rfl rfl ?_
  refine y_if_gt rfl j_Jx4a65c_grow_92f84_20 (fun h_1 => ?_) (fun h_2 => ?_)
  · exact absurd h_1 (by decide)
  · refine y_aload_n rfl rfl ?_
    refine y_getR rfl tl hl rfl rfl hE ?_
    refine y_gets1 rfl rfl (ySh.n hS rfl) ?_
    refine y_acmp_eq rfl j_Jx4a65c_grow_92f84_45 rfl (fun h_3 => ?_) (fun h_4 => ?_)
    · refine y_aload_n rfl rfl ?_
      refine y_bip rfl (by decide) ?_
      refine y_iload_n rfl rfl ?_
      refine y_max rfl rfl ?_
      rw [show (if Int32.ofInt 10 < x1 then x1 else Int32.ofInt 10) = Int32.ofInt 10 from if_neg (fun h => by have := Int32.lt_iff_toInt_lt.mp h; rw [yz_10] at this; omega)]
      refine y_anewX rfl (by decide) (by decide) (fun n5 tg5 I5 R5 hA => ?_)
      have hnA := hA.1
      have hL1 := hA.2.2.2.2 l hl
      have hE1 := hA.2.2.2.2 0 he
      have tl := hL1.1.trans tl
      have te := hE1.1.trans te
      have hE := (congrFun hL1.2.2 1).trans hE
      have hl : l < n5 := by omega
      have he : 0 < n5 := by omega
      have ht_f := hA.2.1
      have ha_f : n < n5 := by omega
      refine y_dup_x1 rfl rfl rfl ?_
      refine y_putR rfl tl hl rfl (Nat.le_trans (by decide) (by omega : 87 ≤ _)) rfl rfl ?_
      refine y_nameR (fun R6 e6 => ?_)
      refine y_areturn rfl ?_
      subst hnA
      exact hQ _ _ _ 10 ht_f (fun a ha => (hA.2.2.2.2 a ha).1) (fun a ha => (hA.2.2.2.2 a ha).2.1) (fun a ha hal => (upR e6 a hal).trans (hA.2.2.2.2 a ha).2.2) (fun k hk => (by rw [e6, upd2_ne (.inr hk)]; exact congrFun (hA.2.2.2.2 l hl0).2.2 k)) (by rw [e6, upd2_self]) (fun i hi => absurd hi (by omega)) (by omega) (by omega) (by omega)
    · exact absurd rfl h_4
theorem l_grow1 {l e m : Nat} {x1 : Int32} (hS : ySh n tg R) (h87 : 87 ≤ l) (hl94 : l < 94) (tl : tg l = (7, 0)) (hl : l < n) (hE : R l 1 = .ref e) (te : tg e = (3, m)) (he : e < n) (h94 : 94 ≤ n) (hmn : x1.toInt = m + 1) (hm : m ≤ 1500) (hor : 94 ≤ e) (hor2 : 10 ≤ m) (hQ : ∀ tg1 I1 R1 m1, tg1 n = (3, m1) → (∀ a, a < n → tg1 a = tg a) → (∀ a, a < n → I1 a = I a) → (∀ a, a < n → a ≠ l → R1 a = R a) → (∀ k, k ≠ 1 → R1 l k = R l k) → R1 l 1 = .ref n → (∀ i, i < m → R1 n i = R e i) → m + 1 ≤ m1 → 10 ≤ m1 → m1 ≤ 2 * m + 10 → Q (.inl (some (.ref n))) (n + 1, tg1, I1, R1) (c + 1) (s + m1)) : yC 300 [.ref l, .int x1] (n, tg, I, R) c s Q := by
  have hl0 := hl
  have he0 := he
  have hm32 := ofNat32 (m := m) (by omega)
  have hm32' : (Int32.ofNat m).toInt.toNat = m := by rw [hm32]; rfl
  have hsub : (x1 - Int32.ofNat m).toInt = 1 := by rw [ysub (by omega) (by omega)]; omega
  have hsh := yshr1 (x := Int32.ofNat m) (by omega)
  refine y_in (M := xm_Jx4a65c_grow_92f84) (ls := [some _, some _, none, none]) rfl rfl rfl ?_
  refine y_aload_n rfl rfl ?_
  refine y_getR rfl tl hl rfl rfl hE ?_
  refine y_alen rfl te rfl he ?_
  refine y_istore_n (ls' := [some _, some _, some _, _]) rfl rfl rfl ?_
  refine y_iload_n rfl rfl ?_
  refine y_if_gt rfl j_Jx4a65c_grow_92f84_20 (fun h_1 => ?_) (fun h_2 => ?_)
  · refine y_iload_n rfl rfl ?_
    refine y_iload_n rfl rfl ?_
    refine y_iload_n rfl rfl ?_
    refine y_isub rfl ?_
    refine y_iload_n rfl rfl ?_
    refine y_iconst rfl ?_
    refine y_ishr rfl ?_
    refine y_static rfl rfl rfl rfl rfl ?_
    refine l_newLength (by omega) (by omega) (fun v_ hv => ?_)
    refine y_ret1 ?_
    refine y_istore_n (ls' := [some _, some _, some _, some _]) rfl rfl rfl ?_
    refine y_aload_n rfl rfl ?_
    refine y_aload_n rfl rfl ?_
    refine y_getR rfl tl hl rfl rfl hE ?_
    refine y_iload_n rfl rfl ?_
    refine y_static rfl rfl rfl rfl rfl ?_
    refine y_in (M := xm_J7_copyOf_1904c) (ls := [some _, some _]) rfl rfl rfl ?_
    refine y_aload_n rfl rfl ?_
    refine y_iload_n rfl rfl ?_
    refine y_aload_n rfl rfl ?_
    refine y_getClass rfl te he rfl ?_
    refine y_static rfl rfl rfl rfl rfl ?_
    refine y_in (M := xm_J7_copyOf_6403c) (ls := [some _, some _, some _, _]) rfl rfl rfl ?_
    refine y_aload_nR rfl rfl ?_
    refine y_ldcC rfl ?_
    refine y_acmp_ne rfl j_J7_copyOf_6403c_13 rfl (fun h_3 => ?_) (fun h_4 => ?_)
    · exact absurd rfl h_3
    · refine y_iload_n rfl rfl ?_
      refine y_anewX rfl (by omega) (by omega) (fun n5 tg5 I5 R5 hA => ?_)
      have hnA := hA.1
      have hL1 := hA.2.2.2.2 l hl
      have hE1 := hA.2.2.2.2 e he
      have tl := hL1.1.trans tl
      have te := hE1.1.trans te
      have hE := (congrFun hL1.2.2 1).trans hE
      have hl : l < n5 := by omega
      have he : e < n5 := by omega
      have ht_f := hA.2.1
      have ha_f : n < n5 := by omega
      refine y_goto rfl j_J7_copyOf_6403c_24 ?_
      refine y_astore_n (ls' := [some _, some _, some _, some _]) rfl rfl rfl ?_
      refine y_aload_n rfl rfl ?_
      refine y_iconst rfl ?_
      refine y_aload_n rfl rfl ?_
      refine y_iconst rfl ?_
      refine y_aload_n rfl rfl ?_
      refine y_alen rfl te rfl he ?_
      refine y_iload_n rfl rfl ?_
      refine y_min rfl rfl ?_
      rw [show (if v_ < Int32.ofNat m then v_ else Int32.ofNat m) = Int32.ofNat m from if_neg (fun h => by have := Int32.lt_iff_toInt_lt.mp h; omega)]
      refine y_copyR rfl te ht_f he ha_f (Nat.le_trans (by decide) (by omega : 87 ≤ _)) (Nat.le_trans (by decide) (by omega : 87 ≤ _)) (by omega) (by decide) (by decide) (by omega) (by rw [yz_0]; omega) (by rw [yz_0]; omega) rfl ?_
      refine y_nameR (fun RC eC => ?_)
      refine y_aload_n rfl rfl ?_
      refine y_areturn rfl ?_
      refine y_ret1 ?_
      refine y_areturn rfl ?_
      refine y_ret1 ?_
      refine y_dup_x1 rfl rfl rfl ?_
      refine y_putR rfl tl hl rfl (Nat.le_trans (by decide) (by omega : 87 ≤ _)) rfl rfl ?_
      refine y_nameR (fun R6 e6 => ?_)
      refine y_areturn rfl ?_
      subst hnA
      have hv2 : v_.toInt.toNat = v_.toInt.toNat := rfl
      have hRC : ∀ a, a ≠ n → RC a = R5 a := fun a ha => by rw [eC]; exact funext fun j => if_neg ha
      refine hQ _ _ _ v_.toInt.toNat ht_f (fun a ha => (hA.2.2.2.2 a ha).1) (fun a ha => (hA.2.2.2.2 a ha).2.1) (fun a ha hal => (upR e6 a hal).trans ((hRC a (by omega)).trans (hA.2.2.2.2 a ha).2.2)) (fun k hk => (by rw [e6, upd2_ne (.inr hk), hRC l (by omega)]; exact congrFun (hA.2.2.2.2 l hl0).2.2 k)) (by rw [e6, upd2_self]) (fun i hi => ?_) (by omega) (by omega) (by omega)
      rw [e6, upd2_ne (.inl (by omega)), eC]
      show (if n = n then va_cpy (R5 e) (R5 n) _ _ _ i else R5 n i) = R e i
      rw [if_pos rfl, (hA.2.2.2.2 e he0).2.2]
      unfold va_cpy
      rw [if_pos ⟨Nat.zero_le _, by rw [hm32']; show i < 0 + m; omega⟩]
      exact congrArg (R e) (by show 0 + (i - 0) = i; omega)
  · exact absurd h_2 (by omega)
theorem l_grow {l e m : Nat} {x1 : Int32} (hS : ySh n tg R) (h87 : 87 ≤ l) (hl94 : l < 94) (tl : tg l = (7, 0)) (hl : l < n) (hE : R l 1 = .ref e) (te : tg e = (3, m)) (he : e < n) (h94 : 94 ≤ n) (hmn : x1.toInt = m + 1) (hm : m ≤ 1500) (hor : e = 0 ∧ m = 0 ∨ 94 ≤ e ∧ 10 ≤ m) (hQ : ∀ tg1 I1 R1 m1, tg1 n = (3, m1) → (∀ a, a < n → tg1 a = tg a) → (∀ a, a < n → I1 a = I a) → (∀ a, a < n → a ≠ l → R1 a = R a) → (∀ k, k ≠ 1 → R1 l k = R l k) → R1 l 1 = .ref n → (∀ i, i < m → R1 n i = R e i) → m + 1 ≤ m1 → 10 ≤ m1 → m1 ≤ 2 * m + 10 → Q (.inl (some (.ref n))) (n + 1, tg1, I1, R1) (c + 1) (s + m1)) : yC 300 [.ref l, .int x1] (n, tg, I, R) c s Q := by
  rcases hor with ⟨rfl, rfl⟩ | ⟨h1, h2⟩
  · exact l_grow0 hS h87 hl94 tl hl hE te he h94 hmn hQ
  · exact l_grow1 hS h87 hl94 tl hl hE te he h94 hmn hm h1 h2 hQ
theorem l_add0 {l e m x : Nat} (hS : ySh n tg R) (h87 : 87 ≤ l) (hl94 : l < 94) (tl : tg l = (7, 0)) (hl : l < n) (hE : R l 1 = .ref e) (te : tg e = (3, m)) (he : e < n) (h94 : 94 ≤ n) (h0 : 0 ≤ (I l 2).toInt) (hsz : (I l 2).toInt ≤ (m : Int)) (hm2 : (m : Int) ≤ 2 * (I l 2).toInt + 10) (hlim : (I l 2).toInt ≤ 600) (hor : e = 0 ∧ m = 0 ∨ 94 ≤ e ∧ 10 ≤ m) (hx : 94 ≤ x) (hxn : x < n) (hQ : ∀ n1 tg1 I1 R1 c1 s1 (e1 m1 : Nat), n ≤ n1 → (∀ a, a < n → tg1 a = tg a) → (∀ a, a < n → a ≠ l → I1 a = I a) → (I1 l 2).toInt = (I l 2).toInt + 1 → (∀ a, a < n → a ≠ l → (a ≠ e ∨ e < 94) → R1 a = R a) → R1 l 1 = .ref e1 → e1 < n1 → tg1 e1 = (3, m1) → 94 ≤ e1 → (e1 = e ∨ e1 = n) → 10 ≤ m1 → (I l 2).toInt + 1 ≤ (m1 : Int) → (m1 : Int) ≤ 2 * (I l 2).toInt + 12 → (∀ i : Nat, (i : Int) < (I l 2).toInt → R1 e1 i = R e i) → R1 e1 (I l 2).toInt.toNat = .ref x → (∀ a, n ≤ a → a < n1 → (tg1 a).1 < 18) → c1 ≤ c + 1 → s1 ≤ s + 1300 → Q (.inl (some (.int (Int32.ofInt 1)))) (n1, tg1, I1, R1) c1 s1) : yC 306 [.ref l, .ref x] (n, tg, I, R) c s Q := by
  have hm32 := ofNat32 (m := m) (by omega)
  have hle : l ≠ e := by omega
  refine y_in (M := xm_Jx4a65c_add_9ea2d) (ls := [some _, some _]) rfl rfl rfl ?_
  refine y_aload_n rfl rfl ?_
  refine y_dup rfl rfl ?_
  refine y_getI rfl tl hl rfl rfl ?_
  refine y_iconst rfl ?_
  refine y_iadd rfl ?_
  refine y_putI rfl tl hl rfl (Nat.le_trans (by decide) (by omega : 87 ≤ _)) rfl rfl ?_
  refine y_nameI (fun I1 e1 => ?_)
  have hs5 : I1 l 2 = I l 2 := by rw [e1, upd2_ne (.inr (by decide))]
  have eA := e1
  refine y_aload_n rfl rfl ?_
  refine y_aload_n rfl rfl ?_
  refine y_aload_n rfl rfl ?_
  refine y_getR rfl tl hl rfl rfl hE ?_
  refine y_aload_n rfl rfl ?_
  refine y_getI rfl tl hl rfl rfl ?_
  refine y_virt rfl rfl rfl rfl rfl tl hl ?_
  refine y_in (M := xm_Jx4a65c_add_72be8) (ls := [some _, some _, some _, some _]) rfl rfl rfl ?_
  refine y_iload_n rfl rfl ?_
  refine y_aload_n rfl rfl ?_
  refine y_alen rfl te rfl he ?_
  refine y_icmp_ne rfl j_Jx4a65c_add_72be8_11 (fun h_2 => ?_) (fun h_3 => ?_)
  · rw [hs5] at h_2
    have he94 : 94 ≤ e := by omega
    have hsm : (I l 2).toInt < (m : Int) := by omega
    refine y_aload_n rfl rfl ?_
    refine y_iload_n rfl rfl ?_
    refine y_aload_n rfl rfl ?_
    refine y_aastore rfl te he (Nat.le_trans (by decide) (by omega : 87 ≤ _)) (by omega) (Nat.le_trans (by decide) (by omega : 94 ≤ _)) (by rw [hs5]; omega) (by rw [hs5]; omega) ?_
    refine y_nameR (fun RS eS => ?_)
    refine y_aload_n rfl rfl ?_
    refine y_iload_n rfl rfl ?_
    refine y_iconst rfl ?_
    refine y_iadd rfl ?_
    refine y_putI rfl tl hl rfl (Nat.le_trans (by decide) (by omega : 87 ≤ _)) rfl rfl ?_
    refine y_nameI (fun I4 e4 => ?_)
    refine y_return rfl ?_
    refine y_ret0 ?_
    refine y_iconst rfl ?_
    refine y_ireturn rfl rfl rfl ?_
    refine hQ _ _ _ _ _ _ e m (Nat.le_refl n) (fun _ _ => rfl) (fun a ha hal => (upI e4 a hal).trans (upI eA a hal)) (by rw [e4, upd2_self, hs5, yinc (by omega)]) (fun a ha hal hae => upR eS a (by omega)) (by rw [eS, upd2_ne (.inl hle)]; exact hE) he te he94 (.inl rfl) (by omega) (by omega) (by omega) (fun i hi => by rw [eS, upd2_ne (.inr (by rw [hs5]; omega))]) (by rw [eS, hs5, upd2_self]) (fun a h1 h2 => by omega) (by omega) (by omega)
  · rw [hs5] at h_3
    refine y_aload_n rfl rfl ?_
    refine y_virt rfl rfl rfl rfl rfl tl hl ?_
    refine y_in (M := xm_Jx4a65c_grow_d5877) (ls := [some _]) rfl rfl rfl ?_
    refine y_aload_n rfl rfl ?_
    refine y_aload_n rfl rfl ?_
    refine y_getI rfl tl hl rfl rfl ?_
    refine y_iconst rfl ?_
    refine y_iadd rfl ?_
    refine y_virt rfl rfl rfl rfl rfl tl hl ?_
    refine l_grow hS h87 hl94 tl hl hE te he h94 (by rw [hs5, yinc (by omega)]; omega) (by omega) hor (fun tg5 I5 R5 m1 g1 g2 g3 g4 g5 g6 g7 g8 g9 g10 => ?_)
    have hln : l ≠ n := by omega
    have tl := (g2 l hl).trans tl
    have hl : l < n + 1 := by omega
    have hf : n < n + 1 := by omega
    refine y_ret1 ?_
    refine y_areturn rfl ?_
    refine y_ret1 ?_
    refine y_astore_n (ls' := [some _, some _, some _, some _]) rfl rfl rfl ?_
    refine y_aload_n rfl rfl ?_
    refine y_iload_n rfl rfl ?_
    refine y_aload_n rfl rfl ?_
    refine y_aastore rfl g1 hf (Nat.le_trans (by decide) (by omega : 87 ≤ _)) (by omega) (Nat.le_trans (by decide) (by omega : 94 ≤ _)) (by rw [hs5]; omega) (by rw [hs5]; omega) ?_
    refine y_nameR (fun RS eS => ?_)
    refine y_aload_n rfl rfl ?_
    refine y_iload_n rfl rfl ?_
    refine y_iconst rfl ?_
    refine y_iadd rfl ?_
    refine y_putI rfl tl hl rfl (Nat.le_trans (by decide) (by omega : 87 ≤ _)) rfl rfl ?_
    refine y_nameI (fun I6 e6 => ?_)
    refine y_return rfl ?_
    refine y_ret0 ?_
    refine y_iconst rfl ?_
    refine y_ireturn rfl rfl rfl ?_
    refine hQ _ _ _ _ _ _ n m1 (by omega) g2 (fun a ha hal => (upI e6 a hal).trans ((g3 a ha).trans (upI eA a hal))) (by rw [e6, upd2_self, hs5, yinc (by omega)]) (fun a ha hal hae => (upR eS a (by omega)).trans (g4 a ha hal)) (by rw [eS, upd2_ne (.inl hln)]; exact g6) (by omega) g1 h94 (.inr rfl) (by omega) (by omega) (by omega) (fun i hi => by rw [eS, upd2_ne (.inr (by rw [hs5]; omega))]; exact g7 i (by omega)) (by rw [eS, hs5, upd2_self]) (fun a h1 h2 => by rw [show a = n by omega, g1]; show (3 : Nat) < 18; decide) (by omega) (by omega)
/-- what adding x to the list at l leaves -/
def yAdd (n : Nat) (tg : Nat → yT) (I : Nat → Nat → Int32) (R : Nat → Nat → Value) (l x : Nat) (n1 : Nat) (tg1 : Nat → yT) (I1 : Nat → Nat → Int32) (R1 : Nat → Nat → Value) : Prop := ∃ e1 m1 : Nat, n ≤ n1 ∧ (∀ a, a < n → tg1 a = tg a) ∧ (∀ a, a < n → a ≠ l → I1 a = I a) ∧ (I1 l 2).toInt = (I l 2).toInt + 1 ∧ (∀ a, a < n → a ≠ l → (a ≠ yEl R l ∨ yEl R l < 94) → R1 a = R a) ∧ R1 l 1 = .ref e1 ∧ e1 < n1 ∧ tg1 e1 = (3, m1) ∧ 94 ≤ e1 ∧ (e1 = yEl R l ∨ e1 = n) ∧ 10 ≤ m1 ∧ (I l 2).toInt + 1 ≤ (m1 : Int) ∧ (m1 : Int) ≤ 2 * (I l 2).toInt + 12 ∧ (∀ i : Nat, (i : Int) < (I l 2).toInt → R1 e1 i = R (yEl R l) i) ∧ R1 e1 (I l 2).toInt.toNat = .ref x ∧ ∀ a, n ≤ a → a < n1 → (tg1 a).1 < 18
theorem l_add {l x : Nat} {et : yT} (hS : ySh n tg R) (h87 : 87 ≤ l) (hl94 : l ≤ 92) (tl : tg l = (7, 0)) (hn : nb ≤ n) (hL : yLI nb tg I R l et) (hlim : (I l 2).toInt ≤ 600) (hx : 94 ≤ x) (hxn : x < n) (hQ : ∀ n1 tg1 I1 R1 c1 s1, yAdd n tg I R l x n1 tg1 I1 R1 → c1 ≤ c + 1 → s1 ≤ s + 1300 → Q (.inl (some (.int (Int32.ofInt 1)))) (n1, tg1, I1, R1) c1 s1) : yC 306 [.ref l, .ref x] (n, tg, I, R) c s Q := by
  obtain ⟨a1, a2, ⟨m, a3, a4, a5, a6⟩, a7, a8⟩ := hL
  have h94 : 94 ≤ n := hS.1
  exact l_add0 hS h87 (by omega) tl (by omega) a1 a3 (by omega) h94 a7 a4 a5 hlim a6 hx hxn (fun n1 tg1 I1 R1 c1 s1 e1 m1 g1 g2 g3 g4 g5 g6 g7 g8 g9 g10 g11 g12 g13 g14 g15 g16 g17 g18 => hQ n1 tg1 I1 R1 c1 s1 ⟨e1, m1, g1, g2, g3, g4, g5, g6, g7, g8, g9, g10, g11, g12, g13, g14, g15, g16⟩ g17 g18)
end YADD
theorem ySh.add {n n1 : Nat} {tg tg1 : Nat → yT} {I I1 : Nat → Nat → Int32} {R R1 : Nat → Nat → Value} {l x : Nat} (h : ySh n tg R) (ha : yAdd n tg I R l x n1 tg1 I1 R1) (hl : 87 ≤ l) (hl2 : l ≤ 92) (he : yEl R l = 0 ∨ 94 ≤ yEl R l) : ySh n1 tg1 R1 := by
  obtain ⟨e1, m1, g1, g2, g3, g4, g5, g6, g7, g8, g9, g10, g11, g12, g13, g14, g15, g16⟩ := ha
  have hn : 94 ≤ n := h.1
  have e : ∀ a t, yt0 a = some t → a < 94 := by
    intro a t ha
    by_cases hl : a < 94
    · exact hl
    · exfalso
      have : yt0L.getD a none = some t := ha
      rw [List.getD_eq_getElem?_getD, List.getElem?_eq_none (by show 94 ≤ a; omega)] at this
      cases this
  have e2 : ∀ a k b, yr0 a k = some b → a < 87 := by
    intro a k b ha
    by_cases hl : a < 94
    · by_cases h87 : a < 87
      · exact h87
      · exfalso
        have h7 : ∀ j : Nat, j < 7 → ∀ k : Nat, (yr0L.getD (87 + j) []).getD k none = none := by
          intro j hj k
          match j, hj with
          | 0, _ => rfl
          | 1, _ => rfl
          | 2, _ => rfl
          | 3, _ => rfl
          | 4, _ => rfl
          | 5, _ => rfl
          | 6, _ => rfl
        have := h7 (a - 87) (by omega) k
        rw [show 87 + (a - 87) = a by omega] at this
        rw [show yr0 a k = (yr0L.getD a []).getD k none from rfl, this] at ha
        cases ha
    · exfalso
      have : (yr0L.getD a []).getD k none = some b := ha
      rw [show yr0L.getD a [] = [] by rw [List.getD_eq_getElem?_getD, List.getElem?_eq_none (by show 94 ≤ a; omega)]; rfl] at this
      cases k <;> cases this
  refine ⟨by show 94 ≤ n1; omega, fun a t ha => ?_, fun a k b ha => ?_⟩
  · have := e a t ha
    rw [g2 a (by omega)]; exact h.2.1 a t ha
  · have := e2 a k b ha
    rw [g5 a (by omega) (by omega) (by omega)]; exact h.2.2 a k b ha
theorem yRI.add {K K' nb n n1 : Nat} {tg tg1 : Nat → yT} {I I1 : Nat → Nat → Int32} {R R1 : Nat → Nat → Value} {l x : Nat} {et : yT} (h : yRI K nb tg I R) (hn : nb ≤ n) (ha : yAdd n tg I R l x n1 tg1 I1 R1) (hl : 87 ≤ l) (hl2 : l ≤ 92) (het : et = if l = 87 then (0, 4) else if l = 88 then (20, 0) else if l = 89 then (19, 0) else if l = 90 then (18, 0) else if l = 91 then (21, 0) else (0, 7)) (hx : nb ≤ x) (hxn : x < n) (hxt : tg x = et) (hnew : ∀ a, nb ≤ a → a < n → a ≠ x → (tg a).1 < 18) (hk : K ≤ K') (hnum : yNum K' I1) (hob : yOb K' n1 tg1 I1 R1 x) (hfr : l = 92 → 1 ≤ (I x 0).toInt ∧ (I x 0).toInt ≤ 999) (hwd : l = 87 → (I x 0).toInt ≤ (I 83 1).toInt ∧ (0 ≤ (I x 1).toInt ∧ (I x 1).toInt < 5) ∧ ((I x 3).toInt = 0 ∨ (I x 3).toInt = 1)) : yRI K' n1 tg1 I1 R1 := by
  have hli := h.li
  have h94 := h.2.2.2.2.2.2
  have hL : ∀ l' et', yLI nb tg I R l' et' → yEl R l' = 0 ∨ 94 ≤ yEl R l' := fun l' et' hq => by
    obtain ⟨m, -, -, -, q⟩ := hq.2.2.1
    omega
  have hz : ∀ l', 87 ≤ l' → l' ≤ 92 → (yEl R l' = 0 ∨ 94 ≤ yEl R l') ∧ yEl R l' < nb := fun l' h1 h2 => by
    rcases (by omega : l' = 87 ∨ l' = 88 ∨ l' = 89 ∨ l' = 90 ∨ l' = 91 ∨ l' = 92) with rfl | rfl | rfl | rfl | rfl | rfl
    · exact ⟨hL _ _ h.l87, hli.1⟩
    · exact ⟨hL _ _ h.l88, hli.2.1⟩
    · exact ⟨hL _ _ h.l89, hli.2.2.1⟩
    · exact ⟨hL _ _ h.l90, hli.2.2.2.1⟩
    · exact ⟨hL _ _ h.l91, hli.2.2.2.2.1⟩
    · exact ⟨hL _ _ h.l92, hli.2.2.2.2.2⟩
  obtain ⟨e1, m1, g1, g2, g3, g4, g5, g6, g7, g8, g9, g10, g11, g12, g13, g14, g15, g16⟩ := ha
  have hEl : yEl R1 l = e1 := by unfold yEl; rw [g6]; rfl
  -- the other lists
  have hne : ∀ l', 87 ≤ l' → l' ≤ 92 → l' ≠ l → R1 l' = R l' ∧ R1 (yEl R l') = R (yEl R l') ∧ I1 l' = I l' := fun l' h1 h2 h3 => by
    obtain ⟨q1, q2⟩ := hz l' h1 h2
    obtain ⟨q3, q4⟩ := hz l hl hl2
    refine ⟨g5 l' (by omega) h3 (by omega), g5 _ (by omega) (by omega) ?_, g3 l' (by omega) h3⟩
    by_cases hq : yEl R l < 94
    · exact .inr hq
    · refine .inl fun e => ?_
      exact h.2.2.1 l' l h1 h2 hl hl2 h3 (by omega) e
  have hoth : ∀ {l' et'}, 87 ≤ l' → l' ≤ 92 → l' ≠ l → yLI nb tg I R l' et' → yLI n1 tg1 I1 R1 l' et' := fun {l' et'} h1 h2 h3 hq => by
    obtain ⟨q1, q2, q3⟩ := hne l' h1 h2 h3
    have hs := hq.same (tg' := tg1) (I' := I1) (R' := R1) (fun a ha => g2 a (by omega)) (by rw [q3]) q1 q2
    refine ⟨hs.1, by have := hs.2.1; omega, hs.2.2.1, hs.2.2.2.1, fun i hi => ?_⟩
    obtain ⟨a, b, d, e⟩ := hs.2.2.2.2 i hi
    exact ⟨a, b, by omega, e⟩
  have hAd : ∀ i : Nat, (i : Int) < (I l 2).toInt → yAd R1 l i = yAd R l i := fun i hi => by
    unfold yAd; rw [hEl, g14 i hi]
  have hAx : yAd R1 l (I l 2).toInt.toNat = x := by unfold yAd; rw [hEl, g15]; rfl
  have hself : ∀ {et'}, et' = et → yLI nb tg I R l et' → yLI n1 tg1 I1 R1 l et' := fun {et'} he hq => by
    subst he
    have hsz := hq.2.2.2.1
    refine ⟨by rw [hEl]; exact g6, by rw [hEl]; exact g7, ⟨m1, by rw [hEl]; exact g8, by rw [g4]; exact g12, by rw [g4]; omega, by rw [hEl]; exact .inr ⟨g9, g11⟩⟩, by rw [g4]; omega, fun i hi => ?_⟩
    rw [g4] at hi
    by_cases hil : (i : Int) < (I l 2).toInt
    · obtain ⟨a, b, d, e⟩ := hq.2.2.2.2 i hil
      rw [hAd i hil, hEl, g14 i hil]
      exact ⟨a, b, by omega, by rw [g2 _ (by omega)]; exact e⟩
    · have hi' : i = (I l 2).toInt.toNat := by omega
      subst hi'
      rw [hAx, hEl]
      exact ⟨g15, by omega, by omega, by rw [g2 _ hxn]; exact hxt⟩
  have I83 : I1 83 = I 83 := g3 83 (by omega) (by omega)
  refine ⟨hnum, ?_, fun l1 l2 a1 a2 a3 a4 a5 a6 => ?_, fun b b1 b2 => ?_, fun i hi => ?_, fun i hi => ?_, by omega⟩
  · refine ⟨?_, ?_, ?_, ?_, ?_, ?_⟩
    · by_cases hq : l = 87
      · subst hq; exact hself (by rw [het]; rfl) h.l87
      · exact hoth (by decide) (by decide) (Ne.symm hq) h.l87
    · by_cases hq : l = 88
      · subst hq; exact hself (by rw [het]; rfl) h.l88
      · exact hoth (by decide) (by decide) (Ne.symm hq) h.l88
    · by_cases hq : l = 89
      · subst hq; exact hself (by rw [het]; rfl) h.l89
      · exact hoth (by decide) (by decide) (Ne.symm hq) h.l89
    · by_cases hq : l = 90
      · subst hq; exact hself (by rw [het]; rfl) h.l90
      · exact hoth (by decide) (by decide) (Ne.symm hq) h.l90
    · by_cases hq : l = 91
      · subst hq; exact hself (by rw [het]; rfl) h.l91
      · exact hoth (by decide) (by decide) (Ne.symm hq) h.l91
    · by_cases hq : l = 92
      · subst hq; exact hself (by rw [het]; rfl) h.l92
      · exact hoth (by decide) (by decide) (Ne.symm hq) h.l92
  · have key : ∀ l1 l2, 87 ≤ l1 → l1 ≤ 92 → 87 ≤ l2 → l2 ≤ 92 → l1 ≠ l2 → l1 ≠ l → 94 ≤ yEl R1 l1 → yEl R1 l1 ≠ yEl R1 l2 := fun l1 l2 a1 a2 a3 a4 a5 h1 a6 => by
      rw [yEl_eq (hne l1 a1 a2 h1).1] at a6 ⊢
      by_cases h2 : l2 = l
      · subst h2
        rw [hEl]
        rcases g10 with g | g
        · rw [g]; exact h.2.2.1 l1 l2 a1 a2 a3 a4 a5 a6
        · have := (hz l1 a1 a2).2; omega
      · rw [yEl_eq (hne l2 a3 a4 h2).1]
        exact h.2.2.1 l1 l2 a1 a2 a3 a4 a5 a6
    by_cases h1 : l1 = l
    · by_cases h9 : 94 ≤ yEl R1 l2
      · exact fun e => key l2 l1 a3 a4 a1 a2 (Ne.symm a5) (by omega) h9 e.symm
      · omega
    · exact key l1 l2 a1 a2 a3 a4 a5 h1 a6
  · by_cases hbx : b = x
    · rw [hbx]; exact hob
    by_cases hbn : b < nb
    · obtain ⟨q1, q2, q3, q4⟩ := h.2.2.2.1 b b1 hbn
      have hI : I1 b = I b := g3 b (by omega) (by omega)
      unfold yOb
      rw [g2 b (by omega), hI]
      refine ⟨q1, q2, fun hq => ?_, fun hq => ?_⟩
      · obtain ⟨w1, w2⟩ := q3 hq
        have : (I 88 2).toInt ≤ (I1 88 2).toInt := by
          by_cases h8 : l = 88
          · subst h8; rw [g4]; omega
          · rw [g3 88 (by omega) (Ne.symm h8)]; omega
        exact ⟨by omega, w2⟩
      · obtain ⟨v1, v2, v3, v4, v5, v6, v7, v8⟩ := q4 hq
        have hR : R1 b = R b := g5 b (by omega) (by omega) (by
          by_cases h9 : yEl R l < 94
          · exact .inr h9
          · refine .inl fun e => ?_
            have ht3 : ∃ m, tg (yEl R l) = (3, m) := by
              rcases (by omega : l = 87 ∨ l = 88 ∨ l = 89 ∨ l = 90 ∨ l = 91 ∨ l = 92) with rfl | rfl | rfl | rfl | rfl | rfl
              · obtain ⟨m, q, -⟩ := h.l87.2.2.1; exact ⟨m, q⟩
              · obtain ⟨m, q, -⟩ := h.l88.2.2.1; exact ⟨m, q⟩
              · obtain ⟨m, q, -⟩ := h.l89.2.2.1; exact ⟨m, q⟩
              · obtain ⟨m, q, -⟩ := h.l90.2.2.1; exact ⟨m, q⟩
              · obtain ⟨m, q, -⟩ := h.l91.2.2.1; exact ⟨m, q⟩
              · obtain ⟨m, q, -⟩ := h.l92.2.2.1; exact ⟨m, q⟩
            obtain ⟨m, ht3⟩ := ht3
            rw [← e, hq] at ht3
            exact absurd (show (21 : Nat) = 3 from congrArg Prod.fst ht3) (by decide))
        have e2 : I1 (b + 2) = I (b + 2) := g3 _ (by omega) (by omega)
        refine ⟨by omega, fun j hj => by rw [hR]; exact v2 j hj, ?_, ?_, ?_, ?_, fun j hj => by rw [e2]; exact v7 j hj, by rw [e2]; omega⟩
        · rw [g2 _ (by omega)]; exact v3
        · rw [g2 _ (by omega)]; exact v4
        · rw [g2 _ (by omega)]; exact v5
        · rw [g2 _ (by omega)]; exact v6
    · have h18 : (tg1 b).1 < 18 := by
        by_cases hbn2 : b < n
        · rw [g2 b hbn2]; exact hnew b (by omega) hbn2 hbx
        · exact g16 b (by omega) b2
      refine ⟨fun hq => ?_, fun hq => ?_, fun hq => ?_, fun hq => ?_⟩ <;> · rw [hq] at h18; exact absurd h18 (by decide)
  · by_cases hq : l = 92
    · subst hq
      rw [g4] at hi
      by_cases hil : (i : Int) < (I 92 2).toInt
      · obtain ⟨a, b, d, e⟩ := h.l92.2.2.2.2 i hil
        rw [hAd i hil, g3 _ (by omega) (by omega)]
        exact h.2.2.2.2.1 i hil
      · have hi' : i = (I 92 2).toInt.toNat := by have := h.l92.2.2.2.1; omega
        subst hi'
        rw [hAx, g3 x hxn (by omega)]
        exact hfr rfl
    · obtain ⟨q1, q2, q3⟩ := hne 92 (by decide) (by decide) (Ne.symm hq)
      rw [q3] at hi
      obtain ⟨a, b, d, e⟩ := h.l92.2.2.2.2 i hi
      rw [yAd_eq q1 q2, g3 _ (by omega) (by omega)]
      exact h.2.2.2.2.1 i hi
  · rw [I83]
    by_cases hq : l = 87
    · subst hq
      rw [g4] at hi
      by_cases hil : (i : Int) < (I 87 2).toInt
      · obtain ⟨a, b, d, e⟩ := h.l87.2.2.2.2 i hil
        rw [hAd i hil, g3 _ (by omega) (by omega)]
        exact h.2.2.2.2.2.1 i hil
      · have hi' : i = (I 87 2).toInt.toNat := by have := h.l87.2.2.2.1; omega
        subst hi'
        rw [hAx, g3 x hxn (by omega)]
        exact hwd rfl
    · obtain ⟨q1, q2, q3⟩ := hne 87 (by decide) (by decide) (Ne.symm hq)
      rw [q3] at hi
      obtain ⟨a, b, d, e⟩ := h.l87.2.2.2.2 i hi
      rw [yAd_eq q1 q2, g3 _ (by omega) (by omega)]
      exact h.2.2.2.2.2.1 i hi
theorem yKp.add {K nb n0 n n1 : Nat} {tg0 tg tg1 : Nat → yT} {I0 I I1 : Nat → Nat → Int32} {R0 R R1 : Nat → Nat → Value} {l x : Nat} (h : yKp n0 tg0 I0 R0 n tg I R) (hr0 : yRI K nb tg0 I0 R0) (hn : nb ≤ n0) (hd : ∀ l', 87 ≤ l' → l' ≤ 92 → 87 ≠ l' → 94 ≤ yEl R 87 → yEl R 87 ≠ yEl R l') (ha : yAdd n tg I R l x n1 tg1 I1 R1) (hl : 88 ≤ l) (hl2 : l ≤ 92) (he : yEl R l = 0 ∨ 94 ≤ yEl R l) : yKp n0 tg0 I0 R0 n1 tg1 I1 R1 := by
  obtain ⟨a1, a2, a3, a4, a5, a6, a7, a8⟩ := h
  obtain ⟨e1, m1, g1, g2, g3, g4, g5, -⟩ := ha
  have h94 := hr0.2.2.2.2.2.2
  have hE := hr0.li.1
  have hE7 : yEl R 87 = yEl R0 87 := yEl_eq a4
  have hz : yEl R0 87 = 0 ∨ 94 ≤ yEl R0 87 := by
    obtain ⟨m, -, -, -, q⟩ := hr0.l87.2.2.1
    omega
  refine ⟨by omega, fun a h => (g2 a (by omega)).trans (a2 a h), fun a h => (g3 a (by omega) (by omega)).trans (a3 a h), (g5 87 (by omega) (by omega) (by omega)).trans a4, ?_, (g3 87 (by omega) (by omega)).trans a6, fun i hi => ?_, ?_⟩
  · refine (g5 _ (by omega) (by omega) ?_).trans a5
    by_cases h9 : yEl R l < 94
    · exact .inr h9
    · refine .inl fun e => ?_
      exact hd l (by omega) hl2 (by omega) (by rw [hE7, e]; omega) (by rw [hE7]; exact e)
  · obtain ⟨-, q1, q2, -⟩ := hr0.l87.2.2.2.2 i hi
    exact (g3 _ (by omega) (by omega)).trans (a7 i hi)
  · rw [g3 83 (by omega) (by omega)]; exact a8
theorem yRI.mod0 {K nb : Nat} {tg : Nat → yT} {I I' : Nat → Nat → Int32} {R : Nat → Nat → Value} (h : yRI K nb tg I R) {k : Nat} {x : Int32} (e : I' = upd2 I 83 k x) (h8 : k ≠ 8) (h1 : k ≠ 1) : yRI K nb tg I' R := by
  have hN := h.1
  refine h.mod (upI e) ?_ ?_
  · rw [e, upd2_ne (.inr (Ne.symm h8))]; omega
  · rw [e, upd2_ne (.inr (Ne.symm h1))]; omega
theorem yRI.arr {K nb : Nat} {tg : Nat → yT} {I I' : Nat → Nat → Int32} {R : Nat → Nat → Value} (h : yRI K nb tg I R) {a k : Nat} {x : Int32} (e : I' = upd2 I a k x) (ha : 84 ≤ a ∧ a ≤ 86) : yRI K nb tg I' R := h.cong fun b hb => upI e b (by omega)
abbrev ySz8 (I I' : Nat → Nat → Int32) : Prop := (I' 83 8).toInt = (I 83 8).toInt ∧ (I' 83 1).toInt = (I 83 1).toInt ∧ (I' 87 2).toInt = (I 87 2).toInt ∧ (I' 88 2).toInt = (I 88 2).toInt ∧ (I' 89 2).toInt = (I 89 2).toInt ∧ (I' 90 2).toInt = (I 90 2).toInt ∧ (I' 91 2).toInt = (I 91 2).toInt ∧ (I' 92 2).toInt = (I 92 2).toInt
theorem ySz_ofE {I I' : Nat → Nat → Int32} {a : Nat} (h : ∀ b, b ≠ a → I' b = I b) (ha : a ≠ 83 ∧ (a < 87 ∨ 92 < a)) : ySz I I' := by
  have e : ∀ l k, l ≠ a → (I' l k).toInt = (I l k).toInt := fun l k h1 => by rw [h l h1]
  exact ⟨e _ _ (by omega), e _ _ (by omega), e _ _ (by omega), e _ _ (by omega), e _ _ (by omega), e _ _ (by omega), e _ _ (by omega), e _ _ (by omega), e _ _ (by omega)⟩
theorem ySz_ofM {I I' : Nat → Nat → Int32} (h : ∀ b, b ≠ 83 → I' b = I b) (h83 : I' 83 8 = I 83 8 ∧ I' 83 1 = I 83 1 ∧ I' 83 0 = I 83 0) : ySz I I' := by
  have e : ∀ l k, l ≠ 83 → (I' l k).toInt = (I l k).toInt := fun l k h1 => by rw [h l h1]
  exact ⟨by rw [h83.1], by rw [h83.2.1], e _ _ (by decide), e _ _ (by decide), e _ _ (by decide), e _ _ (by decide), e _ _ (by decide), e _ _ (by decide), by rw [h83.2.2]⟩
theorem ySz8_of {I I' : Nat → Nat → Int32} (h : ∀ b, b ≠ 83 → I' b = I b) (h83 : I' 83 8 = I 83 8 ∧ I' 83 1 = I 83 1) : ySz8 I I' := by
  have e : ∀ l k, 87 ≤ l → l ≤ 92 → (I' l k).toInt = (I l k).toInt := fun l k h1 h2 => by rw [h l (by omega)]
  exact ⟨by rw [h83.1], by rw [h83.2], e _ _ (by decide) (by decide), e _ _ (by decide) (by decide), e _ _ (by decide) (by decide), e _ _ (by decide) (by decide), e _ _ (by decide) (by decide), e _ _ (by decide) (by decide)⟩
/-- growth, whatever the new cells are -/
def yY (n : Nat) (tg : Nat → yT) (I : Nat → Nat → Int32) (R : Nat → Nat → Value) (n' : Nat) (tg' : Nat → yT) (I' : Nat → Nat → Int32) (R' : Nat → Nat → Value) : Prop := n ≤ n' ∧ (∀ a, a < n → tg' a = tg a ∧ I' a = I a ∧ R' a = R a) ∧ True
theorem yX.y {n n' : Nat} {tg tg' : Nat → yT} {I I' : Nat → Nat → Int32} {R R' : Nat → Nat → Value} (h : yX n tg I R n' tg' I' R') : yY n tg I R n' tg' I' R' := ⟨h.1, h.2.1, trivial⟩
theorem yAl.y {n n' : Nat} {tg tg' : Nat → yT} {I I' : Nat → Nat → Int32} {R R' : Nat → Nat → Value} {t : yT} (h : yAl n tg I R n' tg' I' R' t) : yY n tg I R n' tg' I' R' := ⟨by have := h.1; omega, h.2.2.2.2, trivial⟩
theorem yY.trans {n n1 n2 : Nat} {tg tg1 tg2 : Nat → yT} {I I1 I2 : Nat → Nat → Int32} {R R1 R2 : Nat → Nat → Value} (h : yY n tg I R n1 tg1 I1 R1) (h' : yY n1 tg1 I1 R1 n2 tg2 I2 R2) : yY n tg I R n2 tg2 I2 R2 := ⟨Nat.le_trans h.1 h'.1, fun a ha => by
  obtain ⟨a1, a2, a3⟩ := h.2.1 a ha
  obtain ⟨b1, b2, b3⟩ := h'.2.1 a (Nat.lt_of_lt_of_le ha h.1)
  exact ⟨b1.trans a1, b2.trans a2, b3.trans a3⟩, trivial⟩
theorem yY.upI {n n1 : Nat} {tg tg1 : Nat → yT} {I I1 I2 : Nat → Nat → Int32} {R R1 : Nat → Nat → Value} {b : Nat} (h : yY n tg I R n1 tg1 I1 R1) (hb : n ≤ b) (hI : ∀ a, a ≠ b → I2 a = I1 a) : yY n tg I R n1 tg1 I2 R1 := ⟨h.1, fun a ha => by
  obtain ⟨a1, a2, a3⟩ := h.2.1 a ha
  exact ⟨a1, (hI a (by omega)).trans a2, a3⟩, h.2.2⟩
theorem yY.upR {n n1 : Nat} {tg tg1 : Nat → yT} {I I1 : Nat → Nat → Int32} {R R1 R2 : Nat → Nat → Value} {b : Nat} (h : yY n tg I R n1 tg1 I1 R1) (hb : n ≤ b) (hR : ∀ a, a ≠ b → R2 a = R1 a) : yY n tg I R n1 tg1 I1 R2 := ⟨h.1, fun a ha => by
  obtain ⟨a1, a2, a3⟩ := h.2.1 a ha
  exact ⟨a1, a2, (hR a (by omega)).trans a3⟩, h.2.2⟩
theorem yY.sz {n n' : Nat} {tg tg' : Nat → yT} {I I' : Nat → Nat → Int32} {R R' : Nat → Nat → Value} (h : yY n tg I R n' tg' I' R') (hn : 94 ≤ n) : ySz I I' := by
  have e : ∀ a k, a < 94 → (I' a k).toInt = (I a k).toInt := fun a k ha => by rw [(h.2.1 a (by omega)).2.1]
  exact ⟨e _ _ (by decide), e _ _ (by decide), e _ _ (by decide), e _ _ (by decide), e _ _ (by decide), e _ _ (by decide), e _ _ (by decide), e _ _ (by decide), e _ _ (by decide)⟩
theorem ySh.y {n n' : Nat} {tg tg' : Nat → yT} {I I' : Nat → Nat → Int32} {R R' : Nat → Nat → Value} (h : ySh n tg R) (hx : yY n tg I R n' tg' I' R') : ySh n' tg' R' := by
  have e : ∀ a t, yt0 a = some t → a < yB0 := by
    intro a t ha
    by_cases hl : a < yB0
    · exact hl
    · exfalso
      have : yt0L.getD a none = some t := ha
      rw [List.getD_eq_getElem?_getD, List.getElem?_eq_none (by show 94 ≤ a; unfold yB0 at hl; omega)] at this
      cases this
  have e2 : ∀ a k b, yr0 a k = some b → a < yB0 := by
    intro a k b ha
    by_cases hl : a < yB0
    · exact hl
    · exfalso
      have : (yr0L.getD a []).getD k none = some b := ha
      rw [show yr0L.getD a [] = [] by rw [List.getD_eq_getElem?_getD, List.getElem?_eq_none (by show 94 ≤ a; unfold yB0 at hl; omega)]; rfl] at this
      cases k <;> cases this
  refine ⟨Nat.le_trans h.1 hx.1, fun a t ha => ?_, fun a k b ha => ?_⟩
  · rw [(hx.2.1 a (Nat.lt_of_lt_of_le (e a t ha) h.1)).1]; exact h.2.1 a t ha
  · rw [(hx.2.1 a (Nat.lt_of_lt_of_le (e2 a k b ha) h.1)).2.2]; exact h.2.2 a k b ha
theorem yRI.y {K nb n n' : Nat} {tg tg' : Nat → yT} {I I' : Nat → Nat → Int32} {R R' : Nat → Nat → Value} (h : yRI K nb tg I R) (hn : nb ≤ n) (hx : yY n tg I R n' tg' I' R') : yRI K nb tg' I' R' := by
  have hL := h.li
  obtain ⟨h1, ⟨l1, l2, l3, l4, l5, l6⟩, h3, h4, h5, h6, h7⟩ := h
  have eI : ∀ a, a < nb → I' a = I a := fun a ha => (hx.2.1 a (by omega)).2.1
  have eR : ∀ a, a < nb → R' a = R a := fun a ha => (hx.2.1 a (by omega)).2.2
  have eT : ∀ a, a < nb → tg' a = tg a := fun a ha => (hx.2.1 a (by omega)).1
  have eA : ∀ l i, l < nb → yEl R l < nb → yAd R' l i = yAd R l i := fun l i hl hE => yAd_eq (eR l hl) (eR _ hE)
  have eE : ∀ l, l < nb → yEl R' l = yEl R l := fun l hl => yEl_eq (eR l hl)
  have li : ∀ {l et}, l < nb → yLI nb tg I R l et → yLI nb tg' I' R' l et := fun {l et} hl hq => hq.same eT (by rw [eI l hl]) (eR l hl) (eR _ hq.2.1)
  refine ⟨?_, ⟨li (by omega) l1, li (by omega) l2, li (by omega) l3, li (by omega) l4, li (by omega) l5, li (by omega) l6⟩, fun l l' a1 a2 a3 a4 a5 a6 => ?_, fun b b1 b2 => ?_, fun i hi => ?_, fun i hi => ?_, h7⟩
  · unfold yNum
    rw [eI 83 (by omega), eI 87 (by omega), eI 88 (by omega), eI 89 (by omega), eI 90 (by omega), eI 91 (by omega), eI 92 (by omega)]
    exact h1
  · rw [eE l (by omega)] at a6 ⊢
    rw [eE l' (by omega)]
    exact h3 l l' a1 a2 a3 a4 a5 a6
  · obtain ⟨q1, q2, q3, q4⟩ := h4 b b1 b2
    unfold yOb
    rw [eT b b2, eI b b2, eI 88 (by omega)]
    refine ⟨q1, q2, q3, fun hb => ?_⟩
    obtain ⟨v1, v2, v3, v4, v5, v6, v7, v8⟩ := q4 hb
    refine ⟨v1, fun j hj => by rw [eR b b2]; exact v2 j hj, ?_, ?_, ?_, ?_, fun j hj => by rw [eI _ (by omega)]; exact v7 j hj, by rw [eI _ (by omega)]; exact v8⟩
    · rw [eT _ (by omega)]; exact v3
    · rw [eT _ (by omega)]; exact v4
    · rw [eT _ (by omega)]; exact v5
    · rw [eT _ (by omega)]; exact v6
  · rw [eI 92 (by omega)] at hi
    rw [eA 92 i (by omega) hL.2.2.2.2.2, eI _ ((l6.2.2.2.2 i hi).2.2.1)]
    exact h5 i hi
  · rw [eI 87 (by omega)] at hi
    rw [eA 87 i (by omega) hL.1, eI _ ((l1.2.2.2.2 i hi).2.2.1), eI 83 (by omega)]
    exact h6 i hi
theorem yKp.y {K nb n n1 n2 : Nat} {tg tg1 tg2 : Nat → yT} {I I1 I2 : Nat → Nat → Int32} {R R1 R2 : Nat → Nat → Value} (h : yKp n tg I R n1 tg1 I1 R1) (hr : yRI K nb tg I R) (hn : nb ≤ n) (hx : yY n1 tg1 I1 R1 n2 tg2 I2 R2) : yKp n tg I R n2 tg2 I2 R2 := by
  obtain ⟨h1, h2, h3, h4, h5, h6, h7, h8⟩ := h
  have hb := hr.2.2.2.2.2.2
  refine ⟨Nat.le_trans h1 hx.1, fun a ha => ((hx.2.1 a (by omega)).1).trans (h2 a ha), fun a ha => ((hx.2.1 a (by omega)).2.1).trans (h3 a ha), ((hx.2.1 87 (by omega)).2.2).trans h4, ?_, ((hx.2.1 87 (by omega)).2.1).trans h6, fun i hi => ?_, ?_⟩
  · have := hr.li.1
    exact ((hx.2.1 _ (by omega)).2.2).trans h5
  · have := (hr.l87.2.2.2.2 i hi).2.2.1
    exact ((hx.2.1 _ (by omega)).2.1).trans (h7 i hi)
  · rw [(hx.2.1 83 (by omega)).2.1]; exact h8
/-- of the cells from nb on none but x is an object of the reference -/
def yNw (nb n : Nat) (tg : Nat → yT) (x : Nat) : Prop := ∀ a, nb ≤ a → a < n → a ≠ x → (tg a).1 < 18
theorem yNw.x {nb n n' x : Nat} {tg tg' : Nat → yT} {I I' : Nat → Nat → Int32} {R R' : Nat → Nat → Value} (h : yNw nb n tg x) (hx : yX n tg I R n' tg' I' R') : yNw nb n' tg' x := fun a h1 h2 h3 => by
  by_cases ha : a < n
  · rw [(hx.2.1 a ha).1]; exact h a h1 ha h3
  · exact hx.2.2 a (by omega) h2
theorem yNw.al {nb n n' : Nat} {tg0 tg tg' : Nat → yT} {I0 I I' : Nat → Nat → Int32} {R0 R R' : Nat → Nat → Value} {t : yT} (hx : yX nb tg0 I0 R0 n tg I R) (ha : yAl n tg I R n' tg' I' R' t) : yNw nb n' tg' n := fun a h1 h2 h3 => by
  have := ha.1
  rw [(ha.2.2.2.2 a (by omega)).1]
  exact hx.2.2 a h1 (by omega)
theorem yAdd.tg {n n1 : Nat} {tg tg1 : Nat → yT} {I I1 : Nat → Nat → Int32} {R R1 : Nat → Nat → Value} {l x : Nat} (h : yAdd n tg I R l x n1 tg1 I1 R1) : ∀ a, a < n → tg1 a = tg a := by obtain ⟨e1, m1, g1, g2, g3, g4, g5⟩ := h; exact g2
theorem yAdd.I {n n1 : Nat} {tg tg1 : Nat → yT} {I I1 : Nat → Nat → Int32} {R R1 : Nat → Nat → Value} {l x : Nat} (h : yAdd n tg I R l x n1 tg1 I1 R1) : ∀ a, a < n → a ≠ l → I1 a = I a := by obtain ⟨e1, m1, g1, g2, g3, g4, g5⟩ := h; exact g3
theorem yAdd.n {n n1 : Nat} {tg tg1 : Nat → yT} {I I1 : Nat → Nat → Int32} {R R1 : Nat → Nat → Value} {l x : Nat} (h : yAdd n tg I R l x n1 tg1 I1 R1) : n ≤ n1 := by obtain ⟨e1, m1, g1, g2, g3, g4, g5⟩ := h; exact g1
theorem yAdd.sz {n n1 : Nat} {tg tg1 : Nat → yT} {I I1 : Nat → Nat → Int32} {R R1 : Nat → Nat → Value} {l x : Nat} (h : yAdd n tg I R l x n1 tg1 I1 R1) : (I1 l 2).toInt = (I l 2).toInt + 1 := by obtain ⟨e1, m1, g1, g2, g3, g4, g5⟩ := h; exact g4
theorem yNum.add {K K' n n1 : Nat} {tg tg1 : Nat → yT} {I I1 : Nat → Nat → Int32} {R R1 : Nat → Nat → Value} {l x : Nat} (h : yNum K I) (ha : yAdd n tg I R l x n1 tg1 I1 R1) (h94 : 94 ≤ n) (hl : 87 ≤ l) (hl2 : l ≤ 92) (hk : K ≤ K') (hk2 : K' ≤ 600) (h7 : l = 87 → (I 87 2).toInt < K') (h8 : l = 88 → (I 88 2).toInt < 16) (h9 : l = 89 → (I 89 2).toInt < 12) (h0 : l = 90 → (I 90 2).toInt < 8) (h1 : l = 91 → (I 91 2).toInt < 6) (h2 : l = 92 → (I 92 2).toInt < 10) : yNum K' I1 := by
  have e : ∀ a, a < 94 → a ≠ l → I1 a = I a := fun a q1 q2 => ha.I a (by omega) q2
  have hs := ha.sz
  unfold yNum at h ⊢
  rw [e 83 (by omega) (by omega)]
  rcases (by omega : l = 87 ∨ l = 88 ∨ l = 89 ∨ l = 90 ∨ l = 91 ∨ l = 92) with rfl | rfl | rfl | rfl | rfl | rfl
  · rw [e 88 (by omega) (by omega), e 89 (by omega) (by omega), e 90 (by omega) (by omega), e 91 (by omega) (by omega), e 92 (by omega) (by omega)]; have := h7 rfl; omega
  · rw [e 87 (by omega) (by omega), e 89 (by omega) (by omega), e 90 (by omega) (by omega), e 91 (by omega) (by omega), e 92 (by omega) (by omega)]; have := h8 rfl; omega
  · rw [e 87 (by omega) (by omega), e 88 (by omega) (by omega), e 90 (by omega) (by omega), e 91 (by omega) (by omega), e 92 (by omega) (by omega)]; have := h9 rfl; omega
  · rw [e 87 (by omega) (by omega), e 88 (by omega) (by omega), e 89 (by omega) (by omega), e 91 (by omega) (by omega), e 92 (by omega) (by omega)]; have := h0 rfl; omega
  · rw [e 87 (by omega) (by omega), e 88 (by omega) (by omega), e 89 (by omega) (by omega), e 90 (by omega) (by omega), e 92 (by omega) (by omega)]; have := h1 rfl; omega
  · rw [e 87 (by omega) (by omega), e 88 (by omega) (by omega), e 89 (by omega) (by omega), e 90 (by omega) (by omega), e 91 (by omega) (by omega)]; have := h2 rfl; omega
theorem yRI.zl {K nb : Nat} {tg : Nat → yT} {I : Nat → Nat → Int32} {R : Nat → Nat → Value} (h : yRI K nb tg I R) (l : Nat) (h1 : 87 ≤ l) (h2 : l ≤ 92) : yEl R l = 0 ∨ 94 ≤ yEl R l := by
  have hL : ∀ l' et', yLI nb tg I R l' et' → yEl R l' = 0 ∨ 94 ≤ yEl R l' := fun l' et' hq => by
    obtain ⟨m, -, -, -, q⟩ := hq.2.2.1
    omega
  rcases (by omega : l = 87 ∨ l = 88 ∨ l = 89 ∨ l = 90 ∨ l = 91 ∨ l = 92) with rfl | rfl | rfl | rfl | rfl | rfl
  · exact hL _ _ h.l87
  · exact hL _ _ h.l88
  · exact hL _ _ h.l89
  · exact hL _ _ h.l90
  · exact hL _ _ h.l91
  · exact hL _ _ h.l92
theorem yRI.di {K nb : Nat} {tg : Nat → yT} {I : Nat → Nat → Int32} {R : Nat → Nat → Value} (h : yRI K nb tg I R) : ∀ l', 87 ≤ l' → l' ≤ 92 → 87 ≠ l' → 94 ≤ yEl R 87 → yEl R 87 ≠ yEl R l' := fun l' h1 h2 h3 h4 => h.2.2.1 87 l' (by decide) (by decide) h1 h2 h3 h4
