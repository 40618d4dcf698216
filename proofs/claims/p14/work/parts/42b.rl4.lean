/-! THE RELATION THROUGH THE METHODS AROUND THINGS AND LEASES -/
section YRL4
variable {K n n1 : Nat} {tg tg1 : Nat → yT} {I Ia I1 : Nat → Nat → Int32} {R R1 : Nat → Nat → Value}
/-- the lease of a thing, as the class keeps it -/
def yLv (I : Nat → Nat → Int32) (x : Int32) : Int := if 0 ≤ x.toInt ∧ x.toInt < (I 40 0).toInt then (I 47 x.toInt.toNat).toInt else -1
theorem yR4.lf (h : yR4 I R) (x : Int32) : yLf I R x (yLv I x) := by
  obtain ⟨hl, -, -, -, hle, hA, hB, hC, -, -⟩ := h
  have hn : (I 59 0).toInt = (I 90 2).toInt := hl.2.2.2.2.2.2.2
  intro v hv
  unfold yLv
  rcases hv with ⟨e, hno⟩ | ⟨h0, h1, hm⟩
  · split
    · rename_i hx
      rcases hC x.toInt.toNat (by omega) with q | ⟨q1, q2, q3, q4⟩
      · omega
      · exfalso
        refine hno (I 47 x.toInt.toNat).toInt.toNat (by omega) ?_
        obtain ⟨r1, -, r3⟩ := hle (I 47 x.toInt.toNat).toInt.toNat (by omega)
        refine ⟨?_, ?_⟩
        · rw [← r1]; omega
        · rw [← r3]; exact q3
    · exact e
  · obtain ⟨r1, -, r3⟩ := hle v.toInt.toNat (by omega)
    obtain ⟨m1, m2⟩ := hm
    rw [← r1] at m1
    rw [← r3] at m2
    obtain ⟨a1, a2⟩ := hA v.toInt.toNat (by omega)
    have b1 := hB v.toInt.toNat (by omega) m2
    rw [m1] at a1 a2 b1
    rw [if_pos ⟨a1, a2⟩, b1]; omega
theorem yFt.hi (hF : yFt I Ia) {a : Nat} (ha : 83 ≤ a) : Ia a = I a := funext fun k => hF a k (.inr (.inl ha))
theorem yLf.ft {k : Nat} {v : Value} {x : Int32} {lv : Int} (h : yLf I R x lv) (hR : yRI K n tg I R) (hF : yFt I Ia) : yLf Ia (upd2 R 93 k v) x lv :=
  h.cg (by rw [hF.hi (by decide)]) (fun i hi => by
    have hq := hR.l90.2.2.2.2 i hi
    rw [hF.hi (show 83 ≤ yAd R 90 i by omega)]
    exact ⟨yLk.out hR 90 (by decide) (by decide) i hi, rfl, rfl⟩)
theorem yHr.al (h : yHr I R) (hR : yRI K n tg I R) {q : Nat} (hq : q < 5) : ySum (fun j => yHv I R (q : Int) j (I 87 2).toInt.toNat) 5 = (yBC (I 36 q)).toInt := by
  rw [h q hq]
  exact (yMk_bc fun j _ => yHv01 hR (by have := hR.l87.2.2.2.1; omega)).symm
/-- what a step of both sides leaves, told of the world ahead of it -/
def yStp (K n : Nat) (tg : Nat → yT) (I I1 : Nat → Nat → Int32) (R R1 : Nat → Nat → Value) (CH MCH : Nat → Nat → Int32) : Prop :=
  yR4 I R ∧ yRI K n tg I R ∧ (∀ a, 40 ≤ a → a ≤ 68 → I1 a = CH a) ∧ (∀ a, 94 ≤ a → a < n → I1 a = MCH a) ∧ yLk I R R1 ∧ yHr I1 R1 ∧ yRl I1
theorem yGm.bothR {J J' : Nat → Nat → Int32} {a k : Nat} {x : Int32} (h : yGm n J J') : yGm n (upd2 J a k x) (upd2 J' a k x) := h.both rfl
theorem yGm.ft (hF : yFt I Ia) : yGm n Ia I := fun a h1 _ => hF.hi (by omega)
theorem yStp.mk {v : Value} {CH MCH G : Nat → Nat → Int32} (h : yR4 I R) (hR : yRI K n tg I R) (hF : yFt I Ia) (hG : yGc yTL Ia CH) (hK : yKp n tg Ia (upd2 R 93 0 v) n1 tg1 I1 R1) (hm : yGm n I1 G) (hG2 : yGm n G MCH) (hL : yLk Ia (upd2 R 93 0 v) R1) (hrl : yRl I1) : yStp K n tg I I1 R R1 CH MCH := by
  refine ⟨h, hR, fun a h1 h2 => ?_, fun a h1 h2 => (hm a h1 h2).trans (hG2 a h1 h2), fun l h1 h2 i hi => ?_, ?_, hrl⟩
  · have ha : yTL a = true := by
      unfold yTL
      rw [Bool.and_eq_true]
      exact ⟨Nat.ble_eq_true_of_le h1, Nat.ble_eq_true_of_le h2⟩
    exact (hK.2.2.1 a (by omega)).trans (hG a ha)
  · exact (hL l h1 h2 i (by rw [hF.hi (by omega)]; exact hi)).trans (yLk.out hR l h1 h2 i hi)
  · exact ((h.out hR).2.1.ft (hR.outR fun a ha => upd2_row ha) hF).kp hK
theorem yCo4.cong2 {I I1 : Nat → Nat → Int32} (h : yCo4 I) (hI : ∀ a, 40 ≤ a → a ≤ 68 → I1 a = I a) : yCo4 I1 := by
  unfold yCo4 at h ⊢
  rw [hI 59 (by decide) (by decide), hI 60 (by decide) (by decide), hI 40 (by decide) (by decide), hI 65 (by decide) (by decide), hI 47 (by decide) (by decide), hI 44 (by decide) (by decide), hI 45 (by decide) (by decide)]
  exact h
section STP
variable {CH MCH : Nat → Nat → Int32}
theorem yStp.or (S : yStp K n tg I I1 R R1 CH MCH) {l : Nat} (hl : l = 88 ∨ l = 90) (hs : (I1 l 2).toInt = (I l 2).toInt) : ∀ i j : Nat, i < j → (j : Int) < (I1 l 2).toInt → yAd R1 l i < yAd R1 l j := fun i j hij hj => by
  have hj : (j : Int) < (I l 2).toInt := by omega
  have h1 : 87 ≤ l ∧ l ≤ 92 := by omega
  rw [S.2.2.2.2.1 l h1.1 h1.2 i (by omega), S.2.2.2.2.1 l h1.1 h1.2 j hj]
  exact S.1.2.2.1 l hl i j hij hj
/-- a list with one more -/
theorem yStp.orA (S : yStp K n tg I I1 R R1 CH MCH) {l x : Nat} (hl : l = 88 ∨ l = 90) (hs : (I1 l 2).toInt = (I l 2).toInt + 1) (hx : x = yAd R1 l (I l 2).toInt.toNat) (hn : n ≤ x) : ∀ i j : Nat, i < j → (j : Int) < (I1 l 2).toInt → yAd R1 l i < yAd R1 l j := fun i j hij hj => by
  have h1 : 87 ≤ l ∧ l ≤ 92 := by omega
  obtain ⟨et, hli⟩ := S.2.1.li6 l h1.1 h1.2
  rw [S.2.2.2.2.1 l h1.1 h1.2 i (by omega)]
  by_cases hjl : (j : Int) < (I l 2).toInt
  · rw [S.2.2.2.2.1 l h1.1 h1.2 j hjl]
    exact S.1.2.2.1 l hl i j hij hjl
  · have := (hli.2.2.2.2 i (by omega)).2.2.1
    rw [show j = (I l 2).toInt.toNat by omega, ← hx]; omega
theorem yStp.inj (S : yStp K n tg I I1 R R1 CH MCH) {l : Nat} (hl : l = 88 ∨ l = 90) {i j : Nat} (hi : (i : Int) < (I l 2).toInt) (hj : (j : Int) < (I l 2).toInt) (h : yAd R l i = yAd R l j) : i = j := by
  by_cases h1 : i < j
  · have := S.1.2.2.1 l hl i j h1 hj; omega
  · by_cases h2 : j < i
    · have := S.1.2.2.1 l hl j i h2 hi; omega
    · omega
theorem yRI.ne8890 (h : yRI K n tg I R) {i j : Nat} (hi : (i : Int) < (I 88 2).toInt) (hj : (j : Int) < (I 90 2).toInt) : yAd R 88 i ≠ yAd R 90 j := fun e => by
  have q1 := (h.l88.2.2.2.2 i hi).2.2.2
  have q2 := (h.l90.2.2.2.2 j hj).2.2.2
  rw [e, q2] at q1
  cases q1
/-- things: one row changes on both sides -/
theorem yStp.th (S : yStp K n tg I I1 R R1 CH MCH) {x b : Nat} (hs : (I1 88 2).toInt = (I 88 2).toInt) (hx : (x : Int) < (I 88 2).toInt) (hb : b = yAd R 88 x) (g : Nat → Option Int32) (hc : ∀ f, f < 6 → ∀ i : Nat, CH (41 + f) i = if i = x then (g f).getD (I (41 + f) i) else I (41 + f) i) (hm : ∀ f, f < 6 → ∀ i : Nat, (i : Int) < (I 88 2).toInt → MCH (yAd R 88 i) f = if yAd R 88 i = b then (g f).getD (I (yAd R 88 i) f) else I (yAd R 88 i) f) : yTh I1 R1 := fun i hi f hf => by
  have hi : (i : Int) < (I 88 2).toInt := by omega
  obtain ⟨-, q0, q1, -⟩ := S.2.1.l88.2.2.2.2 i hi
  rw [S.2.2.2.2.1 88 (by decide) (by decide) i hi, S.2.2.1 (41 + f) (by omega) (by omega), S.2.2.2.1 _ q0 q1, hc f hf i, hm f hf i hi]
  have hT := S.1.2.2.2.1 i hi f hf
  by_cases hix : i = x
  · subst hix
    rw [if_pos rfl, if_pos hb.symm, hT]
  · rw [if_neg hix, if_neg (fun e => hix (S.inj (.inl rfl) hi hx (by rw [← hb]; exact e)))]
    exact hT
/-- leases: one of them ends, or none -/
theorem yStp.le (S : yStp K n tg I I1 R R1 CH MCH) (hs : (I1 90 2).toInt = (I 90 2).toInt) (hc : ∀ j : Nat, (j : Int) < (I 90 2).toInt → CH 60 j = MCH (yAd R 90 j) 0 ∧ CH 62 j = MCH (yAd R 90 j) 1 ∧ CH 65 j = MCH (yAd R 90 j) 5) : yLq I1 R1 := fun j hj => by
  have hj : (j : Int) < (I 90 2).toInt := by omega
  obtain ⟨-, q0, q1, -⟩ := S.2.1.l90.2.2.2.2 j hj
  rw [S.2.2.2.2.1 90 (by decide) (by decide) j hj, S.2.2.1 60 (by decide) (by decide), S.2.2.1 62 (by decide) (by decide), S.2.2.1 65 (by decide) (by decide), S.2.2.2.1 _ q0 q1]
  exact hc j hj
theorem yStp.sz (S : yStp K n tg I I1 R R1 CH MCH) (h40 : CH 40 0 = I 40 0) (h59 : CH 59 0 = I 59 0) : (I1 88 2).toInt = (I 88 2).toInt ∧ (I1 90 2).toInt = (I 90 2).toInt ∧ (I 88 2).toInt = (I 40 0).toInt ∧ (I 90 2).toInt = (I 59 0).toInt := by
  obtain ⟨-, -, -, a4, -, -, -, a8⟩ := S.1.1
  obtain ⟨-, -, -, b4, -, -, -, b8⟩ := S.2.2.2.2.2.2
  have e1 := congrArg Int32.toInt ((congrFun (S.2.2.1 40 (by decide) (by decide)) 0).trans h40)
  have e2 := congrArg Int32.toInt ((congrFun (S.2.2.1 59 (by decide) (by decide)) 0).trans h59)
  omega
/-- put together where neither a thing nor a lease is new -/
theorem yStp.fin (S : yStp K n tg I I1 R R1 CH MCH) (h40 : CH 40 0 = I 40 0) (h59 : CH 59 0 = I 59 0) (ht : yTh I1 R1) (hl : yLq I1 R1) (hc : yCo4 CH) : yR4 I1 R1 := by
  obtain ⟨s1, s2, -, -⟩ := S.sz h40 h59
  refine ⟨S.2.2.2.2.2.2, S.2.2.2.2.2.1, fun l h => ?_, ht, hl, ?_⟩
  · rcases h with rfl | rfl
    · exact S.or (.inl rfl) s1
    · exact S.or (.inr rfl) s2
  · exact hc.cong2 fun a h1 h2 => S.2.2.1 a h1 h2
end STP
theorem yR4.two {Ra : Nat → Nat → Value} (h : yR4 I R) (hF : yFu I Ia) (hRa : yRI K n tg Ia Ra) (hHa : yHr Ia Ra) (hLa : yLk I R Ra) (hK : yKp n tg Ia Ra n1 tg1 I1 R1) (hO : yOb4 Ia Ra I1) (hL : yLk Ia Ra R1) (hrl : yRl I1) (s1 : (I1 88 2).toInt = (I 88 2).toInt) (s2 : (I1 90 2).toInt = (I 90 2).toInt) : yR4 I1 R1 := by
  have hhi : ∀ a, 83 ≤ a → Ia a = I a := fun a ha => funext fun k => hF a k (.inr (.inl ha))
  have hp : ∀ a, p4 a = true → I1 a = I a := fun a ha => (hK.2.2.1 a (p4.lo ha)).trans (funext fun k => hF a k (.inr (.inr (.inr ha))))
  have hLk : yLk I R R1 := fun l h1 h2 i hi => (hL l h1 h2 i (by rw [hhi l (by omega)]; exact hi)).trans (hLa l h1 h2 i hi)
  have hOb : yOb4 I R I1 := by
    refine ⟨fun i hi f hf => ?_, fun j hj => ?_⟩
    · have e := hO.1 i (by rw [hhi 88 (by decide)]; exact hi) f hf
      rw [hLa 88 (by decide) (by decide) i hi] at e
      rw [e, hhi _ (by have := (hRa.l88.2.2.2.2 i (by rw [hhi 88 (by decide)]; exact hi)).2.1; rw [hLa 88 (by decide) (by decide) i hi] at this; omega)]
    · have e := hO.2 j (by rw [hhi 90 (by decide)]; exact hj)
      rw [hLa 90 (by decide) (by decide) j hj, hhi _ (by have := (hRa.l90.2.2.2.2 j (by rw [hhi 90 (by decide)]; exact hj)).2.1; rw [hLa 90 (by decide) (by decide) j hj] at this; omega)] at e
      exact e
  obtain ⟨h1, h2, h3, h4, h5, h6⟩ := h
  refine ⟨hrl, hHa.kp hK, fun l hl i j hij hj => ?_, fun i hi f hf => ?_, fun j hj => ?_, h6.cong hp⟩
  · have hj : (j : Int) < (I l 2).toInt := by rcases hl with rfl | rfl <;> omega
    have hlr : 87 ≤ l ∧ l ≤ 92 := by omega
    rw [hLk l hlr.1 hlr.2 i (by omega), hLk l hlr.1 hlr.2 j hj]
    exact h3 l hl i j hij hj
  · have hi : (i : Int) < (I 88 2).toInt := by omega
    have hpf : p4 (41 + f) = true := by
      rcases (by omega : f = 0 ∨ f = 1 ∨ f = 2 ∨ f = 3 ∨ f = 4 ∨ f = 5) with rfl | rfl | rfl | rfl | rfl | rfl <;> rfl
    rw [hLk 88 (by decide) (by decide) i hi, hOb.1 i hi f hf, hp _ hpf]
    exact h4 i hi f hf
  · have hj : (j : Int) < (I 90 2).toInt := by omega
    rw [hLk 90 (by decide) (by decide) j hj]
    obtain ⟨q1, q2, q3⟩ := hOb.2 j hj
    rw [q1, q2, q3, hp 60 rfl, hp 62 rfl, hp 65 rfl]
    exact h5 j hj
theorem yLv_in {x : Int32} (h : 0 ≤ x.toInt ∧ x.toInt < (I 40 0).toInt) : yLv I x = (I 47 x.toInt.toNat).toInt := if_pos h
theorem tie_th0 (h : yR4 I R) (hR : yRI K n tg I R) {x b : Nat} (hx : (x : Int) < (I 40 0).toInt) (hb : b = yAd R 88 x) : 94 ≤ b ∧ I b 0 = I 41 x ∧ I b 1 = I 42 x ∧ I b 2 = I 43 x ∧ I b 3 = I 44 x ∧ I b 4 = I 45 x ∧ I b 5 = I 46 x := by
  have hn := h.1.2.2.2.1
  have e := fun f hf => (h.2.2.2.1 x (by omega) f hf).symm
  subst hb
  exact ⟨(hR.l88.2.2.2.2 x (by omega)).2.1, e 0 (by decide), e 1 (by decide), e 2 (by decide), e 3 (by decide), e 4 (by decide), e 5 (by decide)⟩
theorem tie_th1 {k : Nat} {v : Value} (h : yR4 I R) (hR : yRI K n tg I R) (hF : yFt I Ia) {x b : Nat} (hx : (x : Int) < (I 40 0).toInt) (hb : b = yAd (upd2 R 93 k v) 88 x) : (b = yAd R 88 x ∧ Ia b = I b) ∧ 94 ≤ b ∧ I b 0 = I 41 x ∧ I b 1 = I 42 x ∧ I b 2 = I 43 x ∧ I b 3 = I 44 x ∧ I b 4 = I 45 x ∧ I b 5 = I 46 x := by
  have hn := h.1.2.2.2.1
  rw [yLk.out hR 88 (by decide) (by decide) x (by omega)] at hb
  have q := tie_th0 h hR hx hb
  exact ⟨⟨hb, hF.hi (by omega)⟩, q⟩
theorem tie_le0 (h : yR4 I R) (hR : yRI K n tg I R) {x b : Nat} (hx : (x : Int) < (I 59 0).toInt) (hb : b = yAd R 90 x) : 94 ≤ b ∧ I b 0 = I 60 x ∧ I b 1 = I 62 x ∧ I b 5 = I 65 x := by
  have hn := h.1.2.2.2.2.2.2.2
  obtain ⟨e0, e1, e5⟩ := h.2.2.2.2.1 x (by omega)
  subst hb
  exact ⟨(hR.l90.2.2.2.2 x (by omega)).2.1, e0.symm, e1.symm, e5.symm⟩
theorem tie_le1 {k : Nat} {v : Value} (h : yR4 I R) (hR : yRI K n tg I R) (hF : yFt I Ia) {x b : Nat} (hx : (x : Int) < (I 59 0).toInt) (hb : b = yAd (upd2 R 93 k v) 90 x) : (b = yAd R 90 x ∧ Ia b = I b) ∧ 94 ≤ b ∧ I b 0 = I 60 x ∧ I b 1 = I 62 x ∧ I b 5 = I 65 x := by
  have hn := h.1.2.2.2.2.2.2.2
  rw [yLk.out hR 90 (by decide) (by decide) x (by omega)] at hb
  have q := tie_le0 h hR hx hb
  exact ⟨⟨hb, hF.hi (by omega)⟩, q⟩
theorem end_prem (h : yR4 I R) {x1 : Int32} : (0 ≤ x1.toInt ∧ x1.toInt < (I 59 0).toInt) ∧ (I 65 x1.toInt.toNat).toInt = 0 → 0 ≤ (I 60 x1.toInt.toNat).toInt ∧ (I 60 x1.toInt.toNat).toInt < (I 40 0).toInt := fun q => h.2.2.2.2.2.1 x1.toInt.toNat (by omega)
theorem own_eq {x y o o' : Int32} (h : x.toInt = -1 ∧ o = Int32.ofInt 9 ∨ ¬ x.toInt = -1 ∧ o = y) (h' : x.toInt = -1 ∧ o' = Int32.ofInt 9 ∨ ¬ x.toInt = -1 ∧ o' = y) : o' = o := by
  rcases h with ⟨a, b⟩ | ⟨a, b⟩ <;> rcases h' with ⟨a', b'⟩ | ⟨a', b'⟩
  · rw [b, b']
  · exact absurd a a'
  · exact absurd a' a
  · rw [b, b']
theorem yHr.a {k : Nat} {v : Value} (h : yR4 I R) (hR : yRI K n tg I R) (hF : yFt I Ia) : yHr Ia (upd2 R 93 k v) := (h.out hR).2.1.ft (hR.outR fun a ha => upd2_row ha) hF
theorem yHr.ala {k : Nat} {v : Value} (h : yR4 I R) (hR : yRI K n tg I R) (hF : yFt I Ia) {q : Nat} (hq : q < 5) : ySum (fun j => yHv Ia (upd2 R 93 k v) (q : Int) j (Ia 87 2).toInt.toNat) 5 = (yBC (I 36 q)).toInt :=
  ((yHr.a h hR hF).al ((hR.ft hF).outR fun a ha => upd2_row ha) hq).trans (by rw [show Ia 36 = I 36 from funext fun k => hF 36 k (.inr (.inr rfl))])
/-- hold: the class's board and Out are written, nothing else -/
theorem yR4.hold {k : Nat} {v : Value} {Ra : Nat → Nat → Value} (h : yR4 I R) (hR : yRI K n tg I R) (hI : ∀ a, a ≠ 36 → Ia a = I a) (eR : Ra = upd2 R 93 k v) (h83 : ∀ a, a < 83 → I1 a = Ia a) (hO : yOb4 Ia Ra I1) (hL : yLk Ia Ra R1) (hrl : yRl I1) (hH : yHr I1 R1) (s1 : (I1 88 2).toInt = (I 88 2).toInt) (s2 : (I1 90 2).toInt = (I 90 2).toInt) : yR4 I1 R1 := by
  subst eR
  have hp : ∀ a, p4 a = true → I1 a = I a := fun a ha => (h83 a (p4.lo ha)).trans (hI a (fun e => by subst e; cases ha))
  have hLk : yLk I R R1 := fun l h1 h2 i hi => (hL l h1 h2 i (by rw [hI l (by omega)]; exact hi)).trans (yLk.out hR l h1 h2 i hi)
  have hOb : yOb4 I R I1 := by
    refine ⟨fun i hi f hf => ?_, fun j hj => ?_⟩
    · have e := hO.1 i (by rw [hI 88 (by decide)]; exact hi) f hf
      rw [yLk.out hR 88 (by decide) (by decide) i hi] at e
      rw [e, hI _ (by have := (hR.l88.2.2.2.2 i hi).2.1; omega)]
    · have e := hO.2 j (by rw [hI 90 (by decide)]; exact hj)
      rw [yLk.out hR 90 (by decide) (by decide) j hj, hI _ (by have := (hR.l90.2.2.2.2 j hj).2.1; omega)] at e
      exact e
  obtain ⟨h1, h2, h3, h4, h5, h6⟩ := h
  refine ⟨hrl, hH, fun l hl i j hij hj => ?_, fun i hi f hf => ?_, fun j hj => ?_, h6.cong hp⟩
  · have hj : (j : Int) < (I l 2).toInt := by rcases hl with rfl | rfl <;> omega
    have hlr : 87 ≤ l ∧ l ≤ 92 := by omega
    rw [hLk l hlr.1 hlr.2 i (by omega), hLk l hlr.1 hlr.2 j hj]
    exact h3 l hl i j hij hj
  · have hi : (i : Int) < (I 88 2).toInt := by omega
    have hpf : p4 (41 + f) = true := by
      rcases (by omega : f = 0 ∨ f = 1 ∨ f = 2 ∨ f = 3 ∨ f = 4 ∨ f = 5) with rfl | rfl | rfl | rfl | rfl | rfl <;> rfl
    rw [hLk 88 (by decide) (by decide) i hi, hOb.1 i hi f hf, hp _ hpf]
    exact h4 i hi f hf
  · have hj : (j : Int) < (I 90 2).toInt := by omega
    rw [hLk 90 (by decide) (by decide) j hj]
    obtain ⟨q1, q2, q3⟩ := hOb.2 j hj
    rw [q1, q2, q3, hp 60 rfl, hp 62 rfl, hp 65 rfl]
    exact h5 j hj

theorem rel_buy {x b : Nat} (hx : (x : Int) < (I 40 0).toInt) (hb : b = yAd R 88 x) (S : yStp K n tg I I1 R R1 (upd2 (upd2 (upd2 (upd2 I 45 x (I 41 x)) 46 x (I 42 x)) 42 x (Int32.ofInt 8)) 43 x (Int32.ofInt 0)) (upd2 (upd2 (upd2 (upd2 I b 4 (I b 0)) b 5 (I b 1)) b 1 (Int32.ofInt 8)) b 2 (Int32.ofInt 0))) : yR4 I1 R1 := by
  obtain ⟨s1, s2, s3, s4⟩ := S.sz (by rw [upd2_ne (.inl (by decide)), upd2_ne (.inl (by decide)), upd2_ne (.inl (by decide)), upd2_ne (.inl (by decide))]) (by rw [upd2_ne (.inl (by decide)), upd2_ne (.inl (by decide)), upd2_ne (.inl (by decide)), upd2_ne (.inl (by decide))])
  obtain ⟨hA, hB, hC, hZ1, hZ2⟩ := S.1.2.2.2.2.2
  have c40 : (upd2 (upd2 (upd2 (upd2 I 45 x (I 41 x)) 46 x (I 42 x)) 42 x (Int32.ofInt 8)) 43 x (Int32.ofInt 0)) 40 = I 40 := (by rw [upd2_row (by decide), upd2_row (by decide), upd2_row (by decide), upd2_row (by decide)])
  have c44 : (upd2 (upd2 (upd2 (upd2 I 45 x (I 41 x)) 46 x (I 42 x)) 42 x (Int32.ofInt 8)) 43 x (Int32.ofInt 0)) 44 = I 44 := (by rw [upd2_row (by decide), upd2_row (by decide), upd2_row (by decide), upd2_row (by decide)])
  have c45 : ∀ i, (upd2 (upd2 (upd2 (upd2 I 45 x (I 41 x)) 46 x (I 42 x)) 42 x (Int32.ofInt 8)) 43 x (Int32.ofInt 0)) 45 i = if i = x then (I 41 x) else I 45 i := fun i => by simp [upd2]
  have c47 : (upd2 (upd2 (upd2 (upd2 I 45 x (I 41 x)) 46 x (I 42 x)) 42 x (Int32.ofInt 8)) 43 x (Int32.ofInt 0)) 47 = I 47 := (by rw [upd2_row (by decide), upd2_row (by decide), upd2_row (by decide), upd2_row (by decide)])
  have c59 : (upd2 (upd2 (upd2 (upd2 I 45 x (I 41 x)) 46 x (I 42 x)) 42 x (Int32.ofInt 8)) 43 x (Int32.ofInt 0)) 59 = I 59 := (by rw [upd2_row (by decide), upd2_row (by decide), upd2_row (by decide), upd2_row (by decide)])
  have c60 : (upd2 (upd2 (upd2 (upd2 I 45 x (I 41 x)) 46 x (I 42 x)) 42 x (Int32.ofInt 8)) 43 x (Int32.ofInt 0)) 60 = I 60 := (by rw [upd2_row (by decide), upd2_row (by decide), upd2_row (by decide), upd2_row (by decide)])
  have c62 : (upd2 (upd2 (upd2 (upd2 I 45 x (I 41 x)) 46 x (I 42 x)) 42 x (Int32.ofInt 8)) 43 x (Int32.ofInt 0)) 62 = I 62 := (by rw [upd2_row (by decide), upd2_row (by decide), upd2_row (by decide), upd2_row (by decide)])
  have c65 : (upd2 (upd2 (upd2 (upd2 I 45 x (I 41 x)) 46 x (I 42 x)) 42 x (Int32.ofInt 8)) 43 x (Int32.ofInt 0)) 65 = I 65 := (by rw [upd2_row (by decide), upd2_row (by decide), upd2_row (by decide), upd2_row (by decide)])
  have hb0 : I b 0 = I 41 x := by rw [hb]; exact (S.1.2.2.2.1 x (by omega) 0 (by decide)).symm
  have hb1 : I b 1 = I 42 x := by rw [hb]; exact (S.1.2.2.2.1 x (by omega) 1 (by decide)).symm
  refine S.fin (by rw [upd2_ne (.inl (by decide)), upd2_ne (.inl (by decide)), upd2_ne (.inl (by decide)), upd2_ne (.inl (by decide))]) (by rw [upd2_ne (.inl (by decide)), upd2_ne (.inl (by decide)), upd2_ne (.inl (by decide)), upd2_ne (.inl (by decide))]) (S.th s1 (by omega) hb (fun f => match f with | 4 => some (I 41 x) | 5 => some (I 42 x) | 1 => some (Int32.ofInt 8) | 2 => some (Int32.ofInt 0) | _ => none) (fun f hf i => by
        rcases (by omega : f = 0 ∨ f = 1 ∨ f = 2 ∨ f = 3 ∨ f = 4 ∨ f = 5) with rfl | rfl | rfl | rfl | rfl | rfl <;> simp [upd2]) (fun f hf i hi => by
        rcases (by omega : f = 0 ∨ f = 1 ∨ f = 2 ∨ f = 3 ∨ f = 4 ∨ f = 5) with rfl | rfl | rfl | rfl | rfl | rfl <;> simp [upd2, hb0, hb1])) (S.le s2 (fun j hj => by
      have hle := S.1.2.2.2.2.1 j hj
      have hne : ∀ i : Nat, (i : Int) < (I 88 2).toInt → yAd R 90 j ≠ yAd R 88 i := fun i hi e => S.2.1.ne8890 hi hj e.symm
      have h1 := hne x (by omega)
      rw [← hb] at h1
      simpa [upd2, h1] using hle)) ⟨?_, ?_, ?_, ?_, ?_⟩
  · rw [c59, c60, c40]; exact hA
  · rw [c59, c60, c65, c47]; exact hB
  · rw [c40, c47, c59, c65, c60]; exact hC
  · rw [c59, c65]; exact hZ1
  · rw [c40, c44]; exact fun i hi => ⟨(hZ2 i hi).1, by rw [c45, if_neg (by omega)]; exact (hZ2 i hi).2⟩
theorem rel_take {x b : Nat} (hx : (x : Int) < (I 40 0).toInt) (hb : b = yAd R 88 x) (S : yStp K n tg I I1 R R1 (upd2 I 43 x (Int32.ofInt 1)) (upd2 I b 2 (Int32.ofInt 1))) : yR4 I1 R1 := by
  obtain ⟨s1, s2, s3, s4⟩ := S.sz (by rw [upd2_ne (.inl (by decide))]) (by rw [upd2_ne (.inl (by decide))])
  obtain ⟨hA, hB, hC, hZ1, hZ2⟩ := S.1.2.2.2.2.2
  have c40 : (upd2 I 43 x (Int32.ofInt 1)) 40 = I 40 := (by rw [upd2_row (by decide)])
  have c44 : (upd2 I 43 x (Int32.ofInt 1)) 44 = I 44 := (by rw [upd2_row (by decide)])
  have c45 : (upd2 I 43 x (Int32.ofInt 1)) 45 = I 45 := (by rw [upd2_row (by decide)])
  have c47 : (upd2 I 43 x (Int32.ofInt 1)) 47 = I 47 := (by rw [upd2_row (by decide)])
  have c59 : (upd2 I 43 x (Int32.ofInt 1)) 59 = I 59 := (by rw [upd2_row (by decide)])
  have c60 : (upd2 I 43 x (Int32.ofInt 1)) 60 = I 60 := (by rw [upd2_row (by decide)])
  have c62 : (upd2 I 43 x (Int32.ofInt 1)) 62 = I 62 := (by rw [upd2_row (by decide)])
  have c65 : (upd2 I 43 x (Int32.ofInt 1)) 65 = I 65 := (by rw [upd2_row (by decide)])
  refine S.fin (by rw [upd2_ne (.inl (by decide))]) (by rw [upd2_ne (.inl (by decide))]) (S.th s1 (by omega) hb (fun f => match f with | 2 => some (Int32.ofInt 1) | _ => none) (fun f hf i => by
        rcases (by omega : f = 0 ∨ f = 1 ∨ f = 2 ∨ f = 3 ∨ f = 4 ∨ f = 5) with rfl | rfl | rfl | rfl | rfl | rfl <;> simp [upd2]) (fun f hf i hi => by
        rcases (by omega : f = 0 ∨ f = 1 ∨ f = 2 ∨ f = 3 ∨ f = 4 ∨ f = 5) with rfl | rfl | rfl | rfl | rfl | rfl <;> simp [upd2])) (S.le s2 (fun j hj => by
      have hle := S.1.2.2.2.2.1 j hj
      have hne : ∀ i : Nat, (i : Int) < (I 88 2).toInt → yAd R 90 j ≠ yAd R 88 i := fun i hi e => S.2.1.ne8890 hi hj e.symm
      have h1 := hne x (by omega)
      rw [← hb] at h1
      simpa [upd2, h1] using hle)) ⟨?_, ?_, ?_, ?_, ?_⟩
  · rw [c59, c60, c40]; exact hA
  · rw [c59, c60, c65, c47]; exact hB
  · rw [c40, c47, c59, c65, c60]; exact hC
  · rw [c59, c65]; exact hZ1
  · rw [c40, c44, c45]; exact hZ2
theorem rel_ruinA {x b : Nat} (hx : (x : Int) < (I 40 0).toInt) (hb : b = yAd R 88 x) (hl : (I 47 x).toInt = -1) (S : yStp K n tg I I1 R R1 (upd2 (upd2 I 47 x (Int32.ofInt (-1))) 44 x (Int32.ofInt 1)) (upd2 I b 3 (Int32.ofInt 1))) : yR4 I1 R1 := by
  obtain ⟨s1, s2, s3, s4⟩ := S.sz (by rw [upd2_ne (.inl (by decide)), upd2_ne (.inl (by decide))]) (by rw [upd2_ne (.inl (by decide)), upd2_ne (.inl (by decide))])
  obtain ⟨hA, hB, hC, hZ1, hZ2⟩ := S.1.2.2.2.2.2
  have c40 : (upd2 (upd2 I 47 x (Int32.ofInt (-1))) 44 x (Int32.ofInt 1)) 40 = I 40 := (by rw [upd2_row (by decide), upd2_row (by decide)])
  have c44 : ∀ i, (upd2 (upd2 I 47 x (Int32.ofInt (-1))) 44 x (Int32.ofInt 1)) 44 i = if i = x then (Int32.ofInt 1) else I 44 i := fun i => by simp [upd2]
  have c45 : (upd2 (upd2 I 47 x (Int32.ofInt (-1))) 44 x (Int32.ofInt 1)) 45 = I 45 := (by rw [upd2_row (by decide), upd2_row (by decide)])
  have c47 : ∀ i, (upd2 (upd2 I 47 x (Int32.ofInt (-1))) 44 x (Int32.ofInt 1)) 47 i = if i = x then (Int32.ofInt (-1)) else I 47 i := fun i => by simp [upd2]
  have c59 : (upd2 (upd2 I 47 x (Int32.ofInt (-1))) 44 x (Int32.ofInt 1)) 59 = I 59 := (by rw [upd2_row (by decide), upd2_row (by decide)])
  have c60 : (upd2 (upd2 I 47 x (Int32.ofInt (-1))) 44 x (Int32.ofInt 1)) 60 = I 60 := (by rw [upd2_row (by decide), upd2_row (by decide)])
  have c62 : (upd2 (upd2 I 47 x (Int32.ofInt (-1))) 44 x (Int32.ofInt 1)) 62 = I 62 := (by rw [upd2_row (by decide), upd2_row (by decide)])
  have c65 : (upd2 (upd2 I 47 x (Int32.ofInt (-1))) 44 x (Int32.ofInt 1)) 65 = I 65 := (by rw [upd2_row (by decide), upd2_row (by decide)])
  have hm1 : (Int32.ofInt (-1)).toInt = -1 := by decide
  refine S.fin (by rw [upd2_ne (.inl (by decide)), upd2_ne (.inl (by decide))]) (by rw [upd2_ne (.inl (by decide)), upd2_ne (.inl (by decide))]) (S.th s1 (by omega) hb (fun f => match f with | 3 => some (Int32.ofInt 1) | _ => none) (fun f hf i => by
        rcases (by omega : f = 0 ∨ f = 1 ∨ f = 2 ∨ f = 3 ∨ f = 4 ∨ f = 5) with rfl | rfl | rfl | rfl | rfl | rfl <;> simp [upd2]) (fun f hf i hi => by
        rcases (by omega : f = 0 ∨ f = 1 ∨ f = 2 ∨ f = 3 ∨ f = 4 ∨ f = 5) with rfl | rfl | rfl | rfl | rfl | rfl <;> simp [upd2])) (S.le s2 (fun j hj => by
      have hle := S.1.2.2.2.2.1 j hj
      have hne : ∀ i : Nat, (i : Int) < (I 88 2).toInt → yAd R 90 j ≠ yAd R 88 i := fun i hi e => S.2.1.ne8890 hi hj e.symm
      have h1 := hne x (by omega)
      rw [← hb] at h1
      simpa [upd2, h1] using hle)) ⟨?_, ?_, ?_, ?_, ?_⟩
  · rw [c59, c60, c40]; exact hA
  · rw [c59, c60, c65]; exact fun j hj h0 => by
      have := hB j hj h0
      rw [c47]
      split
      · rename_i e; rw [e] at this; omega
      · exact this
  · rw [c40, c59, c65, c60]; exact fun i hi => by
      rw [c47]
      split
      · exact .inl hm1
      · exact hC i hi
  · rw [c59, c65]; exact hZ1
  · rw [c40, c45]; exact fun i hi => ⟨by rw [c44, if_neg (by omega)]; exact (hZ2 i hi).1, (hZ2 i hi).2⟩
theorem rel_ruinB {x b l d : Nat} (hx : (x : Int) < (I 40 0).toInt) (hb : b = yAd R 88 x) (hl : (I 47 x).toInt = (l : Int)) (hln : (l : Int) < (I 59 0).toInt) (hd : d = yAd R 90 l) (S : yStp K n tg I I1 R R1 (upd2 (upd2 (upd2 I 65 l (Int32.ofInt 1)) 47 x (Int32.ofInt (-1))) 44 x (Int32.ofInt 1)) (upd2 (upd2 I b 3 (Int32.ofInt 1)) d 5 (Int32.ofInt 1))) : yR4 I1 R1 := by
  obtain ⟨s1, s2, s3, s4⟩ := S.sz (by rw [upd2_ne (.inl (by decide)), upd2_ne (.inl (by decide)), upd2_ne (.inl (by decide))]) (by rw [upd2_ne (.inl (by decide)), upd2_ne (.inl (by decide)), upd2_ne (.inl (by decide))])
  obtain ⟨hA, hB, hC, hZ1, hZ2⟩ := S.1.2.2.2.2.2
  have c40 : (upd2 (upd2 (upd2 I 65 l (Int32.ofInt 1)) 47 x (Int32.ofInt (-1))) 44 x (Int32.ofInt 1)) 40 = I 40 := (by rw [upd2_row (by decide), upd2_row (by decide), upd2_row (by decide)])
  have c44 : ∀ i, (upd2 (upd2 (upd2 I 65 l (Int32.ofInt 1)) 47 x (Int32.ofInt (-1))) 44 x (Int32.ofInt 1)) 44 i = if i = x then (Int32.ofInt 1) else I 44 i := fun i => by simp [upd2]
  have c45 : (upd2 (upd2 (upd2 I 65 l (Int32.ofInt 1)) 47 x (Int32.ofInt (-1))) 44 x (Int32.ofInt 1)) 45 = I 45 := (by rw [upd2_row (by decide), upd2_row (by decide), upd2_row (by decide)])
  have c47 : ∀ i, (upd2 (upd2 (upd2 I 65 l (Int32.ofInt 1)) 47 x (Int32.ofInt (-1))) 44 x (Int32.ofInt 1)) 47 i = if i = x then (Int32.ofInt (-1)) else I 47 i := fun i => by simp [upd2]
  have c59 : (upd2 (upd2 (upd2 I 65 l (Int32.ofInt 1)) 47 x (Int32.ofInt (-1))) 44 x (Int32.ofInt 1)) 59 = I 59 := (by rw [upd2_row (by decide), upd2_row (by decide), upd2_row (by decide)])
  have c60 : (upd2 (upd2 (upd2 I 65 l (Int32.ofInt 1)) 47 x (Int32.ofInt (-1))) 44 x (Int32.ofInt 1)) 60 = I 60 := (by rw [upd2_row (by decide), upd2_row (by decide), upd2_row (by decide)])
  have c62 : (upd2 (upd2 (upd2 I 65 l (Int32.ofInt 1)) 47 x (Int32.ofInt (-1))) 44 x (Int32.ofInt 1)) 62 = I 62 := (by rw [upd2_row (by decide), upd2_row (by decide), upd2_row (by decide)])
  have c65 : ∀ i, (upd2 (upd2 (upd2 I 65 l (Int32.ofInt 1)) 47 x (Int32.ofInt (-1))) 44 x (Int32.ofInt 1)) 65 i = if i = l then (Int32.ofInt 1) else I 65 i := fun i => by simp [upd2]
  have hm1 : (Int32.ofInt (-1)).toInt = -1 := by decide
  have h11 : (Int32.ofInt 1).toInt = 1 := by decide
  have hlx : (I 60 l).toInt = (x : Int) := by
    rcases hC x hx with q | ⟨q1, q2, q3, q4⟩
    · omega
    · rw [show l = (I 47 x).toInt.toNat by omega]; exact q4
  have hnd : ∀ i : Nat, (i : Int) < (I 88 2).toInt → yAd R 88 i ≠ d := fun i hi e => S.2.1.ne8890 hi (by omega) (e.trans hd)
  refine S.fin (by rw [upd2_ne (.inl (by decide)), upd2_ne (.inl (by decide)), upd2_ne (.inl (by decide))]) (by rw [upd2_ne (.inl (by decide)), upd2_ne (.inl (by decide)), upd2_ne (.inl (by decide))]) (S.th s1 (by omega) hb (fun f => match f with | 3 => some (Int32.ofInt 1) | _ => none) (fun f hf i => by
        rcases (by omega : f = 0 ∨ f = 1 ∨ f = 2 ∨ f = 3 ∨ f = 4 ∨ f = 5) with rfl | rfl | rfl | rfl | rfl | rfl <;> simp [upd2]) (fun f hf i hi => by
        have hne_d := hnd i hi
        rcases (by omega : f = 0 ∨ f = 1 ∨ f = 2 ∨ f = 3 ∨ f = 4 ∨ f = 5) with rfl | rfl | rfl | rfl | rfl | rfl <;> simp [upd2, hne_d])) (S.le s2 (fun j hj => by
      have hle := S.1.2.2.2.2.1 j hj
      have hne : ∀ i : Nat, (i : Int) < (I 88 2).toInt → yAd R 90 j ≠ yAd R 88 i := fun i hi e => S.2.1.ne8890 hi hj e.symm
      have h1 := hne x (by omega)
      rw [← hb] at h1
      by_cases hjl : j = l
      · subst hjl
        rw [← hd] at hle h1 ⊢
        simpa [upd2, h1] using And.intro hle.1 hle.2.1
      · have h2 : yAd R 90 j ≠ d := fun e => hjl (S.inj (.inr rfl) hj (by omega) (by rw [← hd]; exact e))
        simpa [upd2, h1, h2, hjl] using hle)) ⟨?_, ?_, ?_, ?_, ?_⟩
  · rw [c59, c60, c40]; exact hA
  · rw [c59, c60]; exact fun j hj h0 => by
      rw [c65] at h0
      split at h0
      · rw [h11] at h0; omega
      · rename_i hjl
        have hq := hB j hj h0
        rw [c47]
        split
        · rename_i e; rw [e] at hq; omega
        · exact hq
  · rw [c40, c59, c60]; exact fun i hi => by
      rw [c47]
      split
      · exact .inl hm1
      · rename_i hix
        rcases hC i hi with q | ⟨q1, q2, q3, q4⟩
        · exact .inl q
        · refine .inr ⟨q1, q2, ?_, q4⟩
          rw [c65, if_neg (fun e => ?_)]
          · exact q3
          · rw [e] at q4; omega
  · rw [c59]; exact fun j hj => by rw [c65, if_neg (by omega)]; exact hZ1 j hj
  · rw [c40, c45]; exact fun i hi => ⟨by rw [c44, if_neg (by omega)]; exact (hZ2 i hi).1, (hZ2 i hi).2⟩
theorem rel_endA {x l d : Nat} (hln : (l : Int) < (I 59 0).toInt) (ho : (I 65 l).toInt = 0) (hx : x = (I 60 l).toInt.toNat) (hd : d = yAd R 90 l) (S : yStp K n tg I I1 R R1 (upd2 (upd2 I 65 l (Int32.ofInt 1)) 47 x (Int32.ofInt (-1))) (upd2 I d 5 (Int32.ofInt 1))) : yR4 I1 R1 := by
  obtain ⟨s1, s2, s3, s4⟩ := S.sz (by rw [upd2_ne (.inl (by decide)), upd2_ne (.inl (by decide))]) (by rw [upd2_ne (.inl (by decide)), upd2_ne (.inl (by decide))])
  obtain ⟨hA, hB, hC, hZ1, hZ2⟩ := S.1.2.2.2.2.2
  have c40 : (upd2 (upd2 I 65 l (Int32.ofInt 1)) 47 x (Int32.ofInt (-1))) 40 = I 40 := (by rw [upd2_row (by decide), upd2_row (by decide)])
  have c44 : (upd2 (upd2 I 65 l (Int32.ofInt 1)) 47 x (Int32.ofInt (-1))) 44 = I 44 := (by rw [upd2_row (by decide), upd2_row (by decide)])
  have c45 : (upd2 (upd2 I 65 l (Int32.ofInt 1)) 47 x (Int32.ofInt (-1))) 45 = I 45 := (by rw [upd2_row (by decide), upd2_row (by decide)])
  have c47 : ∀ i, (upd2 (upd2 I 65 l (Int32.ofInt 1)) 47 x (Int32.ofInt (-1))) 47 i = if i = x then (Int32.ofInt (-1)) else I 47 i := fun i => by simp [upd2]
  have c59 : (upd2 (upd2 I 65 l (Int32.ofInt 1)) 47 x (Int32.ofInt (-1))) 59 = I 59 := (by rw [upd2_row (by decide), upd2_row (by decide)])
  have c60 : (upd2 (upd2 I 65 l (Int32.ofInt 1)) 47 x (Int32.ofInt (-1))) 60 = I 60 := (by rw [upd2_row (by decide), upd2_row (by decide)])
  have c62 : (upd2 (upd2 I 65 l (Int32.ofInt 1)) 47 x (Int32.ofInt (-1))) 62 = I 62 := (by rw [upd2_row (by decide), upd2_row (by decide)])
  have c65 : ∀ i, (upd2 (upd2 I 65 l (Int32.ofInt 1)) 47 x (Int32.ofInt (-1))) 65 i = if i = l then (Int32.ofInt 1) else I 65 i := fun i => by simp [upd2]
  have hm1 : (Int32.ofInt (-1)).toInt = -1 := by decide
  have h11 : (Int32.ofInt 1).toInt = 1 := by decide
  have hlx : (I 60 l).toInt = (x : Int) := by have := hA l hln; omega
  have hxn : (x : Int) < (I 40 0).toInt := by have := hA l hln; omega
  have hl : (I 47 x).toInt = (l : Int) := by rw [hx]; exact hB l hln ho
  have hnd : ∀ i : Nat, (i : Int) < (I 88 2).toInt → yAd R 88 i ≠ d := fun i hi e => S.2.1.ne8890 hi (by omega) (e.trans hd)
  refine S.fin (by rw [upd2_ne (.inl (by decide)), upd2_ne (.inl (by decide))]) (by rw [upd2_ne (.inl (by decide)), upd2_ne (.inl (by decide))]) (fun i hi f hf => by
      have hi : (i : Int) < (I 88 2).toInt := by omega
      obtain ⟨-, q0, q1, -⟩ := S.2.1.l88.2.2.2.2 i hi
      have hne_d := hnd i hi
      have hT := S.1.2.2.2.1 i hi f hf
      rw [S.2.2.2.2.1 88 (by decide) (by decide) i hi, S.2.2.1 (41 + f) (by omega) (by omega), S.2.2.2.1 _ q0 q1]
      rcases (by omega : f = 0 ∨ f = 1 ∨ f = 2 ∨ f = 3 ∨ f = 4 ∨ f = 5) with rfl | rfl | rfl | rfl | rfl | rfl <;> simpa [upd2, hne_d] using hT) (S.le s2 (fun j hj => by
      have hle := S.1.2.2.2.2.1 j hj
      have hne : ∀ i : Nat, (i : Int) < (I 88 2).toInt → yAd R 90 j ≠ yAd R 88 i := fun i hi e => S.2.1.ne8890 hi hj e.symm
      by_cases hjl : j = l
      · subst hjl
        rw [← hd] at hle ⊢
        simpa [upd2] using And.intro hle.1 hle.2.1
      · have h2 : yAd R 90 j ≠ d := fun e => hjl (S.inj (.inr rfl) hj (by omega) (by rw [← hd]; exact e))
        simpa [upd2, h2, hjl] using hle)) ⟨?_, ?_, ?_, ?_, ?_⟩
  · rw [c59, c60, c40]; exact hA
  · rw [c59, c60]; exact fun j hj h0 => by
      rw [c65] at h0
      split at h0
      · rw [h11] at h0; omega
      · rename_i hjl
        have hq := hB j hj h0
        rw [c47]
        split
        · rename_i e; rw [e] at hq; omega
        · exact hq
  · rw [c40, c59, c60]; exact fun i hi => by
      rw [c47]
      split
      · exact .inl hm1
      · rename_i hix
        rcases hC i hi with q | ⟨q1, q2, q3, q4⟩
        · exact .inl q
        · refine .inr ⟨q1, q2, ?_, q4⟩
          rw [c65, if_neg (fun e => ?_)]
          · exact q3
          · rw [e] at q4; omega
  · rw [c59]; exact fun j hj => by rw [c65, if_neg (by omega)]; exact hZ1 j hj
  · rw [c40, c44, c45]; exact hZ2
theorem rel_endB {x b l d : Nat} (hln : (l : Int) < (I 59 0).toInt) (ho : (I 65 l).toInt = 0) (hx : x = (I 60 l).toInt.toNat) (hd : d = yAd R 90 l) (hb : b = yAd R 88 x) (S : yStp K n tg I I1 R R1 (upd2 (upd2 (upd2 (upd2 I 65 l (Int32.ofInt 1)) 47 x (Int32.ofInt (-1))) 42 x (I 62 l)) 43 x (Int32.ofInt 1)) (upd2 (upd2 (upd2 I d 5 (Int32.ofInt 1)) b 1 (I d 1)) b 2 (Int32.ofInt 1))) : yR4 I1 R1 := by
  obtain ⟨s1, s2, s3, s4⟩ := S.sz (by rw [upd2_ne (.inl (by decide)), upd2_ne (.inl (by decide)), upd2_ne (.inl (by decide)), upd2_ne (.inl (by decide))]) (by rw [upd2_ne (.inl (by decide)), upd2_ne (.inl (by decide)), upd2_ne (.inl (by decide)), upd2_ne (.inl (by decide))])
  obtain ⟨hA, hB, hC, hZ1, hZ2⟩ := S.1.2.2.2.2.2
  have c40 : (upd2 (upd2 (upd2 (upd2 I 65 l (Int32.ofInt 1)) 47 x (Int32.ofInt (-1))) 42 x (I 62 l)) 43 x (Int32.ofInt 1)) 40 = I 40 := (by rw [upd2_row (by decide), upd2_row (by decide), upd2_row (by decide), upd2_row (by decide)])
  have c44 : (upd2 (upd2 (upd2 (upd2 I 65 l (Int32.ofInt 1)) 47 x (Int32.ofInt (-1))) 42 x (I 62 l)) 43 x (Int32.ofInt 1)) 44 = I 44 := (by rw [upd2_row (by decide), upd2_row (by decide), upd2_row (by decide), upd2_row (by decide)])
  have c45 : (upd2 (upd2 (upd2 (upd2 I 65 l (Int32.ofInt 1)) 47 x (Int32.ofInt (-1))) 42 x (I 62 l)) 43 x (Int32.ofInt 1)) 45 = I 45 := (by rw [upd2_row (by decide), upd2_row (by decide), upd2_row (by decide), upd2_row (by decide)])
  have c47 : ∀ i, (upd2 (upd2 (upd2 (upd2 I 65 l (Int32.ofInt 1)) 47 x (Int32.ofInt (-1))) 42 x (I 62 l)) 43 x (Int32.ofInt 1)) 47 i = if i = x then (Int32.ofInt (-1)) else I 47 i := fun i => by simp [upd2]
  have c59 : (upd2 (upd2 (upd2 (upd2 I 65 l (Int32.ofInt 1)) 47 x (Int32.ofInt (-1))) 42 x (I 62 l)) 43 x (Int32.ofInt 1)) 59 = I 59 := (by rw [upd2_row (by decide), upd2_row (by decide), upd2_row (by decide), upd2_row (by decide)])
  have c60 : (upd2 (upd2 (upd2 (upd2 I 65 l (Int32.ofInt 1)) 47 x (Int32.ofInt (-1))) 42 x (I 62 l)) 43 x (Int32.ofInt 1)) 60 = I 60 := (by rw [upd2_row (by decide), upd2_row (by decide), upd2_row (by decide), upd2_row (by decide)])
  have c62 : (upd2 (upd2 (upd2 (upd2 I 65 l (Int32.ofInt 1)) 47 x (Int32.ofInt (-1))) 42 x (I 62 l)) 43 x (Int32.ofInt 1)) 62 = I 62 := (by rw [upd2_row (by decide), upd2_row (by decide), upd2_row (by decide), upd2_row (by decide)])
  have c65 : ∀ i, (upd2 (upd2 (upd2 (upd2 I 65 l (Int32.ofInt 1)) 47 x (Int32.ofInt (-1))) 42 x (I 62 l)) 43 x (Int32.ofInt 1)) 65 i = if i = l then (Int32.ofInt 1) else I 65 i := fun i => by simp [upd2]
  have hm1 : (Int32.ofInt (-1)).toInt = -1 := by decide
  have h11 : (Int32.ofInt 1).toInt = 1 := by decide
  have hlx : (I 60 l).toInt = (x : Int) := by have := hA l hln; omega
  have hxn : (x : Int) < (I 40 0).toInt := by have := hA l hln; omega
  have hl : (I 47 x).toInt = (l : Int) := by rw [hx]; exact hB l hln ho
  have hnd : ∀ i : Nat, (i : Int) < (I 88 2).toInt → yAd R 88 i ≠ d := fun i hi e => S.2.1.ne8890 hi (by omega) (e.trans hd)
  have hd1 : I d 1 = I 62 l := by rw [hd]; exact (S.1.2.2.2.2.1 l (by omega)).2.1.symm
  refine S.fin (by rw [upd2_ne (.inl (by decide)), upd2_ne (.inl (by decide)), upd2_ne (.inl (by decide)), upd2_ne (.inl (by decide))]) (by rw [upd2_ne (.inl (by decide)), upd2_ne (.inl (by decide)), upd2_ne (.inl (by decide)), upd2_ne (.inl (by decide))]) (S.th s1 (by omega) hb (fun f => match f with | 1 => some (I 62 l) | 2 => some (Int32.ofInt 1) | _ => none) (fun f hf i => by
        rcases (by omega : f = 0 ∨ f = 1 ∨ f = 2 ∨ f = 3 ∨ f = 4 ∨ f = 5) with rfl | rfl | rfl | rfl | rfl | rfl <;> simp [upd2]) (fun f hf i hi => by
        have hne_d := hnd i hi
        rcases (by omega : f = 0 ∨ f = 1 ∨ f = 2 ∨ f = 3 ∨ f = 4 ∨ f = 5) with rfl | rfl | rfl | rfl | rfl | rfl <;> simp [upd2, hne_d, hd1])) (S.le s2 (fun j hj => by
      have hle := S.1.2.2.2.2.1 j hj
      have hne : ∀ i : Nat, (i : Int) < (I 88 2).toInt → yAd R 90 j ≠ yAd R 88 i := fun i hi e => S.2.1.ne8890 hi hj e.symm
      have h1 := hne x (by omega)
      rw [← hb] at h1
      by_cases hjl : j = l
      · subst hjl
        rw [← hd] at hle h1 ⊢
        simpa [upd2, h1] using And.intro hle.1 hle.2.1
      · have h2 : yAd R 90 j ≠ d := fun e => hjl (S.inj (.inr rfl) hj (by omega) (by rw [← hd]; exact e))
        simpa [upd2, h1, h2, hjl] using hle)) ⟨?_, ?_, ?_, ?_, ?_⟩
  · rw [c59, c60, c40]; exact hA
  · rw [c59, c60]; exact fun j hj h0 => by
      rw [c65] at h0
      split at h0
      · rw [h11] at h0; omega
      · rename_i hjl
        have hq := hB j hj h0
        rw [c47]
        split
        · rename_i e; rw [e] at hq; omega
        · exact hq
  · rw [c40, c59, c60]; exact fun i hi => by
      rw [c47]
      split
      · exact .inl hm1
      · rename_i hix
        rcases hC i hi with q | ⟨q1, q2, q3, q4⟩
        · exact .inl q
        · refine .inr ⟨q1, q2, ?_, q4⟩
          rw [c65, if_neg (fun e => ?_)]
          · exact q3
          · rw [e] at q4; omega
  · rw [c59]; exact fun j hj => by rw [c65, if_neg (by omega)]; exact hZ1 j hj
  · rw [c40, c44, c45]; exact hZ2
theorem rel_sellA {k x b : Nat} {y1 y2 y3 y4 y5 y6 y7 y8 x2 : Int32} (hx : (x : Int) < (I 40 0).toInt) (hb : b = yAd R 88 x) (S : yStp K n tg I I1 R R1 (upd2 (upd2 (upd2 (upd2 (upd2 (upd2 (upd2 (upd2 (upd2 (upd2 I 49 k y1) 50 k y2) 51 k y3) 52 k y4) 53 k y5) 54 k y6) 56 k y7) 48 0 y8) 42 x x2) 43 x (Int32.ofInt 1)) (upd2 (upd2 I b 1 x2) b 2 (Int32.ofInt 1))) : yR4 I1 R1 := by
  obtain ⟨s1, s2, s3, s4⟩ := S.sz (by rw [upd2_ne (.inl (by decide)), upd2_ne (.inl (by decide)), upd2_ne (.inl (by decide)), upd2_ne (.inl (by decide)), upd2_ne (.inl (by decide)), upd2_ne (.inl (by decide)), upd2_ne (.inl (by decide)), upd2_ne (.inl (by decide)), upd2_ne (.inl (by decide)), upd2_ne (.inl (by decide))]) (by rw [upd2_ne (.inl (by decide)), upd2_ne (.inl (by decide)), upd2_ne (.inl (by decide)), upd2_ne (.inl (by decide)), upd2_ne (.inl (by decide)), upd2_ne (.inl (by decide)), upd2_ne (.inl (by decide)), upd2_ne (.inl (by decide)), upd2_ne (.inl (by decide)), upd2_ne (.inl (by decide))])
  obtain ⟨hA, hB, hC, hZ1, hZ2⟩ := S.1.2.2.2.2.2
  have c40 : (upd2 (upd2 (upd2 (upd2 (upd2 (upd2 (upd2 (upd2 (upd2 (upd2 I 49 k y1) 50 k y2) 51 k y3) 52 k y4) 53 k y5) 54 k y6) 56 k y7) 48 0 y8) 42 x x2) 43 x (Int32.ofInt 1)) 40 = I 40 := (by rw [upd2_row (by decide), upd2_row (by decide), upd2_row (by decide), upd2_row (by decide), upd2_row (by decide), upd2_row (by decide), upd2_row (by decide), upd2_row (by decide), upd2_row (by decide), upd2_row (by decide)])
  have c44 : (upd2 (upd2 (upd2 (upd2 (upd2 (upd2 (upd2 (upd2 (upd2 (upd2 I 49 k y1) 50 k y2) 51 k y3) 52 k y4) 53 k y5) 54 k y6) 56 k y7) 48 0 y8) 42 x x2) 43 x (Int32.ofInt 1)) 44 = I 44 := (by rw [upd2_row (by decide), upd2_row (by decide), upd2_row (by decide), upd2_row (by decide), upd2_row (by decide), upd2_row (by decide), upd2_row (by decide), upd2_row (by decide), upd2_row (by decide), upd2_row (by decide)])
  have c45 : (upd2 (upd2 (upd2 (upd2 (upd2 (upd2 (upd2 (upd2 (upd2 (upd2 I 49 k y1) 50 k y2) 51 k y3) 52 k y4) 53 k y5) 54 k y6) 56 k y7) 48 0 y8) 42 x x2) 43 x (Int32.ofInt 1)) 45 = I 45 := (by rw [upd2_row (by decide), upd2_row (by decide), upd2_row (by decide), upd2_row (by decide), upd2_row (by decide), upd2_row (by decide), upd2_row (by decide), upd2_row (by decide), upd2_row (by decide), upd2_row (by decide)])
  have c47 : (upd2 (upd2 (upd2 (upd2 (upd2 (upd2 (upd2 (upd2 (upd2 (upd2 I 49 k y1) 50 k y2) 51 k y3) 52 k y4) 53 k y5) 54 k y6) 56 k y7) 48 0 y8) 42 x x2) 43 x (Int32.ofInt 1)) 47 = I 47 := (by rw [upd2_row (by decide), upd2_row (by decide), upd2_row (by decide), upd2_row (by decide), upd2_row (by decide), upd2_row (by decide), upd2_row (by decide), upd2_row (by decide), upd2_row (by decide), upd2_row (by decide)])
  have c59 : (upd2 (upd2 (upd2 (upd2 (upd2 (upd2 (upd2 (upd2 (upd2 (upd2 I 49 k y1) 50 k y2) 51 k y3) 52 k y4) 53 k y5) 54 k y6) 56 k y7) 48 0 y8) 42 x x2) 43 x (Int32.ofInt 1)) 59 = I 59 := (by rw [upd2_row (by decide), upd2_row (by decide), upd2_row (by decide), upd2_row (by decide), upd2_row (by decide), upd2_row (by decide), upd2_row (by decide), upd2_row (by decide), upd2_row (by decide), upd2_row (by decide)])
  have c60 : (upd2 (upd2 (upd2 (upd2 (upd2 (upd2 (upd2 (upd2 (upd2 (upd2 I 49 k y1) 50 k y2) 51 k y3) 52 k y4) 53 k y5) 54 k y6) 56 k y7) 48 0 y8) 42 x x2) 43 x (Int32.ofInt 1)) 60 = I 60 := (by rw [upd2_row (by decide), upd2_row (by decide), upd2_row (by decide), upd2_row (by decide), upd2_row (by decide), upd2_row (by decide), upd2_row (by decide), upd2_row (by decide), upd2_row (by decide), upd2_row (by decide)])
  have c62 : (upd2 (upd2 (upd2 (upd2 (upd2 (upd2 (upd2 (upd2 (upd2 (upd2 I 49 k y1) 50 k y2) 51 k y3) 52 k y4) 53 k y5) 54 k y6) 56 k y7) 48 0 y8) 42 x x2) 43 x (Int32.ofInt 1)) 62 = I 62 := (by rw [upd2_row (by decide), upd2_row (by decide), upd2_row (by decide), upd2_row (by decide), upd2_row (by decide), upd2_row (by decide), upd2_row (by decide), upd2_row (by decide), upd2_row (by decide), upd2_row (by decide)])
  have c65 : (upd2 (upd2 (upd2 (upd2 (upd2 (upd2 (upd2 (upd2 (upd2 (upd2 I 49 k y1) 50 k y2) 51 k y3) 52 k y4) 53 k y5) 54 k y6) 56 k y7) 48 0 y8) 42 x x2) 43 x (Int32.ofInt 1)) 65 = I 65 := (by rw [upd2_row (by decide), upd2_row (by decide), upd2_row (by decide), upd2_row (by decide), upd2_row (by decide), upd2_row (by decide), upd2_row (by decide), upd2_row (by decide), upd2_row (by decide), upd2_row (by decide)])
  refine S.fin (by rw [upd2_ne (.inl (by decide)), upd2_ne (.inl (by decide)), upd2_ne (.inl (by decide)), upd2_ne (.inl (by decide)), upd2_ne (.inl (by decide)), upd2_ne (.inl (by decide)), upd2_ne (.inl (by decide)), upd2_ne (.inl (by decide)), upd2_ne (.inl (by decide)), upd2_ne (.inl (by decide))]) (by rw [upd2_ne (.inl (by decide)), upd2_ne (.inl (by decide)), upd2_ne (.inl (by decide)), upd2_ne (.inl (by decide)), upd2_ne (.inl (by decide)), upd2_ne (.inl (by decide)), upd2_ne (.inl (by decide)), upd2_ne (.inl (by decide)), upd2_ne (.inl (by decide)), upd2_ne (.inl (by decide))]) (S.th s1 (by omega) hb (fun f => match f with | 1 => some x2 | 2 => some (Int32.ofInt 1) | _ => none) (fun f hf i => by
        rcases (by omega : f = 0 ∨ f = 1 ∨ f = 2 ∨ f = 3 ∨ f = 4 ∨ f = 5) with rfl | rfl | rfl | rfl | rfl | rfl <;> simp [upd2]) (fun f hf i hi => by
        rcases (by omega : f = 0 ∨ f = 1 ∨ f = 2 ∨ f = 3 ∨ f = 4 ∨ f = 5) with rfl | rfl | rfl | rfl | rfl | rfl <;> simp [upd2])) (S.le s2 (fun j hj => by
      have hle := S.1.2.2.2.2.1 j hj
      have hne : ∀ i : Nat, (i : Int) < (I 88 2).toInt → yAd R 90 j ≠ yAd R 88 i := fun i hi e => S.2.1.ne8890 hi hj e.symm
      have h1 := hne x (by omega)
      rw [← hb] at h1
      simpa [upd2, h1] using hle)) ⟨?_, ?_, ?_, ?_, ?_⟩
  · rw [c59, c60, c40]; exact hA
  · rw [c59, c60, c65, c47]; exact hB
  · rw [c40, c47, c59, c65, c60]; exact hC
  · rw [c59, c65]; exact hZ1
  · rw [c40, c44, c45]; exact hZ2
theorem rel_sellB {k : Nat} {y1 y2 y3 y4 y5 y6 y7 y8 : Int32}  (S : yStp K n tg I I1 R R1 (upd2 (upd2 (upd2 (upd2 (upd2 (upd2 (upd2 (upd2 I 49 k y1) 50 k y2) 51 k y3) 52 k y4) 53 k y5) 54 k y6) 56 k y7) 48 0 y8) I) : yR4 I1 R1 := by
  obtain ⟨s1, s2, s3, s4⟩ := S.sz (by rw [upd2_ne (.inl (by decide)), upd2_ne (.inl (by decide)), upd2_ne (.inl (by decide)), upd2_ne (.inl (by decide)), upd2_ne (.inl (by decide)), upd2_ne (.inl (by decide)), upd2_ne (.inl (by decide)), upd2_ne (.inl (by decide))]) (by rw [upd2_ne (.inl (by decide)), upd2_ne (.inl (by decide)), upd2_ne (.inl (by decide)), upd2_ne (.inl (by decide)), upd2_ne (.inl (by decide)), upd2_ne (.inl (by decide)), upd2_ne (.inl (by decide)), upd2_ne (.inl (by decide))])
  obtain ⟨hA, hB, hC, hZ1, hZ2⟩ := S.1.2.2.2.2.2
  have c40 : (upd2 (upd2 (upd2 (upd2 (upd2 (upd2 (upd2 (upd2 I 49 k y1) 50 k y2) 51 k y3) 52 k y4) 53 k y5) 54 k y6) 56 k y7) 48 0 y8) 40 = I 40 := (by rw [upd2_row (by decide), upd2_row (by decide), upd2_row (by decide), upd2_row (by decide), upd2_row (by decide), upd2_row (by decide), upd2_row (by decide), upd2_row (by decide)])
  have c44 : (upd2 (upd2 (upd2 (upd2 (upd2 (upd2 (upd2 (upd2 I 49 k y1) 50 k y2) 51 k y3) 52 k y4) 53 k y5) 54 k y6) 56 k y7) 48 0 y8) 44 = I 44 := (by rw [upd2_row (by decide), upd2_row (by decide), upd2_row (by decide), upd2_row (by decide), upd2_row (by decide), upd2_row (by decide), upd2_row (by decide), upd2_row (by decide)])
  have c45 : (upd2 (upd2 (upd2 (upd2 (upd2 (upd2 (upd2 (upd2 I 49 k y1) 50 k y2) 51 k y3) 52 k y4) 53 k y5) 54 k y6) 56 k y7) 48 0 y8) 45 = I 45 := (by rw [upd2_row (by decide), upd2_row (by decide), upd2_row (by decide), upd2_row (by decide), upd2_row (by decide), upd2_row (by decide), upd2_row (by decide), upd2_row (by decide)])
  have c47 : (upd2 (upd2 (upd2 (upd2 (upd2 (upd2 (upd2 (upd2 I 49 k y1) 50 k y2) 51 k y3) 52 k y4) 53 k y5) 54 k y6) 56 k y7) 48 0 y8) 47 = I 47 := (by rw [upd2_row (by decide), upd2_row (by decide), upd2_row (by decide), upd2_row (by decide), upd2_row (by decide), upd2_row (by decide), upd2_row (by decide), upd2_row (by decide)])
  have c59 : (upd2 (upd2 (upd2 (upd2 (upd2 (upd2 (upd2 (upd2 I 49 k y1) 50 k y2) 51 k y3) 52 k y4) 53 k y5) 54 k y6) 56 k y7) 48 0 y8) 59 = I 59 := (by rw [upd2_row (by decide), upd2_row (by decide), upd2_row (by decide), upd2_row (by decide), upd2_row (by decide), upd2_row (by decide), upd2_row (by decide), upd2_row (by decide)])
  have c60 : (upd2 (upd2 (upd2 (upd2 (upd2 (upd2 (upd2 (upd2 I 49 k y1) 50 k y2) 51 k y3) 52 k y4) 53 k y5) 54 k y6) 56 k y7) 48 0 y8) 60 = I 60 := (by rw [upd2_row (by decide), upd2_row (by decide), upd2_row (by decide), upd2_row (by decide), upd2_row (by decide), upd2_row (by decide), upd2_row (by decide), upd2_row (by decide)])
  have c62 : (upd2 (upd2 (upd2 (upd2 (upd2 (upd2 (upd2 (upd2 I 49 k y1) 50 k y2) 51 k y3) 52 k y4) 53 k y5) 54 k y6) 56 k y7) 48 0 y8) 62 = I 62 := (by rw [upd2_row (by decide), upd2_row (by decide), upd2_row (by decide), upd2_row (by decide), upd2_row (by decide), upd2_row (by decide), upd2_row (by decide), upd2_row (by decide)])
  have c65 : (upd2 (upd2 (upd2 (upd2 (upd2 (upd2 (upd2 (upd2 I 49 k y1) 50 k y2) 51 k y3) 52 k y4) 53 k y5) 54 k y6) 56 k y7) 48 0 y8) 65 = I 65 := (by rw [upd2_row (by decide), upd2_row (by decide), upd2_row (by decide), upd2_row (by decide), upd2_row (by decide), upd2_row (by decide), upd2_row (by decide), upd2_row (by decide)])
  refine S.fin (by rw [upd2_ne (.inl (by decide)), upd2_ne (.inl (by decide)), upd2_ne (.inl (by decide)), upd2_ne (.inl (by decide)), upd2_ne (.inl (by decide)), upd2_ne (.inl (by decide)), upd2_ne (.inl (by decide)), upd2_ne (.inl (by decide))]) (by rw [upd2_ne (.inl (by decide)), upd2_ne (.inl (by decide)), upd2_ne (.inl (by decide)), upd2_ne (.inl (by decide)), upd2_ne (.inl (by decide)), upd2_ne (.inl (by decide)), upd2_ne (.inl (by decide)), upd2_ne (.inl (by decide))]) (fun i hi f hf => by
      have hi : (i : Int) < (I 88 2).toInt := by omega
      obtain ⟨-, q0, q1, -⟩ := S.2.1.l88.2.2.2.2 i hi
      have hT := S.1.2.2.2.1 i hi f hf
      rw [S.2.2.2.2.1 88 (by decide) (by decide) i hi, S.2.2.1 (41 + f) (by omega) (by omega), S.2.2.2.1 _ q0 q1]
      rcases (by omega : f = 0 ∨ f = 1 ∨ f = 2 ∨ f = 3 ∨ f = 4 ∨ f = 5) with rfl | rfl | rfl | rfl | rfl | rfl <;> simpa [upd2] using hT) (S.le s2 (fun j hj => by
      have hle := S.1.2.2.2.2.1 j hj
      have hne : ∀ i : Nat, (i : Int) < (I 88 2).toInt → yAd R 90 j ≠ yAd R 88 i := fun i hi e => S.2.1.ne8890 hi hj e.symm
      simpa [upd2] using hle)) ⟨?_, ?_, ?_, ?_, ?_⟩
  · rw [c59, c60, c40]; exact hA
  · rw [c59, c60, c65, c47]; exact hB
  · rw [c40, c47, c59, c65, c60]; exact hC
  · rw [c59, c65]; exact hZ1
  · rw [c40, c44, c45]; exact hZ2
theorem rel_lease {k x y : Nat} {x1 x2 y1 y3 y4 y6 : Int32} (hk : (k : Int) = (I 59 0).toInt) (h8 : (I 59 0).toInt < 8) (hx : (x : Int) < (I 40 0).toInt) (hx1 : x1.toInt = (x : Int)) (hl : (I 47 x).toInt = -1) (hy : y = yAd R1 90 (I 90 2).toInt.toNat) (hny : n ≤ y) (f0 : I1 y 0 = x1) (f1 : I1 y 1 = x2) (f5 : I1 y 5 = Int32.ofInt 0) (S : yStp K n tg I I1 R R1 (upd2 (upd2 (upd2 (upd2 (upd2 (upd2 (upd2 (upd2 I 60 k x1) 61 k y1) 62 k x2) 63 k y3) 64 k y4) 66 k y6) 59 0 (I 59 0 + Int32.ofInt 1)) 47 x (I 59 0)) I) : yR4 I1 R1 := by
  obtain ⟨hA, hB, hC, hZ1, hZ2⟩ := S.1.2.2.2.2.2
  have c40 : (upd2 (upd2 (upd2 (upd2 (upd2 (upd2 (upd2 (upd2 I 60 k x1) 61 k y1) 62 k x2) 63 k y3) 64 k y4) 66 k y6) 59 0 (I 59 0 + Int32.ofInt 1)) 47 x (I 59 0)) 40 = I 40 := (by rw [upd2_row (by decide), upd2_row (by decide), upd2_row (by decide), upd2_row (by decide), upd2_row (by decide), upd2_row (by decide), upd2_row (by decide), upd2_row (by decide)])
  have c44 : (upd2 (upd2 (upd2 (upd2 (upd2 (upd2 (upd2 (upd2 I 60 k x1) 61 k y1) 62 k x2) 63 k y3) 64 k y4) 66 k y6) 59 0 (I 59 0 + Int32.ofInt 1)) 47 x (I 59 0)) 44 = I 44 := (by rw [upd2_row (by decide), upd2_row (by decide), upd2_row (by decide), upd2_row (by decide), upd2_row (by decide), upd2_row (by decide), upd2_row (by decide), upd2_row (by decide)])
  have c45 : (upd2 (upd2 (upd2 (upd2 (upd2 (upd2 (upd2 (upd2 I 60 k x1) 61 k y1) 62 k x2) 63 k y3) 64 k y4) 66 k y6) 59 0 (I 59 0 + Int32.ofInt 1)) 47 x (I 59 0)) 45 = I 45 := (by rw [upd2_row (by decide), upd2_row (by decide), upd2_row (by decide), upd2_row (by decide), upd2_row (by decide), upd2_row (by decide), upd2_row (by decide), upd2_row (by decide)])
  have c47 : ∀ i, (upd2 (upd2 (upd2 (upd2 (upd2 (upd2 (upd2 (upd2 I 60 k x1) 61 k y1) 62 k x2) 63 k y3) 64 k y4) 66 k y6) 59 0 (I 59 0 + Int32.ofInt 1)) 47 x (I 59 0)) 47 i = if i = x then (I 59 0) else I 47 i := fun i => by simp [upd2]
  have c59 : (upd2 (upd2 (upd2 (upd2 (upd2 (upd2 (upd2 (upd2 I 60 k x1) 61 k y1) 62 k x2) 63 k y3) 64 k y4) 66 k y6) 59 0 (I 59 0 + Int32.ofInt 1)) 47 x (I 59 0)) 59 0 = I 59 0 + Int32.ofInt 1 := by simp [upd2]
  have c60 : ∀ i, (upd2 (upd2 (upd2 (upd2 (upd2 (upd2 (upd2 (upd2 I 60 k x1) 61 k y1) 62 k x2) 63 k y3) 64 k y4) 66 k y6) 59 0 (I 59 0 + Int32.ofInt 1)) 47 x (I 59 0)) 60 i = if i = k then x1 else I 60 i := fun i => by simp [upd2]
  have c62 : ∀ i, (upd2 (upd2 (upd2 (upd2 (upd2 (upd2 (upd2 (upd2 I 60 k x1) 61 k y1) 62 k x2) 63 k y3) 64 k y4) 66 k y6) 59 0 (I 59 0 + Int32.ofInt 1)) 47 x (I 59 0)) 62 i = if i = k then x2 else I 62 i := fun i => by simp [upd2]
  have c65 : (upd2 (upd2 (upd2 (upd2 (upd2 (upd2 (upd2 (upd2 I 60 k x1) 61 k y1) 62 k x2) 63 k y3) 64 k y4) 66 k y6) 59 0 (I 59 0 + Int32.ofInt 1)) 47 x (I 59 0)) 65 = I 65 := (by rw [upd2_row (by decide), upd2_row (by decide), upd2_row (by decide), upd2_row (by decide), upd2_row (by decide), upd2_row (by decide), upd2_row (by decide), upd2_row (by decide)])
  have hrl := S.1.1
  obtain ⟨-, -, -, a4, -, -, -, a8⟩ := hrl
  have hrl := S.2.2.2.2.2.2
  obtain ⟨-, -, -, b4, -, -, -, b8⟩ := hrl
  have e40 := congrArg Int32.toInt ((congrFun (S.2.2.1 40 (by decide) (by decide)) 0).trans (congrFun c40 0))
  have e59 := congrArg Int32.toInt ((congrFun (S.2.2.1 59 (by decide) (by decide)) 0).trans c59)
  rw [yinc (by omega)] at e59
  have s1 : (I1 88 2).toInt = (I 88 2).toInt := by omega
  have s2 : (I1 90 2).toInt = (I 90 2).toInt + 1 := by omega
  have h00 : (Int32.ofInt 0).toInt = 0 := by decide
  refine ⟨S.2.2.2.2.2.2, S.2.2.2.2.2.1, fun l h => ?_, fun i hi f hf => by
      have hi : (i : Int) < (I 88 2).toInt := by omega
      obtain ⟨-, q0, q1, -⟩ := S.2.1.l88.2.2.2.2 i hi
      have hT := S.1.2.2.2.1 i hi f hf
      rw [S.2.2.2.2.1 88 (by decide) (by decide) i hi, S.2.2.1 (41 + f) (by omega) (by omega), S.2.2.2.1 _ q0 q1]
      rcases (by omega : f = 0 ∨ f = 1 ∨ f = 2 ∨ f = 3 ∨ f = 4 ∨ f = 5) with rfl | rfl | rfl | rfl | rfl | rfl <;> simpa [upd2] using hT, fun j hj => ?_, ?_⟩
  · rcases h with rfl | rfl
    · exact S.or (.inl rfl) s1
    · exact S.orA (.inr rfl) s2 hy hny
  · rw [S.2.2.1 60 (by decide) (by decide), S.2.2.1 62 (by decide) (by decide), S.2.2.1 65 (by decide) (by decide)]
    by_cases hjk : (j : Int) < (I 90 2).toInt
    · obtain ⟨-, q0, q1, -⟩ := S.2.1.l90.2.2.2.2 j hjk
      have hle := S.1.2.2.2.2.1 j hjk
      have hjn : j ≠ k := by omega
      rw [S.2.2.2.2.1 90 (by decide) (by decide) j hjk, S.2.2.2.1 _ q0 q1]
      simpa [upd2, hjn] using hle
    · have hjk2 : j = k := by omega
      subst hjk2
      rw [show j = (I 90 2).toInt.toNat by omega, ← hy, f0, f1, f5, show (I 90 2).toInt.toNat = j by omega, c60, c62, c65, if_pos rfl, if_pos rfl]
      exact ⟨rfl, rfl, hZ1 j (by omega)⟩
  refine yCo4.cong2 ⟨?_, ?_, ?_, ?_, ?_⟩ (fun a h1 h2 => S.2.2.1 a h1 h2)
  · rw [c40, c59, yinc (by omega)]; exact fun j hj => by
      rw [c60]
      split
      · omega
      · exact hA j (by omega)
  · rw [c59, yinc (by omega), c65]; exact fun j hj h0 => by
      rw [c60]
      split
      · rw [c47, if_pos (by omega)]; omega
      · have hq := hB j (by omega) h0
        rw [c47]
        split
        · rename_i e; rw [e] at hq; omega
        · exact hq
  · rw [c40, c59, yinc (by omega), c65]; exact fun i hi => by
      rw [c47]
      split
      · refine .inr ⟨by omega, by omega, ?_, ?_⟩
        · rw [hZ1 _ (by omega)]; exact h00
        · rw [c60, if_pos (by omega)]; omega
      · rcases hC i hi with q | ⟨q1, q2, q3, q4⟩
        · exact .inl q
        · refine .inr ⟨q1, by omega, q3, ?_⟩
          rw [c60, if_neg (by omega)]; exact q4
  · rw [c59, yinc (by omega), c65]; exact fun j hj => hZ1 j (by omega)
  · rw [c40, c44, c45]; exact hZ2
theorem rel_thing {k y : Nat} {x1 own : Int32} (hk : (k : Int) = (I 40 0).toInt) (h16 : (I 40 0).toInt < 16) (hy : y = yAd R1 88 (I 88 2).toInt.toNat) (hny : n ≤ y) (f0 : I1 y 0 = x1) (f1 : I1 y 1 = own) (f2 : I1 y 2 = Int32.ofInt 1) (f3 : I1 y 3 = Int32.ofInt 0) (f4 : I1 y 4 = Int32.ofInt 0) (f5 : I1 y 5 = Int32.ofInt (-1)) (S : yStp K n tg I I1 R R1 (upd2 (upd2 (upd2 (upd2 (upd2 (upd2 I 41 k x1) 42 k own) 43 k (Int32.ofInt 1)) 46 k (Int32.ofInt (-1))) 47 k (Int32.ofInt (-1))) 40 0 (I 40 0 + Int32.ofInt 1)) I) : yR4 I1 R1 := by
  obtain ⟨hA, hB, hC, hZ1, hZ2⟩ := S.1.2.2.2.2.2
  have c40 : (upd2 (upd2 (upd2 (upd2 (upd2 (upd2 I 41 k x1) 42 k own) 43 k (Int32.ofInt 1)) 46 k (Int32.ofInt (-1))) 47 k (Int32.ofInt (-1))) 40 0 (I 40 0 + Int32.ofInt 1)) 40 0 = I 40 0 + Int32.ofInt 1 := by simp [upd2]
  have c44 : (upd2 (upd2 (upd2 (upd2 (upd2 (upd2 I 41 k x1) 42 k own) 43 k (Int32.ofInt 1)) 46 k (Int32.ofInt (-1))) 47 k (Int32.ofInt (-1))) 40 0 (I 40 0 + Int32.ofInt 1)) 44 = I 44 := (by rw [upd2_row (by decide), upd2_row (by decide), upd2_row (by decide), upd2_row (by decide), upd2_row (by decide), upd2_row (by decide)])
  have c45 : (upd2 (upd2 (upd2 (upd2 (upd2 (upd2 I 41 k x1) 42 k own) 43 k (Int32.ofInt 1)) 46 k (Int32.ofInt (-1))) 47 k (Int32.ofInt (-1))) 40 0 (I 40 0 + Int32.ofInt 1)) 45 = I 45 := (by rw [upd2_row (by decide), upd2_row (by decide), upd2_row (by decide), upd2_row (by decide), upd2_row (by decide), upd2_row (by decide)])
  have c47 : ∀ i, (upd2 (upd2 (upd2 (upd2 (upd2 (upd2 I 41 k x1) 42 k own) 43 k (Int32.ofInt 1)) 46 k (Int32.ofInt (-1))) 47 k (Int32.ofInt (-1))) 40 0 (I 40 0 + Int32.ofInt 1)) 47 i = if i = k then (Int32.ofInt (-1)) else I 47 i := fun i => by simp [upd2]
  have c59 : (upd2 (upd2 (upd2 (upd2 (upd2 (upd2 I 41 k x1) 42 k own) 43 k (Int32.ofInt 1)) 46 k (Int32.ofInt (-1))) 47 k (Int32.ofInt (-1))) 40 0 (I 40 0 + Int32.ofInt 1)) 59 = I 59 := (by rw [upd2_row (by decide), upd2_row (by decide), upd2_row (by decide), upd2_row (by decide), upd2_row (by decide), upd2_row (by decide)])
  have c60 : (upd2 (upd2 (upd2 (upd2 (upd2 (upd2 I 41 k x1) 42 k own) 43 k (Int32.ofInt 1)) 46 k (Int32.ofInt (-1))) 47 k (Int32.ofInt (-1))) 40 0 (I 40 0 + Int32.ofInt 1)) 60 = I 60 := (by rw [upd2_row (by decide), upd2_row (by decide), upd2_row (by decide), upd2_row (by decide), upd2_row (by decide), upd2_row (by decide)])
  have c62 : (upd2 (upd2 (upd2 (upd2 (upd2 (upd2 I 41 k x1) 42 k own) 43 k (Int32.ofInt 1)) 46 k (Int32.ofInt (-1))) 47 k (Int32.ofInt (-1))) 40 0 (I 40 0 + Int32.ofInt 1)) 62 = I 62 := (by rw [upd2_row (by decide), upd2_row (by decide), upd2_row (by decide), upd2_row (by decide), upd2_row (by decide), upd2_row (by decide)])
  have c65 : (upd2 (upd2 (upd2 (upd2 (upd2 (upd2 I 41 k x1) 42 k own) 43 k (Int32.ofInt 1)) 46 k (Int32.ofInt (-1))) 47 k (Int32.ofInt (-1))) 40 0 (I 40 0 + Int32.ofInt 1)) 65 = I 65 := (by rw [upd2_row (by decide), upd2_row (by decide), upd2_row (by decide), upd2_row (by decide), upd2_row (by decide), upd2_row (by decide)])
  have hrl := S.1.1
  obtain ⟨-, -, -, a4, -, -, -, a8⟩ := hrl
  have hrl := S.2.2.2.2.2.2
  obtain ⟨-, -, -, b4, -, -, -, b8⟩ := hrl
  have e59 := congrArg Int32.toInt ((congrFun (S.2.2.1 59 (by decide) (by decide)) 0).trans (congrFun c59 0))
  have e40 := congrArg Int32.toInt ((congrFun (S.2.2.1 40 (by decide) (by decide)) 0).trans c40)
  rw [yinc (by omega)] at e40
  have s1 : (I1 88 2).toInt = (I 88 2).toInt + 1 := by omega
  have s2 : (I1 90 2).toInt = (I 90 2).toInt := by omega
  have hm1 : (Int32.ofInt (-1)).toInt = -1 := by decide
  refine ⟨S.2.2.2.2.2.2, S.2.2.2.2.2.1, fun l h => ?_, fun i hi f hf => ?_, S.le s2 (fun j hj => by
      have hle := S.1.2.2.2.2.1 j hj
      have hne : ∀ i : Nat, (i : Int) < (I 88 2).toInt → yAd R 90 j ≠ yAd R 88 i := fun i hi e => S.2.1.ne8890 hi hj e.symm
      simpa [upd2] using hle), ?_⟩
  · rcases h with rfl | rfl
    · exact S.orA (.inl rfl) s1 hy hny
    · exact S.or (.inr rfl) s2
  · rw [S.2.2.1 (41 + f) (by omega) (by omega)]
    by_cases hik : (i : Int) < (I 88 2).toInt
    · obtain ⟨-, q0, q1, -⟩ := S.2.1.l88.2.2.2.2 i hik
      have hT := S.1.2.2.2.1 i hik f hf
      have hin : i ≠ k := by omega
      rw [S.2.2.2.2.1 88 (by decide) (by decide) i hik, S.2.2.2.1 _ q0 q1]
      rcases (by omega : f = 0 ∨ f = 1 ∨ f = 2 ∨ f = 3 ∨ f = 4 ∨ f = 5) with rfl | rfl | rfl | rfl | rfl | rfl <;> simpa [upd2, hin] using hT
    · have hik2 : i = k := by omega
      subst hik2
      obtain ⟨z1, z2⟩ := hZ2 i (by omega)
      rw [show yAd R1 88 i = y by rw [hy]; congr 1; omega]
      rcases (by omega : f = 0 ∨ f = 1 ∨ f = 2 ∨ f = 3 ∨ f = 4 ∨ f = 5) with rfl | rfl | rfl | rfl | rfl | rfl <;> simp [upd2, f0, f1, f2, f3, f4, f5, z1, z2]
  refine yCo4.cong2 ⟨?_, ?_, ?_, ?_, ?_⟩ (fun a h1 h2 => S.2.2.1 a h1 h2)
  · rw [c40, c59, c60, yinc (by omega)]; exact fun j hj => by have := hA j hj; omega
  · rw [c59, c65, c60]; exact fun j hj h0 => by
      have := hA j hj
      rw [c47, if_neg (by omega)]; exact hB j hj h0
  · rw [c40, c59, c65, c60, yinc (by omega)]; exact fun i hi => by
      rw [c47]
      split
      · exact .inl hm1
      · exact hC i (by omega)
  · rw [c59, c65]; exact hZ1
  · rw [c40, c44, c45, yinc (by omega)]; exact fun i hi => hZ2 i (by omega)
end YRL4
section YRL5
variable {K n n1 : Nat} {tg tg1 : Nat → yT} {I Ia I1 : Nat → Nat → Int32} {R R1 : Nat → Nat → Value} {CH MCH : Nat → Nat → Int32}
theorem yRI.ne8889 (h : yRI K n tg I R) {i j : Nat} (hi : (i : Int) < (I 88 2).toInt) (hj : (j : Int) < (I 89 2).toInt) : yAd R 89 j ≠ yAd R 88 i := fun e => by
  have q1 := (h.l88.2.2.2.2 i hi).2.2.2
  have q2 := (h.l89.2.2.2.2 j hj).2.2.2
  rw [← e, q2] at q1
  cases q1
theorem yRI.ne9089 (h : yRI K n tg I R) {i j : Nat} (hi : (i : Int) < (I 90 2).toInt) (hj : (j : Int) < (I 89 2).toInt) : yAd R 89 j ≠ yAd R 90 i := fun e => by
  have q1 := (h.l90.2.2.2.2 i hi).2.2.2
  have q2 := (h.l89.2.2.2.2 j hj).2.2.2
  rw [← e, q2] at q1
  cases q1
theorem ySc_lo {f : Nat} (h : f < 10) : 40 ≤ ySc f ∧ ySc f ≤ 68 := by
  rcases (by omega : f = 0 ∨ f = 1 ∨ f = 2 ∨ f = 3 ∨ f = 4 ∨ f = 5 ∨ f = 6 ∨ f = 7 ∨ f = 8 ∨ f = 9) with rfl | rfl | rfl | rfl | rfl | rfl | rfl | rfl | rfl | rfl <;> decide
theorem yCo5.cong2 {I I1 : Nat → Nat → Int32} (h : yCo5 I) (hI : ∀ a, 40 ≤ a → a ≤ 68 → I1 a = I a) : yCo5 I1 := by
  unfold yCo5 at h ⊢
  rw [hI 48 (by decide) (by decide), hI 54 (by decide) (by decide), hI 55 (by decide) (by decide), hI 51 (by decide) (by decide), hI 52 (by decide) (by decide), hI 57 (by decide) (by decide), hI 58 (by decide) (by decide), hI 40 (by decide) (by decide), hI 41 (by decide) (by decide), hI 45 (by decide) (by decide)]
  exact h
/-- a step that leaves sales alone -/
theorem yStp.s5 (S : yStp K n tg I I1 R R1 CH MCH) (h5 : yS5 I R) (hs : (I1 89 2).toInt = (I 89 2).toInt) (hc : ∀ f, f < 10 → CH (ySc f) = I (ySc f)) (hm : ∀ j : Nat, (j : Int) < (I 89 2).toInt → MCH (yAd R 89 j) = I (yAd R 89 j)) (hco : yCo5 CH) : yS5 I1 R1 := by
  refine ⟨fun j hj f hf => ?_, fun i j hij hj => ?_, hco.cong2 fun a h1 h2 => S.2.2.1 a h1 h2⟩
  · rw [hs] at hj
    obtain ⟨-, q0, q1, -⟩ := S.2.1.l89.2.2.2.2 j hj
    obtain ⟨l1, l2⟩ := ySc_lo hf
    rw [S.2.2.2.2.1 89 (by decide) (by decide) j hj, S.2.2.1 _ l1 l2, S.2.2.2.1 _ q0 q1, hc f hf, hm j hj]
    exact h5.1 j hj f hf
  · rw [hs] at hj
    rw [S.2.2.2.2.1 89 (by decide) (by decide) i (by omega), S.2.2.2.2.1 89 (by decide) (by decide) j hj]
    exact h5.2.1 i j hij hj
theorem yR5.two {Ra : Nat → Nat → Value} (h : yR5 I R) (hF : yFu I Ia) (hRa : yRI K n tg Ia Ra) (hHa : yHr Ia Ra) (hLa : yLk I R Ra) (hK : yKp n tg Ia Ra n1 tg1 I1 R1) (hO : yOb4 Ia Ra I1) (hO5 : yOb5 Ia Ra I1) (hL : yLk Ia Ra R1) (hrl : yRl I1) (s1 : (I1 88 2).toInt = (I 88 2).toInt) (s2 : (I1 90 2).toInt = (I 90 2).toInt) (s5 : (I1 89 2).toInt = (I 89 2).toInt) : yR5 I1 R1 := by
  have hhi : ∀ a, 83 ≤ a → Ia a = I a := fun a ha => funext fun k => hF a k (.inr (.inl ha))
  refine ⟨h.1.two hF hRa hHa hLa hK hO hL hrl s1 s2, h.2.fr (yext s5) (fun a ha => (hK.2.2.1 a (p4.lo ha)).trans (funext fun k => hF a k (.inr (.inr (.inr ha))))) (fun j hj f hf => ?_) fun l h1 h2 i hi => (hL l h1 h2 i (by rw [hhi l (by omega)]; exact hi)).trans (hLa l h1 h2 i hi)⟩
  have e := hO5 j (by rw [hhi 89 (by decide)]; exact hj) f hf
  rw [hLa 89 (by decide) (by decide) j hj] at e
  rw [e, hhi _ (by have := (hRa.l89.2.2.2.2 j (by rw [hhi 89 (by decide)]; exact hj)).2.1; rw [hLa 89 (by decide) (by decide) j hj] at this; omega)]
theorem yR5.hold {k : Nat} {v : Value} {Ra : Nat → Nat → Value} (h : yR5 I R) (hR : yRI K n tg I R) (hI : ∀ a, a ≠ 36 → Ia a = I a) (eR : Ra = upd2 R 93 k v) (h83 : ∀ a, a < 83 → I1 a = Ia a) (hO : yOb4 Ia Ra I1) (hO5 : yOb5 Ia Ra I1) (hL : yLk Ia Ra R1) (hrl : yRl I1) (hH : yHr I1 R1) (s1 : (I1 88 2).toInt = (I 88 2).toInt) (s2 : (I1 90 2).toInt = (I 90 2).toInt) (s5 : (I1 89 2).toInt = (I 89 2).toInt) : yR5 I1 R1 := by
  refine ⟨h.1.hold hR hI eR h83 hO hL hrl hH s1 s2, ?_⟩
  subst eR
  refine h.2.fr (yext s5) (fun a ha => (h83 a (p4.lo ha)).trans (hI a (fun e => by subst e; cases ha))) (fun j hj f hf => ?_) fun l h1 h2 i hi => (hL l h1 h2 i (by rw [hI l (by omega)]; exact hi)).trans (yLk.out hR l h1 h2 i hi)
  have e := hO5 j (by rw [hI 89 (by decide)]; exact hj) f hf
  rw [yLk.out hR 89 (by decide) (by decide) j hj] at e
  rw [e, hI _ (by have := (hR.l89.2.2.2.2 j hj).2.1; omega)]
theorem yCo5.same {I CH : Nat → Nat → Int32} (h : yCo5 I) (h48 : CH 48 = I 48) (h54 : CH 54 = I 54) (h55 : CH 55 = I 55) (h51 : CH 51 = I 51) (h52 : CH 52 = I 52) (h57 : CH 57 = I 57) (h58 : CH 58 = I 58) (h40 : CH 40 = I 40) (h41 : CH 41 = I 41) (h45 : CH 45 = I 45) : yCo5 CH := by
  unfold yCo5 at h ⊢
  rw [h48, h54, h55, h51, h52, h57, h58, h40, h41, h45]
  exact h
theorem tie_sa0 (h : yR5 I R) (hR : yRI K n tg I R) {x b : Nat} (hx : (x : Int) < (I 48 0).toInt) (hb : b = yAd R 89 x) : 94 ≤ b ∧ ∀ f, f < 10 → I b f = I (ySc f) x := by
  have h79 : (I 48 0).toInt = (I 89 2).toInt := h.1.1.2.2.2.2.2.2.1
  subst hb
  exact ⟨(hR.l89.2.2.2.2 x (by omega)).2.1, fun f hf => (h.2.1 x (by omega) f hf).symm⟩
theorem tie_sa1 {k : Nat} {v : Value} (h : yR5 I R) (hR : yRI K n tg I R) (hF : yFt I Ia) {x b : Nat} (hx : (x : Int) < (I 48 0).toInt) (hb : b = yAd (upd2 R 93 k v) 89 x) : (b = yAd R 89 x ∧ Ia b = I b) ∧ 94 ≤ b ∧ ∀ f, f < 10 → I b f = I (ySc f) x := by
  have h79 : (I 48 0).toInt = (I 89 2).toInt := h.1.1.2.2.2.2.2.2.1
  rw [yLk.out hR 89 (by decide) (by decide) x (by omega)] at hb
  have q := tie_sa0 h hR hx hb
  exact ⟨⟨hb, hF.hi (by omega)⟩, q⟩
theorem pay_prem (h : yS5 I R) {x1 : Int32} : (0 ≤ x1.toInt ∧ x1.toInt < (I 48 0).toInt) → ((1 ≤ (I 54 x1.toInt.toNat).toInt ∧ (I 54 x1.toInt.toNat).toInt ≤ 12 ∧ 0 ≤ (I 55 x1.toInt.toNat).toInt ∧ (I 55 x1.toInt.toNat).toInt ≤ 12) ∧ 0 ≤ (I 51 x1.toInt.toNat).toInt ∧ (I 51 x1.toInt.toNat).toInt ≤ 99 ∧ 0 ≤ (I 52 x1.toInt.toNat).toInt ∧ (I 52 x1.toInt.toNat).toInt ≤ 2000) := fun q => by
  have := h.2.2.1 x1.toInt.toNat (by omega); omega
theorem paym_prem (h : yR5 I R) (hR : yRI K n tg I R) {x1 : Int32} : ∀ b, b = yAd R 89 x1.toInt.toNat → (0 ≤ x1.toInt ∧ x1.toInt < (I 89 2).toInt) → (1 ≤ (I b 4).toInt ∧ (I b 4).toInt ≤ 12 ∧ 0 ≤ (I b 7).toInt ∧ (I b 7).toInt ≤ 12 ∧ 0 ≤ (I b 3).toInt ∧ (I b 3).toInt ≤ 99) := fun b hb q => by
  have h79 : (I 48 0).toInt = (I 89 2).toInt := h.1.1.2.2.2.2.2.2.1
  have k := h.2.2.2.1 x1.toInt.toNat (by omega)
  obtain ⟨-, hs⟩ := tie_sa0 h hR (x := x1.toInt.toNat) (by omega) hb
  have e3 : I b 3 = I 51 x1.toInt.toNat := hs 3 (by decide)
  have e4 : I b 4 = I 54 x1.toInt.toNat := hs 4 (by decide)
  have e7 : I b 7 = I 55 x1.toInt.toNat := hs 7 (by decide)
  rw [e3, e4, e7]; omega
theorem paym_prem1 {k : Nat} {v : Value} (h : yR5 I R) (hR : yRI K n tg I R) (hF : yFt I Ia) {x1 : Int32} : ∀ b, b = yAd (upd2 R 93 k v) 89 x1.toInt.toNat → (0 ≤ x1.toInt ∧ x1.toInt < (Ia 89 2).toInt) → (1 ≤ (Ia b 4).toInt ∧ (Ia b 4).toInt ≤ 12 ∧ 0 ≤ (Ia b 7).toInt ∧ (Ia b 7).toInt ≤ 12 ∧ 0 ≤ (Ia b 3).toInt ∧ (Ia b 3).toInt ≤ 99) := fun b hb q => by
  have h79 : (I 48 0).toInt = (I 89 2).toInt := h.1.1.2.2.2.2.2.2.1
  rw [hF.hi (by decide : 83 ≤ 89)] at q
  obtain ⟨⟨hb2, eb⟩, -, -⟩ := tie_sa1 h hR hF (x := x1.toInt.toNat) (by omega) hb
  rw [eb]
  exact paym_prem h hR b hb2 q
theorem rel5_buy {x b : Nat} (hx : (x : Int) < (I 40 0).toInt) (hb : b = yAd R 88 x) (h5 : yS5 I R) (hs : (I1 89 2).toInt = (I 89 2).toInt) (S : yStp K n tg I I1 R R1 (upd2 (upd2 (upd2 (upd2 I 45 x (I 41 x)) 46 x (I 42 x)) 42 x (Int32.ofInt 8)) 43 x (Int32.ofInt 0)) (upd2 (upd2 (upd2 (upd2 I b 4 (I b 0)) b 5 (I b 1)) b 1 (Int32.ofInt 8)) b 2 (Int32.ofInt 0))) : yR5 I1 R1 := by
  have hco : yCo5 (upd2 (upd2 (upd2 (upd2 I 45 x (I 41 x)) 46 x (I 42 x)) 42 x (Int32.ofInt 8)) 43 x (Int32.ofInt 0)) := by
    obtain ⟨k1, k2, k3⟩ := h5.2.2
    unfold yCo5
    have e45 : ∀ i, (upd2 (upd2 (upd2 (upd2 I 45 x (I 41 x)) 46 x (I 42 x)) 42 x (Int32.ofInt 8)) 43 x (Int32.ofInt 0)) 45 i = if i = x then I 41 x else I 45 i := fun i => by simp [upd2]
    rw [show (upd2 (upd2 (upd2 (upd2 I 45 x (I 41 x)) 46 x (I 42 x)) 42 x (Int32.ofInt 8)) 43 x (Int32.ofInt 0)) 48 = I 48 from (by repeat rw [upd2_row (by decide)]), show (upd2 (upd2 (upd2 (upd2 I 45 x (I 41 x)) 46 x (I 42 x)) 42 x (Int32.ofInt 8)) 43 x (Int32.ofInt 0)) 54 = I 54 from (by repeat rw [upd2_row (by decide)]), show (upd2 (upd2 (upd2 (upd2 I 45 x (I 41 x)) 46 x (I 42 x)) 42 x (Int32.ofInt 8)) 43 x (Int32.ofInt 0)) 55 = I 55 from (by repeat rw [upd2_row (by decide)]), show (upd2 (upd2 (upd2 (upd2 I 45 x (I 41 x)) 46 x (I 42 x)) 42 x (Int32.ofInt 8)) 43 x (Int32.ofInt 0)) 51 = I 51 from (by repeat rw [upd2_row (by decide)]), show (upd2 (upd2 (upd2 (upd2 I 45 x (I 41 x)) 46 x (I 42 x)) 42 x (Int32.ofInt 8)) 43 x (Int32.ofInt 0)) 52 = I 52 from (by repeat rw [upd2_row (by decide)]), show (upd2 (upd2 (upd2 (upd2 I 45 x (I 41 x)) 46 x (I 42 x)) 42 x (Int32.ofInt 8)) 43 x (Int32.ofInt 0)) 57 = I 57 from (by repeat rw [upd2_row (by decide)]), show (upd2 (upd2 (upd2 (upd2 I 45 x (I 41 x)) 46 x (I 42 x)) 42 x (Int32.ofInt 8)) 43 x (Int32.ofInt 0)) 58 = I 58 from (by repeat rw [upd2_row (by decide)]), show (upd2 (upd2 (upd2 (upd2 I 45 x (I 41 x)) 46 x (I 42 x)) 42 x (Int32.ofInt 8)) 43 x (Int32.ofInt 0)) 40 = I 40 from (by repeat rw [upd2_row (by decide)]), show (upd2 (upd2 (upd2 (upd2 I 45 x (I 41 x)) 46 x (I 42 x)) 42 x (Int32.ofInt 8)) 43 x (Int32.ofInt 0)) 41 = I 41 from (by repeat rw [upd2_row (by decide)])]
    refine ⟨k1, k2, fun i hi => ⟨(k3 i hi).1, ?_⟩⟩
    rw [e45]
    split
    · have := (k3 x hx).1; omega
    · exact (k3 i hi).2
  refine ⟨rel_buy hx hb S, S.s5 h5 hs (fun f hf => by
      rcases (by omega : f = 0 ∨ f = 1 ∨ f = 2 ∨ f = 3 ∨ f = 4 ∨ f = 5 ∨ f = 6 ∨ f = 7 ∨ f = 8 ∨ f = 9) with rfl | rfl | rfl | rfl | rfl | rfl | rfl | rfl | rfl | rfl <;> (show upd2 _ _ _ _ _ = _; repeat rw [upd2_row (by decide)])) (fun j hj => ?_) (hco)⟩
  have hne_b : yAd R 89 j ≠ b := by rw [hb]; exact S.2.1.ne8889 (by have := S.1.1.2.2.2.1; omega) hj
  rw [upd2_row hne_b, upd2_row hne_b, upd2_row hne_b, upd2_row hne_b]
theorem rel5_take {x b : Nat} (hx : (x : Int) < (I 40 0).toInt) (hb : b = yAd R 88 x) (h5 : yS5 I R) (hs : (I1 89 2).toInt = (I 89 2).toInt) (S : yStp K n tg I I1 R R1 (upd2 I 43 x (Int32.ofInt 1)) (upd2 I b 2 (Int32.ofInt 1))) : yR5 I1 R1 := by
  refine ⟨rel_take hx hb S, S.s5 h5 hs (fun f hf => by
      rcases (by omega : f = 0 ∨ f = 1 ∨ f = 2 ∨ f = 3 ∨ f = 4 ∨ f = 5 ∨ f = 6 ∨ f = 7 ∨ f = 8 ∨ f = 9) with rfl | rfl | rfl | rfl | rfl | rfl | rfl | rfl | rfl | rfl <;> (show upd2 _ _ _ _ _ = _; repeat rw [upd2_row (by decide)])) (fun j hj => ?_) (h5.2.2.same (by repeat rw [upd2_row (by decide)]) (by repeat rw [upd2_row (by decide)]) (by repeat rw [upd2_row (by decide)]) (by repeat rw [upd2_row (by decide)]) (by repeat rw [upd2_row (by decide)]) (by repeat rw [upd2_row (by decide)]) (by repeat rw [upd2_row (by decide)]) (by repeat rw [upd2_row (by decide)]) (by repeat rw [upd2_row (by decide)]) (by repeat rw [upd2_row (by decide)]))⟩
  have hne_b : yAd R 89 j ≠ b := by rw [hb]; exact S.2.1.ne8889 (by have := S.1.1.2.2.2.1; omega) hj
  rw [upd2_row hne_b]
theorem rel5_ruinA {x b : Nat} (hx : (x : Int) < (I 40 0).toInt) (hb : b = yAd R 88 x) (hl : (I 47 x).toInt = -1) (h5 : yS5 I R) (hs : (I1 89 2).toInt = (I 89 2).toInt) (S : yStp K n tg I I1 R R1 (upd2 (upd2 I 47 x (Int32.ofInt (-1))) 44 x (Int32.ofInt 1)) (upd2 I b 3 (Int32.ofInt 1))) : yR5 I1 R1 := by
  refine ⟨rel_ruinA hx hb hl S, S.s5 h5 hs (fun f hf => by
      rcases (by omega : f = 0 ∨ f = 1 ∨ f = 2 ∨ f = 3 ∨ f = 4 ∨ f = 5 ∨ f = 6 ∨ f = 7 ∨ f = 8 ∨ f = 9) with rfl | rfl | rfl | rfl | rfl | rfl | rfl | rfl | rfl | rfl <;> (show upd2 _ _ _ _ _ = _; repeat rw [upd2_row (by decide)])) (fun j hj => ?_) (h5.2.2.same (by repeat rw [upd2_row (by decide)]) (by repeat rw [upd2_row (by decide)]) (by repeat rw [upd2_row (by decide)]) (by repeat rw [upd2_row (by decide)]) (by repeat rw [upd2_row (by decide)]) (by repeat rw [upd2_row (by decide)]) (by repeat rw [upd2_row (by decide)]) (by repeat rw [upd2_row (by decide)]) (by repeat rw [upd2_row (by decide)]) (by repeat rw [upd2_row (by decide)]))⟩
  have hne_b : yAd R 89 j ≠ b := by rw [hb]; exact S.2.1.ne8889 (by have := S.1.1.2.2.2.1; omega) hj
  rw [upd2_row hne_b]
theorem rel5_ruinB {x b l d : Nat} (hx : (x : Int) < (I 40 0).toInt) (hb : b = yAd R 88 x) (hl : (I 47 x).toInt = (l : Int)) (hln : (l : Int) < (I 59 0).toInt) (hd : d = yAd R 90 l) (h5 : yS5 I R) (hs : (I1 89 2).toInt = (I 89 2).toInt) (S : yStp K n tg I I1 R R1 (upd2 (upd2 (upd2 I 65 l (Int32.ofInt 1)) 47 x (Int32.ofInt (-1))) 44 x (Int32.ofInt 1)) (upd2 (upd2 I b 3 (Int32.ofInt 1)) d 5 (Int32.ofInt 1))) : yR5 I1 R1 := by
  refine ⟨rel_ruinB hx hb hl hln hd S, S.s5 h5 hs (fun f hf => by
      rcases (by omega : f = 0 ∨ f = 1 ∨ f = 2 ∨ f = 3 ∨ f = 4 ∨ f = 5 ∨ f = 6 ∨ f = 7 ∨ f = 8 ∨ f = 9) with rfl | rfl | rfl | rfl | rfl | rfl | rfl | rfl | rfl | rfl <;> (show upd2 _ _ _ _ _ = _; repeat rw [upd2_row (by decide)])) (fun j hj => ?_) (h5.2.2.same (by repeat rw [upd2_row (by decide)]) (by repeat rw [upd2_row (by decide)]) (by repeat rw [upd2_row (by decide)]) (by repeat rw [upd2_row (by decide)]) (by repeat rw [upd2_row (by decide)]) (by repeat rw [upd2_row (by decide)]) (by repeat rw [upd2_row (by decide)]) (by repeat rw [upd2_row (by decide)]) (by repeat rw [upd2_row (by decide)]) (by repeat rw [upd2_row (by decide)]))⟩
  have hne_b : yAd R 89 j ≠ b := by rw [hb]; exact S.2.1.ne8889 (by have := S.1.1.2.2.2.1; omega) hj
  have hne_d : yAd R 89 j ≠ d := by rw [hd]; exact S.2.1.ne9089 (by have := S.1.1.2.2.2.2.2.2.2; omega) hj
  rw [upd2_row hne_d, upd2_row hne_b]
theorem rel5_endA {x l d : Nat} (hln : (l : Int) < (I 59 0).toInt) (ho : (I 65 l).toInt = 0) (hx : x = (I 60 l).toInt.toNat) (hd : d = yAd R 90 l) (h5 : yS5 I R) (hs : (I1 89 2).toInt = (I 89 2).toInt) (S : yStp K n tg I I1 R R1 (upd2 (upd2 I 65 l (Int32.ofInt 1)) 47 x (Int32.ofInt (-1))) (upd2 I d 5 (Int32.ofInt 1))) : yR5 I1 R1 := by
  refine ⟨rel_endA hln ho hx hd S, S.s5 h5 hs (fun f hf => by
      rcases (by omega : f = 0 ∨ f = 1 ∨ f = 2 ∨ f = 3 ∨ f = 4 ∨ f = 5 ∨ f = 6 ∨ f = 7 ∨ f = 8 ∨ f = 9) with rfl | rfl | rfl | rfl | rfl | rfl | rfl | rfl | rfl | rfl <;> (show upd2 _ _ _ _ _ = _; repeat rw [upd2_row (by decide)])) (fun j hj => ?_) (h5.2.2.same (by repeat rw [upd2_row (by decide)]) (by repeat rw [upd2_row (by decide)]) (by repeat rw [upd2_row (by decide)]) (by repeat rw [upd2_row (by decide)]) (by repeat rw [upd2_row (by decide)]) (by repeat rw [upd2_row (by decide)]) (by repeat rw [upd2_row (by decide)]) (by repeat rw [upd2_row (by decide)]) (by repeat rw [upd2_row (by decide)]) (by repeat rw [upd2_row (by decide)]))⟩
  have hne_d : yAd R 89 j ≠ d := by rw [hd]; exact S.2.1.ne9089 (by have := S.1.1.2.2.2.2.2.2.2; omega) hj
  rw [upd2_row hne_d]
theorem rel5_endB {x b l d : Nat} (hln : (l : Int) < (I 59 0).toInt) (ho : (I 65 l).toInt = 0) (hx : x = (I 60 l).toInt.toNat) (hd : d = yAd R 90 l) (hb : b = yAd R 88 x) (h5 : yS5 I R) (hs : (I1 89 2).toInt = (I 89 2).toInt) (S : yStp K n tg I I1 R R1 (upd2 (upd2 (upd2 (upd2 I 65 l (Int32.ofInt 1)) 47 x (Int32.ofInt (-1))) 42 x (I 62 l)) 43 x (Int32.ofInt 1)) (upd2 (upd2 (upd2 I d 5 (Int32.ofInt 1)) b 1 (I d 1)) b 2 (Int32.ofInt 1))) : yR5 I1 R1 := by
  refine ⟨rel_endB hln ho hx hd hb S, S.s5 h5 hs (fun f hf => by
      rcases (by omega : f = 0 ∨ f = 1 ∨ f = 2 ∨ f = 3 ∨ f = 4 ∨ f = 5 ∨ f = 6 ∨ f = 7 ∨ f = 8 ∨ f = 9) with rfl | rfl | rfl | rfl | rfl | rfl | rfl | rfl | rfl | rfl <;> (show upd2 _ _ _ _ _ = _; repeat rw [upd2_row (by decide)])) (fun j hj => ?_) (h5.2.2.same (by repeat rw [upd2_row (by decide)]) (by repeat rw [upd2_row (by decide)]) (by repeat rw [upd2_row (by decide)]) (by repeat rw [upd2_row (by decide)]) (by repeat rw [upd2_row (by decide)]) (by repeat rw [upd2_row (by decide)]) (by repeat rw [upd2_row (by decide)]) (by repeat rw [upd2_row (by decide)]) (by repeat rw [upd2_row (by decide)]) (by repeat rw [upd2_row (by decide)]))⟩
  have hne_b : yAd R 89 j ≠ b := by rw [hb]; exact S.2.1.ne8889 (by have := S.1.1.2.2.2.1; have := S.1.2.2.2.2.2.1 l hln; omega) hj
  have hne_d : yAd R 89 j ≠ d := by rw [hd]; exact S.2.1.ne9089 (by have := S.1.1.2.2.2.2.2.2.2; omega) hj
  rw [upd2_row hne_b, upd2_row hne_b, upd2_row hne_d]
theorem rel5_lease {k x y : Nat} {x1 x2 y1 y3 y4 y6 : Int32} (hk : (k : Int) = (I 59 0).toInt) (h8 : (I 59 0).toInt < 8) (hx : (x : Int) < (I 40 0).toInt) (hx1 : x1.toInt = (x : Int)) (hl : (I 47 x).toInt = -1) (hy : y = yAd R1 90 (I 90 2).toInt.toNat) (hny : n ≤ y) (f0 : I1 y 0 = x1) (f1 : I1 y 1 = x2) (f5 : I1 y 5 = Int32.ofInt 0) (h5 : yS5 I R) (hs : (I1 89 2).toInt = (I 89 2).toInt) (S : yStp K n tg I I1 R R1 (upd2 (upd2 (upd2 (upd2 (upd2 (upd2 (upd2 (upd2 I 60 k x1) 61 k y1) 62 k x2) 63 k y3) 64 k y4) 66 k y6) 59 0 (I 59 0 + Int32.ofInt 1)) 47 x (I 59 0)) I) : yR5 I1 R1 := by
  refine ⟨rel_lease hk h8 hx hx1 hl hy hny f0 f1 f5 S, S.s5 h5 hs (fun f hf => by
      rcases (by omega : f = 0 ∨ f = 1 ∨ f = 2 ∨ f = 3 ∨ f = 4 ∨ f = 5 ∨ f = 6 ∨ f = 7 ∨ f = 8 ∨ f = 9) with rfl | rfl | rfl | rfl | rfl | rfl | rfl | rfl | rfl | rfl <;> (show upd2 _ _ _ _ _ = _; repeat rw [upd2_row (by decide)])) (fun j hj => ?_) (h5.2.2.same (by repeat rw [upd2_row (by decide)]) (by repeat rw [upd2_row (by decide)]) (by repeat rw [upd2_row (by decide)]) (by repeat rw [upd2_row (by decide)]) (by repeat rw [upd2_row (by decide)]) (by repeat rw [upd2_row (by decide)]) (by repeat rw [upd2_row (by decide)]) (by repeat rw [upd2_row (by decide)]) (by repeat rw [upd2_row (by decide)]) (by repeat rw [upd2_row (by decide)]))⟩
  rfl
theorem rel5_thing {k y : Nat} {x1 own : Int32} (hk : (k : Int) = (I 40 0).toInt) (h16 : (I 40 0).toInt < 16) (hy : y = yAd R1 88 (I 88 2).toInt.toNat) (hny : n ≤ y) (f0 : I1 y 0 = x1) (f1 : I1 y 1 = own) (f2 : I1 y 2 = Int32.ofInt 1) (f3 : I1 y 3 = Int32.ofInt 0) (f4 : I1 y 4 = Int32.ofInt 0) (f5 : I1 y 5 = Int32.ofInt (-1)) (h5 : yS5 I R) (hs : (I1 89 2).toInt = (I 89 2).toInt) (hw : 1 ≤ x1.toInt ∧ x1.toInt ≤ 999) (S : yStp K n tg I I1 R R1 (upd2 (upd2 (upd2 (upd2 (upd2 (upd2 I 41 k x1) 42 k own) 43 k (Int32.ofInt 1)) 46 k (Int32.ofInt (-1))) 47 k (Int32.ofInt (-1))) 40 0 (I 40 0 + Int32.ofInt 1)) I) : yR5 I1 R1 := by
  have hco : yCo5 (upd2 (upd2 (upd2 (upd2 (upd2 (upd2 I 41 k x1) 42 k own) 43 k (Int32.ofInt 1)) 46 k (Int32.ofInt (-1))) 47 k (Int32.ofInt (-1))) 40 0 (I 40 0 + Int32.ofInt 1)) := by
    obtain ⟨k1, k2, k3⟩ := h5.2.2
    have hZ := S.1.2.2.2.2.2.2.2.2.2
    unfold yCo5
    have e41 : ∀ i, (upd2 (upd2 (upd2 (upd2 (upd2 (upd2 I 41 k x1) 42 k own) 43 k (Int32.ofInt 1)) 46 k (Int32.ofInt (-1))) 47 k (Int32.ofInt (-1))) 40 0 (I 40 0 + Int32.ofInt 1)) 41 i = if i = k then x1 else I 41 i := fun i => by simp [upd2]
    have e40 : (upd2 (upd2 (upd2 (upd2 (upd2 (upd2 I 41 k x1) 42 k own) 43 k (Int32.ofInt 1)) 46 k (Int32.ofInt (-1))) 47 k (Int32.ofInt (-1))) 40 0 (I 40 0 + Int32.ofInt 1)) 40 0 = I 40 0 + Int32.ofInt 1 := by simp [upd2]
    rw [show (upd2 (upd2 (upd2 (upd2 (upd2 (upd2 I 41 k x1) 42 k own) 43 k (Int32.ofInt 1)) 46 k (Int32.ofInt (-1))) 47 k (Int32.ofInt (-1))) 40 0 (I 40 0 + Int32.ofInt 1)) 48 = I 48 from (by repeat rw [upd2_row (by decide)]), show (upd2 (upd2 (upd2 (upd2 (upd2 (upd2 I 41 k x1) 42 k own) 43 k (Int32.ofInt 1)) 46 k (Int32.ofInt (-1))) 47 k (Int32.ofInt (-1))) 40 0 (I 40 0 + Int32.ofInt 1)) 54 = I 54 from (by repeat rw [upd2_row (by decide)]), show (upd2 (upd2 (upd2 (upd2 (upd2 (upd2 I 41 k x1) 42 k own) 43 k (Int32.ofInt 1)) 46 k (Int32.ofInt (-1))) 47 k (Int32.ofInt (-1))) 40 0 (I 40 0 + Int32.ofInt 1)) 55 = I 55 from (by repeat rw [upd2_row (by decide)]), show (upd2 (upd2 (upd2 (upd2 (upd2 (upd2 I 41 k x1) 42 k own) 43 k (Int32.ofInt 1)) 46 k (Int32.ofInt (-1))) 47 k (Int32.ofInt (-1))) 40 0 (I 40 0 + Int32.ofInt 1)) 51 = I 51 from (by repeat rw [upd2_row (by decide)]), show (upd2 (upd2 (upd2 (upd2 (upd2 (upd2 I 41 k x1) 42 k own) 43 k (Int32.ofInt 1)) 46 k (Int32.ofInt (-1))) 47 k (Int32.ofInt (-1))) 40 0 (I 40 0 + Int32.ofInt 1)) 52 = I 52 from (by repeat rw [upd2_row (by decide)]), show (upd2 (upd2 (upd2 (upd2 (upd2 (upd2 I 41 k x1) 42 k own) 43 k (Int32.ofInt 1)) 46 k (Int32.ofInt (-1))) 47 k (Int32.ofInt (-1))) 40 0 (I 40 0 + Int32.ofInt 1)) 57 = I 57 from (by repeat rw [upd2_row (by decide)]), show (upd2 (upd2 (upd2 (upd2 (upd2 (upd2 I 41 k x1) 42 k own) 43 k (Int32.ofInt 1)) 46 k (Int32.ofInt (-1))) 47 k (Int32.ofInt (-1))) 40 0 (I 40 0 + Int32.ofInt 1)) 58 = I 58 from (by repeat rw [upd2_row (by decide)]), show (upd2 (upd2 (upd2 (upd2 (upd2 (upd2 I 41 k x1) 42 k own) 43 k (Int32.ofInt 1)) 46 k (Int32.ofInt (-1))) 47 k (Int32.ofInt (-1))) 40 0 (I 40 0 + Int32.ofInt 1)) 45 = I 45 from (by repeat rw [upd2_row (by decide)])]
    refine ⟨k1, k2, fun i hi => ?_⟩
    rw [e40, yinc (by omega)] at hi
    rw [e41]
    split
    · rename_i e
      refine ⟨hw, ?_⟩
      rw [(hZ i (by omega)).2, show (Int32.ofInt 0).toInt = 0 by decide]; omega
    · exact k3 i (by omega)
  refine ⟨rel_thing hk h16 hy hny f0 f1 f2 f3 f4 f5 S, S.s5 h5 hs (fun f hf => by
      rcases (by omega : f = 0 ∨ f = 1 ∨ f = 2 ∨ f = 3 ∨ f = 4 ∨ f = 5 ∨ f = 6 ∨ f = 7 ∨ f = 8 ∨ f = 9) with rfl | rfl | rfl | rfl | rfl | rfl | rfl | rfl | rfl | rfl <;> (show upd2 _ _ _ _ _ = _; repeat rw [upd2_row (by decide)])) (fun j hj => ?_) (hco)⟩
  rfl
theorem rel5_sellA {y : Nat} {k x b : Nat} {y1 y2 y3 y4 y5 y6 y7 y8 x2 : Int32} (hx : (x : Int) < (I 40 0).toInt) (hb : b = yAd R 88 x) (h5 : yS5 I R) (hs : (I1 89 2).toInt = (I 89 2).toInt + 1) (hk : (k : Int) = (I 48 0).toInt) (h8 : y8.toInt = (I 48 0).toInt + 1) (hy : y = yAd R1 89 (I 89 2).toInt.toNat) (hny : n ≤ y) (f0 : I1 y 0 = y1) (f1 : I1 y 1 = y2) (f2 : I1 y 2 = y4) (f3 : I1 y 3 = y3) (f4 : I1 y 4 = y6) (f5 : I1 y 5 = y5) (f6 : I1 y 6 = y7) (f7 : I1 y 7 = (Int32.ofInt 0)) (f8 : I1 y 8 = (Int32.ofInt 0)) (f9 : I1 y 9 = (Int32.ofInt 0)) (hp6 : 1 ≤ y6.toInt ∧ y6.toInt ≤ 12) (hp3 : 0 ≤ y3.toInt ∧ y3.toInt ≤ 99) (hp4 : 0 ≤ y4.toInt ∧ y4.toInt ≤ 2000) (S : yStp K n tg I I1 R R1 (upd2 (upd2 (upd2 (upd2 (upd2 (upd2 (upd2 (upd2 (upd2 (upd2 I 49 k y1) 50 k y2) 51 k y3) 52 k y4) 53 k y5) 54 k y6) 56 k y7) 48 0 y8) 42 x x2) 43 x (Int32.ofInt 1)) (upd2 (upd2 I b 1 x2) b 2 (Int32.ofInt 1))) : yR5 I1 R1 := by
  refine ⟨rel_sellA hx hb S, ?_⟩
  obtain ⟨k1, k2, k3⟩ := h5.2.2
  have h79 : (I 48 0).toInt = (I 89 2).toInt := S.1.1.2.2.2.2.2.2.1
  have c48 : (upd2 (upd2 (upd2 (upd2 (upd2 (upd2 (upd2 (upd2 (upd2 (upd2 I 49 k y1) 50 k y2) 51 k y3) 52 k y4) 53 k y5) 54 k y6) 56 k y7) 48 0 y8) 42 x x2) 43 x (Int32.ofInt 1)) 48 0 = y8 := by simp [upd2]
  have c49 : ∀ i, (upd2 (upd2 (upd2 (upd2 (upd2 (upd2 (upd2 (upd2 (upd2 (upd2 I 49 k y1) 50 k y2) 51 k y3) 52 k y4) 53 k y5) 54 k y6) 56 k y7) 48 0 y8) 42 x x2) 43 x (Int32.ofInt 1)) 49 i = if i = k then y1 else I 49 i := fun i => by simp [upd2]
  have c50 : ∀ i, (upd2 (upd2 (upd2 (upd2 (upd2 (upd2 (upd2 (upd2 (upd2 (upd2 I 49 k y1) 50 k y2) 51 k y3) 52 k y4) 53 k y5) 54 k y6) 56 k y7) 48 0 y8) 42 x x2) 43 x (Int32.ofInt 1)) 50 i = if i = k then y2 else I 50 i := fun i => by simp [upd2]
  have c51 : ∀ i, (upd2 (upd2 (upd2 (upd2 (upd2 (upd2 (upd2 (upd2 (upd2 (upd2 I 49 k y1) 50 k y2) 51 k y3) 52 k y4) 53 k y5) 54 k y6) 56 k y7) 48 0 y8) 42 x x2) 43 x (Int32.ofInt 1)) 51 i = if i = k then y3 else I 51 i := fun i => by simp [upd2]
  have c52 : ∀ i, (upd2 (upd2 (upd2 (upd2 (upd2 (upd2 (upd2 (upd2 (upd2 (upd2 I 49 k y1) 50 k y2) 51 k y3) 52 k y4) 53 k y5) 54 k y6) 56 k y7) 48 0 y8) 42 x x2) 43 x (Int32.ofInt 1)) 52 i = if i = k then y4 else I 52 i := fun i => by simp [upd2]
  have c53 : ∀ i, (upd2 (upd2 (upd2 (upd2 (upd2 (upd2 (upd2 (upd2 (upd2 (upd2 I 49 k y1) 50 k y2) 51 k y3) 52 k y4) 53 k y5) 54 k y6) 56 k y7) 48 0 y8) 42 x x2) 43 x (Int32.ofInt 1)) 53 i = if i = k then y5 else I 53 i := fun i => by simp [upd2]
  have c54 : ∀ i, (upd2 (upd2 (upd2 (upd2 (upd2 (upd2 (upd2 (upd2 (upd2 (upd2 I 49 k y1) 50 k y2) 51 k y3) 52 k y4) 53 k y5) 54 k y6) 56 k y7) 48 0 y8) 42 x x2) 43 x (Int32.ofInt 1)) 54 i = if i = k then y6 else I 54 i := fun i => by simp [upd2]
  have c56 : ∀ i, (upd2 (upd2 (upd2 (upd2 (upd2 (upd2 (upd2 (upd2 (upd2 (upd2 I 49 k y1) 50 k y2) 51 k y3) 52 k y4) 53 k y5) 54 k y6) 56 k y7) 48 0 y8) 42 x x2) 43 x (Int32.ofInt 1)) 56 i = if i = k then y7 else I 56 i := fun i => by simp [upd2]
  have c55 : (upd2 (upd2 (upd2 (upd2 (upd2 (upd2 (upd2 (upd2 (upd2 (upd2 I 49 k y1) 50 k y2) 51 k y3) 52 k y4) 53 k y5) 54 k y6) 56 k y7) 48 0 y8) 42 x x2) 43 x (Int32.ofInt 1)) 55 = I 55 := by repeat rw [upd2_row (by decide)]
  have c57 : (upd2 (upd2 (upd2 (upd2 (upd2 (upd2 (upd2 (upd2 (upd2 (upd2 I 49 k y1) 50 k y2) 51 k y3) 52 k y4) 53 k y5) 54 k y6) 56 k y7) 48 0 y8) 42 x x2) 43 x (Int32.ofInt 1)) 57 = I 57 := by repeat rw [upd2_row (by decide)]
  have c58 : (upd2 (upd2 (upd2 (upd2 (upd2 (upd2 (upd2 (upd2 (upd2 (upd2 I 49 k y1) 50 k y2) 51 k y3) 52 k y4) 53 k y5) 54 k y6) 56 k y7) 48 0 y8) 42 x x2) 43 x (Int32.ofInt 1)) 58 = I 58 := by repeat rw [upd2_row (by decide)]
  have c40 : (upd2 (upd2 (upd2 (upd2 (upd2 (upd2 (upd2 (upd2 (upd2 (upd2 I 49 k y1) 50 k y2) 51 k y3) 52 k y4) 53 k y5) 54 k y6) 56 k y7) 48 0 y8) 42 x x2) 43 x (Int32.ofInt 1)) 40 = I 40 := by repeat rw [upd2_row (by decide)]
  have c41 : (upd2 (upd2 (upd2 (upd2 (upd2 (upd2 (upd2 (upd2 (upd2 (upd2 I 49 k y1) 50 k y2) 51 k y3) 52 k y4) 53 k y5) 54 k y6) 56 k y7) 48 0 y8) 42 x x2) 43 x (Int32.ofInt 1)) 41 = I 41 := by repeat rw [upd2_row (by decide)]
  have c45 : (upd2 (upd2 (upd2 (upd2 (upd2 (upd2 (upd2 (upd2 (upd2 (upd2 I 49 k y1) 50 k y2) 51 k y3) 52 k y4) 53 k y5) 54 k y6) 56 k y7) 48 0 y8) 42 x x2) 43 x (Int32.ofInt 1)) 45 = I 45 := by repeat rw [upd2_row (by decide)]
  refine ⟨fun j hj f hf => ?_, fun i j hij hj => ?_, yCo5.cong2 (I := (upd2 (upd2 (upd2 (upd2 (upd2 (upd2 (upd2 (upd2 (upd2 (upd2 I 49 k y1) 50 k y2) 51 k y3) 52 k y4) 53 k y5) 54 k y6) 56 k y7) 48 0 y8) 42 x x2) 43 x (Int32.ofInt 1))) ⟨fun j hj => ?_, fun j hj => ?_, fun i hi => ?_⟩ (fun a h1 h2 => S.2.2.1 a h1 h2)⟩
  · obtain ⟨l1, l2⟩ := ySc_lo hf
    rw [S.2.2.1 _ l1 l2]
    by_cases hjl : (j : Int) < (I 89 2).toInt
    · obtain ⟨-, q0, q1, -⟩ := S.2.1.l89.2.2.2.2 j hjl
      have hjk : j ≠ k := by omega
      have hne_b : yAd R 89 j ≠ b := by rw [hb]; exact S.2.1.ne8889 (by have := S.1.1.2.2.2.1; omega) hjl
      have e := h5.1 j hjl f hf
      rw [S.2.2.2.2.1 89 (by decide) (by decide) j hjl, S.2.2.2.1 _ q0 q1, upd2_row hne_b, upd2_row hne_b, ← e]
      rcases (by omega : f = 0 ∨ f = 1 ∨ f = 2 ∨ f = 3 ∨ f = 4 ∨ f = 5 ∨ f = 6 ∨ f = 7 ∨ f = 8 ∨ f = 9) with rfl | rfl | rfl | rfl | rfl | rfl | rfl | rfl | rfl | rfl
      · show (upd2 (upd2 (upd2 (upd2 (upd2 (upd2 (upd2 (upd2 (upd2 (upd2 I 49 k y1) 50 k y2) 51 k y3) 52 k y4) 53 k y5) 54 k y6) 56 k y7) 48 0 y8) 42 x x2) 43 x (Int32.ofInt 1)) 49 j = I 49 j
        rw [c49, if_neg hjk]
      · show (upd2 (upd2 (upd2 (upd2 (upd2 (upd2 (upd2 (upd2 (upd2 (upd2 I 49 k y1) 50 k y2) 51 k y3) 52 k y4) 53 k y5) 54 k y6) 56 k y7) 48 0 y8) 42 x x2) 43 x (Int32.ofInt 1)) 50 j = I 50 j
        rw [c50, if_neg hjk]
      · show (upd2 (upd2 (upd2 (upd2 (upd2 (upd2 (upd2 (upd2 (upd2 (upd2 I 49 k y1) 50 k y2) 51 k y3) 52 k y4) 53 k y5) 54 k y6) 56 k y7) 48 0 y8) 42 x x2) 43 x (Int32.ofInt 1)) 52 j = I 52 j
        rw [c52, if_neg hjk]
      · show (upd2 (upd2 (upd2 (upd2 (upd2 (upd2 (upd2 (upd2 (upd2 (upd2 I 49 k y1) 50 k y2) 51 k y3) 52 k y4) 53 k y5) 54 k y6) 56 k y7) 48 0 y8) 42 x x2) 43 x (Int32.ofInt 1)) 51 j = I 51 j
        rw [c51, if_neg hjk]
      · show (upd2 (upd2 (upd2 (upd2 (upd2 (upd2 (upd2 (upd2 (upd2 (upd2 I 49 k y1) 50 k y2) 51 k y3) 52 k y4) 53 k y5) 54 k y6) 56 k y7) 48 0 y8) 42 x x2) 43 x (Int32.ofInt 1)) 54 j = I 54 j
        rw [c54, if_neg hjk]
      · show (upd2 (upd2 (upd2 (upd2 (upd2 (upd2 (upd2 (upd2 (upd2 (upd2 I 49 k y1) 50 k y2) 51 k y3) 52 k y4) 53 k y5) 54 k y6) 56 k y7) 48 0 y8) 42 x x2) 43 x (Int32.ofInt 1)) 53 j = I 53 j
        rw [c53, if_neg hjk]
      · show (upd2 (upd2 (upd2 (upd2 (upd2 (upd2 (upd2 (upd2 (upd2 (upd2 I 49 k y1) 50 k y2) 51 k y3) 52 k y4) 53 k y5) 54 k y6) 56 k y7) 48 0 y8) 42 x x2) 43 x (Int32.ofInt 1)) 56 j = I 56 j
        rw [c56, if_neg hjk]
      · show (upd2 (upd2 (upd2 (upd2 (upd2 (upd2 (upd2 (upd2 (upd2 (upd2 I 49 k y1) 50 k y2) 51 k y3) 52 k y4) 53 k y5) 54 k y6) 56 k y7) 48 0 y8) 42 x x2) 43 x (Int32.ofInt 1)) 55 j = I 55 j
        rw [c55]
      · show (upd2 (upd2 (upd2 (upd2 (upd2 (upd2 (upd2 (upd2 (upd2 (upd2 I 49 k y1) 50 k y2) 51 k y3) 52 k y4) 53 k y5) 54 k y6) 56 k y7) 48 0 y8) 42 x x2) 43 x (Int32.ofInt 1)) 57 j = I 57 j
        rw [c57]
      · show (upd2 (upd2 (upd2 (upd2 (upd2 (upd2 (upd2 (upd2 (upd2 (upd2 I 49 k y1) 50 k y2) 51 k y3) 52 k y4) 53 k y5) 54 k y6) 56 k y7) 48 0 y8) 42 x x2) 43 x (Int32.ofInt 1)) 58 j = I 58 j
        rw [c58]
    · have hjk : k = (I 89 2).toInt.toNat := by omega
      have hjk2 : j = k := by omega
      rw [hjk2, show yAd R1 89 k = y from by rw [hjk]; exact hy.symm]
      rcases (by omega : f = 0 ∨ f = 1 ∨ f = 2 ∨ f = 3 ∨ f = 4 ∨ f = 5 ∨ f = 6 ∨ f = 7 ∨ f = 8 ∨ f = 9) with rfl | rfl | rfl | rfl | rfl | rfl | rfl | rfl | rfl | rfl
      · show (upd2 (upd2 (upd2 (upd2 (upd2 (upd2 (upd2 (upd2 (upd2 (upd2 I 49 k y1) 50 k y2) 51 k y3) 52 k y4) 53 k y5) 54 k y6) 56 k y7) 48 0 y8) 42 x x2) 43 x (Int32.ofInt 1)) 49 k = I1 y 0
        rw [f0, c49, if_pos rfl]
      · show (upd2 (upd2 (upd2 (upd2 (upd2 (upd2 (upd2 (upd2 (upd2 (upd2 I 49 k y1) 50 k y2) 51 k y3) 52 k y4) 53 k y5) 54 k y6) 56 k y7) 48 0 y8) 42 x x2) 43 x (Int32.ofInt 1)) 50 k = I1 y 1
        rw [f1, c50, if_pos rfl]
      · show (upd2 (upd2 (upd2 (upd2 (upd2 (upd2 (upd2 (upd2 (upd2 (upd2 I 49 k y1) 50 k y2) 51 k y3) 52 k y4) 53 k y5) 54 k y6) 56 k y7) 48 0 y8) 42 x x2) 43 x (Int32.ofInt 1)) 52 k = I1 y 2
        rw [f2, c52, if_pos rfl]
      · show (upd2 (upd2 (upd2 (upd2 (upd2 (upd2 (upd2 (upd2 (upd2 (upd2 I 49 k y1) 50 k y2) 51 k y3) 52 k y4) 53 k y5) 54 k y6) 56 k y7) 48 0 y8) 42 x x2) 43 x (Int32.ofInt 1)) 51 k = I1 y 3
        rw [f3, c51, if_pos rfl]
      · show (upd2 (upd2 (upd2 (upd2 (upd2 (upd2 (upd2 (upd2 (upd2 (upd2 I 49 k y1) 50 k y2) 51 k y3) 52 k y4) 53 k y5) 54 k y6) 56 k y7) 48 0 y8) 42 x x2) 43 x (Int32.ofInt 1)) 54 k = I1 y 4
        rw [f4, c54, if_pos rfl]
      · show (upd2 (upd2 (upd2 (upd2 (upd2 (upd2 (upd2 (upd2 (upd2 (upd2 I 49 k y1) 50 k y2) 51 k y3) 52 k y4) 53 k y5) 54 k y6) 56 k y7) 48 0 y8) 42 x x2) 43 x (Int32.ofInt 1)) 53 k = I1 y 5
        rw [f5, c53, if_pos rfl]
      · show (upd2 (upd2 (upd2 (upd2 (upd2 (upd2 (upd2 (upd2 (upd2 (upd2 I 49 k y1) 50 k y2) 51 k y3) 52 k y4) 53 k y5) 54 k y6) 56 k y7) 48 0 y8) 42 x x2) 43 x (Int32.ofInt 1)) 56 k = I1 y 6
        rw [f6, c56, if_pos rfl]
      · show (upd2 (upd2 (upd2 (upd2 (upd2 (upd2 (upd2 (upd2 (upd2 (upd2 I 49 k y1) 50 k y2) 51 k y3) 52 k y4) 53 k y5) 54 k y6) 56 k y7) 48 0 y8) 42 x x2) 43 x (Int32.ofInt 1)) 55 k = I1 y 7
        rw [f7, c55]
        exact (k2 k (by omega)).1
      · show (upd2 (upd2 (upd2 (upd2 (upd2 (upd2 (upd2 (upd2 (upd2 (upd2 I 49 k y1) 50 k y2) 51 k y3) 52 k y4) 53 k y5) 54 k y6) 56 k y7) 48 0 y8) 42 x x2) 43 x (Int32.ofInt 1)) 57 k = I1 y 8
        rw [f8, c57]
        exact (k2 k (by omega)).2.1
      · show (upd2 (upd2 (upd2 (upd2 (upd2 (upd2 (upd2 (upd2 (upd2 (upd2 I 49 k y1) 50 k y2) 51 k y3) 52 k y4) 53 k y5) 54 k y6) 56 k y7) 48 0 y8) 42 x x2) 43 x (Int32.ofInt 1)) 58 k = I1 y 9
        rw [f9, c58]
        exact (k2 k (by omega)).2.2
  · rw [S.2.2.2.2.1 89 (by decide) (by decide) i (by omega)]
    by_cases hjl : (j : Int) < (I 89 2).toInt
    · rw [S.2.2.2.2.1 89 (by decide) (by decide) j hjl]
      exact h5.2.1 i j hij hjl
    · have hq := (S.2.1.l89.2.2.2.2 i (by omega)).2.2.1
      rw [show j = (I 89 2).toInt.toNat by omega, ← hy]; omega
  · rw [c48] at hj
    rw [c54, c55, c51, c52]
    by_cases hjk : j = k
    · rw [if_pos hjk, if_pos hjk, if_pos hjk, hjk, (k2 k (by omega)).1, show (Int32.ofInt 0).toInt = 0 by decide]
      exact ⟨hp6, by omega, hp3, hp4⟩
    · rw [if_neg hjk, if_neg hjk, if_neg hjk]
      exact k1 j (by omega)
  · rw [c48] at hj
    rw [c55, c57, c58]
    exact k2 j (by omega)
  · rw [c40] at hi
    rw [c41, c45]
    exact k3 i hi
theorem rel5_sellB {y : Nat} {k : Nat} {y1 y2 y3 y4 y5 y6 y7 y8 : Int32}  (h5 : yS5 I R) (hs : (I1 89 2).toInt = (I 89 2).toInt + 1) (hk : (k : Int) = (I 48 0).toInt) (h8 : y8.toInt = (I 48 0).toInt + 1) (hy : y = yAd R1 89 (I 89 2).toInt.toNat) (hny : n ≤ y) (f0 : I1 y 0 = y1) (f1 : I1 y 1 = y2) (f2 : I1 y 2 = y4) (f3 : I1 y 3 = y3) (f4 : I1 y 4 = y6) (f5 : I1 y 5 = y5) (f6 : I1 y 6 = y7) (f7 : I1 y 7 = (Int32.ofInt 0)) (f8 : I1 y 8 = (Int32.ofInt 0)) (f9 : I1 y 9 = (Int32.ofInt 0)) (hp6 : 1 ≤ y6.toInt ∧ y6.toInt ≤ 12) (hp3 : 0 ≤ y3.toInt ∧ y3.toInt ≤ 99) (hp4 : 0 ≤ y4.toInt ∧ y4.toInt ≤ 2000) (S : yStp K n tg I I1 R R1 (upd2 (upd2 (upd2 (upd2 (upd2 (upd2 (upd2 (upd2 I 49 k y1) 50 k y2) 51 k y3) 52 k y4) 53 k y5) 54 k y6) 56 k y7) 48 0 y8) I) : yR5 I1 R1 := by
  refine ⟨rel_sellB  S, ?_⟩
  obtain ⟨k1, k2, k3⟩ := h5.2.2
  have h79 : (I 48 0).toInt = (I 89 2).toInt := S.1.1.2.2.2.2.2.2.1
  have c48 : (upd2 (upd2 (upd2 (upd2 (upd2 (upd2 (upd2 (upd2 I 49 k y1) 50 k y2) 51 k y3) 52 k y4) 53 k y5) 54 k y6) 56 k y7) 48 0 y8) 48 0 = y8 := by simp [upd2]
  have c49 : ∀ i, (upd2 (upd2 (upd2 (upd2 (upd2 (upd2 (upd2 (upd2 I 49 k y1) 50 k y2) 51 k y3) 52 k y4) 53 k y5) 54 k y6) 56 k y7) 48 0 y8) 49 i = if i = k then y1 else I 49 i := fun i => by simp [upd2]
  have c50 : ∀ i, (upd2 (upd2 (upd2 (upd2 (upd2 (upd2 (upd2 (upd2 I 49 k y1) 50 k y2) 51 k y3) 52 k y4) 53 k y5) 54 k y6) 56 k y7) 48 0 y8) 50 i = if i = k then y2 else I 50 i := fun i => by simp [upd2]
  have c51 : ∀ i, (upd2 (upd2 (upd2 (upd2 (upd2 (upd2 (upd2 (upd2 I 49 k y1) 50 k y2) 51 k y3) 52 k y4) 53 k y5) 54 k y6) 56 k y7) 48 0 y8) 51 i = if i = k then y3 else I 51 i := fun i => by simp [upd2]
  have c52 : ∀ i, (upd2 (upd2 (upd2 (upd2 (upd2 (upd2 (upd2 (upd2 I 49 k y1) 50 k y2) 51 k y3) 52 k y4) 53 k y5) 54 k y6) 56 k y7) 48 0 y8) 52 i = if i = k then y4 else I 52 i := fun i => by simp [upd2]
  have c53 : ∀ i, (upd2 (upd2 (upd2 (upd2 (upd2 (upd2 (upd2 (upd2 I 49 k y1) 50 k y2) 51 k y3) 52 k y4) 53 k y5) 54 k y6) 56 k y7) 48 0 y8) 53 i = if i = k then y5 else I 53 i := fun i => by simp [upd2]
  have c54 : ∀ i, (upd2 (upd2 (upd2 (upd2 (upd2 (upd2 (upd2 (upd2 I 49 k y1) 50 k y2) 51 k y3) 52 k y4) 53 k y5) 54 k y6) 56 k y7) 48 0 y8) 54 i = if i = k then y6 else I 54 i := fun i => by simp [upd2]
  have c56 : ∀ i, (upd2 (upd2 (upd2 (upd2 (upd2 (upd2 (upd2 (upd2 I 49 k y1) 50 k y2) 51 k y3) 52 k y4) 53 k y5) 54 k y6) 56 k y7) 48 0 y8) 56 i = if i = k then y7 else I 56 i := fun i => by simp [upd2]
  have c55 : (upd2 (upd2 (upd2 (upd2 (upd2 (upd2 (upd2 (upd2 I 49 k y1) 50 k y2) 51 k y3) 52 k y4) 53 k y5) 54 k y6) 56 k y7) 48 0 y8) 55 = I 55 := by repeat rw [upd2_row (by decide)]
  have c57 : (upd2 (upd2 (upd2 (upd2 (upd2 (upd2 (upd2 (upd2 I 49 k y1) 50 k y2) 51 k y3) 52 k y4) 53 k y5) 54 k y6) 56 k y7) 48 0 y8) 57 = I 57 := by repeat rw [upd2_row (by decide)]
  have c58 : (upd2 (upd2 (upd2 (upd2 (upd2 (upd2 (upd2 (upd2 I 49 k y1) 50 k y2) 51 k y3) 52 k y4) 53 k y5) 54 k y6) 56 k y7) 48 0 y8) 58 = I 58 := by repeat rw [upd2_row (by decide)]
  have c40 : (upd2 (upd2 (upd2 (upd2 (upd2 (upd2 (upd2 (upd2 I 49 k y1) 50 k y2) 51 k y3) 52 k y4) 53 k y5) 54 k y6) 56 k y7) 48 0 y8) 40 = I 40 := by repeat rw [upd2_row (by decide)]
  have c41 : (upd2 (upd2 (upd2 (upd2 (upd2 (upd2 (upd2 (upd2 I 49 k y1) 50 k y2) 51 k y3) 52 k y4) 53 k y5) 54 k y6) 56 k y7) 48 0 y8) 41 = I 41 := by repeat rw [upd2_row (by decide)]
  have c45 : (upd2 (upd2 (upd2 (upd2 (upd2 (upd2 (upd2 (upd2 I 49 k y1) 50 k y2) 51 k y3) 52 k y4) 53 k y5) 54 k y6) 56 k y7) 48 0 y8) 45 = I 45 := by repeat rw [upd2_row (by decide)]
  refine ⟨fun j hj f hf => ?_, fun i j hij hj => ?_, yCo5.cong2 (I := (upd2 (upd2 (upd2 (upd2 (upd2 (upd2 (upd2 (upd2 I 49 k y1) 50 k y2) 51 k y3) 52 k y4) 53 k y5) 54 k y6) 56 k y7) 48 0 y8)) ⟨fun j hj => ?_, fun j hj => ?_, fun i hi => ?_⟩ (fun a h1 h2 => S.2.2.1 a h1 h2)⟩
  · obtain ⟨l1, l2⟩ := ySc_lo hf
    rw [S.2.2.1 _ l1 l2]
    by_cases hjl : (j : Int) < (I 89 2).toInt
    · obtain ⟨-, q0, q1, -⟩ := S.2.1.l89.2.2.2.2 j hjl
      have hjk : j ≠ k := by omega
      skip
      have e := h5.1 j hjl f hf
      rw [S.2.2.2.2.1 89 (by decide) (by decide) j hjl, S.2.2.2.1 _ q0 q1, ← e]
      rcases (by omega : f = 0 ∨ f = 1 ∨ f = 2 ∨ f = 3 ∨ f = 4 ∨ f = 5 ∨ f = 6 ∨ f = 7 ∨ f = 8 ∨ f = 9) with rfl | rfl | rfl | rfl | rfl | rfl | rfl | rfl | rfl | rfl
      · show (upd2 (upd2 (upd2 (upd2 (upd2 (upd2 (upd2 (upd2 I 49 k y1) 50 k y2) 51 k y3) 52 k y4) 53 k y5) 54 k y6) 56 k y7) 48 0 y8) 49 j = I 49 j
        rw [c49, if_neg hjk]
      · show (upd2 (upd2 (upd2 (upd2 (upd2 (upd2 (upd2 (upd2 I 49 k y1) 50 k y2) 51 k y3) 52 k y4) 53 k y5) 54 k y6) 56 k y7) 48 0 y8) 50 j = I 50 j
        rw [c50, if_neg hjk]
      · show (upd2 (upd2 (upd2 (upd2 (upd2 (upd2 (upd2 (upd2 I 49 k y1) 50 k y2) 51 k y3) 52 k y4) 53 k y5) 54 k y6) 56 k y7) 48 0 y8) 52 j = I 52 j
        rw [c52, if_neg hjk]
      · show (upd2 (upd2 (upd2 (upd2 (upd2 (upd2 (upd2 (upd2 I 49 k y1) 50 k y2) 51 k y3) 52 k y4) 53 k y5) 54 k y6) 56 k y7) 48 0 y8) 51 j = I 51 j
        rw [c51, if_neg hjk]
      · show (upd2 (upd2 (upd2 (upd2 (upd2 (upd2 (upd2 (upd2 I 49 k y1) 50 k y2) 51 k y3) 52 k y4) 53 k y5) 54 k y6) 56 k y7) 48 0 y8) 54 j = I 54 j
        rw [c54, if_neg hjk]
      · show (upd2 (upd2 (upd2 (upd2 (upd2 (upd2 (upd2 (upd2 I 49 k y1) 50 k y2) 51 k y3) 52 k y4) 53 k y5) 54 k y6) 56 k y7) 48 0 y8) 53 j = I 53 j
        rw [c53, if_neg hjk]
      · show (upd2 (upd2 (upd2 (upd2 (upd2 (upd2 (upd2 (upd2 I 49 k y1) 50 k y2) 51 k y3) 52 k y4) 53 k y5) 54 k y6) 56 k y7) 48 0 y8) 56 j = I 56 j
        rw [c56, if_neg hjk]
      · show (upd2 (upd2 (upd2 (upd2 (upd2 (upd2 (upd2 (upd2 I 49 k y1) 50 k y2) 51 k y3) 52 k y4) 53 k y5) 54 k y6) 56 k y7) 48 0 y8) 55 j = I 55 j
        rw [c55]
      · show (upd2 (upd2 (upd2 (upd2 (upd2 (upd2 (upd2 (upd2 I 49 k y1) 50 k y2) 51 k y3) 52 k y4) 53 k y5) 54 k y6) 56 k y7) 48 0 y8) 57 j = I 57 j
        rw [c57]
      · show (upd2 (upd2 (upd2 (upd2 (upd2 (upd2 (upd2 (upd2 I 49 k y1) 50 k y2) 51 k y3) 52 k y4) 53 k y5) 54 k y6) 56 k y7) 48 0 y8) 58 j = I 58 j
        rw [c58]
    · have hjk : k = (I 89 2).toInt.toNat := by omega
      have hjk2 : j = k := by omega
      rw [hjk2, show yAd R1 89 k = y from by rw [hjk]; exact hy.symm]
      rcases (by omega : f = 0 ∨ f = 1 ∨ f = 2 ∨ f = 3 ∨ f = 4 ∨ f = 5 ∨ f = 6 ∨ f = 7 ∨ f = 8 ∨ f = 9) with rfl | rfl | rfl | rfl | rfl | rfl | rfl | rfl | rfl | rfl
      · show (upd2 (upd2 (upd2 (upd2 (upd2 (upd2 (upd2 (upd2 I 49 k y1) 50 k y2) 51 k y3) 52 k y4) 53 k y5) 54 k y6) 56 k y7) 48 0 y8) 49 k = I1 y 0
        rw [f0, c49, if_pos rfl]
      · show (upd2 (upd2 (upd2 (upd2 (upd2 (upd2 (upd2 (upd2 I 49 k y1) 50 k y2) 51 k y3) 52 k y4) 53 k y5) 54 k y6) 56 k y7) 48 0 y8) 50 k = I1 y 1
        rw [f1, c50, if_pos rfl]
      · show (upd2 (upd2 (upd2 (upd2 (upd2 (upd2 (upd2 (upd2 I 49 k y1) 50 k y2) 51 k y3) 52 k y4) 53 k y5) 54 k y6) 56 k y7) 48 0 y8) 52 k = I1 y 2
        rw [f2, c52, if_pos rfl]
      · show (upd2 (upd2 (upd2 (upd2 (upd2 (upd2 (upd2 (upd2 I 49 k y1) 50 k y2) 51 k y3) 52 k y4) 53 k y5) 54 k y6) 56 k y7) 48 0 y8) 51 k = I1 y 3
        rw [f3, c51, if_pos rfl]
      · show (upd2 (upd2 (upd2 (upd2 (upd2 (upd2 (upd2 (upd2 I 49 k y1) 50 k y2) 51 k y3) 52 k y4) 53 k y5) 54 k y6) 56 k y7) 48 0 y8) 54 k = I1 y 4
        rw [f4, c54, if_pos rfl]
      · show (upd2 (upd2 (upd2 (upd2 (upd2 (upd2 (upd2 (upd2 I 49 k y1) 50 k y2) 51 k y3) 52 k y4) 53 k y5) 54 k y6) 56 k y7) 48 0 y8) 53 k = I1 y 5
        rw [f5, c53, if_pos rfl]
      · show (upd2 (upd2 (upd2 (upd2 (upd2 (upd2 (upd2 (upd2 I 49 k y1) 50 k y2) 51 k y3) 52 k y4) 53 k y5) 54 k y6) 56 k y7) 48 0 y8) 56 k = I1 y 6
        rw [f6, c56, if_pos rfl]
      · show (upd2 (upd2 (upd2 (upd2 (upd2 (upd2 (upd2 (upd2 I 49 k y1) 50 k y2) 51 k y3) 52 k y4) 53 k y5) 54 k y6) 56 k y7) 48 0 y8) 55 k = I1 y 7
        rw [f7, c55]
        exact (k2 k (by omega)).1
      · show (upd2 (upd2 (upd2 (upd2 (upd2 (upd2 (upd2 (upd2 I 49 k y1) 50 k y2) 51 k y3) 52 k y4) 53 k y5) 54 k y6) 56 k y7) 48 0 y8) 57 k = I1 y 8
        rw [f8, c57]
        exact (k2 k (by omega)).2.1
      · show (upd2 (upd2 (upd2 (upd2 (upd2 (upd2 (upd2 (upd2 I 49 k y1) 50 k y2) 51 k y3) 52 k y4) 53 k y5) 54 k y6) 56 k y7) 48 0 y8) 58 k = I1 y 9
        rw [f9, c58]
        exact (k2 k (by omega)).2.2
  · rw [S.2.2.2.2.1 89 (by decide) (by decide) i (by omega)]
    by_cases hjl : (j : Int) < (I 89 2).toInt
    · rw [S.2.2.2.2.1 89 (by decide) (by decide) j hjl]
      exact h5.2.1 i j hij hjl
    · have hq := (S.2.1.l89.2.2.2.2 i (by omega)).2.2.1
      rw [show j = (I 89 2).toInt.toNat by omega, ← hy]; omega
  · rw [c48] at hj
    rw [c54, c55, c51, c52]
    by_cases hjk : j = k
    · rw [if_pos hjk, if_pos hjk, if_pos hjk, hjk, (k2 k (by omega)).1, show (Int32.ofInt 0).toInt = 0 by decide]
      exact ⟨hp6, by omega, hp3, hp4⟩
    · rw [if_neg hjk, if_neg hjk, if_neg hjk]
      exact k1 j (by omega)
  · rw [c48] at hj
    rw [c55, c57, c58]
    exact k2 j (by omega)
  · rw [c40] at hi
    rw [c41, c45]
    exact k3 i hi
theorem yS5.inj {i j : Nat} (h : yS5 I R) (hi : (i : Int) < (I 89 2).toInt) (hj : (j : Int) < (I 89 2).toInt) (e : yAd R 89 i = yAd R 89 j) : i = j := by
  by_cases h1 : i < j
  · have := h.2.1 i j h1 hj; omega
  · by_cases h2 : j < i
    · have := h.2.1 j i h2 hi; omega
    · omega
theorem rel5_pay {x b : Nat} {fe re : Int32} (hx : (x : Int) < (I 48 0).toInt) (hb : b = yAd R 89 x) (ho : (I 55 x).toInt < (I 54 x).toInt) (h5 : yS5 I R) (hs : (I1 89 2).toInt = (I 89 2).toInt) (S : yStp K n tg I I1 R R1 (upd2 (upd2 (upd2 I 55 x (I 55 x + Int32.ofInt 1)) 57 x (I 57 x + fe)) 58 x (I 58 x + re)) (upd2 (upd2 (upd2 I b 7 (I b 7 + Int32.ofInt 1)) b 8 (I b 8 + fe)) b 9 (I b 9 + re))) : yR5 I1 R1 := by
  have h79 : (I 48 0).toInt = (I 89 2).toInt := S.1.1.2.2.2.2.2.2.1
  obtain ⟨k1, k2, k3⟩ := h5.2.2
  obtain ⟨s1, s2, s3, s4⟩ := S.sz (by rw [upd2_ne (.inl (by decide)), upd2_ne (.inl (by decide)), upd2_ne (.inl (by decide))]) (by rw [upd2_ne (.inl (by decide)), upd2_ne (.inl (by decide)), upd2_ne (.inl (by decide))])
  obtain ⟨hA, hB, hC, hZ1, hZ2⟩ := S.1.2.2.2.2.2
  have c40 : (upd2 (upd2 (upd2 I 55 x (I 55 x + Int32.ofInt 1)) 57 x (I 57 x + fe)) 58 x (I 58 x + re)) 40 = I 40 := by repeat rw [upd2_row (by decide)]
  have c44 : (upd2 (upd2 (upd2 I 55 x (I 55 x + Int32.ofInt 1)) 57 x (I 57 x + fe)) 58 x (I 58 x + re)) 44 = I 44 := by repeat rw [upd2_row (by decide)]
  have c45 : (upd2 (upd2 (upd2 I 55 x (I 55 x + Int32.ofInt 1)) 57 x (I 57 x + fe)) 58 x (I 58 x + re)) 45 = I 45 := by repeat rw [upd2_row (by decide)]
  have c47 : (upd2 (upd2 (upd2 I 55 x (I 55 x + Int32.ofInt 1)) 57 x (I 57 x + fe)) 58 x (I 58 x + re)) 47 = I 47 := by repeat rw [upd2_row (by decide)]
  have c59 : (upd2 (upd2 (upd2 I 55 x (I 55 x + Int32.ofInt 1)) 57 x (I 57 x + fe)) 58 x (I 58 x + re)) 59 = I 59 := by repeat rw [upd2_row (by decide)]
  have c60 : (upd2 (upd2 (upd2 I 55 x (I 55 x + Int32.ofInt 1)) 57 x (I 57 x + fe)) 58 x (I 58 x + re)) 60 = I 60 := by repeat rw [upd2_row (by decide)]
  have c62 : (upd2 (upd2 (upd2 I 55 x (I 55 x + Int32.ofInt 1)) 57 x (I 57 x + fe)) 58 x (I 58 x + re)) 62 = I 62 := by repeat rw [upd2_row (by decide)]
  have c65 : (upd2 (upd2 (upd2 I 55 x (I 55 x + Int32.ofInt 1)) 57 x (I 57 x + fe)) 58 x (I 58 x + re)) 65 = I 65 := by repeat rw [upd2_row (by decide)]
  have c48 : (upd2 (upd2 (upd2 I 55 x (I 55 x + Int32.ofInt 1)) 57 x (I 57 x + fe)) 58 x (I 58 x + re)) 48 = I 48 := by repeat rw [upd2_row (by decide)]
  have c49 : (upd2 (upd2 (upd2 I 55 x (I 55 x + Int32.ofInt 1)) 57 x (I 57 x + fe)) 58 x (I 58 x + re)) 49 = I 49 := by repeat rw [upd2_row (by decide)]
  have c50 : (upd2 (upd2 (upd2 I 55 x (I 55 x + Int32.ofInt 1)) 57 x (I 57 x + fe)) 58 x (I 58 x + re)) 50 = I 50 := by repeat rw [upd2_row (by decide)]
  have c51 : (upd2 (upd2 (upd2 I 55 x (I 55 x + Int32.ofInt 1)) 57 x (I 57 x + fe)) 58 x (I 58 x + re)) 51 = I 51 := by repeat rw [upd2_row (by decide)]
  have c52 : (upd2 (upd2 (upd2 I 55 x (I 55 x + Int32.ofInt 1)) 57 x (I 57 x + fe)) 58 x (I 58 x + re)) 52 = I 52 := by repeat rw [upd2_row (by decide)]
  have c53 : (upd2 (upd2 (upd2 I 55 x (I 55 x + Int32.ofInt 1)) 57 x (I 57 x + fe)) 58 x (I 58 x + re)) 53 = I 53 := by repeat rw [upd2_row (by decide)]
  have c54 : (upd2 (upd2 (upd2 I 55 x (I 55 x + Int32.ofInt 1)) 57 x (I 57 x + fe)) 58 x (I 58 x + re)) 54 = I 54 := by repeat rw [upd2_row (by decide)]
  have c56 : (upd2 (upd2 (upd2 I 55 x (I 55 x + Int32.ofInt 1)) 57 x (I 57 x + fe)) 58 x (I 58 x + re)) 56 = I 56 := by repeat rw [upd2_row (by decide)]
  have c41 : (upd2 (upd2 (upd2 I 55 x (I 55 x + Int32.ofInt 1)) 57 x (I 57 x + fe)) 58 x (I 58 x + re)) 41 = I 41 := by repeat rw [upd2_row (by decide)]
  have c42 : (upd2 (upd2 (upd2 I 55 x (I 55 x + Int32.ofInt 1)) 57 x (I 57 x + fe)) 58 x (I 58 x + re)) 42 = I 42 := by repeat rw [upd2_row (by decide)]
  have c43 : (upd2 (upd2 (upd2 I 55 x (I 55 x + Int32.ofInt 1)) 57 x (I 57 x + fe)) 58 x (I 58 x + re)) 43 = I 43 := by repeat rw [upd2_row (by decide)]
  have c46 : (upd2 (upd2 (upd2 I 55 x (I 55 x + Int32.ofInt 1)) 57 x (I 57 x + fe)) 58 x (I 58 x + re)) 46 = I 46 := by repeat rw [upd2_row (by decide)]
  have hn8 : ∀ i : Nat, (i : Int) < (I 88 2).toInt → yAd R 88 i ≠ b := fun i hi e => S.2.1.ne8889 (j := x) hi (by omega) (hb.symm.trans e.symm)
  have hn9 : ∀ i : Nat, (i : Int) < (I 90 2).toInt → yAd R 90 i ≠ b := fun i hi e => S.2.1.ne9089 (j := x) hi (by omega) (hb.symm.trans e.symm)
  refine ⟨S.fin (by rw [upd2_ne (.inl (by decide)), upd2_ne (.inl (by decide)), upd2_ne (.inl (by decide))]) (by rw [upd2_ne (.inl (by decide)), upd2_ne (.inl (by decide)), upd2_ne (.inl (by decide))]) (fun i hi f hf => ?_) (S.le s2 (fun j hj => ?_)) ⟨?_, ?_, ?_, ?_, ?_⟩, fun j hj f hf => ?_, fun i j hij hj => ?_, yCo5.cong2 (I := (upd2 (upd2 (upd2 I 55 x (I 55 x + Int32.ofInt 1)) 57 x (I 57 x + fe)) 58 x (I 58 x + re))) ⟨fun j hj => ?_, fun j hj => ?_, fun i hi => ?_⟩ (fun a h1 h2 => S.2.2.1 a h1 h2)⟩
  · have hi : (i : Int) < (I 88 2).toInt := by omega
    obtain ⟨-, q0, q1, -⟩ := S.2.1.l88.2.2.2.2 i hi
    have hne := hn8 i hi
    have hT := S.1.2.2.2.1 i hi f hf
    rw [S.2.2.2.2.1 88 (by decide) (by decide) i hi, S.2.2.1 (41 + f) (by omega) (by omega), S.2.2.2.1 _ q0 q1, upd2_row hne, upd2_row hne, upd2_row hne, ← hT]
    rcases (by omega : f = 0 ∨ f = 1 ∨ f = 2 ∨ f = 3 ∨ f = 4 ∨ f = 5) with rfl | rfl | rfl | rfl | rfl | rfl
    · exact congrFun c41 i
    · exact congrFun c42 i
    · exact congrFun c43 i
    · exact congrFun c44 i
    · exact congrFun c45 i
    · exact congrFun c46 i
  · have hle := S.1.2.2.2.2.1 j hj
    have hne := hn9 j hj
    rw [upd2_row hne, upd2_row hne, upd2_row hne, c60, c62, c65]; exact hle
  · rw [c59, c60, c40]; exact hA
  · rw [c59, c60, c65, c47]; exact hB
  · rw [c40, c47, c59, c65, c60]; exact hC
  · rw [c59, c65]; exact hZ1
  · rw [c40, c44, c45]; exact hZ2
  · rw [hs] at hj
    obtain ⟨l1, l2⟩ := ySc_lo hf
    obtain ⟨-, q0, q1, -⟩ := S.2.1.l89.2.2.2.2 j hj
    have e := h5.1 j hj f hf
    rw [S.2.2.2.2.1 89 (by decide) (by decide) j hj, S.2.2.1 _ l1 l2, S.2.2.2.1 _ q0 q1]
    by_cases hjx : j = x
    · subst hjx
      rw [← hb] at e ⊢
      rcases (by omega : f = 0 ∨ f = 1 ∨ f = 2 ∨ f = 3 ∨ f = 4 ∨ f = 5 ∨ f = 6 ∨ f = 7 ∨ f = 8 ∨ f = 9) with rfl | rfl | rfl | rfl | rfl | rfl | rfl | rfl | rfl | rfl <;> (simp only [ySc] at e ⊢; simp [upd2, ← e])
    · have hne : yAd R 89 j ≠ b := fun q => hjx (h5.inj hj (by omega) (q.trans hb))
      rw [upd2_row hne, upd2_row hne, upd2_row hne, ← e]
      rcases (by omega : f = 0 ∨ f = 1 ∨ f = 2 ∨ f = 3 ∨ f = 4 ∨ f = 5 ∨ f = 6 ∨ f = 7 ∨ f = 8 ∨ f = 9) with rfl | rfl | rfl | rfl | rfl | rfl | rfl | rfl | rfl | rfl <;> (simp only [ySc]; simp [upd2, hjx])
  · rw [hs] at hj
    rw [S.2.2.2.2.1 89 (by decide) (by decide) i (by omega), S.2.2.2.2.1 89 (by decide) (by decide) j hj]
    exact h5.2.1 i j hij hj
  · rw [c48] at hj
    rw [c54, c51, c52]
    refine ⟨(k1 j hj).1, ?_, (k1 j hj).2.2⟩
    have c55 : (upd2 (upd2 (upd2 I 55 x (I 55 x + Int32.ofInt 1)) 57 x (I 57 x + fe)) 58 x (I 58 x + re)) 55 j = if j = x then I 55 x + Int32.ofInt 1 else I 55 j := by simp [upd2]
    rw [c55]
    by_cases hjx : j = x
    · have := k1 x hx
      rw [if_pos hjx, yinc (by omega)]; omega
    · rw [if_neg hjx]; exact (k1 j hj).2.1
  · rw [c48] at hj
    have hjx : j ≠ x := by omega
    have c55 : (upd2 (upd2 (upd2 I 55 x (I 55 x + Int32.ofInt 1)) 57 x (I 57 x + fe)) 58 x (I 58 x + re)) 55 j = I 55 j := by simp [upd2, hjx]
    have c57 : (upd2 (upd2 (upd2 I 55 x (I 55 x + Int32.ofInt 1)) 57 x (I 57 x + fe)) 58 x (I 58 x + re)) 57 j = I 57 j := by simp [upd2, hjx]
    have c58 : (upd2 (upd2 (upd2 I 55 x (I 55 x + Int32.ofInt 1)) 57 x (I 57 x + fe)) 58 x (I 58 x + re)) 58 j = I 58 j := by simp [upd2, hjx]
    rw [c55, c57, c58]
    exact k2 j hj
  · rw [c40] at hi
    rw [c41, c45]
    exact k3 i hi
end YRL5
