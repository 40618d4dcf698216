/-! CALLS WITH ALL THAT THEY KEEP; THE RELATION AROUND THINGS AND LEASES (by ex4k.py) -/
/-- fields (class, place) of old objects stay -/
def yKeepO : List (Nat × Nat) → Nat → (Nat → yT) → (Nat → Nat → Int32) → (Nat → Nat → Int32) → Prop
  | [], _, _, _, _ => True
  | (ci, k) :: r, n, tg, I, I' => (∀ a, a < n → tg a = (ci + 4, 0) → I' a k = I a k) ∧ yKeepO r n tg I I'
def kOk2 (mid : Nat) : Nat × Nat → Bool
  | (ci, k) => kCl ci k mid && (Nat.blt k (yN ci) && yI ci k)
theorem xFrA.ad {n n' e m m' : Nat} {tg tg' : Nat → yT} {I I' : Nat → Nat → Int32} {R R' : Nat → Nat → Value} (h : xFrA (yH (n, tg, I, R)) (yH (n', tg', I', R'))) (he : e < n) (ht : tg e = (3, m)) (ht' : tg' e = (3, m')) (i : Nat) : yO (R' e i) = yO (R e i) := by
  have q := h.2 e _ he (yH_ref ht)
  rw [yH_ref ht'] at q
  have q1 := (Prod.mk.inj (Prod.mk.inj (Sum.inl.inj q)).2).2
  have q2 := Sum.inr.inj (Sum.inr.inj (Sum.inr.inj (Sum.inr.inj q1)))
  exact congrFun q2 i
theorem yRI.li6 {K nb : Nat} {tg : Nat → yT} {I : Nat → Nat → Int32} {R : Nat → Nat → Value} (h : yRI K nb tg I R) (l : Nat) (h1 : 87 ≤ l) (h2 : l ≤ 92) : ∃ et, yLI nb tg I R l et := by
  rcases (by omega : l = 87 ∨ l = 88 ∨ l = 89 ∨ l = 90 ∨ l = 91 ∨ l = 92) with rfl | rfl | rfl | rfl | rfl | rfl
  · exact ⟨_, h.l87⟩
  · exact ⟨_, h.l88⟩
  · exact ⟨_, h.l89⟩
  · exact ⟨_, h.l90⟩
  · exact ⟨_, h.l91⟩
  · exact ⟨_, h.l92⟩
theorem yt0_ls (l : Nat) (h1 : 87 ≤ l) (h2 : l ≤ 92) : yt0 l = some (7, 0) := by
  rcases (by omega : l = 87 ∨ l = 88 ∨ l = 89 ∨ l = 90 ∨ l = 91 ∨ l = 92) with rfl | rfl | rfl | rfl | rfl | rfl <;> rfl
theorem yC.keepO {mid n : Nat} {as : List Value} {tg : Nat → yT} {I : Nat → Nat → Int32} {R : Nat → Nat → Value} {c s : Nat} {Q : yQ} (L : List (Nat × Nat × Nat)) (LO : List (Nat × Nat)) (hL : L.all (kOk mid) = true) (hLO : LO.all (kOk2 mid) = true) (hO : kCl 13 0 mid = true) (hS : ySh n tg R)
    (h : yC mid as (n, tg, I, R) c s (fun o w' c' s' => ySh w'.1 w'.2.1 w'.2.2.2 ∧ (∀ a, a < n → w'.2.1 a = tg a) ∧ (yKeep L I w'.2.2.1 → w'.2.2.2 93 0 = R 93 0 → yKeepO LO n tg I w'.2.2.1 → Q o w' c' s'))) : yC mid as (n, tg, I, R) c s Q := by
  refine yC.keep L hL hO hS ?_
  obtain ⟨m, o, w', c', s', e, hq, ht, hk⟩ := h
  refine ⟨m, o, w', c', s', e, hq, fun k1 k2 => hk k1 k2 ?_⟩
  · have key : ∀ L' : List (Nat × Nat), L'.all (kOk2 mid) = true → yKeepO L' n tg I w'.2.2.1 := by
      intro L'
      induction L' with
      | nil => intro _; trivial
      | cons q r ih =>
        intro hL'
        rw [List.all_cons, Bool.and_eq_true] at hL'
        obtain ⟨h1, h2⟩ := hL'
        obtain ⟨ci, k⟩ := q
        have h1 : (kCl ci k mid && (Nat.blt k (yN ci) && yI ci k)) = true := h1
        simp only [Bool.and_eq_true] at h1
        obtain ⟨h1, h4, h5⟩ := h1
        exact ⟨fun a ha hta => xFrm.fld (n' := w'.1) (tg' := w'.2.1) (I' := w'.2.2.1) (R' := w'.2.2.2) (xcall_frm (kT _ _) m m mid as _ _ _ _ _ h1 e) ha hta ((ht a ha).trans hta) h4 h5, ih h2⟩
    exact key LO hLO
theorem yC.keep3 {K mid n : Nat} {as : List Value} {tg : Nat → yT} {I : Nat → Nat → Int32} {R : Nat → Nat → Value} {c s : Nat} {Q : yQ} (L : List (Nat × Nat × Nat)) (LO : List (Nat × Nat)) (hL : L.all (kOk mid) = true) (hLO : LO.all (kOk2 mid) = true) (hO : (kCl 13 0 mid && (kCl 3 1 mid && cKA mid)) = true) (hS : ySh n tg R) (hR : yRI K n tg I R)
    (h : yC mid as (n, tg, I, R) c s (fun o w' c' s' => ySh w'.1 w'.2.1 w'.2.2.2 ∧ (∀ a, a < n → w'.2.1 a = tg a) ∧ (yKeep L I w'.2.2.1 → w'.2.2.2 93 0 = R 93 0 → yKeepO LO n tg I w'.2.2.1 → yLk I R w'.2.2.2 → Q o w' c' s'))) : yC mid as (n, tg, I, R) c s Q := by
  rw [Bool.and_eq_true, Bool.and_eq_true] at hO
  obtain ⟨hO, hE, hA⟩ := hO
  refine yC.keep L hL hO hS ?_
  obtain ⟨m, o, w', c', s', e, hq, ht, hk⟩ := h
  refine ⟨m, o, w', c', s', e, hq, fun k1 k2 => hk k1 k2 ?_ ?_⟩
  · have key : ∀ L' : List (Nat × Nat), L'.all (kOk2 mid) = true → yKeepO L' n tg I w'.2.2.1 := by
      intro L'
      induction L' with
      | nil => intro _; trivial
      | cons q r ih =>
        intro hL'
        rw [List.all_cons, Bool.and_eq_true] at hL'
        obtain ⟨h1, h2⟩ := hL'
        obtain ⟨ci, k⟩ := q
        have h1 : (kCl ci k mid && (Nat.blt k (yN ci) && yI ci k)) = true := h1
        simp only [Bool.and_eq_true] at h1
        obtain ⟨h1, h4, h5⟩ := h1
        exact ⟨fun a ha hta => xFrm.fld (n' := w'.1) (tg' := w'.2.1) (I' := w'.2.2.1) (R' := w'.2.2.2) (xcall_frm (kT _ _) m m mid as _ _ _ _ _ h1 e) ha hta ((ht a ha).trans hta) h4 h5, ih h2⟩
    exact key LO hLO
  · intro l h1 h2 i hi
    obtain ⟨et, hl⟩ := hR.li6 l h1 h2
    obtain ⟨q1, q2, ⟨m0, q3, -⟩, -⟩ := hl
    have h94 := hS.1
    have h94 : 94 ≤ n := h94
    have e1 : w'.2.2.2 l 1 = R l 1 := xFrm.fldR (n' := w'.1) (tg' := w'.2.1) (I' := w'.2.2.1) (R' := w'.2.2.2) (xcall_frm (kT 3 1) m m mid as _ _ _ _ _ hE e) (by omega) (hS.t (yt0_ls l h1 h2)) (hq.t (yt0_ls l h1 h2)) rfl rfl
    have e2 : yEl w'.2.2.2 l = yEl R l := by unfold yEl; rw [e1]
    have e3 := xFrA.ad (n' := w'.1) (tg' := w'.2.1) (I' := w'.2.2.1) (R' := w'.2.2.2) (xcall_frA KA m m mid as _ _ _ _ _ hA e) q2 q3 ((ht _ q2).trans q3) i
    unfold yAd
    rw [e2, e3]
abbrev yCF4 : List (Nat × Nat × Nat) := [(12, 9, 34), (12, 8, 34), (8, 0, 38), (10, 0, 40), (11, 0, 69), (5, 0, 77), (9, 0, 48), (6, 0, 59)]
abbrev yMF4 : List (Nat × Nat × Nat) := [(18, 4, 83), (18, 1, 83), (18, 8, 83), (3, 2, 88), (3, 2, 91), (3, 2, 92), (3, 2, 89), (3, 2, 90)]
abbrev yLO4 : List (Nat × Nat) := [(16, 0), (16, 1), (16, 2), (16, 3), (16, 4), (16, 5), (14, 0), (14, 1), (14, 5)]
abbrev yLO5 : List (Nat × Nat) := [(16, 0), (16, 1), (16, 2), (16, 3), (16, 4), (16, 5), (14, 0), (14, 1), (14, 5), (15, 0), (15, 1), (15, 2), (15, 3), (15, 4), (15, 5), (15, 6), (15, 7), (15, 8), (15, 9)]
abbrev yLO6 : List (Nat × Nat) := [(16, 0), (16, 1), (16, 2), (16, 3), (16, 4), (16, 5), (14, 0), (14, 1), (14, 5), (15, 0), (15, 1), (15, 2), (15, 3), (15, 4), (15, 5), (15, 6), (15, 7), (15, 8), (15, 9), (14, 2), (14, 3), (14, 4), (14, 6), (14, 7)]
/-- counts, the day, the benchmark -/
def yRl (I : Nat → Nat → Int32) : Prop := (I 34 9).toInt = (I 83 4).toInt ∧ (I 34 8).toInt = (I 83 1).toInt ∧ (I 38 0).toInt = (I 83 8).toInt ∧ (I 40 0).toInt = (I 88 2).toInt ∧ (I 69 0).toInt = (I 91 2).toInt ∧ (I 77 0).toInt = (I 92 2).toInt ∧ (I 48 0).toInt = (I 89 2).toInt ∧ (I 59 0).toInt = (I 90 2).toInt
theorem yRl.of {I I1 : Nat → Nat → Int32} (h : yRl I) (hC : yKeep yCF4 I I1) (hM : yKeep yMF4 I I1) : yRl I1 := by
  obtain ⟨c1, c2, c3, c4, c5, c6, c7, c8, -⟩ := hC
  obtain ⟨m1, m2, m3, m4, m5, m6, m7, m8, -⟩ := hM
  unfold yRl at h ⊢
  rw [c1, c2, c3, c4, c5, c6, c7, c8, m1, m2, m3, m4, m5, m6, m7, m8]
  exact h
theorem yKeep.of {I I1 : Nat → Nat → Int32} : ∀ {L : List (Nat × Nat × Nat)}, (∀ q, q ∈ L → I1 q.2.2 = I q.2.2) → yKeep L I I1
  | [], _ => trivial
  | (_, k, _) :: _, h => ⟨congrFun (h _ (List.mem_cons_self ..)) k, yKeep.of fun p hp => h p (List.mem_cons_of_mem _ hp)⟩
theorem yCF4.lo : ∀ q, q ∈ yCF4 → q.2.2 < 83 := by decide
theorem yMF4.hi : ∀ q, q ∈ yMF4 → 83 ≤ q.2.2 ∧ q.2.2 < 94 := by decide
/-- later elements of a list are newer -/
def yOr (I : Nat → Nat → Int32) (R : Nat → Nat → Value) : Prop := ∀ l, l = 88 ∨ l = 90 → ∀ i j : Nat, i < j → (j : Int) < (I l 2).toInt → yAd R l i < yAd R l j
/-- things, row by row -/
def yTh (I : Nat → Nat → Int32) (R : Nat → Nat → Value) : Prop := ∀ i : Nat, (i : Int) < (I 88 2).toInt → ∀ f : Nat, f < 6 → I (41 + f) i = I (yAd R 88 i) f
/-- leases: thing, person, ended -/
def yLq (I : Nat → Nat → Int32) (R : Nat → Nat → Value) : Prop := ∀ j : Nat, (j : Int) < (I 90 2).toInt → I 60 j = I (yAd R 90 j) 0 ∧ I 62 j = I (yAd R 90 j) 1 ∧ I 65 j = I (yAd R 90 j) 5
/-- what the class keeps of leases -/
def yCo4 (I : Nat → Nat → Int32) : Prop :=
  (∀ j : Nat, (j : Int) < (I 59 0).toInt → 0 ≤ (I 60 j).toInt ∧ (I 60 j).toInt < (I 40 0).toInt) ∧
  (∀ j : Nat, (j : Int) < (I 59 0).toInt → (I 65 j).toInt = 0 → (I 47 (I 60 j).toInt.toNat).toInt = (j : Int)) ∧
  (∀ i : Nat, (i : Int) < (I 40 0).toInt → (I 47 i).toInt = -1 ∨ 0 ≤ (I 47 i).toInt ∧ (I 47 i).toInt < (I 59 0).toInt ∧ (I 65 (I 47 i).toInt.toNat).toInt = 0 ∧ (I 60 (I 47 i).toInt.toNat).toInt = (i : Int)) ∧
  (∀ j : Nat, (I 59 0).toInt ≤ (j : Int) → I 65 j = Int32.ofInt 0) ∧
  (∀ i : Nat, (I 40 0).toInt ≤ (i : Int) → I 44 i = Int32.ofInt 0 ∧ I 45 i = Int32.ofInt 0)
def yR4 (I : Nat → Nat → Int32) (R : Nat → Nat → Value) : Prop := yRl I ∧ yHr I R ∧ yOr I R ∧ yTh I R ∧ yLq I R ∧ yCo4 I
/-- old things and leases stay as they are -/
def yOb4 (I : Nat → Nat → Int32) (R : Nat → Nat → Value) (I1 : Nat → Nat → Int32) : Prop := (∀ i : Nat, (i : Int) < (I 88 2).toInt → ∀ f : Nat, f < 6 → I1 (yAd R 88 i) f = I (yAd R 88 i) f) ∧ ∀ j : Nat, (j : Int) < (I 90 2).toInt → I1 (yAd R 90 j) 0 = I (yAd R 90 j) 0 ∧ I1 (yAd R 90 j) 1 = I (yAd R 90 j) 1 ∧ I1 (yAd R 90 j) 5 = I (yAd R 90 j) 5
theorem yKeepO.ob4 {K n : Nat} {tg : Nat → yT} {I I1 : Nat → Nat → Int32} {R : Nat → Nat → Value} (h : yKeepO yLO4 n tg I I1) (hR : yRI K n tg I R) : yOb4 I R I1 := by
  obtain ⟨k0, k1, k2, k3, k4, k5, l0, l1, l5, -⟩ := h
  refine ⟨fun i hi f hf => ?_, fun j hj => ?_⟩
  · obtain ⟨-, -, q1, q2⟩ := hR.l88.2.2.2.2 i hi
    match f, hf with
    | 0, _ => exact k0 _ q1 q2
    | 1, _ => exact k1 _ q1 q2
    | 2, _ => exact k2 _ q1 q2
    | 3, _ => exact k3 _ q1 q2
    | 4, _ => exact k4 _ q1 q2
    | 5, _ => exact k5 _ q1 q2
  · obtain ⟨-, -, q1, q2⟩ := hR.l90.2.2.2.2 j hj
    exact ⟨l0 _ q1 q2, l1 _ q1 q2, l5 _ q1 q2⟩
theorem yR4.ob {K n : Nat} {tg : Nat → yT} {I I1 : Nat → Nat → Int32} {R : Nat → Nat → Value} (hR : yRI K n tg I R) (h : ∀ a, 94 ≤ a → a < n → I1 a = I a) : yOb4 I R I1 := by
  refine ⟨fun i hi f hf => ?_, fun j hj => ?_⟩
  · obtain ⟨-, q0, q1, q2⟩ := hR.l88.2.2.2.2 i hi
    rw [h _ q0 q1]
  · obtain ⟨-, q0, q1, q2⟩ := hR.l90.2.2.2.2 j hj
    rw [h _ q0 q1]; exact ⟨rfl, rfl, rfl⟩
theorem yCo4.cong {I I1 : Nat → Nat → Int32} (h : yCo4 I) (hI : ∀ a, p4 a = true → I1 a = I a) : yCo4 I1 := by
  unfold yCo4 at h ⊢
  rw [hI 59 rfl, hI 60 rfl, hI 40 rfl, hI 65 rfl, hI 47 rfl, hI 44 rfl, hI 45 rfl]
  exact h
theorem yR4.fr {I I1 : Nat → Nat → Int32} {R R1 : Nat → Nat → Value} (h : yR4 I R) (hC : yKeep yCF4 I I1) (hM : yKeep yMF4 I I1) (hp : ∀ a, p4 a = true → I1 a = I a) (hO : yOb4 I R I1) (hL : yLk I R R1) (hH : yHr I1 R1) : yR4 I1 R1 := by
  obtain ⟨h1, h2, h3, h4, h5, h6⟩ := h
  have hM' := hM
  obtain ⟨-, -, -, m4, -, -, -, m8, -⟩ := hM'
  refine ⟨h1.of hC hM, hH, fun l hl i j hij hj => ?_, fun i hi f hf => ?_, fun j hj => ?_, h6.cong hp⟩
  · rcases hl with rfl | rfl
    · rw [m4] at hj
      rw [hL 88 (by decide) (by decide) i (by omega), hL 88 (by decide) (by decide) j hj]
      exact h3 88 (.inl rfl) i j hij hj
    · rw [m8] at hj
      rw [hL 90 (by decide) (by decide) i (by omega), hL 90 (by decide) (by decide) j hj]
      exact h3 90 (.inr rfl) i j hij hj
  · rw [m4] at hi
    have hpf : p4 (41 + f) = true := by
      rcases (by omega : f = 0 ∨ f = 1 ∨ f = 2 ∨ f = 3 ∨ f = 4 ∨ f = 5) with rfl | rfl | rfl | rfl | rfl | rfl <;> rfl
    rw [hL 88 (by decide) (by decide) i hi, hO.1 i hi f hf, hp _ hpf]
    exact h4 i hi f hf
  · rw [m8] at hj
    rw [hL 90 (by decide) (by decide) j hj]
    obtain ⟨q1, q2, q3⟩ := hO.2 j hj
    rw [q1, q2, q3, hp 60 rfl, hp 62 rfl, hp 65 rfl]
    exact h5 j hj
section YR4F
variable {K n n1 : Nat} {tg tg1 : Nat → yT} {I I1 : Nat → Nat → Int32} {R R1 : Nat → Nat → Value}
theorem p4.lo {a : Nat} (h : p4 a = true) : a < 83 := by
  unfold p4 at h
  simp only [Bool.and_eq_true] at h
  have := Nat.le_of_ble_eq_true h.2; omega
theorem yLk.out {k : Nat} {v : Value} (h : yRI K n tg I R) : yLk I R (upd2 R 93 k v) := fun l h1 h2 i hi => by
  have hz := h.zl l h1 h2
  exact yAd_eq (upd2_row (by omega)) (upd2_row (by omega))
theorem yR4.out {k : Nat} {v : Value} (h : yR4 I R) (h3 : yRI K n tg I R) : yR4 I (upd2 R 93 k v) := by
  have hz := h3.zl 87 (by decide) (by decide)
  refine h.fr (yKeep.of fun _ _ => rfl) (yKeep.of fun _ _ => rfl) (fun _ _ => rfl) ⟨fun _ _ _ _ => rfl, fun _ _ => ⟨rfl, rfl, rfl⟩⟩ (yLk.out h3) (fun q hq => ?_)
  rw [h.2.1 q hq]
  exact congrArg yMk (funext fun j => (yHv_eq fun i _ => ⟨yAd_eq (upd2_row (by decide)) (upd2_row (by omega)), rfl⟩).symm)
theorem yR4.ft (h : yR4 I R) (h3 : yRI K n tg I R) (hF : yFu I I1) (hB : yKeep yCF4 I I1) : yR4 I1 R :=
  h.fr hB (yKeep.of fun q hq => funext fun k => hF _ _ (.inr (.inl (yMF4.hi q hq).1))) (fun a ha => funext fun k => hF a k (.inr (.inr (.inr ha)))) (yR4.ob h3 fun a h1 h2 => funext fun k => hF a k (.inr (.inl (by omega)))) yLk.rf (h.2.1.ft h3 hF.ft)
theorem yLk.gx (h3 : yRI K n tg I R) (hX : yX n tg I R n1 tg1 I1 R1) : yLk I R R1 := fun l h1 h2 i hi => by
  have h94 := h3.2.2.2.2.2.2
  have := h3.lt6 l h1 h2
  exact yAd_eq (hX.2.1 l (by omega)).2.2 (hX.2.1 _ (by omega)).2.2
theorem yR4.gx (h : yR4 I R) (h3 : yRI K n tg I R) (hX : yX n tg I R n1 tg1 I1 R1) : yR4 I1 R1 := by
  have h94 := h3.2.2.2.2.2.2
  exact h.fr (yKeep.of fun q hq => (hX.2.1 _ (by have := yCF4.lo q hq; omega)).2.1) (yKeep.of fun q hq => (hX.2.1 _ (by have := yMF4.hi q hq; omega)).2.1) (fun a ha => (hX.2.1 _ (by have := p4.lo ha; omega)).2.1) (yR4.ob h3 fun a h1 h2 => (hX.2.1 _ h2).2.1) (yLk.gx h3 hX) (h.2.1.kp (yKp.rf.x h3 (Nat.le_refl n) hX))
theorem yR4.kp (h : yR4 I R) (h3 : yRI K n tg I R) (hK : yKp n tg I R n1 tg1 I1 R1) (hB : yKeep yMF4 I I1) (hO : yOb4 I R I1) (hL : yLk I R R1) : yR4 I1 R1 :=
  h.fr (yKeep.of fun q hq => hK.2.2.1 _ (yCF4.lo q hq)) hB (fun a ha => hK.2.2.1 a (p4.lo ha)) hO hL (h.2.1.kp hK)
theorem yLk.oldR (h3 : yRI K n tg I R) (h : ∀ a, a < n → R1 a = R a) : yLk I R R1 := fun l h1 h2 i hi => by
  have h94 := h3.2.2.2.2.2.2
  exact yAd_eq (h l (by omega)) (h _ (h3.lt6 l h1 h2))
end YR4F
/-- sales, row by row -/
def ySa (I : Nat → Nat → Int32) (R : Nat → Nat → Value) : Prop := ∀ j : Nat, (j : Int) < (I 89 2).toInt → ∀ f : Nat, f < 10 → I (ySc f) j = I (yAd R 89 j) f
def yOr5 (I : Nat → Nat → Int32) (R : Nat → Nat → Value) : Prop := ∀ i j : Nat, i < j → (j : Int) < (I 89 2).toInt → yAd R 89 i < yAd R 89 j
/-- what the class keeps of sales, of worth and cost -/
def yCo5 (I : Nat → Nat → Int32) : Prop :=
  (∀ j : Nat, (j : Int) < (I 48 0).toInt → (1 ≤ (I 54 j).toInt ∧ (I 54 j).toInt ≤ 12) ∧ (0 ≤ (I 55 j).toInt ∧ (I 55 j).toInt ≤ 12) ∧ (0 ≤ (I 51 j).toInt ∧ (I 51 j).toInt ≤ 99) ∧ (0 ≤ (I 52 j).toInt ∧ (I 52 j).toInt ≤ 2000)) ∧
  (∀ j : Nat, (I 48 0).toInt ≤ (j : Int) → I 55 j = Int32.ofInt 0 ∧ I 57 j = Int32.ofInt 0 ∧ I 58 j = Int32.ofInt 0) ∧
  (∀ i : Nat, (i : Int) < (I 40 0).toInt → (1 ≤ (I 41 i).toInt ∧ (I 41 i).toInt ≤ 999) ∧ (0 ≤ (I 45 i).toInt ∧ (I 45 i).toInt ≤ 999))
def yS5 (I : Nat → Nat → Int32) (R : Nat → Nat → Value) : Prop := ySa I R ∧ yOr5 I R ∧ yCo5 I
def yR5 (I : Nat → Nat → Int32) (R : Nat → Nat → Value) : Prop := yR4 I R ∧ yS5 I R
theorem ySc_p4 {f : Nat} (h : f < 10) : p4 (ySc f) = true := by
  rcases (by omega : f = 0 ∨ f = 1 ∨ f = 2 ∨ f = 3 ∨ f = 4 ∨ f = 5 ∨ f = 6 ∨ f = 7 ∨ f = 8 ∨ f = 9) with rfl | rfl | rfl | rfl | rfl | rfl | rfl | rfl | rfl | rfl <;> rfl
theorem yCo5.cong {I I1 : Nat → Nat → Int32} (h : yCo5 I) (hI : ∀ a, p4 a = true → I1 a = I a) : yCo5 I1 := by
  unfold yCo5 at h ⊢
  rw [hI 48 rfl, hI 54 rfl, hI 55 rfl, hI 51 rfl, hI 52 rfl, hI 57 rfl, hI 58 rfl, hI 40 rfl, hI 41 rfl, hI 45 rfl]
  exact h
/-- old sales stay as they are -/
def yOb5 (I : Nat → Nat → Int32) (R : Nat → Nat → Value) (I1 : Nat → Nat → Int32) : Prop := ∀ j : Nat, (j : Int) < (I 89 2).toInt → ∀ f : Nat, f < 10 → I1 (yAd R 89 j) f = I (yAd R 89 j) f
theorem yKeepO.ob5 {K n : Nat} {tg : Nat → yT} {I I1 : Nat → Nat → Int32} {R : Nat → Nat → Value} (h : yKeepO yLO5 n tg I I1) (hR : yRI K n tg I R) : yOb5 I R I1 := by
  obtain ⟨-, -, -, -, -, -, -, -, -, k0, k1, k2, k3, k4, k5, k6, k7, k8, k9, -⟩ := h
  intro j hj f hf
  obtain ⟨-, -, q1, q2⟩ := hR.l89.2.2.2.2 j hj
  match f, hf with
  | 0, _ => exact k0 _ q1 q2
  | 1, _ => exact k1 _ q1 q2
  | 2, _ => exact k2 _ q1 q2
  | 3, _ => exact k3 _ q1 q2
  | 4, _ => exact k4 _ q1 q2
  | 5, _ => exact k5 _ q1 q2
  | 6, _ => exact k6 _ q1 q2
  | 7, _ => exact k7 _ q1 q2
  | 8, _ => exact k8 _ q1 q2
  | 9, _ => exact k9 _ q1 q2
theorem yKeepO.ob45 {K n : Nat} {tg : Nat → yT} {I I1 : Nat → Nat → Int32} {R : Nat → Nat → Value} (h : yKeepO yLO5 n tg I I1) (hR : yRI K n tg I R) : yOb4 I R I1 := by
  obtain ⟨k0, k1, k2, k3, k4, k5, l0, l1, l5, -⟩ := h
  exact yKeepO.ob4 (⟨k0, k1, k2, k3, k4, k5, l0, l1, l5, trivial⟩ : yKeepO yLO4 n tg I I1) hR
theorem yS5.ob {K n : Nat} {tg : Nat → yT} {I I1 : Nat → Nat → Int32} {R : Nat → Nat → Value} (hR : yRI K n tg I R) (h : ∀ a, 94 ≤ a → a < n → I1 a = I a) : yOb5 I R I1 := fun j hj f hf => by
  obtain ⟨-, q0, q1, q2⟩ := hR.l89.2.2.2.2 j hj
  rw [h _ q0 q1]
theorem yS5.fr {I I1 : Nat → Nat → Int32} {R R1 : Nat → Nat → Value} (h : yS5 I R) (hM : I1 89 2 = I 89 2) (hp : ∀ a, p4 a = true → I1 a = I a) (hO : yOb5 I R I1) (hL : yLk I R R1) : yS5 I1 R1 := by
  obtain ⟨h1, h2, h3⟩ := h
  refine ⟨fun j hj f hf => ?_, fun i j hij hj => ?_, h3.cong hp⟩
  · rw [hM] at hj
    rw [hL 89 (by decide) (by decide) j hj, hO j hj f hf, hp _ (ySc_p4 hf)]
    exact h1 j hj f hf
  · rw [hM] at hj
    rw [hL 89 (by decide) (by decide) i (by omega), hL 89 (by decide) (by decide) j hj]
    exact h2 i j hij hj
section YR5F
variable {K n n1 : Nat} {tg tg1 : Nat → yT} {I I1 : Nat → Nat → Int32} {R R1 : Nat → Nat → Value}
theorem yR5.out {k : Nat} {v : Value} (h : yR5 I R) (h3 : yRI K n tg I R) : yR5 I (upd2 R 93 k v) :=
  ⟨h.1.out h3, h.2.fr rfl (fun _ _ => rfl) (fun _ _ _ _ => rfl) (yLk.out h3)⟩
theorem yR5.ft (h : yR5 I R) (h3 : yRI K n tg I R) (hF : yFu I I1) (hB : yKeep yCF4 I I1) : yR5 I1 R :=
  ⟨h.1.ft h3 hF hB, h.2.fr (hF _ _ (.inr (.inl (by decide)))) (fun a ha => funext fun k => hF a k (.inr (.inr (.inr ha)))) (yS5.ob h3 fun a h1 h2 => funext fun k => hF a k (.inr (.inl (by omega)))) yLk.rf⟩
theorem yR5.gx (h : yR5 I R) (h3 : yRI K n tg I R) (hX : yX n tg I R n1 tg1 I1 R1) : yR5 I1 R1 := by
  have h94 := h3.2.2.2.2.2.2
  exact ⟨h.1.gx h3 hX, h.2.fr (congrFun (hX.2.1 89 (by omega)).2.1 2) (fun a ha => (hX.2.1 _ (by have := p4.lo ha; omega)).2.1) (yS5.ob h3 fun a h1 h2 => (hX.2.1 _ h2).2.1) (yLk.gx h3 hX)⟩
theorem yR5.kp (h : yR5 I R) (h3 : yRI K n tg I R) (hK : yKp n tg I R n1 tg1 I1 R1) (hB : yKeep yMF4 I I1) (hO : yKeepO yLO5 n tg I I1) (hL : yLk I R R1) : yR5 I1 R1 := by
  have hB' := hB
  obtain ⟨-, -, -, -, -, -, m7, -, -⟩ := hB'
  exact ⟨h.1.kp h3 hK hB (hO.ob45 h3) hL, h.2.fr m7 (fun a ha => hK.2.2.1 a (p4.lo ha)) (hO.ob5 h3) hL⟩
end YR5F
/-- a lease's row on both sides, but for the day: C the class's numbers, M the reference's, j the row, b the object -/
def yLs0 (C M : Nat → Nat → Int32) (j b : Nat) : Prop := C 61 j = C 41 (C 60 j).toInt.toNat ∧ C 63 j = M b 2 ∧ C 64 j = M b 3 ∧ C 67 j = M b 6 ∧ C 68 j = M b 7 ∧ (C 66 j).toInt = (M b 4).toInt + 30 * ((M b 6).toInt + 1) ∧ 0 ≤ (M b 4).toInt ∧ 0 ≤ (M b 6).toInt
/-- and its days, d the day that it is -/
def yLsD (M : Nat → Nat → Int32) (b : Nat) (d : Int) : Prop := (M b 4).toInt + 30 * (M b 6).toInt ≤ d ∧ ((M b 5).toInt = 0 → d < (M b 4).toInt + 30 * ((M b 6).toInt + 1))
def yL6x (C M : Nat → Nat → Int32) (R : Nat → Nat → Value) : Prop := (∀ j : Nat, (j : Int) < (M 90 2).toInt → yLs0 C M j (yAd R 90 j) ∧ yLsD M (yAd R 90 j) (M 83 1).toInt) ∧ ∀ j : Nat, (M 90 2).toInt ≤ (j : Int) → C 67 j = Int32.ofInt 0 ∧ C 68 j = Int32.ofInt 0
def yL6 (I : Nat → Nat → Int32) (R : Nat → Nat → Value) : Prop := yL6x I I R
def yR6 (I : Nat → Nat → Int32) (R : Nat → Nat → Value) : Prop := yR5 I R ∧ yL6 I R
/-- a step that leaves the leases' numbers alone; some may end -/
theorem yL6.mv {I I1 : Nat → Nat → Int32} {R R1 : Nat → Nat → Value} (h : yL6 I R) (hA : ∀ j : Nat, (j : Int) < (I 90 2).toInt → 0 ≤ (I 60 j).toInt ∧ (I 60 j).toInt < (I 40 0).toInt) (s : (I1 90 2).toInt = (I 90 2).toInt) (d : (I1 83 1).toInt = (I 83 1).toInt) (h41 : ∀ i : Nat, (i : Int) < (I 40 0).toInt → I1 41 i = I 41 i) (h60 : I1 60 = I 60) (h61 : I1 61 = I 61) (h63 : I1 63 = I 63) (h64 : I1 64 = I 64) (h66 : I1 66 = I 66) (h67 : I1 67 = I 67) (h68 : I1 68 = I 68) (hL : ∀ j : Nat, (j : Int) < (I 90 2).toInt → yAd R1 90 j = yAd R 90 j) (hm : ∀ j : Nat, (j : Int) < (I 90 2).toInt → I1 (yAd R 90 j) 2 = I (yAd R 90 j) 2 ∧ I1 (yAd R 90 j) 3 = I (yAd R 90 j) 3 ∧ I1 (yAd R 90 j) 4 = I (yAd R 90 j) 4 ∧ I1 (yAd R 90 j) 6 = I (yAd R 90 j) 6 ∧ I1 (yAd R 90 j) 7 = I (yAd R 90 j) 7 ∧ ((I1 (yAd R 90 j) 5).toInt = 0 → (I (yAd R 90 j) 5).toInt = 0)) : yL6 I1 R1 := by
  refine ⟨fun j hj => ?_, fun j hj => ?_⟩
  · rw [s] at hj
    obtain ⟨m2, m3, m4, m6, m7, m5⟩ := hm j hj
    obtain ⟨⟨a1, a2, a3, a4, a5, a6, a7, a8⟩, b1, b2⟩ := h.1 j hj
    have hz := hA j hj
    unfold yLs0 yLsD
    rw [hL j hj, h60, h61, h63, h64, h66, h67, h68, m2, m3, m4, m6, m7, d, h41 _ (by omega)]
    exact ⟨⟨a1, a2, a3, a4, a5, a6, a7, a8⟩, b1, fun q => b2 (m5 q)⟩
  · rw [h67, h68]; exact h.2 j (by omega)
theorem yR6.a {I : Nat → Nat → Int32} {R : Nat → Nat → Value} (h : yR6 I R) : ∀ j : Nat, (j : Int) < (I 90 2).toInt → 0 ≤ (I 60 j).toInt ∧ (I 60 j).toInt < (I 40 0).toInt := fun j hj => h.1.1.2.2.2.2.2.1 j (by
  have : (I 59 0).toInt = (I 90 2).toInt := h.1.1.1.2.2.2.2.2.2.2
  omega)
/-- old leases' numbers stay -/
def yOb6 (I : Nat → Nat → Int32) (R : Nat → Nat → Value) (I1 : Nat → Nat → Int32) : Prop := ∀ j : Nat, (j : Int) < (I 90 2).toInt → I1 (yAd R 90 j) 2 = I (yAd R 90 j) 2 ∧ I1 (yAd R 90 j) 3 = I (yAd R 90 j) 3 ∧ I1 (yAd R 90 j) 4 = I (yAd R 90 j) 4 ∧ I1 (yAd R 90 j) 6 = I (yAd R 90 j) 6 ∧ I1 (yAd R 90 j) 7 = I (yAd R 90 j) 7 ∧ ((I1 (yAd R 90 j) 5).toInt = 0 → (I (yAd R 90 j) 5).toInt = 0)
theorem yL6.fr {I I1 : Nat → Nat → Int32} {R R1 : Nat → Nat → Value} (h : yL6 I R) (hA : ∀ j : Nat, (j : Int) < (I 90 2).toInt → 0 ≤ (I 60 j).toInt ∧ (I 60 j).toInt < (I 40 0).toInt) (s : (I1 90 2).toInt = (I 90 2).toInt) (d : (I1 83 1).toInt = (I 83 1).toInt) (hp : ∀ a, p4 a = true → I1 a = I a) (hO : yOb6 I R I1) (hL : yLk I R R1) : yL6 I1 R1 :=
  h.mv hA s d (fun i _ => by rw [hp 41 rfl]) (hp 60 rfl) (hp 61 rfl) (hp 63 rfl) (hp 64 rfl) (hp 66 rfl) (hp 67 rfl) (hp 68 rfl) (fun j hj => hL 90 (by decide) (by decide) j hj) hO
theorem yKeepO.ob6 {K n : Nat} {tg : Nat → yT} {I I1 : Nat → Nat → Int32} {R : Nat → Nat → Value} (h : yKeepO yLO6 n tg I I1) (hR : yRI K n tg I R) : yOb6 I R I1 := by
  obtain ⟨-, -, -, -, -, -, -, -, l5, -, -, -, -, -, -, -, -, -, -, l2, l3, l4, l6, l7, -⟩ := h
  intro j hj
  obtain ⟨-, -, q1, q2⟩ := hR.l90.2.2.2.2 j hj
  exact ⟨l2 _ q1 q2, l3 _ q1 q2, l4 _ q1 q2, l6 _ q1 q2, l7 _ q1 q2, fun e => by rw [← l5 _ q1 q2]; exact e⟩
theorem yKeepO.o5 {n : Nat} {tg : Nat → yT} {I I1 : Nat → Nat → Int32} (h : yKeepO yLO6 n tg I I1) : yKeepO yLO5 n tg I I1 := by
  obtain ⟨k0, k1, k2, k3, k4, k5, l0, l1, l5, s0, s1, s2, s3, s4, s5, s6, s7, s8, s9, -⟩ := h
  exact ⟨k0, k1, k2, k3, k4, k5, l0, l1, l5, s0, s1, s2, s3, s4, s5, s6, s7, s8, s9, trivial⟩
theorem yL6.ob {K n : Nat} {tg : Nat → yT} {I I1 : Nat → Nat → Int32} {R : Nat → Nat → Value} (hR : yRI K n tg I R) (h : ∀ a, 94 ≤ a → a < n → I1 a = I a) : yOb6 I R I1 := fun j hj => by
  obtain ⟨-, q0, q1, q2⟩ := hR.l90.2.2.2.2 j hj
  rw [h _ q0 q1]
  exact ⟨rfl, rfl, rfl, rfl, rfl, id⟩
section YR6F
variable {K n n1 : Nat} {tg tg1 : Nat → yT} {I I1 : Nat → Nat → Int32} {R R1 : Nat → Nat → Value}
theorem yR6.out {k : Nat} {v : Value} (h : yR6 I R) (h3 : yRI K n tg I R) : yR6 I (upd2 R 93 k v) :=
  ⟨h.1.out h3, h.2.fr h.a rfl rfl (fun _ _ => rfl) (yL6.ob h3 fun _ _ _ => rfl) (yLk.out h3)⟩
theorem yR6.ft (h : yR6 I R) (h3 : yRI K n tg I R) (hF : yFu I I1) (hB : yKeep yCF4 I I1) : yR6 I1 R :=
  ⟨h.1.ft h3 hF hB, h.2.fr h.a (by rw [hF 90 2 (.inr (.inl (by decide)))]) (by rw [hF 83 1 (.inr (.inl (by decide)))]) (fun a ha => funext fun k => hF a k (.inr (.inr (.inr ha)))) (yL6.ob h3 fun a h1 h2 => funext fun k => hF a k (.inr (.inl (by omega)))) yLk.rf⟩
theorem yR6.gx (h : yR6 I R) (h3 : yRI K n tg I R) (hX : yX n tg I R n1 tg1 I1 R1) : yR6 I1 R1 := by
  have h94 := h3.2.2.2.2.2.2
  exact ⟨h.1.gx h3 hX, h.2.fr h.a (by rw [(hX.2.1 90 (by omega)).2.1]) (by rw [(hX.2.1 83 (by omega)).2.1]) (fun a ha => (hX.2.1 _ (by have := p4.lo ha; omega)).2.1) (yL6.ob h3 fun a h1 h2 => (hX.2.1 _ h2).2.1) (yLk.gx h3 hX)⟩
theorem yR6.kp (h : yR6 I R) (h3 : yRI K n tg I R) (hK : yKp n tg I R n1 tg1 I1 R1) (hB : yKeep yMF4 I I1) (hO : yKeepO yLO6 n tg I I1) (hL : yLk I R R1) : yR6 I1 R1 := by
  have hB' := hB
  obtain ⟨-, m2, -, -, -, -, -, m8, -⟩ := hB'
  exact ⟨h.1.kp h3 hK hB hO.o5 hL, h.2.fr h.a (congrArg Int32.toInt m8) (congrArg Int32.toInt m2) (fun a ha => hK.2.2.1 a (p4.lo ha)) (hO.ob6 h3) hL⟩
end YR6F
