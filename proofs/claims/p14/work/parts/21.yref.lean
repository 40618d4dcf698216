/-! THE REFERENCE'S WORLD (by gen21.py) -/
theorem y_alenI {M : xM} {code rest : List xI} {ls : yLs} {r : List Value} {c s : Nat} {Q : yQ} {p len n a : Nat} {tg : Nat → yT} {I : Nat → Nat → Int32} {R : Nat → Nat → Value} {an : List Nat} {m kd : Nat} {v : Int} (hk : code = (p, len, .arraylength, an) :: rest) (ht : tg a = (kd, m)) (hd : Nat.ble kd 3 = true) (ha : a < n) (hz : Int32.ofNat m = Int32.ofInt v) (kk : yW M rest ls (.int (Int32.ofInt v) :: r) (n, tg, I, R) c s Q) : yW M code ls (.ref a :: r) (n, tg, I, R) c s Q := y_alen hk ht hd ha (hz ▸ kk)
def ySum (f : Nat → Int) : Nat → Int
  | 0 => 0
  | k + 1 => ySum f k + f k
theorem ySum_eq {f g : Nat → Int} : ∀ {k : Nat}, (∀ j, j < k → f j = g j) → ySum f k = ySum g k
  | 0, _ => rfl
  | k + 1, h => by
    show ySum f k + f k = ySum g k + g k
    rw [ySum_eq (k := k) (fun j hj => h j (Nat.lt_succ_of_lt hj)), h k (Nat.lt_succ_self k)]
/-- a venture: its four rows lie behind it -/
def yVe (K nb : Nat) (tg : Nat → yT) (I : Nat → Nat → Int32) (R : Nat → Nat → Value) (b : Nat) : Prop := b + 4 < nb ∧ (∀ j, j < 4 → R b j = .ref (b + 1 + j)) ∧ tg (b + 1) = (1, 9) ∧ tg (b + 2) = (0, 9) ∧ tg (b + 3) = (0, 9) ∧ tg (b + 4) = (0, 9) ∧ (∀ j, j < 9 → 0 ≤ (I (b + 2) j).toInt) ∧ ySum (fun j => (I (b + 2) j).toInt) 9 ≤ 999 * (K : Int)
/-- what an object of the reference keeps -/
def yOb (K nb : Nat) (tg : Nat → yT) (I : Nat → Nat → Int32) (R : Nat → Nat → Value) (b : Nat) : Prop :=
  (tg b = (20, 0) → 0 ≤ (I b 1).toInt ∧ (I b 1).toInt ≤ 9) ∧
  (tg b = (19, 0) → (0 ≤ (I b 1).toInt ∧ (I b 1).toInt ≤ 7) ∧ (0 ≤ (I b 3).toInt ∧ (I b 3).toInt ≤ 99) ∧ (1 ≤ (I b 4).toInt ∧ (I b 4).toInt ≤ 12)) ∧
  (tg b = (18, 0) → (0 ≤ (I b 0).toInt ∧ (I b 0).toInt < (I 88 2).toInt) ∧ (0 ≤ (I b 1).toInt ∧ (I b 1).toInt ≤ 7)) ∧
  (tg b = (21, 0) → yVe K nb tg I R b)
abbrev yNum (K : Nat) (I : Nat → Nat → Int32) : Prop := (0 ≤ (I 83 8).toInt ∧ (I 83 8).toInt ≤ 8) ∧ (0 ≤ (I 83 1).toInt ∧ (I 83 1).toInt ≤ 4000) ∧ (0 ≤ (I 87 2).toInt ∧ (I 87 2).toInt ≤ K) ∧ (0 ≤ (I 88 2).toInt ∧ (I 88 2).toInt ≤ 16) ∧ (0 ≤ (I 89 2).toInt ∧ (I 89 2).toInt ≤ 12) ∧ (0 ≤ (I 90 2).toInt ∧ (I 90 2).toInt ≤ 8) ∧ (0 ≤ (I 91 2).toInt ∧ (I 91 2).toInt ≤ 6) ∧ (0 ≤ (I 92 2).toInt ∧ (I 92 2).toInt ≤ 10) ∧ K ≤ 600
def yLs6 (nb : Nat) (tg : Nat → yT) (I : Nat → Nat → Int32) (R : Nat → Nat → Value) : Prop := yLI nb tg I R 87 (0, 4) ∧ yLI nb tg I R 88 (20, 0) ∧ yLI nb tg I R 89 (19, 0) ∧ yLI nb tg I R 90 (18, 0) ∧ yLI nb tg I R 91 (21, 0) ∧ yLI nb tg I R 92 (0, 7)
/-- the reference's world: all of it below nb, after at most K calls -/
def yRI (K nb : Nat) (tg : Nat → yT) (I : Nat → Nat → Int32) (R : Nat → Nat → Value) : Prop :=
  yNum K I ∧ yLs6 nb tg I R ∧ (∀ l l', 87 ≤ l → l ≤ 92 → 87 ≤ l' → l' ≤ 92 → l ≠ l' → 94 ≤ yEl R l → yEl R l ≠ yEl R l') ∧ (∀ b, 94 ≤ b → b < nb → yOb K nb tg I R b) ∧
  (∀ i : Nat, (i : Int) < (I 92 2).toInt → 1 ≤ (I (yAd R 92 i) 0).toInt ∧ (I (yAd R 92 i) 0).toInt ≤ 999) ∧
  (∀ i : Nat, (i : Int) < (I 87 2).toInt → (I (yAd R 87 i) 0).toInt ≤ (I 83 1).toInt ∧ (0 ≤ (I (yAd R 87 i) 1).toInt ∧ (I (yAd R 87 i) 1).toInt < 5) ∧ ((I (yAd R 87 i) 3).toInt = 0 ∨ (I (yAd R 87 i) 3).toInt = 1)) ∧ 94 ≤ nb
abbrev ySz (I I' : Nat → Nat → Int32) : Prop := (I' 83 8).toInt = (I 83 8).toInt ∧ (I' 83 1).toInt = (I 83 1).toInt ∧ (I' 87 2).toInt = (I 87 2).toInt ∧ (I' 88 2).toInt = (I 88 2).toInt ∧ (I' 89 2).toInt = (I 89 2).toInt ∧ (I' 90 2).toInt = (I 90 2).toInt ∧ (I' 91 2).toInt = (I 91 2).toInt ∧ (I' 92 2).toInt = (I 92 2).toInt ∧ (I' 83 0).toInt = (I 83 0).toInt
theorem yX.sz {n n' : Nat} {tg tg' : Nat → yT} {I I' : Nat → Nat → Int32} {R R' : Nat → Nat → Value} (h : yX n tg I R n' tg' I' R') (hn : 94 ≤ n) : ySz I I' := by
  have e : ∀ a k, a < 94 → (I' a k).toInt = (I a k).toInt := fun a k ha => by rw [(h.2.1 a (by omega)).2.1]
  exact ⟨e _ _ (by decide), e _ _ (by decide), e _ _ (by decide), e _ _ (by decide), e _ _ (by decide), e _ _ (by decide), e _ _ (by decide), e _ _ (by decide), e _ _ (by decide)⟩
theorem yRI.li {K nb : Nat} {tg : Nat → yT} {I : Nat → Nat → Int32} {R : Nat → Nat → Value} (h : yRI K nb tg I R) : (yEl R 87 < nb ∧ yEl R 88 < nb ∧ yEl R 89 < nb ∧ yEl R 90 < nb ∧ yEl R 91 < nb ∧ yEl R 92 < nb) := ⟨h.2.1.1.2.1, h.2.1.2.1.2.1, h.2.1.2.2.1.2.1, h.2.1.2.2.2.1.2.1, h.2.1.2.2.2.2.1.2.1, h.2.1.2.2.2.2.2.2.1⟩
theorem yRI.x {K nb n n' : Nat} {tg tg' : Nat → yT} {I I' : Nat → Nat → Int32} {R R' : Nat → Nat → Value} (h : yRI K nb tg I R) (hn : nb ≤ n) (hx : yX n tg I R n' tg' I' R') : yRI K nb tg' I' R' := by
  have hL := h.li
  obtain ⟨h1, ⟨l1, l2, l3, l4, l5, l6⟩, h3, h4, h5, h6, h7⟩ := h
  have eI : ∀ a, a < nb → I' a = I a := fun a ha => (hx.2.1 a (by omega)).2.1
  have eR : ∀ a, a < nb → R' a = R a := fun a ha => (hx.2.1 a (by omega)).2.2
  have eT : ∀ a, a < nb → tg' a = tg a := fun a ha => (hx.2.1 a (by omega)).1
  have eA : ∀ l i, l < nb → yEl R l < nb → yAd R' l i = yAd R l i := fun l i hl hE => yAd_eq (eR l hl) (eR _ hE)
  have eE : ∀ l, l < nb → yEl R' l = yEl R l := fun l hl => yEl_eq (eR l hl)
  have li : ∀ {l et}, l < nb → yLI nb tg I R l et → yLI nb tg' I' R' l et := fun {l et} hl hq => hq.same eT (by rw [eI l hl]) (eR l hl) (eR _ hq.2.1)
  refine ⟨?_, ⟨li (by omega) l1, li (by omega) l2, li (by omega) l3, li (by omega) l4, li (by omega) l5, li (by omega) l6⟩, fun l l' a1 a2 a3 a4 a5 a6 => ?_, fun b b1 b2 => ?_, fun i hi => ?_, fun i hi => ?_, h7⟩
  · unfold yNum
    rw [eI 83 (by omega), eI 87 (by omega), eI 88 (by omega), eI 89 (by omega), eI 90 (by omega), eI 91 (by omega), eI 92 (by omega)]
    exact h1
  · rw [eE l (by omega)] at a6 ⊢
    rw [eE l' (by omega)]
    exact h3 l l' a1 a2 a3 a4 a5 a6
  · obtain ⟨q1, q2, q3, q4⟩ := h4 b b1 b2
    unfold yOb
    rw [eT b b2, eI b b2, eI 88 (by omega)]
    refine ⟨q1, q2, q3, fun hb => ?_⟩
    obtain ⟨v1, v2, v3, v4, v5, v6, v7, v8⟩ := q4 hb
    refine ⟨v1, fun j hj => by rw [eR b b2]; exact v2 j hj, ?_, ?_, ?_, ?_, fun j hj => by rw [eI _ (by omega)]; exact v7 j hj, by rw [eI _ (by omega)]; exact v8⟩
    · rw [eT _ (by omega)]; exact v3
    · rw [eT _ (by omega)]; exact v4
    · rw [eT _ (by omega)]; exact v5
    · rw [eT _ (by omega)]; exact v6
  · rw [eI 92 (by omega)] at hi
    rw [eA 92 i (by omega) hL.2.2.2.2.2, eI _ ((l6.2.2.2.2 i hi).2.2.1)]
    exact h5 i hi
  · rw [eI 87 (by omega)] at hi
    rw [eA 87 i (by omega) hL.1, eI _ ((l1.2.2.2.2 i hi).2.2.1), eI 83 (by omega)]
    exact h6 i hi
theorem yRI.thi {K nb : Nat} {tg : Nat → yT} {I : Nat → Nat → Int32} {R : Nat → Nat → Value} (h : yRI K nb tg I R) {b : Nat} (h1 : 94 ≤ b) (h2 : b < nb) (h3 : tg b = (20, 0)) : 0 ≤ (I b 1).toInt ∧ (I b 1).toInt ≤ 9 := (h.2.2.2.1 b h1 h2).1 h3
theorem yRI.sal {K nb : Nat} {tg : Nat → yT} {I : Nat → Nat → Int32} {R : Nat → Nat → Value} (h : yRI K nb tg I R) {b : Nat} (h1 : 94 ≤ b) (h2 : b < nb) (h3 : tg b = (19, 0)) : (0 ≤ (I b 1).toInt ∧ (I b 1).toInt ≤ 7) ∧ (0 ≤ (I b 3).toInt ∧ (I b 3).toInt ≤ 99) ∧ (1 ≤ (I b 4).toInt ∧ (I b 4).toInt ≤ 12) := (h.2.2.2.1 b h1 h2).2.1 h3
theorem yRI.lea {K nb : Nat} {tg : Nat → yT} {I : Nat → Nat → Int32} {R : Nat → Nat → Value} (h : yRI K nb tg I R) {b : Nat} (h1 : 94 ≤ b) (h2 : b < nb) (h3 : tg b = (18, 0)) : (0 ≤ (I b 0).toInt ∧ (I b 0).toInt < (I 88 2).toInt) ∧ (0 ≤ (I b 1).toInt ∧ (I b 1).toInt ≤ 7) := (h.2.2.2.1 b h1 h2).2.2.1 h3
def yVt (j : Nat) : yT := if j = 0 then (1, 9) else (0, 9)
theorem yRI.ven {K nb : Nat} {tg : Nat → yT} {I : Nat → Nat → Int32} {R : Nat → Nat → Value} (h : yRI K nb tg I R) {b : Nat} (h1 : 94 ≤ b) (h2 : b < nb) (h3 : tg b = (21, 0)) {j : Nat} (hj : j < 4) : R b j = .ref (b + 1 + j) ∧ b + 1 + j < nb ∧ tg (b + 1 + j) = yVt j := by
  obtain ⟨v1, v2, v3, v4, v5, v6, v7, v8⟩ := (h.2.2.2.1 b h1 h2).2.2.2 h3
  refine ⟨v2 j hj, by omega, ?_⟩
  match j, hj with
  | 0, _ => exact v3
  | 1, _ => exact v4
  | 2, _ => exact v5
  | 3, _ => exact v6
theorem yRI.wrd {K nb : Nat} {tg : Nat → yT} {I : Nat → Nat → Int32} {R : Nat → Nat → Value} (h : yRI K nb tg I R) {b i : Nat} (hb : b = yAd R 87 i) (hi : (i : Int) < (I 87 2).toInt) : (I b 0).toInt ≤ (I 83 1).toInt ∧ (0 ≤ (I b 1).toInt ∧ (I b 1).toInt < 5) ∧ ((I b 3).toInt = 0 ∨ (I b 3).toInt = 1) := hb ▸ h.2.2.2.2.2.1 i hi
theorem yRI.frm {K nb : Nat} {tg : Nat → yT} {I : Nat → Nat → Int32} {R : Nat → Nat → Value} (h : yRI K nb tg I R) {b i : Nat} (hb : b = yAd R 92 i) (hi : (i : Int) < (I 92 2).toInt) : 1 ≤ (I b 0).toInt ∧ (I b 0).toInt ≤ 999 := hb ▸ h.2.2.2.2.1 i hi
theorem y_ialoadC {M : xM} {code rest : List xI} {ls : yLs} {r : List Value} {c s : Nat} {Q : yQ} {p len n a : Nat} {tg : Nat → yT} {I : Nat → Nat → Int32} {R : Nat → Nat → Value} {an : List Nat} {i : Int32} {m j : Nat} (hk : code = (p, len, .iaload, an) :: rest) (ht : tg a = (0, m)) (ha : a < n) (h0 : 0 ≤ i.toInt) (h1 : i.toInt < (m : Int)) (hj : i.toInt.toNat = j) (kk : yW M rest ls (.int (I a j) :: r) (n, tg, I, R) c s Q) : yW M code ls (.int i :: .ref a :: r) (n, tg, I, R) c s Q := by
  subst hj; exact y_iaload hk ht ha h0 h1 kk
theorem y_iastoreC {M : xM} {code rest : List xI} {ls : yLs} {r : List Value} {c s : Nat} {Q : yQ} {p len n a : Nat} {tg : Nat → yT} {I : Nat → Nat → Int32} {R : Nat → Nat → Value} {an : List Nat} {i x : Int32} {m j : Nat} (hk : code = (p, len, .iastore, an) :: rest) (ht : tg a = (0, m)) (ha : a < n) (hx : xN0 ≤ a) (h0 : 0 ≤ i.toInt) (h1 : i.toInt < (m : Int)) (hj : i.toInt.toNat = j) (kk : yW M rest ls r (n, tg, upd2 I a j x, R) c s Q) : yW M code ls (.int x :: .int i :: .ref a :: r) (n, tg, I, R) c s Q := by
  subst hj; exact y_iastore hk ht ha hx h0 h1 kk
theorem yRI.l87 {K nb : Nat} {tg : Nat → yT} {I : Nat → Nat → Int32} {R : Nat → Nat → Value} (h : yRI K nb tg I R) : yLI nb tg I R 87 (0, 4) := h.2.1.1
theorem yRI.l88 {K nb : Nat} {tg : Nat → yT} {I : Nat → Nat → Int32} {R : Nat → Nat → Value} (h : yRI K nb tg I R) : yLI nb tg I R 88 (20, 0) := h.2.1.2.1
theorem yRI.l89 {K nb : Nat} {tg : Nat → yT} {I : Nat → Nat → Int32} {R : Nat → Nat → Value} (h : yRI K nb tg I R) : yLI nb tg I R 89 (19, 0) := h.2.1.2.2.1
theorem yRI.l90 {K nb : Nat} {tg : Nat → yT} {I : Nat → Nat → Int32} {R : Nat → Nat → Value} (h : yRI K nb tg I R) : yLI nb tg I R 90 (18, 0) := h.2.1.2.2.2.1
theorem yRI.l91 {K nb : Nat} {tg : Nat → yT} {I : Nat → Nat → Int32} {R : Nat → Nat → Value} (h : yRI K nb tg I R) : yLI nb tg I R 91 (21, 0) := h.2.1.2.2.2.2.1
theorem yRI.l92 {K nb : Nat} {tg : Nat → yT} {I : Nat → Nat → Int32} {R : Nat → Nat → Value} (h : yRI K nb tg I R) : yLI nb tg I R 92 (0, 7) := h.2.1.2.2.2.2.2
theorem yIt.upI {nb n : Nat} {tg : Nat → yT} {I I2 : Nat → Nat → Int32} {R : Nat → Nat → Value} {it l b : Nat} {z : Int} (h : yIt nb n tg I R it l z) (hI : ∀ a, a ≠ b → I2 a = I a) (h1 : it ≠ b) (h2 : l ≠ b) : yIt nb n tg I2 R it l z := by
  obtain ⟨h1', h2', h3, h4, h5, h6, h7, h8, h9⟩ := h
  refine ⟨h1', h2', h3, h4, ?_, h6, ?_, ?_, h9⟩
  · rw [hI it h1]; exact h5
  · rw [hI l h2]; exact h7
  · rw [hI it h1, hI l h2]; exact h8
theorem yIt.x {nb n n' : Nat} {tg tg' : Nat → yT} {I I' : Nat → Nat → Int32} {R R' : Nat → Nat → Value} {it l : Nat} {z : Int} (h : yIt nb n tg I R it l z) (hx : yX n tg I R n' tg' I' R') : yIt nb n' tg' I' R' it l z := by
  obtain ⟨h1', h2', h3, h4, h5, h6, h7, h8, h9, h10, h11⟩ := h
  obtain ⟨a1, a2, a3⟩ := hx.2.1 it h2'
  obtain ⟨b1, b2, b3⟩ := hx.2.1 l h10
  refine ⟨h1', Nat.lt_of_lt_of_le h2' hx.1, a1.trans h3, by rw [a3]; exact h4, by rw [a2]; exact h5, h6, by rw [b2]; exact h7, by rw [a2, b2]; exact h8, b1.trans h9, Nat.lt_of_lt_of_le h10 hx.1, h11⟩
theorem y_newarrL {M : xM} {code rest : List xI} {ls : yLs} {r : List Value} {c s : Nat} {Q : yQ} {p len n : Nat} {tg : Nat → yT} {I : Nat → Nat → Int32} {R : Nat → Nat → Value} {t : Jvm.ClassFile.ArrayType} {z : Int32} {tc m : Nat} {an : List Nat} (hk : code = (p, len, .newarray t, tc :: an) :: rest) (hd : Nat.blt tc 3 = true) (h0 : 0 ≤ z.toInt) (h1 : z.toInt ≤ 100000) (hm : z.toInt.toNat = m) (kk : ∀ n1 tg1 I1 R1, yAl n tg I R n1 tg1 I1 R1 (tc, m) → yW M rest ls (.ref n :: r) (n1, tg1, I1, R1) (c + 1) (s + m) Q) : yW M code ls (.int z :: r) (n, tg, I, R) c s Q := by
  subst hm; exact y_newarrX hk hd h0 h1 kk
theorem yshl2 {x : Int32} (h0 : 0 ≤ x.toInt) (h1 : x.toInt ≤ 10) : 1 ≤ (Int32.ofInt 1 <<< (x &&& 31)).toInt ∧ (Int32.ofInt 1 <<< (x &&& 31)).toInt ≤ 1024 := (yshl h0 h1).1
theorem i32ne {x : Int32} {z : Int32} (h : x.toInt ≠ z.toInt) : ¬ x = z := fun e => h (by rw [e])
