/-! A CALL OF BOTH SIDES: MONEY AND VENTURES (rel8s.lean) -/
section YROW8
variable {I J : Nat → Nat → Int32}
theorem yCrd_row {v p x : Int32} {a : Nat} (h : a ≠ 39) (h' : a ≠ 73) : yCrd J v p x a = J a := by unfold yCrd; rw [yAddC_row h, upd2_row h']
theorem yPrD_row {v r : Int32} {a : Nat} (h : a ≠ 39) (h' : a ≠ 73) : yPrD I v r a = I a := (yCrd_row h h').trans (yRec_keep fun _ _ _ _ => yCrd_row h h')
theorem yBlP_row {v : Int32} {q : (Nat → Nat → Int32) × Int32} {a : Nat} (h : a ≠ 71) : ∀ m : Nat, (yRecP (yBlB v) q m).1 a = q.1 a
  | 0 => rfl
  | m + 1 => by
    show (yBlB v (yRecP (yBlB v) q m) m).1 a = q.1 a
    unfold yBlB
    split
    · exact (upd2_row h).trans (yBlP_row h m)
    · exact yBlP_row h m
theorem yBlD_row {v l : Int32} {a : Nat} (h : a ≠ 71) : yBlD I v l a = I a := (yBlP_row h 9).trans (yRec_keep fun _ _ _ _ => upd2_row h)
theorem yPoR_row {sh : Int32} {w : Int64} {a m : Nat} (h5 : a ≠ 75) (h6 : a ≠ 76) : yRec (yPoS sh w) J m a = J a := yRec_keep fun _ _ _ _ => yPoS_row h5 h6
/-- what is left by management -/
theorem yMg_b {x y : Int32} (h0 : 0 ≤ x.toInt) (h1 : x.toInt ≤ 9999) (g0 : 0 ≤ y.toInt) (g1 : y.toInt ≤ 50) : 0 ≤ (x - x * y / Int32.ofInt 100).toInt ∧ (x - x * y / Int32.ofInt 100).toInt ≤ 9999 := by
  have h4 : x.toInt * y.toInt ≤ x.toInt * 50 := Int.mul_le_mul_of_nonneg_left g1 h0
  have h5 : 0 ≤ x.toInt * y.toInt := Int.mul_nonneg h0 g0
  have h6 : (x * y).toInt = x.toInt * y.toInt := by rw [Int32.toInt_mul, Int.bmod_eq_of_le (by omega) (by omega)]
  have h7 : (x * y / Int32.ofInt 100).toInt = x.toInt * y.toInt / 100 := by
    rw [Int32.toInt_div, h6, show (Int32.ofInt 100).toInt = 100 by decide, Int.tdiv_eq_ediv_of_nonneg h5, Int.bmod_eq_of_le (by omega) (by omega)]
  rw [ysub (by omega) (by omega), h7]; omega
end YROW8
section YST8
variable {K K1 n n1 : Nat} {tg tg1 : Nat → yT} {I Ia I1 C M G J : Nat → Nat → Int32} {R Ra R1 : Nat → Nat → Value}
/-- the reference's numbers behind a call that told its chain -/
theorem yMn.px (h : yMn Ia G) (hK : yKp n tg Ia Ra n1 tg1 I1 R1) (hX : yX n tg G Ra n1 tg1 I1 R1) (h94 : 94 ≤ n) : yMn I1 I1 :=
  h.cg (fun a ha => hK.2.2.1 a (by omega)) (fun k _ => by rw [hX.n (show 83 < n by omega)]) (fun a _ h2 => hX.n (by omega))
/-- and behind one that told that purses, fees and the pool stay -/
theorem yMn.p8 (h : yMn I I) (hF : yFt I Ia) (hc : ∀ a, a = 38 ∨ a = 39 ∨ a = 74 ∨ a = 75 ∨ a = 76 → Ia a = I a) (hK : yKp n tg Ia Ra n1 tg1 I1 R1) (h8 : y8 Ia I1) : yMn I1 I1 :=
  h.cg (fun a ha => (hK.2.2.1 a (by omega)).trans (hc a ha)) (fun k hk => (h8.2 k hk).trans (congrFun (hF.hi (by decide)) k)) (fun a h1 h2 => (h8.1 a h1 h2).trans (hF.hi (by omega)))
/-- the reference's numbers as the class's call left them -/
theorem yMn.ia (h : yMn I I) (hF : yFt I Ia) : yMn I Ia := h.cg (fun _ _ => rfl) (fun k _ => congrFun (hF.hi (by decide)) k) (fun a h1 _ => hF.hi (by omega))
theorem yMn.z (h : yMn C M) {z : Int32} : yMn C (upd2 M 83 0 z) := h.cg (fun _ _ => rfl) (fun k hk => upd2_ne (.inr hk)) (fun a h1 _ => upd2_row (by omega))
theorem yMn.cC (h : yMn C M) (hc : ∀ a, a = 38 ∨ a = 39 ∨ a = 74 ∨ a = 75 ∨ a = 76 → J a = C a) : yMn J M := h.cg hc (fun _ _ => rfl) (fun _ _ _ => rfl)
theorem yMn.upM {a k : Nat} {v : Int32} (h : yMn C M) (ha : 87 ≤ a ∨ a = 83 ∧ k ≠ 2 ∧ k ≠ 3 ∧ k ≠ 5 ∧ k ≠ 6) : yMn C (upd2 M a k v) := by
  have r : ∀ b j, b = 84 ∨ b = 85 ∨ b = 86 ∨ b = 83 ∧ (j = 2 ∨ j = 3 ∨ j = 5 ∨ j = 6) → upd2 M a k v b j = M b j := fun b j hb => upd2_ne (by omega)
  exact h.fr (fun j hj => by rw [r 84 j (by omega)]; exact h.1 j hj) (by rw [r 83 2 (by omega)]; exact h.2.1) rfl ⟨rfl, rfl, rfl⟩ ⟨r 83 3 (by omega), r 83 5 (by omega), r 83 6 (by omega)⟩ (funext fun j => r 85 j (by omega)) (funext fun j => r 86 j (by omega))
/-! ventures -/
theorem yRI.n9 (h : yRI K n tg I R) {l x b : Nat} (h1 : 87 ≤ l) (h2 : l ≤ 92) (hx : (x : Int) < (I l 2).toInt) (hb : b = yAd R l x) : (tg b).2 ≠ 9 := by
  rw [hb]
  rcases (by omega : l = 87 ∨ l = 88 ∨ l = 89 ∨ l = 90 ∨ l = 91 ∨ l = 92) with rfl | rfl | rfl | rfl | rfl | rfl
  · rw [(h.l87.2.2.2.2 x hx).2.2.2]; decide
  · rw [(h.l88.2.2.2.2 x hx).2.2.2]; decide
  · rw [(h.l89.2.2.2.2 x hx).2.2.2]; decide
  · rw [(h.l90.2.2.2.2 x hx).2.2.2]; decide
  · rw [(h.l91.2.2.2.2 x hx).2.2.2]; decide
  · rw [(h.l92.2.2.2.2 x hx).2.2.2]; decide
/-- rows of nine stay -/
def yVm (n : Nat) (tg : Nat → yT) (I I1 : Nat → Nat → Int32) : Prop := ∀ a, 94 ≤ a → a < n → (tg a).2 = 9 → I1 a = I a
theorem yVm.rr : yVm n tg I I := fun _ _ _ _ => rfl
theorem yVm.ft (h : yFt I Ia) : yVm n tg I Ia := fun a h1 _ _ => h.hi (by omega)
theorem yVm.gm (hg : yGm n I1 G) (h : yVm n tg I G) : yVm n tg I I1 := fun a h1 h2 h3 => (hg a h1 h2).trans (h a h1 h2 h3)
theorem yVm.x (hX : yX n tg J R n1 tg1 I1 R1) (h : yVm n tg I J) : yVm n tg I I1 := fun a h1 h2 h3 => (hX.n h2).trans (h a h1 h2 h3)
theorem yVm.up {a k : Nat} {x : Int32} (h : yVm n tg I J) (hb : a < 94 ∨ (tg a).2 ≠ 9) : yVm n tg I (upd2 J a k x) := fun c h1 h2 h3 => (upd2_row (fun e => by
  subst e
  rcases hb with q | q
  · omega
  · exact q h3)).trans (h c h1 h2 h3)
theorem yVm.addC {p x : Int32} (h : yVm n tg I J) : yVm n tg I (mAddC J p x) := by
  unfold mAddC
  split
  · exact h
  · exact h.up (.inl (by decide))
theorem yVm.shD {ms : Nat → Int32} (h : yVm n tg I J) : yVm n tg I (mShD J ms) := fun c h1 h2 h3 => (mShD_row (by omega) (by omega) (by omega) (by omega)).trans (h c h1 h2 h3)
/-- where a venture lies, and its rows -/
theorem yRI.v4 (hR : yRI K n tg I R) {j : Nat} (hj : (j : Int) < (I 91 2).toInt) : 94 ≤ yAd R 91 j ∧ yAd R 91 j + 4 < n ∧ tg (yAd R 91 j) = (21, 0) ∧ ∀ f, f < 4 → (tg (yAd R 91 j + 1 + f)).2 = 9 := by
  obtain ⟨-, q0, q1, q2⟩ := hR.l91.2.2.2.2 j hj
  have w := fun {f : Nat} (hf : f < 4) => hR.ven q0 q1 q2 hf
  exact ⟨q0, (w (f := 3) (by decide)).2.1, q2, fun f hf => by rw [(w hf).2.2]; unfold yVt; split <;> rfl⟩
theorem yVn.st (h : yVn I I R) (hR : yRI K n tg I R) (hs : (I1 91 2).toInt = (I 91 2).toInt) (hc : ∀ a, 70 ≤ a → a ≤ 73 → I1 a = I a) (hL : yLk I R R1) (hm : yVm n tg I I1) : yVn I1 I1 R1 :=
  h.cg hs hc (fun j hj => ⟨hL 91 (by decide) (by decide) j hj, fun f hf => by
    obtain ⟨w0, w1, -, w2⟩ := hR.v4 hj
    exact hm _ (by omega) (by omega) (w2 f hf)⟩)
theorem yVn.ven (h : yVn I I R) (hR : yRI K n tg I R) (hs : (I1 91 2).toInt = (I 91 2).toInt + 1) (hc : ∀ a, 70 ≤ a → a ≤ 73 → I1 a = I a) (hL : yLk I R R1) (hm : yVm n tg I I1) {x : Nat} (hx : x = yAd R1 91 (I 91 2).toInt.toNat) (hn : n ≤ x) (hz : ∀ i, i < 4 → ∀ k, I1 (x + 1 + i) k = 0) : yVn I1 I1 R1 := by
  have h0 := hR.1.2.2.2.2.2.2.1.1
  refine h.new (c := (I 91 2).toInt.toNat) (b := x) (by omega) (by omega) hc (fun j hj => ⟨hL 91 (by decide) (by decide) j (by omega), fun f hf => ?_⟩) (fun j hj => ?_) hx.symm hz
  · obtain ⟨w0, w1, -, w2⟩ := hR.v4 (j := j) (by omega)
    exact hm _ (by omega) (by omega) (w2 f hf)
  · obtain ⟨w0, w1, -, w2⟩ := hR.v4 (j := j) (by omega)
    omega
/-- the class's rows and the reference's, as the class's call left them -/
theorem yVn.ia (h : yVn I I R) (hR : yRI K n tg I R) (hF : yFt I Ia) (hL : yLk I R Ra) : yVn I Ia Ra :=
  h.cg (by rw [hF.hi (show 83 ≤ 91 by decide)]) (fun _ _ _ => rfl) (fun j hj => ⟨hL 91 (by decide) (by decide) j hj, fun f _ => hF.hi (by have := (hR.v4 hj).1; omega)⟩)
theorem yVn.z (h : yVn C M R) (hR : yRI K n tg M R) {z : Int32} : yVn C (upd2 M 83 0 z) R := h.skM (fun j hj => (hR.v4 hj).1) (by decide)
/-- behind the reference's call, by its chain -/
theorem yVn.px (h : yVn Ia G Ra) (hR : yRI K n tg Ia Ra) (h91 : G 91 = Ia 91) (hK : yKp n tg Ia Ra n1 tg1 I1 R1) (hX : yX n tg G Ra n1 tg1 I1 R1) : yVn I1 I1 R1 := by
  have h94 := hR.2.2.2.2.2.2
  have hlt := hR.lt6 91 (by decide) (by decide)
  refine h.cg (by rw [hX.n (show 91 < n by omega)]) (fun a _ h2 => hK.2.2.1 a (by omega)) (fun j hj => ⟨yAd_eq (hX.2.1 91 (by omega)).2.2 (hX.2.1 _ hlt).2.2, fun f hf => ?_⟩)
  obtain ⟨w0, w1, -, -⟩ := hR.v4 (j := j) (by rw [← h91]; exact hj)
  exact hX.n (by omega)
/-- a sum that is told -/
theorem yVn.vs (h : yVn I1 I1 R1) (hK : yKp n tg Ia Ra n1 tg1 I1 R1) {x1 : Int32} {b f : Nat} (hf : f < 4) (h0 : 0 ≤ x1.toInt) (h1 : x1.toInt < (I1 91 2).toInt) (hb : b = yAd R1 91 x1.toInt.toNat) : yFz (I1 (b + 1 + f)) 9 = yVs Ia (70 + f) x1 := by
  unfold yVs
  rw [← hK.2.2.1 (70 + f) (by omega)]
  exact (h.sum hf (by omega) hb).symm
theorem ySeat_b {x : Int32} {m : Int} (h : x.toInt = -1 ∨ 0 ≤ x.toInt ∧ x.toInt < m) (hm : m ≤ 8) : 0 ≤ (ySeat x).toInt ∧ (ySeat x).toInt ≤ 8 := by
  unfold ySeat
  split
  · decide
  · omega
theorem ySeat_ne {x y : Int32} {m : Int} (h : x.toInt = -1 ∨ 0 ≤ x.toInt ∧ x.toInt < m) (h' : y.toInt = -1 ∨ 0 ≤ y.toInt ∧ y.toInt < m) (hm : m ≤ 8) (hne : ¬ x.toInt = y.toInt) : ¬ (ySeat x).toInt = (ySeat y).toInt := by
  have z8 : (Int32.ofInt 8).toInt = 8 := by decide
  unfold ySeat
  split <;> split <;> (try rw [z8]) <;> omega
theorem yAtI_s {v p : Int32} (h0 : 0 ≤ v.toInt) (h1 : v.toInt < 6) (h2 : 0 ≤ p.toInt) (h3 : p.toInt ≤ 8) : (yAtI v p).toInt.toNat = v.toInt.toNat * 9 + p.toInt.toNat := by
  rw [yAtI_v h0 h1 h2 (by omega)]; omega
/-! the conditions of both sides are one -/
theorem tie_seat (hv : yVn C M R) (h6 : (M 91 2).toInt ≤ 6) {x1 x2 : Int32} {m : Int} (hm : m ≤ 8) {b : Nat} (hb : b = yAd R 91 x1.toInt.toNat) (hx : 0 ≤ x1.toInt ∧ x1.toInt < (M 91 2).toInt) (h2 : x2.toInt = -1 ∨ 0 ≤ x2.toInt ∧ x2.toInt < m) {f : Nat} (hf : f < 4) : M (b + 1 + f) (ySeat x2).toInt.toNat = C (70 + f) (yAtI x1 (ySeat x2)).toInt.toNat := by
  obtain ⟨s0, s8⟩ := ySeat_b h2 hm
  rw [yAtI_s hx.1 (by omega) s0 s8, hb]
  exact ((hv.1 x1.toInt.toNat (by omega)).1 f hf _ (by omega)).symm
theorem tie_cash (hm : yMn C M) {x2 : Int32} {m : Int} (h8 : m ≤ 8) (h2 : x2.toInt = -1 ∨ 0 ≤ x2.toInt ∧ x2.toInt < m) : M 84 (ySeat x2).toInt.toNat = C 39 (ySeat x2).toInt.toNat := by
  obtain ⟨s0, s8⟩ := ySeat_b h2 h8
  exact (hm.1 _ (by omega)).symm
theorem tie_join (hv : yVn C M R) (hm : yMn C M) (h6 : (M 91 2).toInt ≤ 6) (h8 : (C 38 0).toInt ≤ 8) {x1 x2 x4 : Int32} {b : Nat} (hb : b = yAd R 91 x1.toInt.toNat) : ((0 ≤ x1.toInt ∧ x1.toInt < (M 91 2).toInt) ∧ (x2.toInt = -1 ∨ 0 ≤ x2.toInt ∧ x2.toInt < (C 38 0).toInt)) → (M (b + 1 + 0) (ySeat x2).toInt.toNat).toInt = (C 70 (yAtI x1 (ySeat x2)).toInt.toNat).toInt ∧ (M 84 (ySeat x2).toInt.toNat).toInt = (C 39 (ySeat x2).toInt.toNat).toInt ∧ (yFz (M (b + 1 + 2)) 9 + x4).toInt = (yVs C 72 x1 + x4).toInt := fun h => by
  refine ⟨congrArg Int32.toInt (tie_seat hv h6 h8 hb h.1 h.2 (f := 0) (by decide)), congrArg Int32.toInt (tie_cash hm h8 h.2), ?_⟩
  unfold yVs
  rw [← hv.sum (f := 2) (by decide) (x := x1.toInt.toNat) (by omega) hb]
theorem tie_out (hv : yVn C M R) (hm : yMn C M) (h6 : (M 91 2).toInt ≤ 6) (h8 : (C 38 0).toInt ≤ 8) {x1 x2 x3 : Int32} {b : Nat} (hb : b = yAd R 91 x1.toInt.toNat) : ((0 ≤ x1.toInt ∧ x1.toInt < (M 91 2).toInt) ∧ (x2.toInt = -1 ∨ 0 ≤ x2.toInt ∧ x2.toInt < (C 38 0).toInt) ∧ (x3.toInt = -1 ∨ 0 ≤ x3.toInt ∧ x3.toInt < (C 38 0).toInt)) → (M (b + 1 + 0) (ySeat x2).toInt.toNat).toInt = (C 70 (yAtI x1 (ySeat x2)).toInt.toNat).toInt ∧ (M (b + 1 + 0) (ySeat x3).toInt.toNat).toInt = (C 70 (yAtI x1 (ySeat x3)).toInt.toNat).toInt ∧ (M (b + 1 + 1) (ySeat x2).toInt.toNat).toInt = (C 71 (yAtI x1 (ySeat x2)).toInt.toNat).toInt ∧ (M 84 (ySeat x3).toInt.toNat).toInt = (C 39 (ySeat x3).toInt.toNat).toInt := fun h =>
  ⟨congrArg Int32.toInt (tie_seat hv h6 h8 hb h.1 h.2.1 (f := 0) (by decide)), congrArg Int32.toInt (tie_seat hv h6 h8 hb h.1 h.2.2 (f := 0) (by decide)), congrArg Int32.toInt (tie_seat hv h6 h8 hb h.1 h.2.1 (f := 1) (by decide)), congrArg Int32.toInt (tie_cash hm h8 h.2.2)⟩
theorem tie_res (hv : yVn C M R) (h6 : (M 91 2).toInt ≤ 6) (h8 : (C 38 0).toInt ≤ 8) {x1 x3 : Int32} {b : Nat} (hb : b = yAd R 91 x1.toInt.toNat) : ((0 ≤ x1.toInt ∧ x1.toInt < (M 91 2).toInt) ∧ (x3.toInt = -1 ∨ 0 ≤ x3.toInt ∧ x3.toInt < (C 38 0).toInt)) → (M (b + 1 + 0) (ySeat x3).toInt.toNat).toInt = (C 70 (yAtI x1 (ySeat x3)).toInt.toNat).toInt := fun h =>
  congrArg Int32.toInt (tie_seat hv h6 h8 hb h.1 h.2 (f := 0) (by decide))
theorem tie_dep (hm : yMn C M) (h8 : (C 38 0).toInt ≤ 8) {x1 x2 : Int32} : (0 ≤ x1.toInt ∧ x1.toInt < (C 38 0).toInt) → (M 84 x1.toInt.toNat).toInt = (C 39 x1.toInt.toNat).toInt ∧ (M 85 x1.toInt.toNat).toInt = (C 75 x1.toInt.toNat).toInt ∧ 0 ≤ (C 75 x1.toInt.toNat).toInt ∧ (C 75 x1.toInt.toNat).toInt ≤ 99999 ∧ ((-9999 ≤ x2.toInt ∧ x2.toInt ≤ 9999) → (C 75 x1.toInt.toNat + x2).toInt = (C 75 x1.toInt.toNat).toInt + x2.toInt ∧ (M 85 x1.toInt.toNat + x2).toInt = (C 75 x1.toInt.toNat).toInt + x2.toInt ∧ (-x2).toInt = -x2.toInt) := fun h => by
  obtain ⟨⟨q1, -⟩, q3, q4⟩ := hm.2.2.2.1 x1.toInt.toNat (by omega)
  have e := yneg (x := x2)
  refine ⟨by rw [hm.1 _ (by omega)], by rw [q1], q3, q4, fun h2 => ⟨yadd (by omega) (by omega), ?_, e (by omega)⟩⟩
  rw [← q1]; exact yadd (by omega) (by omega)
end YST8
section YST9
variable {K n n1 : Nat} {tg tg1 : Nat → yT} {I Ia I1 C M J : Nat → Nat → Int32} {R Ra R1 : Nat → Nat → Value} {x1 x2 x3 x4 z : Int32} {b : Nat}
theorem yMn.ea (h : yMn C M) (e : J = C) : yMn J M := e ▸ h
theorem yVn.ea (h : yVn C M R) (e : J = C) : yVn J M R := e ▸ h
theorem yRI.own (hR : yRI K n tg I R) {x : Nat} (hx : (x : Int) < (I 88 2).toInt) (hb : b = yAd R 88 x) : 94 ≤ b ∧ 0 ≤ (I b 1).toInt ∧ (I b 1).toInt ≤ 9 := by
  obtain ⟨-, q0, q1, q2⟩ := hR.l88.2.2.2.2 x hx
  rw [hb]; exact ⟨q0, hR.thi q0 q1 q2⟩
theorem yRI.byr (hR : yRI K n tg I R) {x : Nat} (hx : (x : Int) < (I 89 2).toInt) (hb : b = yAd R 89 x) : 94 ≤ b ∧ 0 ≤ (I b 1).toInt ∧ (I b 1).toInt ≤ 7 := by
  obtain ⟨-, q0, q1, q2⟩ := hR.l89.2.2.2.2 x hx
  rw [hb]; exact ⟨q0, (hR.sal q0 q1 q2).1⟩
/-- somebody joins -/
theorem s8_join (h : yR8 K I R) (hR : yRI K n tg I R) (hRa : yRI K n tg Ia Ra) (hF : yFt I Ia) (hLa : yLk I R Ra) (hK : yKp n tg Ia Ra n1 tg1 I1 R1) (hb : b = yAd Ra 91 x1.toInt.toNat) (hx : 0 ≤ x1.toInt ∧ x1.toInt < (I 91 2).toInt) (h2 : x2.toInt = -1 ∨ 0 ≤ x2.toInt ∧ x2.toInt < (I 38 0).toInt) (h8 : (I 38 0).toInt ≤ 8) (h4 : 0 ≤ x4.toInt ∧ x4.toInt ≤ 100)
    (eA : Ia = upd2 (upd2 (upd2 (yAddC I (ySeat x2) (-x3)) 70 (yAtI x1 (ySeat x2)).toInt.toNat (Int32.ofInt 1)) 71 (yAtI x1 (ySeat x2)).toInt.toNat x3) 72 (yAtI x1 (ySeat x2)).toInt.toNat x4)
    (hX : yX n tg (upd2 (upd2 (upd2 (upd2 (upd2 Ia 83 0 z) (b + 1 + 0) (ySeat x2).toInt.toNat (Int32.ofInt 1)) (b + 1 + 1) (ySeat x2).toInt.toNat x3) (b + 1 + 2) (ySeat x2).toInt.toNat x4) 84 (ySeat x2).toInt.toNat (Ia 84 (ySeat x2).toInt.toNat - x3)) Ra n1 tg1 I1 R1) : yMn I1 I1 ∧ yVn I1 I1 R1 := by
  have hN := hR.1
  have h94 := hR.2.2.2.2.2.2
  have e91 : Ia 91 = I 91 := hF.hi (by decide)
  have hxa : ((x1.toInt.toNat : Nat) : Int) < (Ia 91 2).toInt := by rw [e91]; omega
  have hb94 : 94 ≤ b := by rw [hb]; exact (hRa.v4 hxa).1
  obtain ⟨s0, s8⟩ := ySeat_b h2 h8
  have hm := h.2.1.ia hF
  have hv := h.2.2.1.ia hR hF hLa
  have eq := yAtI_s (v := x1) (p := ySeat x2) hx.1 (by omega) s0 s8
  exact ⟨((m9_join hm s0 s8 hb94).ea eA).px hK hX h94, ((v9_join hv (fun j hj => (hRa.v4 hj).1) hxa s0 s8 hb eq h4).ea eA).px hRa (by rw [upd2_row (by decide), upd2_row (by omega), upd2_row (by omega), upd2_row (by omega), upd2_row (by decide)]) hK hX⟩
/-- a place changes hands -/
theorem s8_buyOut (h : yR8 K I R) (hR : yRI K n tg I R) (hRa : yRI K n tg Ia Ra) (hF : yFt I Ia) (hLa : yLk I R Ra) (hK : yKp n tg Ia Ra n1 tg1 I1 R1) (hb : b = yAd Ra 91 x1.toInt.toNat) (hx : 0 ≤ x1.toInt ∧ x1.toInt < (I 91 2).toInt) (h2 : x2.toInt = -1 ∨ 0 ≤ x2.toInt ∧ x2.toInt < (I 38 0).toInt) (h3 : x3.toInt = -1 ∨ 0 ≤ x3.toInt ∧ x3.toInt < (I 38 0).toInt) (h8 : (I 38 0).toInt ≤ 8) (hne : ¬ x2.toInt = x3.toInt)
    (eA : Ia = upd2 (upd2 (yAddC (yAddC I (ySeat x3) (-x4)) (ySeat x2) x4) 71 (yAtI x1 (ySeat x2)).toInt.toNat (I 71 (yAtI x1 (ySeat x2)).toInt.toNat - x4)) 71 (yAtI x1 (ySeat x3)).toInt.toNat ((upd2 (yAddC (yAddC I (ySeat x3) (-x4)) (ySeat x2) x4) 71 (yAtI x1 (ySeat x2)).toInt.toNat (I 71 (yAtI x1 (ySeat x2)).toInt.toNat - x4)) 71 (yAtI x1 (ySeat x3)).toInt.toNat + x4))
    (hX : yX n tg (upd2 (upd2 (upd2 (upd2 (upd2 Ia 83 0 z) (b + 1 + 1) (ySeat x2).toInt.toNat (Ia (b + 1 + 1) (ySeat x2).toInt.toNat - x4)) (b + 1 + 1) (ySeat x3).toInt.toNat ((upd2 (upd2 Ia 83 0 z) (b + 1 + 1) (ySeat x2).toInt.toNat (Ia (b + 1 + 1) (ySeat x2).toInt.toNat - x4)) (b + 1 + 1) (ySeat x3).toInt.toNat + x4)) 84 (ySeat x2).toInt.toNat (Ia 84 (ySeat x2).toInt.toNat + x4)) 84 (ySeat x3).toInt.toNat ((upd2 (upd2 (upd2 (upd2 Ia 83 0 z) (b + 1 + 1) (ySeat x2).toInt.toNat (Ia (b + 1 + 1) (ySeat x2).toInt.toNat - x4)) (b + 1 + 1) (ySeat x3).toInt.toNat ((upd2 (upd2 Ia 83 0 z) (b + 1 + 1) (ySeat x2).toInt.toNat (Ia (b + 1 + 1) (ySeat x2).toInt.toNat - x4)) (b + 1 + 1) (ySeat x3).toInt.toNat + x4)) 84 (ySeat x2).toInt.toNat (Ia 84 (ySeat x2).toInt.toNat + x4)) 84 (ySeat x3).toInt.toNat - x4)) Ra n1 tg1 I1 R1) : yMn I1 I1 ∧ yVn I1 I1 R1 := by
  have hN := hR.1
  have h94 := hR.2.2.2.2.2.2
  have e91 : Ia 91 = I 91 := hF.hi (by decide)
  have hxa : ((x1.toInt.toNat : Nat) : Int) < (Ia 91 2).toInt := by rw [e91]; omega
  have hb94 : 94 ≤ b := by rw [hb]; exact (hRa.v4 hxa).1
  obtain ⟨s0, s8⟩ := ySeat_b h2 h8
  obtain ⟨t0, t8⟩ := ySeat_b h3 h8
  have hst := ySeat_ne h2 h3 h8 hne
  have hm := h.2.1.ia hF
  have hv := h.2.2.1.ia hR hF hLa
  have eq := yAtI_s (v := x1) (p := ySeat x2) hx.1 (by omega) s0 s8
  have eq3 := yAtI_s (v := x1) (p := ySeat x3) hx.1 (by omega) t0 t8
  refine ⟨((m9_buyOut hm s0 s8 t0 t8 hst hb94 _ rfl).ea eA).px hK hX h94, ((v9_buyOut hv (fun j hj => (hRa.v4 hj).1) hxa s0 s8 t0 t8 hb eq eq3 (C0 := yAddC (yAddC I (ySeat x3) (-x4)) (ySeat x2) x4) (fun a ha => by rw [yAddC_row ha, yAddC_row ha])).ea eA).px hRa ?_ hK hX⟩
  rw [upd2_row (by decide), upd2_row (by decide), upd2_row (by omega), upd2_row (by omega), upd2_row (by decide)]
/-- a profit -/
theorem s8_profit (h : yR8 K I R) (hR : yRI K n tg I R) (hRa : yRI K n tg Ia Ra) (hF : yFt I Ia) (hLa : yLk I R Ra) (hK : yKp n tg Ia Ra n1 tg1 I1 R1) (hb : b = yAd Ra 91 x1.toInt.toNat) (hx : 0 ≤ x1.toInt ∧ x1.toInt < (I 91 2).toInt) (h0 : 0 ≤ x2.toInt) (h1 : x2.toInt ≤ 999) (eA : Ia = yPrD I x1 x2) (hX : yX n tg (mPrD (upd2 Ia 83 0 z) b x2) Ra n1 tg1 I1 R1) : yMn I1 I1 ∧ yVn I1 I1 R1 := by
  have hN := hR.1
  have h94 := hR.2.2.2.2.2.2
  have e91 : Ia 91 = I 91 := hF.hi (by decide)
  have e : upd2 Ia 83 0 z 91 = Ia 91 := upd2_row (by decide)
  have hxa : ((x1.toInt.toNat : Nat) : Int) < (Ia 91 2).toInt := by rw [e91]; omega
  have hb94 : 94 ≤ b := by rw [hb]; exact (hRa.v4 hxa).1
  have hm := (h.2.1.ia hF).z (z := z)
  have hv := (h.2.2.1.ia hR hF hLa).z hRa (z := z)
  obtain ⟨r2, r1⟩ := yPr_2 (v := x1) (r := x2) (x := x1.toInt.toNat) ⟨hv, hm⟩ (by omega) (by omega) (by rw [e]; exact hxa) hb hb94 (fun j hj => (hRa.v4 (by rw [e] at hj; exact hj)).1) h0 h1
  exact ⟨(r1.ea eA).px hK hX h94, (r2.ea eA).px hRa (by rw [mPrD_row (by decide) (by omega), e]) hK hX⟩
/-- a loss -/
theorem s8_loss (h : yR8 K I R) (hR : yRI K n tg I R) (hRa : yRI K n tg Ia Ra) (hF : yFt I Ia) (hLa : yLk I R Ra) (hK : yKp n tg Ia Ra n1 tg1 I1 R1) (hb : b = yAd Ra 91 x1.toInt.toNat) (hx : 0 ≤ x1.toInt ∧ x1.toInt < (I 91 2).toInt) (h0 : x2.toInt < 0) (h1 : -999 ≤ x2.toInt) {le : Nat → Int32} (hle : ∀ j, j < 9 → (le j).toInt = mLe (upd2 Ia 83 0 z) b (-x2) j) (eA : Ia = yBlD I x1 (-x2)) (hX : yX n tg (mLsD (upd2 Ia 83 0 z) b le) Ra n1 tg1 I1 R1) : yMn I1 I1 ∧ yVn I1 I1 R1 := by
  have hN := hR.1
  have h94 := hR.2.2.2.2.2.2
  have e91 : Ia 91 = I 91 := hF.hi (by decide)
  have e : upd2 Ia 83 0 z 91 = Ia 91 := upd2_row (by decide)
  have hxa : ((x1.toInt.toNat : Nat) : Int) < (Ia 91 2).toInt := by rw [e91]; omega
  obtain ⟨w0, w1, w2, -⟩ := hRa.v4 hxa
  rw [← hb] at w0 w1 w2
  obtain ⟨c1, c2⟩ := hRa.cap w0 (by omega) w2
  have er : upd2 Ia 83 0 z (b + 1 + 1) = Ia (b + 1 + 1) := upd2_row (by omega)
  have c2 : ySum (fun j => (Ia (b + 1 + 1) j).toInt) 9 ≤ 999 * (K : Int) := c2
  have hK6 := hN.2.2.2.2.2.2.2.2
  have hm := (h.2.1.ia hF).z (z := z)
  have hv := (h.2.2.1.ia hR hF hLa).z hRa (z := z)
  obtain ⟨r2, r1⟩ := yLs_2 (v := x1) (l := -x2) (x := x1.toInt.toNat) ⟨hv, hm⟩ (by omega) (by omega) (by rw [e]; exact hxa) hb w0 (yneg2 h0 h1).1 (fun j hj => by rw [er]; exact c1 j hj) (by rw [er]; omega) hle
  exact ⟨(r1.ea eA).px hK hX h94, (r2.ea eA).px hRa (by rw [mLsD_row (by omega), e]) hK hX⟩
/-- a loss that one bears alone -/
theorem s8_alone (h : yR8 K I R) (hR : yRI K n tg I R) (hRa : yRI K n tg Ia Ra) (hF : yFt I Ia) (hLa : yLk I R Ra) (hK : yKp n tg Ia Ra n1 tg1 I1 R1) (h3 : x3.toInt = -1 ∨ 0 ≤ x3.toInt ∧ x3.toInt < (I 38 0).toInt) (h8 : (I 38 0).toInt ≤ 8) (eA : Ia = yAddC I (ySeat x3) x2) (hX : yX n tg (upd2 (upd2 Ia 83 0 z) 84 (ySeat x3).toInt.toNat (Ia 84 (ySeat x3).toInt.toNat + x2)) Ra n1 tg1 I1 R1) : yMn I1 I1 ∧ yVn I1 I1 R1 := by
  have h94 := hR.2.2.2.2.2.2
  have e : upd2 Ia 83 0 z 91 = Ia 91 := upd2_row (by decide)
  obtain ⟨s0, s8⟩ := ySeat_b h3 h8
  have hm := h.2.1.ia hF
  have hv := h.2.2.1.ia hR hF hLa
  have r2 := ((hv.z hRa (z := z)).skM (a := 84) (k := (ySeat x3).toInt.toNat) (z := Ia 84 (ySeat x3).toInt.toNat + x2) (fun j hj => (hRa.v4 (by rw [e] at hj; exact hj)).1) (by decide)).addC (p := ySeat x3) (x := x2)
  exact ⟨((m9_alone hm s0 s8).ea eA).px hK hX h94, (r2.ea eA).px hRa (by rw [upd2_row (by decide), e]) hK hX⟩
theorem mSm_eq {ms : Nat → Int32} : ∀ k : Nat, mSm ms k = yFz ms k
  | 0 => rfl
  | k + 1 => by
    show mSm ms k + ms k = yFz ms k + ms k
    rw [mSm_eq k]
/-- the pool shares -/
theorem s8_share (h : yR8 K I R) (hR : yRI K n tg I R) (hRa : yRI K n tg Ia Ra) (hF : yFt I Ia) (hK : yKp n tg Ia Ra n1 tg1 I1 R1) (hr : yRl I) {crest shh g own more rest : Int32} {ms : Nat → Int32} {al : Int} (hx1 : 0 ≤ x1.toInt ∧ x1.toInt ≤ 9999) (hx2 : 0 ≤ x2.toInt ∧ x2.toInt ≤ 999) (hx3 : 0 ≤ x3.toInt ∧ x3.toInt ≤ 50)
    (ec : crest = x1 - x1 * x3 / Int32.ofInt 100) (es : shh = ySmo crest x2 (I 74 2) al) (eg : g = yPoG (upd2 (upd2 (upd2 I 74 3 x2) 74 4 x3) 74 2 (I 74 2 + (crest - shh))) shh (yWsum (upd2 (upd2 (upd2 I 74 3 x2) 74 4 x3) 74 2 (I 74 2 + (crest - shh))) 8) 8)
    (eA : Ia = upd2 (yAddC (yRec (yPoS shh (yWsum (upd2 (upd2 (upd2 I 74 3 x2) 74 4 x3) 74 2 (I 74 2 + (crest - shh))) 8)) (upd2 (upd2 (upd2 I 74 3 x2) 74 4 x3) 74 2 (I 74 2 + (crest - shh))) 8) (Int32.ofInt 8) (x1 - crest)) 38 1 (I 38 1 + (shh - g)))
    (eo : own = x1 * x3 / Int32.ofInt 100) (em : more = mMor (x1 - own) x2 (Ia 83 3) al) (er : rest = x1 - own - more)
    (hms : ∀ j : Nat, j < 8 → ms j = if (j : Int) < (Ia 83 8).toInt ∧ 0 < (mWs (Ia 86) 8) then mMd Ia rest (mWs (Ia 86) 8) j else 0) (h8 : ms 8 = own) (h9 : ms 9 = more) (h10 : ms 10 = (if 0 < (mWs (Ia 86) 8) then mLf Ia rest (mWs (Ia 86) 8) (Ia 83 8).toInt.toNat else rest))
    (hX : yX n tg (mShD (upd2 (upd2 (upd2 Ia 83 0 z) 83 5 x2) 83 6 x3) ms) Ra n1 tg1 I1 R1) : yMn I1 I1 ∧ yMb (K + 1) I1 ∧ mSm ms 8 = g := by
  have hN := hR.1
  have hK6 := hN.2.2.2.2.2.2.2.2
  have h94 := hR.2.2.2.2.2.2
  have e83 : Ia 83 = I 83 := hF.hi (by decide)
  have hm := h.2.1.ia hF
  obtain ⟨b1, b2⟩ := h.2.2.2
  have hcr : 0 ≤ crest.toInt ∧ crest.toInt ≤ 9999 := by rw [ec]; exact yMg_b hx1.1 hx1.2 hx3.1 hx3.2
  obtain ⟨g1, g2, g3⟩ := ySmo_b (al := al) (m := 9999 * (K : Int)) hcr.1 hcr.2 hx2 b1.1 b1.2 (by omega)
  rw [← es] at g1 g2 g3
  obtain ⟨r1, r2⟩ := ySh_2 (z := z) hm (by rw [e83]; exact hr.2.2.1) (by rw [e83]; omega) (fun j hj => (b2 j hj).1) g1 eo em er hms h8 h9 h10 ec es rfl rfl eg
  refine ⟨(r1.ea eA).px hK hX h94, ⟨?_, fun j hj => ?_⟩, by rw [mSm_eq, r2]⟩
  · rw [hK.2.2.1 74 (by decide), eA, upd2_row (by decide), yAddC_row (by decide), yPoR_row (by decide) (by decide), upd2_self]
    exact ⟨g2, by omega⟩
  · have e34 : Ia 34 = I 34 := by rw [eA, upd2_row (by decide), yAddC_row (by decide), yPoR_row (by decide) (by decide), upd2_row (by decide), upd2_row (by decide), upd2_row (by decide)]
    have z0 : (Int32.ofInt 0).toInt = 0 := by decide
    have h34 := hr.2.1
    rw [hK.2.2.1 76 (by decide), hK.2.2.1 34 (by decide), e34, eA, upd2_row (by decide), yAddC_row (by decide), (yPoS_k (Nat.le_refl 8)).2.1, if_pos hj, z0]
    omega
/-- days pass -/
theorem yR8.pass {m : Nat} {k : Nat} {v : Value} (h : yR8 K I R) (h7 : yR7 I1 R1) (hR : yRI K n tg I R) (hm : (I 83 1).toInt + (m : Int) ≤ 4000) (eA : Ia = yRec yDy I m) (eR : Ra = upd2 R 93 k v) (hK : yKp n tg Ia Ra n1 tg1 I1 R1) (hX : yX n tg (yRec (mDyS Ra) (upd2 Ia 83 0 z) m) Ra n1 tg1 I1 R1) : yR8 (K + 1) I1 R1 := by
  have h94 := hR.2.2.2.2.2.2
  have h6 : yR6 I R := h.1.1
  have hr := h6.1.1.1
  obtain ⟨r1, r2_, r3, r4, r5, r6, r7, r8⟩ := hr
  have hFt : yFt I Ia := fun a j ha => by
    rw [eA]
    exact congrFun (yDys_row (by omega)) j
  have hhi : ∀ a, 83 ≤ a → Ia a = I a := fun a ha => hFt.hi ha
  have hRa : yRI K n tg Ia Ra := (hR.ft hFt).outR fun a ha => by rw [eR]; exact upd2_row ha
  have hR0 : yRI K n tg (upd2 Ia 83 0 z) Ra := hRa.mod0 rfl (by decide) (by decide)
  have hM83 : ∀ j, j ≠ 0 → upd2 Ia 83 0 z 83 j = I 83 j := fun j hj => by rw [upd2_ne (.inr hj), hhi 83 (by decide)]
  have hMr : ∀ a, 84 ≤ a → upd2 Ia 83 0 z a = I a := fun a ha => by rw [upd2_row (by omega), hhi a (by omega)]
  obtain ⟨p1, p2, p3, p4_⟩ := mPa_ri hR0 m (by rw [hM83 1 (by decide)]; exact hm)
  have hLa : yLk I R Ra := by rw [eR]; exact yLk.out hR
  have h90a : ∀ q : Nat, (q : Int) < (upd2 Ia 83 0 z 90 2).toInt → 94 ≤ yAd Ra 90 q ∧ yAd Ra 90 q < n ∧ tg (yAd Ra 90 q) = (18, 0) := fun q hq => (hR0.l90.2.2.2.2 q hq).2
  have hold : ∀ a, 84 ≤ a → a ≠ 84 → a ≠ 86 → a < n → (94 ≤ a → tg a ≠ (18, 0)) → yRec (mDyS Ra) (upd2 Ia 83 0 z) m a = I a := fun a h1 h2 h3 h4 h5 => by
    rw [p4_ a (by omega) h2 h3 (fun q hq e => ?_), hMr a h1]
    have := h90a q hq
    exact h5 (by omega) (by rw [e]; exact this.2.2)
  have h0L : yL6x I (upd2 Ia 83 0 z) Ra := by
    unfold yL6x
    rw [hMr 90 (by decide), hM83 1 (by decide)]
    refine ⟨fun j hj => ?_, h6.2.2⟩
    have hq := (hR.l90.2.2.2.2 j hj).2.1
    have hr := h6.2.1 j hj
    unfold yLs0 yLsD at hr ⊢
    rw [hLa 90 (by decide) (by decide) j hj, hMr _ (by omega)]
    exact hr
  have hN := hR.1
  have h0b : yLb K n tg I (upd2 Ia 83 0 z) Ra := by
    unfold yLb
    rw [hMr 90 (by decide), hMr 88 (by decide), hM83 1 (by decide), hM83 4 (by decide)]
    refine ⟨fun j hj => ?_, fun i hi => ?_, by omega, by omega, yext r1, fun i j hij hj => ?_, hR0⟩
    · have hq := (hR.l90.2.2.2.2 j hj).2.1
      obtain ⟨q1, q2, q3⟩ := h6.1.1.2.2.2.2.1 j hj
      have hA := h6.a j hj
      rw [hLa 90 (by decide) (by decide) j hj, hMr _ (by omega)]
      exact ⟨q1, q2, q3, hA.1, by omega⟩
    · have hq := (hR.l88.2.2.2.2 i hi).2.1
      rw [hLa 88 (by decide) (by decide) i hi, hMr _ (by omega)]
      exact h6.1.1.2.2.2.1 i hi 0 (by decide)
    · rw [hLa 90 (by decide) (by decide) i (by omega), hLa 90 (by decide) (by decide) j hj]
      exact h6.1.1.2.2.1 90 (.inr rfl) i j hij hj
  have hm0 : yMn I (upd2 Ia 83 0 z) := (h.2.1.ia hFt).z
  have hd : (upd2 Ia 83 0 z 83 1).toInt + (m : Int) ≤ 4000 := by rw [hM83 1 (by decide)]; exact hm
  have h38 : (I 38 0).toInt = (upd2 Ia 83 0 z 83 8).toInt := by rw [hM83 8 (by decide)]; exact r3
  have a1 := hm0.days h0L h0b h38 m hd
  have a3 := yMb.days h.2.2.2 hm0 h0L h0b h38 m hd
  rw [← eA] at a1 a3
  refine ⟨h7, a1.px hK hX h94, ((h.2.2.1.ia hR hFt hLa).cg ?_ (fun a h1 h2 => ?_) (fun j hj => ⟨rfl, fun f hf => ?_⟩)).px (G := yRec (mDyS Ra) (upd2 Ia 83 0 z) m) hRa ?_ hK hX, a3.cg (Nat.le_succ K) (by rw [hK.2.2.1 74 (by decide)]) (hK.2.2.1 76 (by decide)) (by rw [hK.2.2.1 34 (by decide)])⟩
  · rw [hold 91 (by decide) (by decide) (by decide) (by omega) (fun q => absurd q (by decide)), hhi 91 (by decide)]
  · rw [eA]; exact yDys_row (by omega)
  · obtain ⟨w0, w1, -, w2⟩ := hRa.v4 hj
    rw [hold _ (by omega) (by omega) (by omega) (by omega) (fun _ e => by have := w2 f hf; rw [e] at this; exact absurd this (by decide)), hhi _ (by omega)]
  · rw [hold 91 (by decide) (by decide) (by decide) (by omega) (fun q => absurd q (by decide)), hhi 91 (by decide)]
/-- a word is told -/
theorem yR8.hold (h : yR8 K I R) (h7 : yR7 I1 R1) (hR : yRI K n tg I R) (hI : ∀ a, a ≠ 36 → Ia a = I a) (h83 : ∀ a, a < 83 → I1 a = Ia a) (hf : yHf n Ia I1) (hL : yLk I R R1) (hs : (I1 91 2).toInt = (I 91 2).toInt) : yR8 (K + 1) I1 R1 := by
  have h94 := hR.2.2.2.2.2.2
  have lo : ∀ a, a < 83 → a ≠ 36 → I1 a = I a := fun a h1 h2 => (h83 a h1).trans (hI a h2)
  have hi : ∀ a, 84 ≤ a → a < n → a ≠ 87 → I1 a = I a := fun a h1 h2 h3 => (hf.1 a h2 (by omega) h3).trans (hI a (by omega))
  refine ⟨h7, h.2.1.cg (fun a ha => lo a (by omega) (by omega)) (fun k hk => (hf.2 k hk).trans (congrFun (hI 83 (by decide)) k)) (fun a h1 h2 => hi a h1 (by omega) (by omega)), h.2.2.1.cg hs (fun a h1 h2 => lo a (by omega) (by omega)) (fun j hj => ⟨hL 91 (by decide) (by decide) j hj, fun f hf_ => ?_⟩), h.2.2.2.cg (Nat.le_succ K) (by rw [lo 74 (by decide) (by decide)]) (lo 76 (by decide) (by decide)) (by rw [lo 34 (by decide) (by decide)])⟩
  obtain ⟨w0, w1, -, -⟩ := hR.v4 hj
  exact hi _ (by omega) (by omega) (by omega)
/-- what an investment costs, on both sides -/
theorem inv_sum (h : yR7 I R) (hR : yRI K n tg I R) (h92 : Ia 92 2 = I 92 2) (h7 : Ia 83 7 = I 83 7) (hm : yFm n tg I Ia) (hL : yLk I R Ra) {x : Int32} (hx : 0 ≤ x.toInt ∧ x.toInt < ((2 ^ (I 92 2).toInt.toNat : Nat) : Int)) : mSum Ia Ra (Ia 83 7) 4 - mSum Ia Ra x 4 = I 81 (I 77 2).toInt.toNat - I 81 x.toInt.toNat := by
  have hN := hR.1
  obtain ⟨-, -, ⟨g1, g2, g3⟩, g4, -, -⟩ := h.2
  have cg : ∀ S : Int32, mSum Ia Ra S 4 = mSum I R S 4 := fun S => by
    unfold mSum
    rw [h92]
    exact yFz_cg fun j hj => mSumF_cg (by rw [hL 92 (by decide) (by decide) j (by omega), hm.k hR (by omega)])
  have s : ∀ S : Int32, 0 ≤ S.toInt → S.toInt < ((2 ^ (I 92 2).toInt.toNat : Nat) : Int) → mSum I R S 4 = I 81 S.toInt.toNat := fun S q1 q2 => by
    rw [(g4 S.toInt.toNat (by omega)).1, xofn q1]
  rw [cg, cg, h7, ← g1, s _ g2 g3, s _ hx.1 hx.2]
end YST9
