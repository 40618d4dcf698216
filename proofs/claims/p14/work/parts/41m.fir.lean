/-! THE FIRMS ON BOTH SIDES (rel7f.lean) -/
theorem yFz_s {f : Nat → Int32} {k : Nat} : yFz f (k + 1) = yFz f k + f k := rfl
theorem yFz_0 {f : Nat → Int32} : ∀ {k : Nat}, (∀ j, j < k → f j = Int32.ofInt 0) → yFz f k = Int32.ofInt 0
  | 0, _ => rfl
  | k + 1, h => by
    rw [yFz_s, yFz_0 fun j hj => h j (by omega), h k (by omega)]; decide
theorem yFz_1 {f : Nat → Int32} {i : Nat} : ∀ {k : Nat}, i < k → (∀ j, j < k → j ≠ i → f j = Int32.ofInt 0) → yFz f k = f i
  | k + 1, hi, h => by
    rw [yFz_s]
    by_cases e : i = k
    · subst e
      rw [yFz_0 fun j hj => h j (by omega) (by omega)]
      exact Int32.zero_add _
    · rw [yFz_1 (by omega) fun j hj hn => h j (by omega) hn, h k (by omega) (by omega)]
      exact Int32.add_zero _
theorem yFz_bd {f : Nat → Int32} : ∀ {k : Nat}, k ≤ 10 → (∀ j, j < k → 0 ≤ (f j).toInt ∧ (f j).toInt ≤ 99) → 0 ≤ (yFz f k).toInt ∧ (yFz f k).toInt ≤ 99 * (k : Int)
  | 0, _, _ => by show 0 ≤ (Int32.ofInt 0).toInt ∧ (Int32.ofInt 0).toInt ≤ _; decide
  | k + 1, hk, h => by
    have q := yFz_bd (f := f) (k := k) (by omega) fun j hj => h j (by omega)
    have q2 := h k (by omega)
    rw [yFz_s, yadd (by omega) (by omega)]; omega
/-- one firm: rows of the class, fields of the reference, bounds -/
def yFi (I : Nat → Nat → Int32) (k b : Nat) : Prop := (I 78 k = I b 0 ∧ I 79 k = I b 3 ∧ I 80 k = I b 6) ∧ (1 ≤ (I b 0).toInt ∧ (I b 0).toInt ≤ 999) ∧ (0 ≤ (I b 3).toInt ∧ (I b 3).toInt ≤ 999) ∧ (1 ≤ (I b 4).toInt ∧ (I b 4).toInt ≤ 99) ∧ (0 ≤ (I b 5).toInt ∧ (I b 5).toInt ≤ 99)
def yF7 (I : Nat → Nat → Int32) (R : Nat → Nat → Value) : Prop :=
  (∀ k : Nat, (k : Int) < (I 92 2).toInt → yFi I k (yAd R 92 k)) ∧
  I 77 1 = mCl I R (I 92 2).toInt.toNat ∧
  (I 77 2 = I 83 7 ∧ 0 ≤ (I 77 2).toInt ∧ (I 77 2).toInt < ((2 ^ (I 92 2).toInt.toNat : Nat) : Int)) ∧
  (∀ S : Nat, S < 2 ^ (I 92 2).toInt.toNat → I 81 S = mSum I R (Int32.ofInt (S : Int)) 4 ∧ I 82 S = mSum I R (Int32.ofInt (S : Int)) 5) ∧
  (∀ k : Nat, (I 92 2).toInt ≤ (k : Int) → I 80 k = Int32.ofInt 0) ∧
  (∀ i j : Nat, i < j → (j : Int) < (I 92 2).toInt → yAd R 92 i < yAd R 92 j)
section YF7
variable {I I1 : Nat → Nat → Int32} {R R1 : Nat → Nat → Value}
theorem mRC_cg {k : Nat} (h : ∀ f, f < 4 → I1 (yAd R1 92 k) f = I (yAd R 92 k) f) : mRC I1 R1 k = mRC I R k := by
  unfold mRC
  rw [h 0 (by decide), h 1 (by decide), h 2 (by decide), h 3 (by decide)]
theorem mCl_cg : ∀ {c : Nat}, (∀ k, k < c → ∀ f, f < 4 → I1 (yAd R1 92 k) f = I (yAd R 92 k) f) → mCl I1 R1 c = mCl I R c
  | 0, _ => rfl
  | c + 1, h => by
    have e := mRC_cg (h c (by omega))
    unfold mCl
    rw [mCl_cg fun k hk => h k (by omega)]
    by_cases q : mRC I R c
    · rw [if_pos q, if_pos (by rw [e]; exact q)]
    · rw [if_neg q, if_neg (by rw [e]; exact q)]
theorem mSumF_cg {S : Int32} {w j : Nat} (h : I1 (yAd R1 92 j) w = I (yAd R 92 j) w) : mSumF I1 R1 S w j = mSumF I R S w j := by
  unfold mSumF
  rw [h]
/-- the firms' rows but for gains, what is held, stay -/
theorem yF7.fr3 (h : yF7 I R) (hs : (I1 92 2).toInt = (I 92 2).toInt) (h71 : I1 77 1 = I 77 1) (h72 : I1 77 2 = I1 83 7 ∧ 0 ≤ (I1 77 2).toInt ∧ (I1 77 2).toInt < ((2 ^ (I 92 2).toInt.toNat : Nat) : Int)) (hc : I1 78 = I 78 ∧ I1 79 = I 79 ∧ I1 81 = I 81 ∧ I1 82 = I 82) (hA : ∀ k : Nat, (k : Int) < (I 92 2).toInt → yAd R1 92 k = yAd R 92 k ∧ (∀ f, f < 6 → I1 (yAd R 92 k) f = I (yAd R 92 k) f) ∧ I1 80 k = I1 (yAd R 92 k) 6) (h80 : ∀ k : Nat, (I 92 2).toInt ≤ (k : Int) → I1 80 k = I 80 k) : yF7 I1 R1 := by
  obtain ⟨h1, h2, h3, h4, h5, h6⟩ := h
  obtain ⟨c8, c9, c1, c2⟩ := hc
  have hf : ∀ k : Nat, (k : Int) < (I 92 2).toInt → ∀ f, f < 6 → I1 (yAd R1 92 k) f = I (yAd R 92 k) f := fun k hk f hf => by rw [(hA k hk).1, (hA k hk).2.1 f hf]
  refine ⟨fun k hk => ?_, ?_, ?_, fun S hS => ?_, fun k hk => ?_, fun i j hij hj => ?_⟩
  · rw [hs] at hk
    obtain ⟨a1, a2, a3⟩ := hA k hk
    obtain ⟨⟨b1, b2, b3⟩, b4⟩ := h1 k hk
    unfold yFi
    rw [c8, c9, a1, a2 0 (by decide), a2 3 (by decide), a2 4 (by decide), a2 5 (by decide)]
    exact ⟨⟨b1, b2, a3⟩, b4⟩
  · rw [hs, h71, h2]
    exact (mCl_cg fun k hk f hq => hf k (by omega) f (by omega)).symm
  · rw [hs]; exact h72
  · rw [hs] at hS
    rw [c1, c2]
    unfold mSum
    rw [hs]
    obtain ⟨e1, e2⟩ := h4 S hS
    exact ⟨e1.trans (yFz_cg fun j hj => (mSumF_cg (hf j (by omega) 4 (by decide))).symm), e2.trans (yFz_cg fun j hj => (mSumF_cg (hf j (by omega) 5 (by decide))).symm)⟩
  · rw [h80 k (by omega)]; exact h5 k (by omega)
  · rw [(hA i (by omega)).1, (hA j (by omega)).1]; exact h6 i j hij (by omega)
/-- nothing of the firms has changed -/
theorem yF7.fr (h : yF7 I R) (hs : (I1 92 2).toInt = (I 92 2).toInt) (h7 : I1 83 7 = I 83 7) (hc : ∀ a, 77 ≤ a → a ≤ 82 → I1 a = I a) (hA : ∀ k : Nat, (k : Int) < (I 92 2).toInt → yAd R1 92 k = yAd R 92 k ∧ I1 (yAd R 92 k) = I (yAd R 92 k)) : yF7 I1 R1 :=
  h.fr3 hs (by rw [hc 77 (by decide) (by decide)]) (by rw [hc 77 (by decide) (by decide), h7]; exact h.2.2.1) ⟨hc 78 (by decide) (by decide), hc 79 (by decide) (by decide), hc 81 (by decide) (by decide), hc 82 (by decide) (by decide)⟩ (fun k hk => ⟨(hA k hk).1, fun f _ => by rw [(hA k hk).2], by rw [hc 80 (by decide) (by decide), (hA k hk).2]; exact (h.1 k hk).1.2.2⟩) (fun k _ => by rw [hc 80 (by decide) (by decide)])
theorem ysh1_nat {k : Nat} (hk : k ≤ 10) : (Int32.ofInt 1 <<< (Int32.ofInt (k : Int) &&& 31)).toInt = ((2 ^ k : Nat) : Int) := by
  rcases (by omega : k = 0 ∨ k = 1 ∨ k = 2 ∨ k = 3 ∨ k = 4 ∨ k = 5 ∨ k = 6 ∨ k = 7 ∨ k = 8 ∨ k = 9 ∨ k = 10) with rfl | rfl | rfl | rfl | rfl | rfl | rfl | rfl | rfl | rfl | rfl <;> decide
theorem ysh0_nat {k : Nat} (hk : k ≤ 10) : Int32.ofInt 0 <<< (Int32.ofInt (k : Int) &&& 31) = Int32.ofInt 0 := by
  rcases (by omega : k = 0 ∨ k = 1 ∨ k = 2 ∨ k = 3 ∨ k = 4 ∨ k = 5 ∨ k = 6 ∨ k = 7 ∨ k = 8 ∨ k = 9 ∨ k = 10) with rfl | rfl | rfl | rfl | rfl | rfl | rfl | rfl | rfl | rfl | rfl <;> decide
theorem yor0 {x : Int32} : x ||| Int32.ofInt 0 = x := Int32.or_zero
theorem p2le {c : Nat} (hc : c ≤ 10) : 2 ^ c ≤ 1024 := Nat.pow_le_pow_right (n := 2) (by decide) hc
/-- the set of clean ones: in bounds, bit by bit -/
theorem mCl_b : ∀ {c : Nat}, c ≤ 10 → 0 ≤ (mCl I R c).toInt ∧ (mCl I R c).toInt < ((2 ^ c : Nat) : Int) ∧ ∀ k, k < c → (yHas (mCl I R c) (Int32.ofInt (k : Int)) ↔ mRC I R k)
  | 0, _ => by
    refine ⟨by show 0 ≤ (Int32.ofInt 0).toInt; decide, by show (Int32.ofInt 0).toInt < _; decide, fun k hk => by omega⟩
  | c + 1, hc => by
    obtain ⟨q1, q2, q3⟩ := mCl_b (c := c) (by omega)
    have hp := p2le hc
    have hp2 : 2 ^ (c + 1) = 2 * 2 ^ c := by rw [Nat.pow_succ]; omega
    by_cases q : mRC I R c
    · have e : mCl I R (c + 1) = mCl I R c ||| Int32.ofInt 1 <<< (Int32.ofInt (c : Int) &&& 31) := if_pos q
      have hy := ysh1_nat (k := c) (by omega)
      have hn := yor2 (c := c) (by omega) hy q1 (by rw [hy]; exact q2)
      rw [← e] at hn
      have hb : (mCl I R (c + 1)).toInt = (mCl I R c).toInt + ((2 ^ c : Nat) : Int) := by
        have h0 : 0 ≤ (mCl I R (c + 1)).toInt := by
          by_cases hz : 0 ≤ (mCl I R (c + 1)).toInt
          · exact hz
          · have : 0 < 2 ^ c := Nat.two_pow_pos c
            omega
        omega
      refine ⟨by omega, by omega, fun k hk => ?_⟩
      rw [yHas_tb (by omega) (by omega) (by omega), hn, Nat.add_comm]
      by_cases hkc : k = c
      · subst hkc
        rw [Nat.testBit_two_pow_add_eq, Nat.testBit_lt_two_pow (by omega)]
        exact ⟨fun _ => q, fun _ => rfl⟩
      · rw [Nat.testBit_two_pow_add_gt (by omega), ← yHas_tb q1 (by omega) (by omega)]
        exact q3 k (by omega)
    · have e : mCl I R (c + 1) = mCl I R c := (if_neg q : mCl I R (c + 1) = _).trans (by rw [ysh0_nat (by omega), yor0])
      rw [e]
      refine ⟨q1, by omega, fun k hk => ?_⟩
      by_cases hkc : k = c
      · subst hkc
        rw [yHas_tb q1 (by omega) (by omega), Nat.testBit_lt_two_pow (by omega)]
        exact ⟨fun h => absurd h (by decide), fun h => absurd h q⟩
      · exact q3 k (by omega)
theorem ofn_v {S : Nat} (h : S < 1024) : (Int32.ofInt (S : Int)).toInt = (S : Int) := Int32.toInt_ofInt_of_le (by omega) (by omega)
/-- is the firm j in the set S -/
theorem yHas_n {S j : Nat} (hS : S < 1024) (hj : j < 10) : yHas (Int32.ofInt (S : Int)) (Int32.ofInt (j : Int)) ↔ S.testBit j = true := by
  have e := ofn_v hS
  rw [yHas_tb (by omega) (by omega) hj, e]
  exact Iff.rfl
theorem mSumF_in {S w j : Nat} (hS : S < 1024) (hj : j < 10) : mSumF I R (Int32.ofInt (S : Int)) w j = if S.testBit j = true then I (yAd R 92 j) w else Int32.ofInt 0 := by
  unfold mSumF
  by_cases q : S.testBit j = true
  · rw [if_pos q, if_pos ((yHas_n hS hj).2 q)]
  · rw [if_neg q, if_neg (fun h => q ((yHas_n hS hj).1 h))]
/-- the rows of sets after a new firm -/
theorem yFiR {m : Nat} {p g : Int32} {J : Nat → Nat → Int32} : ∀ {k : Nat}, k ≤ m → (∀ S, S < m → yRec (yFiS m p g) J k 81 S = J 81 S ∧ yRec (yFiS m p g) J k 82 S = J 82 S) ∧ ∀ S, S < k → yRec (yFiS m p g) J k 81 (S + m) = J 81 S + p ∧ yRec (yFiS m p g) J k 82 (S + m) = J 82 S + g
  | 0, _ => ⟨fun _ _ => ⟨rfl, rfl⟩, fun S hS => by omega⟩
  | k + 1, hk => by
    obtain ⟨q1, q2⟩ := yFiR (m := m) (p := p) (g := g) (J := J) (k := k) (by omega)
    have e1 : ∀ S, yRec (yFiS m p g) J (k + 1) 81 S = if S = k + m then J 81 k + p else yRec (yFiS m p g) J k 81 S := fun S => by
      show upd2 (upd2 (yRec (yFiS m p g) J k) 81 (k + m) (yRec (yFiS m p g) J k 81 k + p)) 82 (k + m) (yRec (yFiS m p g) J k 82 k + g) 81 S = _
      rw [upd2_ne (.inl (by decide)), (q1 k (by omega)).1]
      simp [upd2]
    have e2 : ∀ S, yRec (yFiS m p g) J (k + 1) 82 S = if S = k + m then J 82 k + g else yRec (yFiS m p g) J k 82 S := fun S => by
      show upd2 (upd2 (yRec (yFiS m p g) J k) 81 (k + m) (yRec (yFiS m p g) J k 81 k + p)) 82 (k + m) (yRec (yFiS m p g) J k 82 k + g) 82 S = _
      rw [(q1 k (by omega)).2]
      simp [upd2]
    refine ⟨fun S hS => ?_, fun S hS => ?_⟩
    · rw [e1, e2, if_neg (by omega), if_neg (by omega)]; exact q1 S hS
    · rw [e1, e2]
      by_cases hk : S = k
      · subst hk; rw [if_pos rfl, if_pos rfl]; exact ⟨rfl, rfl⟩
      · rw [if_neg (by omega), if_neg (by omega)]; exact q2 S (by omega)
/-- a firm more: Ia what the class leaves, I1 what both leave, c how many there were -/
theorem yF7.firm {Ia : Nat → Nat → Int32} {c b : Nat} {x1 x2 x3 x4 x5 x6 cl : Int32} (h : yF7 I R) (hc : (I 92 2).toInt = (c : Int)) (hc9 : c ≤ 9) (h77 : (I 77 0).toInt = (c : Int)) (eA : Ia = yFiD I x1 x4 x5 x6 cl) (hl : ∀ a, 77 ≤ a → a ≤ 82 → I1 a = Ia a) (hcl : (yCln x1 x2 x3 x4 ∧ cl = Int32.ofInt 1) ∨ (¬ yCln x1 x2 x3 x4 ∧ cl = Int32.ofInt 0)) (h7 : I1 83 7 = I 83 7) (hs : (I1 92 2).toInt = (c : Int) + 1) (hA : ∀ k, k < c → yAd R1 92 k = yAd R 92 k ∧ I1 (yAd R 92 k) = I (yAd R 92 k)) (hlt : ∀ k, k < c → yAd R 92 k < b) (hb : yAd R1 92 c = b) (g0 : I1 b 0 = x1) (g1 : I1 b 1 = x2) (g2 : I1 b 2 = x3) (g3 : I1 b 3 = x4) (g4 : I1 b 4 = x5) (g5 : I1 b 5 = x6) (g6 : I1 b 6 = Int32.ofInt 0) (k1 : 1 ≤ x1.toInt ∧ x1.toInt ≤ 999) (k4 : 0 ≤ x4.toInt ∧ x4.toInt ≤ 999) (k5 : 1 ≤ x5.toInt ∧ x5.toInt ≤ 99) (k6 : 0 ≤ x6.toInt ∧ x6.toInt ≤ 99) : yF7 I1 R1 := by
  obtain ⟨h1, h2, h3, h4, h5, h6⟩ := h
  have hn : (I 92 2).toInt.toNat = c := by omega
  have hn1 : (I1 92 2).toInt.toNat = c + 1 := by omega
  have h7n : (I 77 0).toInt.toNat = c := by omega
  rw [hn] at h2 h3 h4
  have hp := p2le (c := c + 1) (by omega)
  have hp2 : 2 ^ (c + 1) = 2 * 2 ^ c := by rw [Nat.pow_succ]; omega
  have hp0 : 0 < 2 ^ c := Nat.two_pow_pos c
  have hf : ∀ k, k < c → ∀ f, I1 (yAd R1 92 k) f = I (yAd R 92 k) f := fun k hk f => by rw [(hA k hk).1, (hA k hk).2]
  -- the class's rows
  have rE : ∀ (J : Nat → Nat → Int32) (it z : Int32) (a : Nat), a ≠ 77 → yFiE J it z a = J a := fun J it z a ha => by
    unfold yFiE
    split
    · exact upd2_row ha
    · rw [upd2_row ha, upd2_row ha]
  have rR : ∀ a, a ≠ 77 → a ≠ 81 → a ≠ 82 → Ia a = upd2 (upd2 I 78 c x1) 79 c x4 a := fun a q1 q2 q3 => by
    rw [eA]
    unfold yFiD
    rw [rE _ _ _ _ q1, yRec_keep fun J k _ _ => yFiS_row q2 q3, h7n]
  have r78 : ∀ k, I1 78 k = if k = c then x1 else I 78 k := fun k => by
    rw [hl 78 (by decide) (by decide), rR 78 (by decide) (by decide) (by decide), upd2_row (by decide)]; simp [upd2]
  have r79 : ∀ k, I1 79 k = if k = c then x4 else I 79 k := fun k => by
    rw [hl 79 (by decide) (by decide), rR 79 (by decide) (by decide) (by decide)]; simp [upd2]
  have r80 : I1 80 = I 80 := by
    rw [hl 80 (by decide) (by decide), rR 80 (by decide) (by decide) (by decide), upd2_row (by decide), upd2_row (by decide)]
  obtain ⟨s1, s2⟩ := yFiR (m := 2 ^ c) (p := x5) (g := x6) (J := upd2 (upd2 I 78 c x1) 79 c x4) (k := 2 ^ c) (Nat.le_refl _)
  have rS : ∀ a, a = 81 ∨ a = 82 → I1 a = yRec (yFiS (2 ^ c) x5 x6) (upd2 (upd2 I 78 c x1) 79 c x4) (2 ^ c) a := fun a ha => by
    rw [hl a (by omega) (by omega), eA]
    unfold yFiD
    rw [rE _ _ _ _ (by omega), h7n]
  have eJ : upd2 (upd2 I 78 c x1) 79 c x4 81 = I 81 ∧ upd2 (upd2 I 78 c x1) 79 c x4 82 = I 82 := ⟨by rw [upd2_row (by decide), upd2_row (by decide)], by rw [upd2_row (by decide), upd2_row (by decide)]⟩
  rw [eJ.1, eJ.2] at s1 s2
  have hy : (ySh1 (I 77 0)).toInt = ((2 ^ c : Nat) : Int) := by rw [ySh1_v (by omega) (by omega), h7n]
  have hyc : ySh1 (I 77 0) = Int32.ofInt 1 <<< (Int32.ofInt (c : Int) &&& 31) := yext (hy.trans (ysh1_nat (by omega)).symm)
  have r771 : I1 77 1 = if yCln x1 x2 x3 x4 then I 77 1 ||| ySh1 (I 77 0) else I 77 1 := by
    rw [hl 77 (by decide) (by decide), eA]
    unfold yFiD
    have base : ∀ k, yRec (yFiS (2 ^ (I 77 0).toInt.toNat) x5 x6) (upd2 (upd2 I 78 (I 77 0).toInt.toNat x1) 79 (I 77 0).toInt.toNat x4) (2 ^ (I 77 0).toInt.toNat) 77 k = I 77 k := fun k => by
      rw [yRec_keep fun J k _ _ => yFiS_row (by decide) (by decide), upd2_row (by decide), upd2_row (by decide)]
    unfold yFiE
    rcases hcl with ⟨q, e⟩ | ⟨q, e⟩
    · rw [if_pos q, if_neg (by rw [e]; decide), upd2_ne (.inr (by decide)), upd2_self, base]
    · rw [if_neg q, if_pos (by rw [e]; decide), upd2_ne (.inr (by decide)), base]
  have r772 : I1 77 2 = I 77 2 := by
    rw [hl 77 (by decide) (by decide), eA]
    unfold yFiD
    have base : ∀ k, yRec (yFiS (2 ^ (I 77 0).toInt.toNat) x5 x6) (upd2 (upd2 I 78 (I 77 0).toInt.toNat x1) 79 (I 77 0).toInt.toNat x4) (2 ^ (I 77 0).toInt.toNat) 77 k = I 77 k := fun k => by
      rw [yRec_keep fun J k _ _ => yFiS_row (by decide) (by decide), upd2_row (by decide), upd2_row (by decide)]
    unfold yFiE
    split
    · rw [upd2_ne (.inr (by decide)), base]
    · rw [upd2_ne (.inr (by decide)), upd2_ne (.inr (by decide)), base]
  have hrc : mRC I1 R1 c = yCln x1 x2 x3 x4 := by unfold mRC; rw [hb, g0, g1, g2, g3]
  refine ⟨fun k hk => ?_, ?_, ?_, fun S hS => ?_, fun k hk => ?_, fun i j hij hj => ?_⟩
  · unfold yFi
    rw [r78, r79, r80]
    by_cases hkc : k = c
    · subst hkc
      rw [if_pos rfl, if_pos rfl, hb, g0, g3, g4, g5, g6]
      exact ⟨⟨rfl, rfl, h5 k (by omega)⟩, k1, k4, k5, k6⟩
    · rw [if_neg hkc, if_neg hkc, (hA k (by omega)).1, (hA k (by omega)).2]
      exact h1 k (by omega)
  · rw [hn1, r771]
    show _ = if mRC I1 R1 c then mCl I1 R1 c ||| Int32.ofInt 1 <<< (Int32.ofInt (c : Int) &&& 31) else mCl I1 R1 c ||| Int32.ofInt 0 <<< (Int32.ofInt (c : Int) &&& 31)
    have e : mCl I1 R1 c = mCl I R c := mCl_cg fun k hk f _ => hf k hk f
    by_cases q : yCln x1 x2 x3 x4
    · rw [if_pos q, if_pos (by rw [hrc]; exact q), e, h2, hyc]
    · rw [if_neg q, if_neg (by rw [hrc]; exact q), e, h2, ysh0_nat (by omega), yor0]
  · rw [hn1, r772, h7]
    exact ⟨h3.1, h3.2.1, by have := h3.2.2; omega⟩
  · rw [hn1] at hS
    have key : ∀ (w : Nat) (T : Nat), T < 2 ^ c → mSum I1 R1 (Int32.ofInt (T : Int)) w = mSum I R (Int32.ofInt (T : Int)) w ∧ mSum I1 R1 (Int32.ofInt ((T + 2 ^ c : Nat) : Int)) w = mSum I R (Int32.ofInt (T : Int)) w + I1 b w := fun w T hT => by
      unfold mSum
      rw [hn1, hn, yFz_s, yFz_s]
      refine ⟨?_, ?_⟩
      · rw [mSumF_in (j := c) (by omega) (by omega), Nat.testBit_lt_two_pow hT, if_neg (by decide), show ∀ z : Int32, z + Int32.ofInt 0 = z from fun z => Int32.add_zero z]
        exact yFz_cg fun j hj => mSumF_cg (hf j hj w)
      · rw [mSumF_in (j := c) (by omega) (by omega), Nat.add_comm T, Nat.testBit_two_pow_add_eq, Nat.testBit_lt_two_pow hT, if_pos (by decide), hb]
        refine congrArg (· + I1 b w) (yFz_cg fun j hj => ?_)
        rw [mSumF_in (by omega) (by omega), mSumF_in (by omega) (by omega), Nat.testBit_two_pow_add_gt hj, hf j hj w]
    rw [rS 81 (.inl rfl), rS 82 (.inr rfl)]
    by_cases hlo : S < 2 ^ c
    · obtain ⟨e1, e2⟩ := s1 S hlo
      obtain ⟨q1, q2⟩ := h4 S hlo
      rw [e1, e2, (key 4 S hlo).1, (key 5 S hlo).1]
      exact ⟨q1, q2⟩
    · obtain ⟨e1, e2⟩ := s2 (S - 2 ^ c) (by omega)
      obtain ⟨q1, q2⟩ := h4 (S - 2 ^ c) (by omega)
      have k4 := (key 4 (S - 2 ^ c) (by omega)).2
      have k5 := (key 5 (S - 2 ^ c) (by omega)).2
      rw [show S - 2 ^ c + 2 ^ c = S by omega] at e1 e2 k4 k5
      rw [e1, e2, k4, k5, q1, q2, g4, g5]
      exact ⟨rfl, rfl⟩
  · rw [r80]; exact h5 k (by omega)
  · by_cases hjc : j = c
    · subst hjc
      rw [(hA i hij).1, hb]; exact hlt i hij
    · rw [(hA i (by omega)).1, (hA j (by omega)).1]; exact h6 i j hij (by omega)
theorem yF7.inj (h : yF7 I R) {i j : Nat} (hi : (i : Int) < (I 92 2).toInt) (hj : (j : Int) < (I 92 2).toInt) (e : yAd R 92 i = yAd R 92 j) : i = j := by
  by_cases h1 : i < j
  · have := h.2.2.2.2.2 i j h1 hj; omega
  · by_cases h2 : j < i
    · have := h.2.2.2.2.2 j i h2 hi; omega
    · omega
/-- a gain is tainted: t of it, at the firm x, object b -/
theorem yF7.dividend {x b : Nat} {t : Int32} (h : yF7 I R) (hx : (x : Int) < (I 92 2).toInt) (hb : b = yAd R 92 x) (hs : (I1 92 2).toInt = (I 92 2).toInt) (h77 : I1 77 = I 77) (h7 : I1 83 7 = I 83 7) (hc : I1 78 = I 78 ∧ I1 79 = I 79 ∧ I1 81 = I 81 ∧ I1 82 = I 82) (h80 : ∀ k, I1 80 k = if k = x then I 80 x + t else I 80 k) (hL : ∀ k : Nat, (k : Int) < (I 92 2).toInt → yAd R1 92 k = yAd R 92 k) (hO : ∀ a, (∃ k : Nat, (k : Int) < (I 92 2).toInt ∧ a = yAd R 92 k) → ∀ f, I1 a f = if a = b ∧ f = 6 then I b 6 + t else I a f) : yF7 I1 R1 := by
  refine h.fr3 hs (by rw [h77]) (by rw [h77, h7]; exact h.2.2.1) hc (fun k hk => ⟨hL k hk, fun f hf => ?_, ?_⟩) (fun k hk => ?_)
  · rw [hO _ ⟨k, hk, rfl⟩ f, if_neg (by omega)]
  · rw [hO _ ⟨k, hk, rfl⟩ 6, h80]
    by_cases hkx : k = x
    · subst hkx
      rw [if_pos rfl, if_pos ⟨hb.symm, rfl⟩, (h.1 k hk).1.2.2, hb]
    · rw [if_neg hkx, if_neg (fun q => hkx (h.inj hk hx (q.1.trans hb)))]
      exact (h.1 k hk).1.2.2
  · rw [h80, if_neg (by omega)]
theorem yTnt_eq {a q d : Int32} : mTnt a q d = yTnt a q d := by
  unfold mTnt yTnt
  rw [show d * q + a - Int32.ofInt 1 = d * q + (a - Int32.ofInt 1) by grind]
  unfold yMnn
  refine yext ?_
  split <;> split <;> simp only [Int32.lt_iff_toInt_lt] at * <;> omega
theorem yOF_cg {c c' h h' : Prop} [Decidable c] [Decidable c'] [Decidable h] [Decidable h'] {g p q : Int32} {w : Int} (e1 : c ↔ c') (e2 : h ↔ h') : yOF c h g p q w = yOF c' h' g p q w := by
  unfold yOF
  by_cases q1 : c <;> by_cases q2 : h <;> simp [q1, q2, e1.symm, e2.symm]
/-- the clean set, bit by bit -/
theorem yF7.cl (h : yF7 I R) {x : Int32} (h0 : 0 ≤ x.toInt) (h1 : x.toInt < (I 92 2).toInt) (hc : (I 92 2).toInt ≤ 10) : yHas (I 77 1) x ↔ mRC I R x.toInt.toNat := by
  have q := (mCl_b (I := I) (R := R) (c := (I 92 2).toInt.toNat) (by omega)).2.2 x.toInt.toNat (by omega)
  rw [xofn h0] at q
  rw [h.2.1]; exact q
/-- the row of the set of one firm -/
theorem yF7.one (h : yF7 I R) {x b : Nat} (h1 : (x : Int) < (I 92 2).toInt) (hc : (I 92 2).toInt ≤ 10) (hb : b = yAd R 92 x) : I 81 (2 ^ x) = I b 4 ∧ I 82 (2 ^ x) = I b 5 := by
  have hp := p2le (c := (I 92 2).toInt.toNat) (by omega)
  have hlt : 2 ^ x < 2 ^ (I 92 2).toInt.toNat := Nat.pow_lt_pow_right (by decide) (by omega)
  have e : ∀ w, mSum I R (Int32.ofInt ((2 ^ x : Nat) : Int)) w = I b w := fun w => by
    unfold mSum
    rw [yFz_1 (i := x) (by omega) fun j hj hn => ?_, mSumF_in (by omega) (by omega), Nat.testBit_two_pow_self, if_pos rfl, hb]
    rw [mSumF_in (by omega) (by omega), Nat.testBit_two_pow_of_ne (by omega), if_neg (by decide)]
  obtain ⟨q1, q2⟩ := h.2.2.2.1 (2 ^ x) hlt
  exact ⟨q1.trans (e 4), q2.trans (e 5)⟩
theorem yF7.ofFirm (h : yF7 I R) {x : Int32} {b : Nat} {w : Int} (h0 : 0 ≤ x.toInt) (h1 : x.toInt < (I 92 2).toInt) (hc : (I 92 2).toInt ≤ 10) (hb : b = yAd R 92 x.toInt.toNat) : yOF (((I 77 1 >>> (x &&& 31)) &&& Int32.ofInt 1).toInt = 1) (((I 77 2 >>> (x &&& 31)) &&& Int32.ofInt 1).toInt = 1) (I 80 x.toInt.toNat) (I 81 (Int32.ofInt 1 <<< (x &&& 31)).toInt.toNat) (I 82 (Int32.ofInt 1 <<< (x &&& 31)).toInt.toNat) w = yOF (mRC I R x.toInt.toNat) (((I 83 7 >>> (x &&& 31)) &&& Int32.ofInt 1).toInt = 1) (I b 6) (I b 4) (I b 5) w := by
  have e2 : (Int32.ofInt 1 <<< (x &&& 31)).toInt.toNat = 2 ^ x.toInt.toNat := by
    have := ySh1_v (k := x) h0 (by omega)
    unfold ySh1 at this
    rw [this]; exact Int.toNat_natCast _
  obtain ⟨q1, q2⟩ := h.one (x := x.toInt.toNat) (by omega) hc hb
  rw [e2, q1, q2, show I 80 x.toInt.toNat = I b 6 by rw [hb]; exact (h.1 _ (by omega)).1.2.2, h.2.2.1.1]
  exact yOF_cg (h.cl h0 h1 hc) Iff.rfl
/-- the sums of a set, in bounds -/
theorem yF7.sum (h : yF7 I R) (hc : (I 92 2).toInt ≤ 10) {S : Nat} (hS : S < 1024) : 0 ≤ (mSum I R (Int32.ofInt (S : Int)) 5).toInt ∧ (mSum I R (Int32.ofInt (S : Int)) 5).toInt ≤ 990 := by
  have q := yFz_bd (f := mSumF I R (Int32.ofInt (S : Int)) 5) (k := (I 92 2).toInt.toNat) (by omega) fun j hj => by
    rw [mSumF_in hS (by omega)]
    split
    · have := (h.1 j (by omega)).2.2.2.2; omega
    · decide
  unfold mSum; omega
/-- the best set is one on both sides -/
theorem yF7.best (h : yF7 I R) (h0 : 0 ≤ (I 92 2).toInt) (hc : (I 92 2).toInt ≤ 10) {cl bud : Int32} : ∀ {k : Nat}, k ≤ 2 ^ (I 92 2).toInt.toNat → yBe (I 81) (I 82) cl bud k = mBe I R cl bud k ∧ 0 ≤ (mBe I R cl bud k).toInt ∧ (mBe I R cl bud k).toInt < ((2 ^ (I 92 2).toInt.toNat : Nat) : Int)
  | 0, _ => by
    have := Nat.two_pow_pos (I 92 2).toInt.toNat
    refine ⟨rfl, by show 0 ≤ (Int32.ofInt 0).toInt; decide, ?_⟩
    show (Int32.ofInt 0).toInt < _
    rw [show (Int32.ofInt 0).toInt = 0 by decide]; omega
  | k + 1, hk => by
    have hp := p2le (c := (I 92 2).toInt.toNat) (by omega)
    obtain ⟨e, q0, q1⟩ := h.best h0 hc (cl := cl) (bud := bud) (k := k) (by omega)
    have ek := ofn_v (S := k) (by omega)
    have hbn : Int32.ofInt (((mBe I R cl bud k).toInt.toNat : Nat) : Int) = mBe I R cl bud k := xofn q0
    have s1 := h.sum hc (S := k) (by omega)
    have s2 := h.sum hc (S := (mBe I R cl bud k).toInt.toNat) (by omega)
    rw [hbn] at s2
    obtain ⟨a4, a5⟩ := h.2.2.2.1 k (by omega)
    obtain ⟨b4, b5⟩ := h.2.2.2.1 (mBe I R cl bud k).toInt.toNat (by omega)
    rw [hbn] at b4 b5
    have hsub : (mSum I R (Int32.ofInt (k : Int)) 5 - mSum I R (mBe I R cl bud k) 5).toInt = (mSum I R (Int32.ofInt (k : Int)) 5).toInt - (mSum I R (mBe I R cl bud k) 5).toInt := ysub (by omega) (by omega)
    have hst : yBeS (I 81) (I 82) cl bud (mBe I R cl bud k) (Int32.ofInt (k : Int)) = mBeS I R cl bud (mBe I R cl bud k) (Int32.ofInt (k : Int)) := by
      unfold yBeS mBeS
      rw [show (Int32.ofInt (k : Int)).toInt.toNat = k by omega, a4, a5, b4, b5, hsub]
      exact ite_congr (propext ⟨fun ⟨r1, r2, r3⟩ => ⟨r1, r2, by omega⟩, fun ⟨r1, r2, r3⟩ => ⟨r1, r2, by omega⟩⟩) (fun _ => rfl) (fun _ => rfl)
    refine ⟨?_, ?_⟩
    · show yBeS (I 81) (I 82) cl bud (yBe (I 81) (I 82) cl bud k) (Int32.ofInt (k : Int)) = mBeS I R cl bud (mBe I R cl bud k) (Int32.ofInt (k : Int))
      rw [e]; exact hst
    · show 0 ≤ (mBeS I R cl bud (mBe I R cl bud k) (Int32.ofInt (k : Int))).toInt ∧ (mBeS I R cl bud (mBe I R cl bud k) (Int32.ofInt (k : Int))).toInt < _
      unfold mBeS
      split
      · omega
      · exact ⟨q0, q1⟩
/-- what may be held: asked in two ways -/
theorem ysh_in {x c : Int32} (h0 : 0 ≤ c.toInt) (hc : c.toInt ≤ 10) : (0 ≤ x.toInt ∧ x.toInt < (Int32.ofInt 1 <<< (c &&& 31)).toInt) ↔ (0 ≤ x.toInt ∧ (x >>> (c &&& 31)).toInt = 0) := by
  have e2 : (Int32.ofInt 1 <<< (c &&& 31)).toInt = ((2 ^ c.toInt.toNat : Nat) : Int) := ySh1_v h0 hc
  rw [e2]
  refine and_congr_right fun hx => ?_
  have hc' : c = Int32.ofInt c.toInt := (Int32.ofInt_toInt c).symm
  have key : (x >>> (c &&& 31)).toInt = x.toInt / ((2 ^ c.toInt.toNat : Nat) : Int) := by
    have hm : ∃ k : Nat, k ≤ 10 ∧ c = Int32.ofInt (k : Int) := ⟨c.toInt.toNat, by omega, (xofn h0).symm⟩
    obtain ⟨k, hk, rfl⟩ := hm
    rw [ofn_v (by omega), Int.toNat_natCast]
    rw [← Int32.toInt_toBitVec, Int32.toBitVec_shiftRight]
    rcases (by omega : k = 0 ∨ k = 1 ∨ k = 2 ∨ k = 3 ∨ k = 4 ∨ k = 5 ∨ k = 6 ∨ k = 7 ∨ k = 8 ∨ k = 9 ∨ k = 10) with rfl | rfl | rfl | rfl | rfl | rfl | rfl | rfl | rfl | rfl | rfl <;> simp [BitVec.toInt_sshiftRight, Int.shiftRight_eq_div_pow]
  rw [key]
  have hp := Nat.two_pow_pos c.toInt.toNat
  constructor
  · intro q; exact Int.ediv_eq_zero_of_lt hx q
  · intro q
    by_cases hlt : x.toInt < ((2 ^ c.toInt.toNat : Nat) : Int)
    · exact hlt
    · have := (Int.le_ediv_iff_mul_le (c := ((2 ^ c.toInt.toNat : Nat) : Int)) (a := 1) (b := x.toInt) (by omega)).2 (by omega)
      omega
end YF7
/-- old firms stay as they are -/
def yFm (n : Nat) (tg : Nat → yT) (I I1 : Nat → Nat → Int32) : Prop := ∀ a, 94 ≤ a → a < n → tg a = (0, 7) → I1 a = I a
def yR7 (I : Nat → Nat → Int32) (R : Nat → Nat → Value) : Prop := yR6 I R ∧ yF7 I R
section YF7G
variable {K n n1 : Nat} {tg tg1 : Nat → yT} {I Ia I1 J G : Nat → Nat → Int32} {R R1 : Nat → Nat → Value}
theorem yFm.rr : yFm n tg I I := fun _ _ _ _ => rfl
theorem yFm.rf (h : yRf n I R I1 R1) : yFm n tg I I1 := fun a h1 h2 _ => h.1 a h2 (by omega)
theorem yFm.hf (h : yHf n I I1) : yFm n tg I I1 := fun a h1 h2 _ => h.1 a h2 (by omega) (by omega)
theorem yFm.ft (h : yFt I Ia) : yFm n tg I Ia := fun a h1 _ _ => funext fun k => h a k (.inr (.inl (by omega)))
theorem yFm.gm (hg : yGm n I1 G) (h : yFm n tg I G) : yFm n tg I I1 := fun a h1 h2 h3 => (hg a h1 h2).trans (h a h1 h2 h3)
theorem yFm.x (hX : yX n tg J R n1 tg1 I1 R1) (h : yFm n tg I J) : yFm n tg I I1 := fun a h1 h2 h3 => (hX.n h2).trans (h a h1 h2 h3)
theorem yFm.up {a k : Nat} {x : Int32} (h : yFm n tg I J) (hb : a < 94 ∨ tg a ≠ (0, 7)) : yFm n tg I (upd2 J a k x) := fun c h1 h2 h3 => (upd2_row (fun e => by
  rcases hb with q | q
  · omega
  · exact q (by rw [← e]; exact h3))).trans (h c h1 h2 h3)
theorem yFm.addC {p x : Int32} (h : yFm n tg I J) : yFm n tg I (mAddC J p x) := by
  unfold mAddC
  split
  · exact h
  · exact h.up (.inl (by decide))
theorem yFm.prD {b : Nat} {r : Int32} (h : yFm n tg I J) (hb : tg (b + 1 + 3) ≠ (0, 7)) : yFm n tg I (mPrD J b r) := fun c h1 h2 h3 => (mPrD_row (by omega) (fun e => hb (by rw [← e]; exact h3))).trans (h c h1 h2 h3)
theorem yFm.lsD {b : Nat} {le : Nat → Int32} (h : yFm n tg I J) (hb : tg (b + 1 + 1) ≠ (0, 7)) : yFm n tg I (mLsD J b le) := fun c h1 h2 h3 => (mLsD_row (fun e => hb (by rw [← e]; exact h3))).trans (h c h1 h2 h3)
theorem yFm.shD {ms : Nat → Int32} (h : yFm n tg I J) : yFm n tg I (mShD J ms) := fun c h1 h2 h3 => (mShD_row (by omega) (by omega) (by omega) (by omega)).trans (h c h1 h2 h3)
theorem yRI.g88 (h : yRI K n tg I R) {x b : Nat} (hx : (x : Int) < (I 88 2).toInt) (hb : b = yAd R 88 x) : tg b ≠ (0, 7) := by rw [hb, (h.l88.2.2.2.2 x hx).2.2.2]; decide
theorem yRI.g89 (h : yRI K n tg I R) {x b : Nat} (hx : (x : Int) < (I 89 2).toInt) (hb : b = yAd R 89 x) : tg b ≠ (0, 7) := by rw [hb, (h.l89.2.2.2.2 x hx).2.2.2]; decide
theorem yRI.g90 (h : yRI K n tg I R) {x b : Nat} (hx : (x : Int) < (I 90 2).toInt) (hb : b = yAd R 90 x) : tg b ≠ (0, 7) := by rw [hb, (h.l90.2.2.2.2 x hx).2.2.2]; decide
theorem yRI.g91 (h : yRI K n tg I R) {x b : Nat} (hx : (x : Int) < (I 91 2).toInt) (hb : b = yAd R 91 x) : tg (b + 1 + 0) ≠ (0, 7) ∧ tg (b + 1 + 1) ≠ (0, 7) ∧ tg (b + 1 + 2) ≠ (0, 7) ∧ tg (b + 1 + 3) ≠ (0, 7) := by
  obtain ⟨-, q0, q1, q2⟩ := h.l91.2.2.2.2 x hx
  rw [hb]
  exact ⟨by rw [(h.ven q0 q1 q2 (j := 0) (by decide)).2.2]; decide, by rw [(h.ven q0 q1 q2 (j := 1) (by decide)).2.2]; decide, by rw [(h.ven q0 q1 q2 (j := 2) (by decide)).2.2]; decide, by rw [(h.ven q0 q1 q2 (j := 3) (by decide)).2.2]; decide⟩
theorem yF7.st (h : yF7 I R) (hR : yRI K n tg I R) (hs : (I1 92 2).toInt = (I 92 2).toInt) (h7 : I1 83 7 = I 83 7) (hc : ∀ a, 77 ≤ a → a ≤ 82 → I1 a = I a) (hL : yLk I R R1) (hm : yFm n tg I I1) : yF7 I1 R1 :=
  h.fr hs h7 hc fun k hk => by
    obtain ⟨-, q0, q1, q2⟩ := hR.l92.2.2.2.2 k hk
    exact ⟨hL 92 (by decide) (by decide) k hk, hm _ q0 q1 q2⟩
theorem yF7.out {k : Nat} {v : Value} (h : yF7 I R) (h3 : yRI K n tg I R) : yF7 I (upd2 R 93 k v) := h.st h3 rfl rfl (fun _ _ _ => rfl) (yLk.out h3) yFm.rr
theorem yF7.ft (h : yF7 I R) (h3 : yRI K n tg I R) (hF : yFu7 I I1) : yF7 I1 R :=
  h.st h3 (by rw [hF 92 2 (.inr (.inl (by decide)))]) (hF 83 7 (.inr (.inl (by decide)))) hF.f yLk.rf (yFm.ft hF.ft)
theorem yF7.gx (h : yF7 I R) (h3 : yRI K n tg I R) (hX : yX n tg I R n1 tg1 I1 R1) : yF7 I1 R1 := by
  have h94 := h3.2.2.2.2.2.2
  exact h.st h3 (by rw [hX.n (show 92 < n by omega)]) (by rw [hX.n (show 83 < n by omega)]) (fun a h1 h2 => hX.n (by omega)) (yLk.gx h3 hX) (yFm.x hX yFm.rr)
theorem yF7.rf (h : yF7 I R) (h3 : yRI K n tg I R) (hr : yRf n I R I1 R1) : yF7 I1 R1 := by
  have h94 := h3.2.2.2.2.2.2
  exact h.st h3 (by rw [hr.1 92 (by omega) (by decide)]) (hr.2.1 7 (by decide)) (fun a h1 h2 => hr.1 a (by omega) (by omega)) (yLk.oldR h3 hr.2.2) (yFm.rf hr)
theorem yR7.out {k : Nat} {v : Value} (h : yR7 I R) (h3 : yRI K n tg I R) : yR7 I (upd2 R 93 k v) := ⟨h.1.out h3, h.2.out h3⟩
theorem yR7.ft (h : yR7 I R) (h3 : yRI K n tg I R) (hF : yFu7 I I1) (hB : yKeep yCF4 I I1) : yR7 I1 R := ⟨h.1.ft h3 hF.u hB, h.2.ft h3 hF⟩
theorem yR7.gx (h : yR7 I R) (h3 : yRI K n tg I R) (hX : yX n tg I R n1 tg1 I1 R1) : yR7 I1 R1 := ⟨h.1.gx h3 hX, h.2.gx h3 hX⟩
theorem yR7.kp (h : yR7 I R) (h3 : yRI K n tg I R) (hK : yKp n tg I R n1 tg1 I1 R1) (hB : yKeep yMF4 I I1) (hO : yKeepO yLO6 n tg I I1) (hL : yLk I R R1) (h7 : I1 83 7 = I 83 7) (hm : yFm n tg I I1) : yR7 I1 R1 := by
  have hB' := hB
  obtain ⟨-, -, -, -, -, m6, -⟩ := hB'
  exact ⟨h.1.kp h3 hK hB hO hL, h.2.st h3 (congrArg Int32.toInt m6) h7 (fun a _ h2 => hK.2.2.1 a (by omega)) hL hm⟩
/-- rows that the wider frames speak of -/
theorem yFu.of (h : ∀ a, a ≠ 34 → a ≠ 35 → a ≠ 37 → a ≠ 38 → a ≠ 39 → ¬ (69 ≤ a ∧ a ≤ 82) → Ia a = I a) : yFu I Ia := fun a k ha => by
  have hq : a < 34 ∨ 83 ≤ a ∨ a = 36 ∨ 40 ≤ a ∧ a ≤ 68 := by
    rcases ha with q | q | q | q
    · exact .inl q
    · exact .inr (.inl q)
    · exact .inr (.inr (.inl q))
    · unfold p4 at q
      rw [Bool.and_eq_true] at q
      exact .inr (.inr (.inr ⟨Nat.le_of_ble_eq_true q.1, Nat.le_of_ble_eq_true q.2⟩))
  rw [h a (by omega) (by omega) (by omega) (by omega) (by omega) (by omega)]
/-- what the best holding tells -/
def yBv (I : Nat → Nat → Int32) (x1 x2 : Int32) : Int32 := if x2.toInt = 0 then I 82 (yBe (I 81) (I 82) (I 77 1) x1 (Int32.ofInt 1 <<< (I 77 0 &&& 31)).toInt.toNat).toInt.toNat else yBe (I 81) (I 82) (I 77 1) x1 (Int32.ofInt 1 <<< (I 77 0 &&& 31)).toInt.toNat
def mBv (I : Nat → Nat → Int32) (R : Nat → Nat → Value) (x1 x2 : Int32) : Int32 := if x2.toInt = 0 then mSum I R (mBe I R (mCl I R (I 92 2).toInt.toNat) x1 (Int32.ofInt 1 <<< (I 92 2 &&& 31)).toInt.toNat) 5 else mBe I R (mCl I R (I 92 2).toInt.toNat) x1 (Int32.ofInt 1 <<< (I 92 2 &&& 31)).toInt.toNat
theorem yF7.bv (h : yF7 I R) (hn : (I 77 0).toInt = (I 92 2).toInt) (h0 : 0 ≤ (I 92 2).toInt) (hc : (I 92 2).toInt ≤ 10) {x1 x2 : Int32} : yBv I x1 x2 = mBv I R x1 x2 := by
  have e : I 77 0 = I 92 2 := yext hn
  have e2 : (Int32.ofInt 1 <<< (I 92 2 &&& 31)).toInt.toNat = 2 ^ (I 92 2).toInt.toNat := by
    have := ySh1_v (k := I 92 2) h0 hc
    unfold ySh1 at this
    rw [this]; exact Int.toNat_natCast _
  obtain ⟨q1, q2, q3⟩ := h.best h0 hc (cl := I 77 1) (bud := x1) (k := 2 ^ (I 92 2).toInt.toNat) (Nat.le_refl _)
  unfold yBv mBv
  rw [e, e2, q1, h.2.1]
  rw [h.2.1] at q2 q3
  obtain ⟨-, b5⟩ := h.2.2.2.1 _ (show (mBe I R (mCl I R (I 92 2).toInt.toNat) x1 (2 ^ (I 92 2).toInt.toNat)).toInt.toNat < 2 ^ (I 92 2).toInt.toNat by omega)
  rw [b5, xofn q2]
section
variable {c s : Nat} {Q : yQ}
end
end YF7G
section YF7H
variable {K n n1 : Nat} {tg tg1 : Nat → yT} {I Ia I1 J G : Nat → Nat → Int32} {R Ra R1 : Nat → Nat → Value}
theorem yFm.k (h : yFm n tg I I1) (hR : yRI K n tg I R) {k : Nat} (hk : (k : Int) < (I 92 2).toInt) : I1 (yAd R 92 k) = I (yAd R 92 k) := by
  obtain ⟨-, q0, q1, q2⟩ := hR.l92.2.2.2.2 k hk
  exact h _ q0 q1 q2
theorem yFm.lt (hR : yRI K n tg I R) {k : Nat} (hk : (k : Int) < (I 92 2).toInt) : yAd R 92 k < n := (hR.l92.2.2.2.2 k hk).2.2.1
/-- how many sets there are -/
theorem ysh_v (hn : (I 77 0).toInt = (I 92 2).toInt) (h0 : 0 ≤ (I 92 2).toInt) (hc : (I 92 2).toInt ≤ 10) : (Int32.ofInt 1 <<< (I 77 0 &&& 31)).toInt = ((2 ^ (I 92 2).toInt.toNat : Nat) : Int) := by
  rw [show I 77 0 = I 92 2 from yext hn]
  exact ySh1_v h0 hc
theorem yF7.invest {x : Int32} (h : yF7 I R) (hR : yRI K n tg I R) (hs : (I1 92 2).toInt = (I 92 2).toInt) (hc : ∀ a, 78 ≤ a → a ≤ 82 → I1 a = I a) (h71 : I1 77 1 = I 77 1) (h72 : I1 77 2 = x) (h7 : I1 83 7 = x) (hx : 0 ≤ x.toInt ∧ x.toInt < ((2 ^ (I 92 2).toInt.toNat : Nat) : Int)) (hL : yLk I R R1) (hm : yFm n tg I I1) : yF7 I1 R1 :=
  h.fr3 hs h71 ⟨h72.trans h7.symm, by rw [h72]; exact hx.1, by rw [h72]; exact hx.2⟩ ⟨hc 78 (by decide) (by decide), hc 79 (by decide) (by decide), hc 81 (by decide) (by decide), hc 82 (by decide) (by decide)⟩ (fun k hk => ⟨hL 92 (by decide) (by decide) k hk, fun f _ => by rw [hm.k hR hk], by rw [hc 80 (by decide) (by decide), hm.k hR hk]; exact (h.1 k hk).1.2.2⟩) (fun k _ => by rw [hc 80 (by decide) (by decide)])
theorem yF7.div {x b : Nat} {t : Int32} (h : yF7 I R) (hR : yRI K n tg I R) (hx : (x : Int) < (I 92 2).toInt) (hb : b = yAd R 92 x) (hs : (I1 92 2).toInt = (I 92 2).toInt) (h77 : I1 77 = I 77) (h7 : I1 83 7 = I 83 7) (hc : I1 78 = I 78 ∧ I1 79 = I 79 ∧ I1 81 = I 81 ∧ I1 82 = I 82) (h80 : I1 80 = upd2 I 80 x (I 80 x + t) 80) (hL : yLk I R R1) (hO : ∀ a, 94 ≤ a → a < n → I1 a = upd2 I b 6 (I b 6 + t) a) : yF7 I1 R1 :=
  h.dividend (t := t) hx hb hs h77 h7 hc (fun k => by rw [h80]; unfold upd2; simp) (fun k hk => hL 92 (by decide) (by decide) k hk) (fun a ⟨k, hk, ea⟩ f => by
    obtain ⟨-, q0, q1, -⟩ := hR.l92.2.2.2.2 k hk
    rw [hO a (by omega) (by omega)]; rfl)
theorem div_prem (h : yR7 I R) {x1 : Int32} : (0 ≤ x1.toInt ∧ x1.toInt < (I 77 0).toInt) → 1 ≤ (I 78 x1.toInt.toNat).toInt ∧ (I 78 x1.toInt.toNat).toInt ≤ 999 := fun q => by
  have hn : (I 77 0).toInt = (I 92 2).toInt := h.1.1.1.1.2.2.2.2.2.1
  obtain ⟨⟨e, -⟩, e2, -⟩ := h.2.1 x1.toInt.toNat (by omega)
  rw [e]; exact e2
theorem inv_prem (h : yR7 I R) (hR : yRI K n tg I R) : 0 ≤ (I 77 2).toInt ∧ (I 77 2).toInt < (Int32.ofInt 1 <<< (I 77 0 &&& 31)).toInt := by
  have hn : (I 77 0).toInt = (I 92 2).toInt := h.1.1.1.1.2.2.2.2.2.1
  have hN := hR.1
  rw [ysh_v hn (by omega) (by omega)]
  exact h.2.2.2.1.2
/-- the reference's words of an investment, in the class's -/
theorem inv_tie (h : yR7 I R) (hR : yRI K n tg I R) (h92 : Ia 92 2 = I 92 2) (hm : yFm n tg I Ia) (hL : yLk I R Ra) {x : Int32} : ((0 ≤ x.toInt ∧ (x >>> (Ia 92 2 &&& 31)).toInt = 0) ↔ (0 ≤ x.toInt ∧ x.toInt < (Int32.ofInt 1 <<< (I 77 0 &&& 31)).toInt)) ∧ mCl Ia Ra (Ia 92 2).toInt.toNat = I 77 1 := by
  have hn : (I 77 0).toInt = (I 92 2).toInt := h.1.1.1.1.2.2.2.2.2.1
  have hN := hR.1
  refine ⟨?_, ?_⟩
  · rw [h92, show I 77 0 = I 92 2 from yext hn]
    exact (ysh_in (by omega) (by omega)).symm
  · rw [h92, h.2.2.1]
    exact mCl_cg fun k hk f _ => by rw [hL 92 (by decide) (by decide) k (by omega), hm.k hR (by omega)]
theorem div_tie (h : yR7 I R) (hR : yRI K n tg I R) (hm : yFm n tg I Ia) (hL : yLk I R Ra) {x : Nat} {b : Nat} (hx : (x : Int) < (I 92 2).toInt) (hb : b = yAd Ra 92 x) : b = yAd R 92 x ∧ Ia b = I b ∧ I b 0 = I 78 x ∧ I b 3 = I 79 x := by
  have e := hb.trans (hL 92 (by decide) (by decide) x hx)
  obtain ⟨⟨a1, a2, -⟩, -⟩ := h.2.1 x hx
  exact ⟨e, by rw [e]; exact hm.k hR hx, by rw [e]; exact a1.symm, by rw [e]; exact a2.symm⟩
end YF7H
section YK7
variable {K n n1 : Nat} {tg tg1 : Nat → yT} {I I1 J G : Nat → Nat → Int32} {R R1 : Nat → Nat → Value} {z : Int32}
theorem k7up {a k : Nat} {x : Int32} (h : J 83 7 = z) (hb : a ≠ 83 ∨ k ≠ 7) : upd2 J a k x 83 7 = z := (upd2_ne (hb.imp Ne.symm Ne.symm)).trans h
theorem k7addC {p x : Int32} (h : J 83 7 = z) : mAddC J p x 83 7 = z := by
  unfold mAddC
  split
  · exact h
  · exact k7up h (.inl (by decide))
theorem k7prD {b : Nat} {r : Int32} (h : J 83 7 = z) (hb : 83 ≠ b + 1 + 3) : mPrD J b r 83 7 = z := (congrFun (mPrD_row (by decide) hb) 7).trans h
theorem k7lsD {b : Nat} {le : Nat → Int32} (h : J 83 7 = z) (hb : 83 ≠ b + 1 + 1) : mLsD J b le 83 7 = z := (congrFun (mLsD_row hb) 7).trans h
theorem k7shD {ms : Nat → Int32} (h : J 83 7 = z) : mShD J ms 83 7 = z := by
  unfold mShD
  refine k7up (k7up (k7up ?_ (.inl (by decide))) (.inr (by decide))) (.inr (by decide))
  rw [yRec_keep fun J k _ _ => mShS_row (by decide) (by decide)]
  exact h
theorem yRI.lo (h : yRI K n tg I R) {l x b : Nat} (h1 : 87 ≤ l) (h2 : l ≤ 92) (hx : (x : Int) < (I l 2).toInt) (hb : b = yAd R l x) : 94 ≤ b := by
  obtain ⟨et, q⟩ := h.li6 l h1 h2
  rw [hb]
  exact (q.2.2.2.2 x hx).2.1
end YK7
theorem upd2_cgr {A B : Nat → Nat → Int32} {a k c : Nat} {x : Int32} (h : A c = B c) : upd2 A a k x c = upd2 B a k x c := by
  funext j
  unfold upd2
  rw [h]
theorem yFiD_n {I : Nat → Nat → Int32} {a d p g cl : Int32} : yFiD I a d p g cl 77 0 = I 77 0 + Int32.ofInt 1 := by
  have base : ∀ k, yRec (yFiS (2 ^ (I 77 0).toInt.toNat) p g) (upd2 (upd2 I 78 (I 77 0).toInt.toNat a) 79 (I 77 0).toInt.toNat d) (2 ^ (I 77 0).toInt.toNat) 77 k = I 77 k := fun k => by
    rw [yRec_keep fun J k _ _ => yFiS_row (by decide) (by decide), upd2_row (by decide), upd2_row (by decide)]
  unfold yFiD yFiE
  split
  · rw [upd2_self, base]
  · rw [upd2_self, base]
