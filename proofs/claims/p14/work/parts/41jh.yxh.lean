/-! THE REFERENCE'S RESULT, EXACTLY (by ex7x.py) -/
/-- a part of a profit, what is left, a step, all of it -/
def mPpt (I : Nat → Nat → Int32) (b : Nat) (r : Int32) (p : Nat) : Int32 := r * I (b + 1 + 2) p / Int32.ofInt 100
def mPrL (I : Nat → Nat → Int32) (b : Nat) (r : Int32) : Nat → Int32
  | 0 => r
  | p + 1 => if p = 8 then mPrL I b r p - mPrL I b r p else mPrL I b r p - mPpt I b r p
def mPrA (I : Nat → Nat → Int32) (b : Nat) (r : Int32) (p : Nat) : Int32 := if p = 8 then mPrL I b r p else mPpt I b r p
def mPrS (I0 : Nat → Nat → Int32) (b : Nat) (r : Int32) (J : Nat → Nat → Int32) (p : Nat) : Nat → Nat → Int32 := upd2 (upd2 J (b + 1 + 3) p (J (b + 1 + 3) p + mPrA I0 b r p)) 84 p (J 84 p + mPrA I0 b r p)
def mPrD (I : Nat → Nat → Int32) (b : Nat) (r : Int32) : Nat → Nat → Int32 := yRec (mPrS I b r) I 9
theorem mPrS_row {I0 J : Nat → Nat → Int32} {b p a : Nat} {r : Int32} (h1 : a ≠ 84) (h2 : a ≠ b + 1 + 3) : mPrS I0 b r J p a = J a := by
  unfold mPrS
  rw [upd2_row h1, upd2_row h2]
theorem mPrD_row {I : Nat → Nat → Int32} {b a : Nat} {r : Int32} (h1 : a ≠ 84) (h2 : a ≠ b + 1 + 3) : mPrD I b r a = I a := yRec_keep fun J k _ _ => mPrS_row h1 h2
theorem mPrD_ri {K nb : Nat} {tg : Nat → yT} {I : Nat → Nat → Int32} {R : Nat → Nat → Value} {b : Nat} {r : Int32} (h : yRI K nb tg I R) (h1 : 94 ≤ b) (h2 : b < nb) (h3 : tg b = (21, 0)) : yRI K nb tg (mPrD I b r) R := yRec_ind (S := mPrS I b r) (P := fun J => yRI K nb tg J R) h fun J k _ hJ => (hJ.upV h1 h2 h3 (j := 3) (by decide) rfl).arr rfl (by decide)
/-- what keeps to the class's cells, the board's words and the day -/
theorem yKp.of {n : Nat} {tg : Nat → yT} {I G : Nat → Nat → Int32} {R : Nat → Nat → Value} (h1 : ∀ a, a < 83 → G a = I a) (h2 : G 87 = I 87) (h3 : ∀ i : Nat, (i : Int) < (I 87 2).toInt → G (yAd R 87 i) = I (yAd R 87 i)) (h4 : G 83 1 = I 83 1) : yKp n tg I R n tg G R := ⟨Nat.le_refl n, fun _ _ => rfl, h1, rfl, rfl, h2, h3, by rw [h4]; exact Int.le_refl _⟩
theorem yRI.wtag {K nb : Nat} {tg : Nat → yT} {I : Nat → Nat → Int32} {R : Nat → Nat → Value} (h : yRI K nb tg I R) {i a : Nat} (hi : (i : Int) < (I 87 2).toInt) (ha : tg a ≠ (0, 4)) : yAd R 87 i ≠ a := fun e => ha (by rw [← e]; exact (h.l87.2.2.2.2 i hi).2.2.2)
section YXH
variable {K nb n : Nat} {tg0 tg : Nat → yT} {G0 I : Nat → Nat → Int32} {R0 R : Nat → Nat → Value} {c s : Nat} {Q : yQ}
theorem lx_profit (hS : ySh n tg R) {x2 : Int32} {bv : Nat} (hlo : 94 ≤ bv) (hbv : bv < nb) (htb0 : tg0 bv = (21, 0)) (hRG : yRI K nb tg0 G0 R0) (hQ : ∀ I1, yX nb tg0 (mPrD G0 bv x2) R0 n tg I1 R → Q (.inl none) (n, tg, I1, R) c s) :
    ∀ (m : Nat) (x3 x4 : Int32) (I1 : Nat → Nat → Int32), yX nb tg0 (yRec (mPrS G0 bv x2) G0 x4.toInt.toNat) R0 n tg I1 R → x3 = mPrL G0 bv x2 x4.toInt.toNat → 0 ≤ x4.toInt → x4.toInt ≤ 9 → 9 - x4.toInt < m →
    yW xm_X14_profit xc_X14_profit_5 [some (.ref 83), some (.ref bv), some (.int x2), some (.int x3), some (.int x4), none] [] (n, tg, I1, R) c s Q := by
  intro m
  induction m with
  | zero => intro x3 x4 I1 hX i2 i0 i1 hm; exfalso; omega
  | succ m ih =>
    intro x3 x4 I1 hX i2 i0 i1 hm
    have h94 := hRG.2.2.2.2.2.2
    have hnb := hX.1
    obtain ⟨q2, q2n, q2t⟩ := hRG.ven hlo hbv htb0 (j := 2) (by decide)
    obtain ⟨q3, q3n, q3t⟩ := hRG.ven hlo hbv htb0 (j := 3) (by decide)
    have htb := (hX.2.1 bv hbv).1.trans htb0
    have hbn : bv < n := Nat.lt_of_lt_of_le hbv hX.1
    have hr2 := (congrFun (hX.2.1 bv hbv).2.2 2).trans q2
    have hr3 := (congrFun (hX.2.1 bv hbv).2.2 3).trans q3
    have ht2 := (hX.2.1 _ q2n).1.trans q2t
    have hn2 := Nat.lt_of_lt_of_le q2n hX.1
    have ht3 := (hX.2.1 _ q3n).1.trans q3t
    have hn3 := Nat.lt_of_lt_of_le q3n hX.1
    have hg2 := hX.n q2n
    have hg3 := hX.n q3n
    refine y_iload rfl rfl ?_
    refine y_bip rfl (by decide) ?_
    refine y_icmp_gt rfl j_X14_profit_72 (fun h_1 => ?_) (fun h_2 => ?_)
    · rw [yz_8] at h_1
      refine y_return rfl ?_
      have h9 : x4.toInt.toNat = 9 := by omega
      rw [h9] at hX
      exact hQ _ hX
    · rw [yz_8] at h_2
      refine y_iload rfl rfl ?_
      refine y_bip rfl (by decide) ?_
      refine y_icmp_ne rfl j_X14_profit_23 (fun h_3 => ?_) (fun h_4 => ?_)
      · rw [yz_8] at h_3
        refine y_iload_n rfl rfl ?_
        refine y_aload_n rfl rfl ?_
        refine y_getR rfl htb hbn rfl rfl hr2 ?_
        refine y_iload rfl rfl ?_
        refine y_iaload rfl ht2 hn2 (by omega) (by omega) ?_
        refine y_imul rfl ?_
        refine y_bip rfl (by decide) ?_
        refine y_idiv rfl (by decide) ?_
        rw [show x2 * I1 (bv + 1 + 2) x4.toInt.toNat / Int32.ofInt 100 = mPrA G0 bv x2 x4.toInt.toNat by rw [hg2, show yRec (mPrS G0 bv x2) G0 x4.toInt.toNat (bv + 1 + 2) = G0 (bv + 1 + 2) from yRec_keep fun J k_ _ _ => mPrS_row (by omega) (by omega)]; unfold mPrA; rw [if_neg (by omega)]; rfl]
        refine y_istore (ls' := [some _, some _, some _, some _, some _, some _]) rfl rfl rfl ?_
        refine y_iload_n rfl rfl ?_
        refine y_iload rfl rfl ?_
        refine y_isub rfl ?_
        refine y_istore_n (ls' := [some _, some _, some _, some _, some _, some _]) rfl rfl rfl ?_
        refine y_aload_n rfl rfl ?_
        refine y_getR rfl htb hbn rfl rfl hr3 ?_
        refine y_iload rfl rfl ?_
        refine y_dup2 rfl rfl rfl ?_
        refine y_iaload rfl ht3 hn3 (by omega) (by omega) ?_
        refine y_iload rfl rfl ?_
        refine y_iadd rfl ?_
        refine y_iastore rfl ht3 hn3 (Nat.le_trans (by decide) (by omega : 94 ≤ _)) (by omega) (by omega) ?_
        refine y_nameI (fun Ja ea => ?_)
        have hXa := hX.wr ea (by rw [hg3])
        have hga := hXa.n (show 84 < nb by omega)
        refine y_aload_n rfl rfl ?_
        refine y_getR rfl (ySh.t hS rfl) (ySh.n hS rfl) rfl rfl (ySh.r hS rfl) ?_
        refine y_iload rfl rfl ?_
        refine y_dup2 rfl rfl rfl ?_
        refine y_iaload rfl (ySh.t hS rfl) (ySh.n hS rfl) (by omega) (by omega) ?_
        refine y_iload rfl rfl ?_
        refine y_iadd rfl ?_
        refine y_iastore rfl (ySh.t hS rfl) (ySh.n hS rfl) (Nat.le_of_ble_eq_true rfl) (by omega) (by omega) ?_
        refine y_nameI (fun Jb eb => ?_)
        have hXb := hXa.wr eb (show _ = yRec (mPrS G0 bv x2) G0 x4.toInt.toNat 84 x4.toInt.toNat + mPrA G0 bv x2 x4.toInt.toNat by rw [hga, upd2_row (by omega)])
        refine y_iinc (ls' := [some _, some _, some _, some _, some _, some _]) rfl rfl rfl rfl ?_
        refine y_goto rfl j_X14_profit_5 ?_
        refine y_fgt (ls := [some _, some _, some _, some _, some _, none]) ⟨rfl, rfl, rfl, rfl, rfl, trivial⟩ ?_
        exact ih _ _ _ (by rw [yinc (by omega), show (x4.toInt + 1).toNat = x4.toInt.toNat + 1 by omega]; exact hXb) (by rw [yinc (by omega), show (x4.toInt + 1).toNat = x4.toInt.toNat + 1 by omega]; show _ = (if x4.toInt.toNat = 8 then _ else mPrL G0 bv x2 x4.toInt.toNat - mPpt G0 bv x2 x4.toInt.toNat); rw [if_neg (by omega), i2]; unfold mPrA; rw [if_neg (by omega)]) (by rw [yinc (by omega)]; omega) (by rw [yinc (by omega)]; omega) (by rw [yinc (by omega)]; omega)
      · rw [yz_8] at h_4
        refine y_iload_n rfl rfl ?_
        rw [show x3 = mPrA G0 bv x2 x4.toInt.toNat by unfold mPrA; rw [if_pos (by omega)]; exact i2]
        refine y_goto rfl j_X14_profit_35 ?_
        refine y_istore (ls' := [some _, some _, some _, some _, some _, some _]) rfl rfl rfl ?_
        refine y_iload_n rfl rfl ?_
        refine y_iload rfl rfl ?_
        refine y_isub rfl ?_
        refine y_istore_n (ls' := [some _, some _, some _, some _, some _, some _]) rfl rfl rfl ?_
        refine y_aload_n rfl rfl ?_
        refine y_getR rfl htb hbn rfl rfl hr3 ?_
        refine y_iload rfl rfl ?_
        refine y_dup2 rfl rfl rfl ?_
        refine y_iaload rfl ht3 hn3 (by omega) (by omega) ?_
        refine y_iload rfl rfl ?_
        refine y_iadd rfl ?_
        refine y_iastore rfl ht3 hn3 (Nat.le_trans (by decide) (by omega : 94 ≤ _)) (by omega) (by omega) ?_
        refine y_nameI (fun Ja ea => ?_)
        have hXa := hX.wr ea (by rw [hg3])
        have hga := hXa.n (show 84 < nb by omega)
        refine y_aload_n rfl rfl ?_
        refine y_getR rfl (ySh.t hS rfl) (ySh.n hS rfl) rfl rfl (ySh.r hS rfl) ?_
        refine y_iload rfl rfl ?_
        refine y_dup2 rfl rfl rfl ?_
        refine y_iaload rfl (ySh.t hS rfl) (ySh.n hS rfl) (by omega) (by omega) ?_
        refine y_iload rfl rfl ?_
        refine y_iadd rfl ?_
        refine y_iastore rfl (ySh.t hS rfl) (ySh.n hS rfl) (Nat.le_of_ble_eq_true rfl) (by omega) (by omega) ?_
        refine y_nameI (fun Jb eb => ?_)
        have hXb := hXa.wr eb (show _ = yRec (mPrS G0 bv x2) G0 x4.toInt.toNat 84 x4.toInt.toNat + mPrA G0 bv x2 x4.toInt.toNat by rw [hga, upd2_row (by omega)])
        refine y_iinc (ls' := [some _, some _, some _, some _, some _, some _]) rfl rfl rfl rfl ?_
        refine y_goto rfl j_X14_profit_5 ?_
        refine y_fgt (ls := [some _, some _, some _, some _, some _, none]) ⟨rfl, rfl, rfl, rfl, rfl, trivial⟩ ?_
        exact ih _ _ _ (by rw [yinc (by omega), show (x4.toInt + 1).toNat = x4.toInt.toNat + 1 by omega]; exact hXb) (by rw [yinc (by omega), show (x4.toInt + 1).toNat = x4.toInt.toNat + 1 by omega]; show _ = (if x4.toInt.toNat = 8 then mPrL G0 bv x2 x4.toInt.toNat - mPrL G0 bv x2 x4.toInt.toNat else _); rw [if_pos (by omega)]; unfold mPrA; rw [if_pos (by omega)]) (by rw [yinc (by omega)]; omega) (by rw [yinc (by omega)]; omega) (by rw [yinc (by omega)]; omega)
theorem hx_profit {bv : Nat} {x2 : Int32} (hS : ySh n tg R) (hX : yX nb tg0 G0 R0 n tg I R) (hlo : 94 ≤ bv) (hbv : bv < nb) (htb0 : tg0 bv = (21, 0)) (hRG : yRI K nb tg0 G0 R0) (hQ : ∀ I1, yX nb tg0 (mPrD G0 bv x2) R0 n tg I1 R → Q (.inl none) (n, tg, I1, R) c s) : yC 214 [.ref 83, .ref bv, .int x2] (n, tg, I, R) c s Q := by
  refine y_in (M := xm_X14_profit) (ls := [some _, some _, some _, _, _, _]) rfl rfl rfl ?_
  refine y_iload_n rfl rfl ?_
  refine y_istore_n (ls' := [some _, some _, some _, some _, _, _]) rfl rfl rfl ?_
  refine y_iconst rfl ?_
  refine y_istore (ls' := [some _, some _, some _, some _, some _, _]) rfl rfl rfl ?_
  exact lx_profit hS hlo hbv htb0 hRG hQ 100 _ _ _ hX rfl (by decide) (by decide) (by decide)
/-! a loss: its parts, what is left, the round -/
def qL (b a : Int) (cap : Nat → Int) (j : Nat) : Int := b * cap j / a
def lL (q cap : Nat → Int) (L : Int) : Nat → Int
  | 0 => L
  | t + 1 => if 0 < lL q cap L t ∧ q t < cap t then lL q cap L t - 1 else lL q cap L t
def dL (q cap : Nat → Int) (L : Int) (t : Nat) : Int := if 0 < lL q cap L t ∧ q t < cap t then 1 else 0
theorem lL_nn {q cap : Nat → Int} {L : Int} (h : 0 ≤ L) : ∀ t, 0 ≤ lL q cap L t
  | 0 => h
  | t + 1 => by
    have := lL_nn (q := q) (cap := cap) h t
    show 0 ≤ (if 0 < lL q cap L t ∧ q t < cap t then lL q cap L t - 1 else lL q cap L t)
    split <;> omega
theorem lL_ct {q cap : Nat → Int} {L : Int} (h : 0 ≤ L) : ∀ t, lL q cap L t = 0 ∨ lL q cap L t = L - ySum (fun j => if q j < cap j then 1 else 0) t
  | 0 => .inr (by show L = L - 0; omega)
  | t + 1 => by
    have h1 := lL_nn (q := q) (cap := cap) h t
    have e : ySum (fun j => if q j < cap j then (1 : Int) else 0) (t + 1) = ySum (fun j => if q j < cap j then 1 else 0) t + (if q t < cap t then 1 else 0) := rfl
    have f : lL q cap L (t + 1) = if 0 < lL q cap L t ∧ q t < cap t then lL q cap L t - 1 else lL q cap L t := rfl
    rw [e, f]
    rcases lL_ct (q := q) (cap := cap) h t with g | g
    · left; rw [if_neg (by omega)]; exact g
    · by_cases hq : q t < cap t
      · rw [if_pos hq]
        by_cases hl : 0 < lL q cap L t
        · rw [if_pos ⟨hl, hq⟩]; right; omega
        · rw [if_neg (fun z => hl z.1)]; left; omega
      · rw [if_neg hq, if_neg (fun z => hq z.2)]; right; omega
theorem lL_9 {q cap : Nat → Int} {L : Int} (h : 0 ≤ L) (hc : L ≤ ySum (fun j => if q j < cap j then 1 else 0) 9) : lL q cap L 9 = 0 := by
  have h1 := lL_nn (q := q) (cap := cap) h 9
  rcases lL_ct (q := q) (cap := cap) h 9 with g | g <;> omega
theorem ySum_lin {f g : Nat → Int} {b a : Int} : ∀ k, ySum (fun j => b * f j - g j * a) k = b * ySum f k - ySum g k * a
  | 0 => by show (0 : Int) = b * 0 - 0 * a; rw [Int.mul_zero, Int.zero_mul]; rfl
  | k + 1 => by
    show ySum (fun j => b * f j - g j * a) k + (b * f k - g k * a) = b * (ySum f k + f k) - (ySum g k + g k) * a
    rw [ySum_lin k, Int.mul_add, Int.add_mul]; omega
theorem ySum_mono {f g : Nat → Int} : ∀ k, (∀ j, j < k → f j ≤ g j) → ySum f k ≤ ySum g k
  | 0, _ => Int.le_refl 0
  | k + 1, h => by
    have h1 := ySum_mono k fun j hj => h j (by omega)
    have h2 := h k (by omega)
    show ySum f k + f k ≤ ySum g k + g k
    omega
theorem ySum_mul {f : Nat → Int} {a : Int} : ∀ k, ySum (fun j => a * f j) k = a * ySum f k
  | 0 => by show (0 : Int) = a * 0; rw [Int.mul_zero]
  | k + 1 => by
    show ySum (fun j => a * f j) k + a * f k = a * (ySum f k + f k)
    rw [ySum_mul k, Int.mul_add]
theorem ySum_c0 {f : Nat → Int} : ∀ k, (∀ j, j < k → f j = 0) → ySum f k = 0
  | 0, _ => rfl
  | k + 1, h => by
    show ySum f k + f k = 0
    rw [ySum_c0 k fun j hj => h j (by omega), h k (by omega)]; rfl
/-- what is left is no more than those that the round can take it from -/
theorem qL_left {b a : Int} {cap : Nat → Int} (hc : ∀ j, j < 9 → 0 ≤ cap j) (ha : a = ySum cap 9) (h0 : 0 ≤ b) (h1 : b ≤ a) : 0 ≤ b - ySum (qL b a cap) 9 ∧ b - ySum (qL b a cap) 9 ≤ ySum (fun j => if qL b a cap j < cap j then 1 else 0) 9 := by
  by_cases hp : 0 < a
  · have hr : ∀ j, j < 9 → 0 ≤ b * cap j - qL b a cap j * a ∧ b * cap j - qL b a cap j * a ≤ a * (if qL b a cap j < cap j then 1 else 0) := fun j hj => by
      have e1 : b * cap j - qL b a cap j * a = b * cap j % a := by
        unfold qL
        have := Int.mul_ediv_add_emod (b * cap j) a
        rw [Int.mul_comm] at this; omega
      have e2 := Int.emod_nonneg (b * cap j) (by omega : a ≠ 0)
      have e3 := Int.emod_lt_of_pos (b * cap j) hp
      refine ⟨by omega, ?_⟩
      split
      · rw [e1]; omega
      · rename_i hq
        have e4 : b * cap j ≤ a * cap j := Int.mul_le_mul_of_nonneg_right h1 (hc j hj)
        have e5 : cap j * a ≤ qL b a cap j * a := Int.mul_le_mul_of_nonneg_right (by omega) (by omega)
        rw [Int.mul_comm (cap j) a] at e5
        omega
    have s1 : ySum (fun j => b * cap j - qL b a cap j * a) 9 = (b - ySum (qL b a cap) 9) * a := by rw [ySum_lin, ← ha, Int.sub_mul]
    have s2 := ySum_mono 9 fun j hj => (hr j hj).2
    have s3 := ySum_mono (f := fun _ => 0) 9 fun j hj => (hr j hj).1
    rw [s1] at s2 s3
    rw [ySum_mul] at s2
    rw [ySum_c0 9 fun _ _ => rfl] at s3
    constructor
    · by_cases hn : b - ySum (qL b a cap) 9 < 0
      · have := Int.mul_neg_of_neg_of_pos hn hp; omega
      · omega
    · rw [Int.mul_comm] at s2
      exact Int.le_of_mul_le_mul_left s2 hp
  · have hb : b = 0 := by omega
    have hq : ∀ j, qL b a cap j = 0 := fun j => by unfold qL; rw [hb, Int.zero_mul, Int.zero_ediv]
    rw [ySum_c0 9 fun j _ => hq j, hb]
    refine ⟨by decide, ?_⟩
    have := ySum_mono (f := fun _ => 0) (g := fun j => if qL 0 a cap j < cap j then (1 : Int) else 0) 9 fun j _ => by show (0 : Int) ≤ if qL 0 a cap j < cap j then (1 : Int) else 0; split <;> decide
    rw [ySum_c0 9 fun _ _ => rfl] at this
    exact this
theorem lose1X {b cp a : Nat} {x1 x2 x5 : Int32} (ht_b : tg b = (21, 0)) (hb_b : b < n) (hRb : R b 1 = .ref cp) (ht_c : tg cp = (0, 9)) (hb_c : cp < n) (ht_a : tg a = (0, 9)) (ha_a : a < n) (h94 : 94 ≤ a) (hne : cp ≠ a) (hf : ∀ j, j < 9 → 0 ≤ (I cp j).toInt ∧ (I cp j).toInt ≤ 1000000) (hx5 : 0 ≤ x5.toInt ∧ x5.toInt ≤ 999) (hle : x5.toInt ≤ x2.toInt)
    (hQ : ∀ I1 (x3 : Int32), (∀ z, z ≠ a → I1 z = I z) → (∀ j, j < 9 → 0 ≤ (I1 a j).toInt ∧ (I1 a j).toInt ≤ (I cp j).toInt) → x3.toInt + ySum (fun j => (I1 a j).toInt) 9 = x5.toInt → (∀ j : Nat, j < 9 → (I1 a j).toInt = qL x5.toInt x2.toInt (fun j => (I cp j).toInt) j) → yW xm_X13_lose xc_X13_lose_69 [some (.ref b), some (.int x1), some (.int x2), some (.int x3), some (.ref a), some (.int x5), none] [] (n, tg, I1, R) c s Q) :
    ∀ (m : Nat) (x3 x6 : Int32) (I1 : Nat → Nat → Int32), (∀ z, z ≠ a → I1 z = I z) → (∀ j, j < 9 → 0 ≤ (I1 a j).toInt ∧ (I1 a j).toInt ≤ (I cp j).toInt) → x3.toInt + ySum (fun j => (I1 a j).toInt) 9 = x5.toInt → (∀ j : Nat, x6.toInt ≤ (j : Int) → (I1 a j).toInt = 0) → (∀ j : Nat, (j : Int) < x6.toInt → (I1 a j).toInt = qL x5.toInt x2.toInt (fun j => (I cp j).toInt) j) → 0 ≤ x6.toInt → x6.toInt ≤ 9 → 9 - x6.toInt < m → yW xm_X13_lose xc_X13_lose_27 [some (.ref b), some (.int x1), some (.int x2), some (.int x3), some (.ref a), some (.int x5), some (.int x6)] [] (n, tg, I1, R) c s Q := by
  intro m
  induction m with
  | zero => intro x3 x6 I1 e0 e1 e2 e3 e4 i0 i1 hm; exfalso; omega
  | succ m ih =>
    intro x3 x6 I1 e0 e1 e2 e3 e4 i0 i1 hm
    refine y_iload rfl rfl ?_
    refine y_bip rfl (by decide) ?_
    refine y_icmp_gt rfl j_X13_lose_69 (fun h_1 => ?_) (fun h_2 => ?_)
    · refine y_fgt (ls := [some _, some _, some _, some _, some _, some _, none]) ⟨rfl, rfl, rfl, rfl, rfl, rfl, trivial⟩ ?_
      exact hQ _ _ e0 e1 e2 (fun j hj => e4 j (by rw [yz_8] at h_1; omega))
    · rw [yz_8] at h_2
      refine y_iload_n rfl rfl ?_
      refine y_if_le rfl j_X13_lose_69 (fun h_3 => ?_) (fun h_4 => ?_)
      · refine y_fgt (ls := [some _, some _, some _, some _, some _, some _, none]) ⟨rfl, rfl, rfl, rfl, rfl, rfl, trivial⟩ ?_
        exact hQ _ _ e0 e1 e2 (fun j hj => by
          by_cases hjx : (j : Int) < x6.toInt
          · exact e4 j hjx
          · rw [e3 j (by omega)]; unfold qL; rw [show x2.toInt = 0 by omega, Int.ediv_zero])
      · refine y_aload rfl rfl ?_
        refine y_iload rfl rfl ?_
        refine y_iload rfl rfl ?_
        refine y_aload_n rfl rfl ?_
        refine y_getR rfl ht_b hb_b rfl rfl hRb ?_
        refine y_iload rfl rfl ?_
        refine y_iaload rfl ht_c hb_c (by omega) (by omega) ?_
        refine y_imul rfl ?_
        refine y_iload_n rfl rfl ?_
        refine y_idiv rfl (fun h => by rw [h] at h_4; revert h_4; decide) ?_
        refine y_iastore rfl ht_a ha_a (Nat.le_trans (by decide) h94) (by omega) (by omega) ?_
        refine y_nameI (fun I2 e5 => ?_)
        refine y_iload_n rfl rfl ?_
        refine y_aload rfl rfl ?_
        refine y_iload rfl rfl ?_
        refine y_iaload rfl ht_a ha_a (by omega) (by omega) ?_
        refine y_isub rfl ?_
        refine y_istore_n (ls' := [some _, some _, some _, some _, some _, some _, some _]) rfl rfl rfl ?_
        refine y_iinc (ls' := [some _, some _, some _, some _, some _, some _, some _]) rfl rfl rfl rfl ?_
        refine y_goto rfl j_X13_lose_27 ?_
        have hk : x6.toInt.toNat < 9 := by omega
        obtain ⟨c0, c1⟩ := hf x6.toInt.toNat hk
        have hcp : I1 cp = I cp := e0 cp hne
        rw [hcp] at e5
        have hm0 : 0 ≤ x5.toInt * (I cp x6.toInt.toNat).toInt := Int.mul_nonneg hx5.1 c0
        have hm1 : x5.toInt * (I cp x6.toInt.toNat).toInt ≤ 999 * 1000000 := Int.mul_le_mul hx5.2 c1 c0 (by decide)
        have hml := ymul (x := x5) (y := I cp x6.toInt.toNat) (by omega) (by omega)
        have hd := ydiv (x := x5 * I cp x6.toInt.toNat) (y := x2) (by rw [hml]; exact hm0)
        rw [hml] at hd
        obtain ⟨d0, d1⟩ := qdiv hx5.1 hle c0 h_4
        have hv : (I2 a x6.toInt.toNat).toInt = x5.toInt * (I cp x6.toInt.toNat).toInt / x2.toInt := by rw [e5, upd2_self]; exact hd
        have hs := ySum_set (f := fun j => (I1 a j).toInt) (g := fun j => (I2 a j).toInt) (j0 := x6.toInt.toNat) (k := 9) hk (fun j hj => by rw [e5, upd2_ne (.inr hj)])
        have hs2 : ySum (fun j => (I2 a j).toInt) 9 = ySum (fun j => (I1 a j).toInt) 9 - (I1 a x6.toInt.toNat).toInt + (I2 a x6.toInt.toNat).toInt := hs
        have hz0 := e3 x6.toInt.toNat (by omega)
        have hbd := ySum_bd (f := fun j => (I1 a j).toInt) (B := 1000000) (k := 9) (fun j hj => ⟨(e1 j hj).1, Int.le_trans (e1 j hj).2 (hf j hj).2⟩)
        have hin := yinc (x := x6) (by omega)
        rw [← hv] at d0 d1
        refine ih _ _ I2 (fun z hz => by rw [e5, upd2_row hz]; exact e0 z hz) (fun j hj => ?_) ?_ (fun j hj => ?_) (fun j hj => ?_) (by rw [hin]; omega) (by rw [hin]; omega) (by rw [hin]; omega)
        · by_cases hjk : j = x6.toInt.toNat
          · rw [hjk]; exact ⟨d0, d1⟩
          · rw [e5, upd2_ne (.inr hjk)]; exact e1 j hj
        · rw [ysub (by omega) (by omega), hs2]; omega
        · rw [hin] at hj; rw [e5, upd2_ne (.inr (by omega))]; exact e3 j (by omega)
        · rw [hin] at hj
          by_cases hjk : j = x6.toInt.toNat
          · rw [hjk, hv]; rfl
          · rw [e5, upd2_ne (.inr hjk)]; exact e4 j (by omega)
theorem lose2X {b cp a : Nat} {x1 x2 x5 : Int32} (ht_b : tg b = (21, 0)) (hb_b : b < n) (hRb : R b 1 = .ref cp) (ht_c : tg cp = (0, 9)) (hb_c : cp < n) (ht_a : tg a = (0, 9)) (ha_a : a < n) (h94 : 94 ≤ a) (hne : cp ≠ a) (hf : ∀ j, j < 9 → 0 ≤ (I cp j).toInt ∧ (I cp j).toInt ≤ 1000000) (hx5 : 0 ≤ x5.toInt ∧ x5.toInt ≤ 999) {q : Nat → Int} {L : Int} (hq : ∀ j, j < 9 → 0 ≤ q j ∧ q j ≤ (I cp j).toInt) (hL : 0 ≤ L ∧ L ≤ 999) (h9 : lL q (fun j => (I cp j).toInt) L 9 = 0)
    (hQ : ∀ I1 (x3 : Int32), (∀ z, z ≠ a → I1 z = I z) → (∀ j, j < 9 → (I1 a j).toInt = q j + dL q (fun j => (I cp j).toInt) L j) → yW xm_X13_lose xc_X13_lose_120 [some (.ref b), some (.int x1), some (.int x2), some (.int x3), some (.ref a), some (.int x5), none] [] (n, tg, I1, R) c s Q) :
    ∀ (m : Nat) (x3 x6 : Int32) (t : Nat) (I1 : Nat → Nat → Int32), (∀ z, z ≠ a → I1 z = I z) → (∀ j, j < 9 → (I1 a j).toInt = q j + if j < t then dL q (fun j => (I cp j).toInt) L j else 0) → x3.toInt = lL q (fun j => (I cp j).toInt) L t → t ≤ 9 → x6.toInt = ((t % 9 : Nat) : Int) → 9 - t < m → yW xm_X13_lose xc_X13_lose_72 [some (.ref b), some (.int x1), some (.int x2), some (.int x3), some (.ref a), some (.int x5), some (.int x6)] [] (n, tg, I1, R) c s Q := by
  intro m
  induction m with
  | zero => intro x3 x6 t I1 e0 e1 e2 i0 i1 hm; exfalso; omega
  | succ m ih =>
    intro x3 x6 t I1 e0 e1 e2 i0 i1 hm
    have hnn := lL_nn (q := q) (cap := (fun j => (I cp j).toInt)) hL.1
    refine y_iload_n rfl rfl ?_
    refine y_if_le rfl j_X13_lose_120 (fun h_1 => ?_) (fun h_2 => ?_)
    · refine y_fgt (ls := [some _, some _, some _, some _, some _, some _, none]) ⟨rfl, rfl, rfl, rfl, rfl, rfl, trivial⟩ ?_
      refine hQ _ _ e0 (fun j hj => ?_)
      have hl0 : lL q (fun j => (I cp j).toInt) L t = 0 := by have := hnn t; omega
      rw [e1 j hj]
      by_cases hjt : j < t
      · rw [if_pos hjt]
      · rw [if_neg hjt]
        have hz : ∀ d, lL q (fun j => (I cp j).toInt) L (t + d) = 0 := fun d => by
          induction d with
          | zero => exact hl0
          | succ d ihd =>
            show (if 0 < lL q (fun j => (I cp j).toInt) L (t + d) ∧ _ then _ else lL q (fun j => (I cp j).toInt) L (t + d)) = 0
            rw [if_neg (by rw [ihd]; omega)]; exact ihd
        have hj0 := hz (j - t)
        rw [show t + (j - t) = j by omega] at hj0
        unfold dL
        rw [if_neg (by rw [hj0]; omega)]
    · have ht9 : t < 9 := by
        by_cases h : t = 9
        · rw [h] at e2; omega
        · omega
      have hx6 : x6.toInt.toNat = t := by omega
      have hlt := e1 t ht9
      rw [if_neg (Nat.lt_irrefl t)] at hlt
      have hqt := hq t ht9
      have hft := hf t ht9
      have hcp : I1 cp = I cp := e0 cp hne
      have hdf := ysub (x := I1 cp x6.toInt.toNat) (y := I1 a x6.toInt.toNat) (by rw [hcp, hx6]; omega) (by rw [hcp, hx6]; omega)
      rw [hcp, hx6] at hdf
      have hr9 := yrem9 (x := x6) (by omega) (by omega)
      have hmod : (x6.toInt + 1) % 9 = (((t + 1) % 9 : Nat) : Int) := by omega
      have hstep : lL q (fun j => (I cp j).toInt) L (t + 1) = if 0 < lL q (fun j => (I cp j).toInt) L t ∧ q t < (I cp t).toInt then lL q (fun j => (I cp j).toInt) L t - 1 else lL q (fun j => (I cp j).toInt) L t := rfl
      have hdt : dL q (fun j => (I cp j).toInt) L t = if 0 < lL q (fun j => (I cp j).toInt) L t ∧ q t < (I cp t).toInt then 1 else 0 := rfl
      refine y_aload_n rfl rfl ?_
      refine y_getR rfl ht_b hb_b rfl rfl hRb ?_
      refine y_iload rfl rfl ?_
      refine y_iaload rfl ht_c hb_c (by omega) (by omega) ?_
      refine y_aload rfl rfl ?_
      refine y_iload rfl rfl ?_
      refine y_iaload rfl ht_a ha_a (by omega) (by omega) ?_
      refine y_isub rfl ?_
      refine y_iconst rfl ?_
      refine y_icmp_ge rfl j_X13_lose_96 (fun h_3 => ?_) (fun h_4 => ?_)
      · rw [yz_1, hcp, hx6, hdf] at h_3
        have hcond : 0 < lL q (fun j => (I cp j).toInt) L t ∧ q t < (I cp t).toInt := by omega
        rw [if_pos hcond] at hstep hdt
        refine y_aload rfl rfl ?_
        refine y_iload rfl rfl ?_
        refine y_dup2 rfl rfl rfl ?_
        refine y_iaload rfl ht_a ha_a (by omega) (by omega) ?_
        refine y_iconst rfl ?_
        refine y_iadd rfl ?_
        refine y_iastore rfl ht_a ha_a (Nat.le_trans (by decide) h94) (by omega) (by omega) ?_
        refine y_nameI (fun I2 e5 => ?_)
        refine y_iinc (ls' := [some _, some _, some _, some _, some _, some _, some _]) rfl rfl rfl rfl ?_
        refine y_iload rfl rfl ?_
        refine y_iconst rfl ?_
        refine y_iadd rfl ?_
        refine y_bip rfl (by decide) ?_
        refine y_irem rfl (by decide) ?_
        refine y_istore (ls' := [some _, some _, some _, some _, some _, some _, some _]) rfl rfl rfl ?_
        refine y_goto rfl j_X13_lose_72 ?_
        rw [hx6] at e5
        have hm1 : (Int32.ofInt (-1)).toInt = -1 := by decide
        have hx3 : (x3 + Int32.ofInt (-1)).toInt = x3.toInt - 1 := by
          have := x3.toInt_lt
          rw [yadd (by rw [hm1]; omega) (by rw [hm1]; omega), hm1]; omega
        have hv : (I2 a t).toInt = (I1 a t).toInt + 1 := by rw [e5, upd2_self]; exact yinc (by omega)
        exact ih _ _ (t + 1) I2 (fun z hz => by rw [e5, upd2_row hz]; exact e0 z hz) (fun j hj => by
          by_cases hjt : j = t
          · rw [hjt, hv, hlt, if_pos (Nat.lt_succ_self t), hdt]; omega
          · rw [e5, upd2_ne (.inr hjt), e1 j hj]
            by_cases h : j < t
            · rw [if_pos h, if_pos (by omega)]
            · rw [if_neg h, if_neg (by omega)]) (by rw [hx3, hstep]; omega) (by omega) (by rw [hr9]; exact hmod) (by omega)
      · rw [yz_1, hcp, hx6, hdf] at h_4
        have hcond : ¬ (0 < lL q (fun j => (I cp j).toInt) L t ∧ q t < (I cp t).toInt) := by omega
        rw [if_neg hcond] at hstep hdt
        refine y_goto rfl j_X13_lose_108 ?_
        refine y_iload rfl rfl ?_
        refine y_iconst rfl ?_
        refine y_iadd rfl ?_
        refine y_bip rfl (by decide) ?_
        refine y_irem rfl (by decide) ?_
        refine y_istore (ls' := [some _, some _, some _, some _, some _, some _, some _]) rfl rfl rfl ?_
        refine y_goto rfl j_X13_lose_72 ?_
        exact ih _ _ (t + 1) I1 e0 (fun j hj => by
          rw [e1 j hj]
          by_cases hjt : j = t
          · rw [hjt, if_neg (Nat.lt_irrefl t), if_pos (Nat.lt_succ_self t), hdt]
          · by_cases h : j < t
            · rw [if_pos h, if_pos (by omega)]
            · rw [if_neg h, if_neg (by omega)]) (by rw [hstep]; exact e2) (by omega) (by rw [hr9]; exact hmod) (by omega)
/-- capital goes down by a row of numbers -/
def mLsS (b : Nat) (le : Nat → Int32) (J : Nat → Nat → Int32) (k : Nat) : Nat → Nat → Int32 := upd2 J (b + 1 + 1) k (J (b + 1 + 1) k - le k)
def mLsD (I : Nat → Nat → Int32) (b : Nat) (le : Nat → Int32) : Nat → Nat → Int32 := yRec (mLsS b le) I 9
/-- what is borne of a loss, of which capital -/
def mCap (I : Nat → Nat → Int32) (b : Nat) : Nat → Int := fun j => (I (b + 1 + 1) j).toInt
def mBo (I : Nat → Nat → Int32) (b : Nat) (l : Int32) : Int := if ySum (mCap I b) 9 < l.toInt then ySum (mCap I b) 9 else l.toInt
/-- the part of a place: its portion, rounded down, and the round's one -/
def mLe (I : Nat → Nat → Int32) (b : Nat) (l : Int32) (j : Nat) : Int := qL (mBo I b l) (ySum (mCap I b) 9) (mCap I b) j + dL (qL (mBo I b l) (ySum (mCap I b) 9) (mCap I b)) (mCap I b) (mBo I b l - ySum (qL (mBo I b l) (ySum (mCap I b) 9) (mCap I b)) 9) j
theorem mLsD_row {I : Nat → Nat → Int32} {b a : Nat} {le : Nat → Int32} (h : a ≠ b + 1 + 1) : mLsD I b le a = I a := yRec_keep fun J k _ _ => upd2_row h
theorem mLsD_k {I : Nat → Nat → Int32} {b : Nat} {le : Nat → Int32} : ∀ m j, yRec (mLsS b le) I m (b + 1 + 1) j = if j < m then I (b + 1 + 1) j - le j else I (b + 1 + 1) j
  | 0, j => by rw [if_neg (by omega)]; rfl
  | m + 1, j => by
    show upd2 (yRec (mLsS b le) I m) (b + 1 + 1) m (yRec (mLsS b le) I m (b + 1 + 1) m - le m) (b + 1 + 1) j = _
    by_cases hj : j = m
    · rw [hj, upd2_self, mLsD_k m m, if_neg (Nat.lt_irrefl m), if_pos (Nat.lt_succ_self m)]
    · rw [upd2_ne (.inr hj), mLsD_k m j]
      by_cases h : j < m
      · rw [if_pos h, if_pos (by omega)]
      · rw [if_neg h, if_neg (by omega)]
theorem lose3X {bv a : Nat} {x1 x2 x3 x5 : Int32} {le : Nat → Int32} (hlo : 94 ≤ bv) (hbv : bv < nb) (htb0 : tg0 bv = (21, 0)) (hRG : yRI K nb tg0 G0 R0) (ht_a : tg a = (0, 9)) (ha_a : a < n) (hne : a ≠ bv + 1 + 1) (hQ : ∀ I1, yX nb tg0 (mLsD G0 bv le) R0 n tg I1 R → Q (.inl none) (n, tg, I1, R) c s) :
    ∀ (m : Nat) (x6 : Int32) (I1 : Nat → Nat → Int32), yX nb tg0 (yRec (mLsS bv le) G0 x6.toInt.toNat) R0 n tg I1 R → (∀ j, j < 9 → I1 a j = le j) → 0 ≤ x6.toInt → x6.toInt ≤ 9 → 9 - x6.toInt < m → yW xm_X13_lose xc_X13_lose_123 [some (.ref bv), some (.int x1), some (.int x2), some (.int x3), some (.ref a), some (.int x5), some (.int x6)] [] (n, tg, I1, R) c s Q := by
  intro m
  induction m with
  | zero => intro x6 I1 hX e1 i0 i1 hm; exfalso; omega
  | succ m ih =>
    intro x6 I1 hX e1 i0 i1 hm
    have h94 := hRG.2.2.2.2.2.2
    obtain ⟨q1, q1n, q1t⟩ := hRG.ven hlo hbv htb0 (j := 1) (by decide)
    have htb := (hX.2.1 bv hbv).1.trans htb0
    have hbn : bv < n := Nat.lt_of_lt_of_le hbv hX.1
    have hr1 := (congrFun (hX.2.1 bv hbv).2.2 1).trans q1
    have ht1 := (hX.2.1 _ q1n).1.trans q1t
    have hn1 := Nat.lt_of_lt_of_le q1n hX.1
    have hg1 := hX.n q1n
    refine y_iload rfl rfl ?_
    refine y_bip rfl (by decide) ?_
    refine y_icmp_gt rfl j_X13_lose_151 (fun h_1 => ?_) (fun h_2 => ?_)
    · refine y_return rfl ?_
      have h9 : x6.toInt.toNat = 9 := by rw [yz_8] at h_1; omega
      rw [h9] at hX
      exact hQ _ hX
    · rw [yz_8] at h_2
      refine y_aload_n rfl rfl ?_
      refine y_getR rfl htb hbn rfl rfl hr1 ?_
      refine y_iload rfl rfl ?_
      refine y_dup2 rfl rfl rfl ?_
      refine y_iaload rfl ht1 hn1 (by omega) (by omega) ?_
      refine y_aload rfl rfl ?_
      refine y_iload rfl rfl ?_
      refine y_iaload rfl ht_a ha_a (by omega) (by omega) ?_
      refine y_isub rfl ?_
      refine y_iastore rfl ht1 hn1 (Nat.le_trans (by decide) (by omega : 94 ≤ _)) (by omega) (by omega) ?_
      refine y_nameI (fun I2 e5 => ?_)
      have hX2 := hX.wr e5 (show _ = yRec (mLsS bv le) G0 x6.toInt.toNat (bv + 1 + 1) x6.toInt.toNat - le x6.toInt.toNat by rw [hg1, e1 _ (by omega)])
      refine y_iinc (ls' := [some _, some _, some _, some _, some _, some _, some _]) rfl rfl rfl rfl ?_
      refine y_goto rfl j_X13_lose_123 ?_
      exact ih _ I2 (by rw [yinc (by omega), show (x6.toInt + 1).toNat = x6.toInt.toNat + 1 by omega]; exact hX2) (fun j hj => by rw [e5, upd2_row hne]; exact e1 j hj) (by rw [yinc (by omega)]; omega) (by rw [yinc (by omega)]; omega) (by rw [yinc (by omega)]; omega)
theorem hx_lose {bv : Nat} {x1 : Int32} (hS0 : ySh n tg R) (hX0 : yX nb tg0 G0 R0 n tg I R) (hlo : 94 ≤ bv) (hbv : bv < nb) (htb0 : tg0 bv = (21, 0)) (hRG : yRI K nb tg0 G0 R0) (h0 : 0 ≤ x1.toInt) (h1 : x1.toInt ≤ 999)
    (hQ : ∀ (le : Nat → Int32) n1 tg1 I1 R1, (∀ j, j < 9 → (le j).toInt = mLe G0 bv x1 j) → (∀ j, j < 9 → 0 ≤ (le j).toInt ∧ (le j).toInt ≤ (G0 (bv + 1 + 1) j).toInt) → ySh n1 tg1 R1 → yX nb tg0 (mLsD G0 bv le) R0 n1 tg1 I1 R1 → Q (.inl none) (n1, tg1, I1, R1) (c + 1) (s + 9)) : yC 182 [.ref bv, .int x1] (n, tg, I, R) c s Q := by
  have hR0 : yRI K n tg I R := hRG.grow hX0
  have hb : bv < n := Nat.lt_of_lt_of_le hbv hX0.1
  have ht : tg bv = (21, 0) := (hX0.2.1 bv hbv).1.trans htb0
  have hq1n : bv + 1 + 1 < nb := (hRG.ven hlo hbv htb0 (j := 1) (by decide)).2.1
  have hIG : I (bv + 1 + 1) = G0 (bv + 1 + 1) := hX0.n hq1n
  refine y_in (M := xm_X13_lose) (ls := [some _, some _, _, _, _, _, _]) rfl rfl rfl ?_
  obtain ⟨hR_v, hb_v, ht_v⟩ := hR0.ven hlo hb ht (j := 1) (by decide)
  obtain ⟨q1, q2⟩ := hR0.cap hlo hb ht
  have hK := hR0.1.2.2.2.2.2.2.2.2
  have h94 : 94 ≤ n := hS0.1
  have hf : ∀ j, j < 9 → 0 ≤ (I (bv + 1 + 1) j).toInt ∧ (I (bv + 1 + 1) j).toInt ≤ 1000000 := fun j hj => by
    have hle := ySum_le q1 j hj
    have hle : (I (bv + 1 + 1) j).toInt ≤ ySum (fun j => (I (bv + 2) j).toInt) 9 := hle
    exact ⟨q1 j hj, by omega⟩
  refine y_aload_n rfl rfl ?_
  refine y_aload_n rfl rfl ?_
  refine y_getR rfl ht hb rfl rfl hR_v ?_
  refine y_virt rfl rfl rfl rfl rfl ht hb ?_
  refine r_allE ht_v hb_v hf (fun v hv => ?_)
  refine y_ret1 ?_
  have hv0 := (ySum_bd (f := fun j => (I (bv + 1 + 1) j).toInt) (k := 9) hf).1
  rw [← hv] at hv0
  obtain ⟨w, hw, hw0, hw1, hw2⟩ := losW h0 h1 hv0
  refine y_istore_n (ls' := [some _, some _, some _, _, _, _, _]) rfl rfl rfl ?_
  refine y_iload_n rfl rfl ?_
  refine y_iload_n rfl rfl ?_
  refine y_min rfl rfl ?_
  rw [← hw]
  refine y_istore_n (ls' := [some _, some _, some _, some _, _, _, _]) rfl rfl rfl ?_
  refine y_bip rfl (by decide) ?_
  refine y_newarrL (m := 9) rfl rfl (by decide) (by decide) rfl (fun n1 tg1 I1 R1 hA => ?_)
  refine y_astore (ls' := [some _, some _, some _, some _, some _, _, _]) rfl rfl rfl ?_
  refine y_iload_n rfl rfl ?_
  refine y_istore (ls' := [some _, some _, some _, some _, some _, some _, _]) rfl rfl rfl ?_
  refine y_iconst rfl ?_
  refine y_istore (ls' := [some _, some _, some _, some _, some _, some _, some _]) rfl rfl rfl ?_
  have hnA := hA.1
  have hX : yX n tg I R n1 tg1 I1 R1 := hA.x rfl
  have hS1 := hS0.x hX
  have ht_a : tg1 n = (0, 9) := hA.2.1
  have hb1 : bv < n1 := by omega
  have ht1 := (hX.2.1 bv hb).1.trans ht
  have hRb1 := (congrFun (hX.2.1 bv hb).2.2 1).trans hR_v
  have ht_v1 := (hX.2.1 _ hb_v).1.trans ht_v
  have hI1 : I1 (bv + 1 + 1) = I (bv + 1 + 1) := (hX.2.1 _ hb_v).2.1
  have hz := hA.2.2.1
  have hf1 : ∀ j, j < 9 → 0 ≤ (I1 (bv + 1 + 1) j).toInt ∧ (I1 (bv + 1 + 1) j).toInt ≤ 1000000 := fun j hj => by rw [hI1]; exact hf j hj
  have hv1 : w.toInt ≤ ySum (fun j => (I1 (bv + 1 + 1) j).toInt) 9 := by rw [hI1, ← hv]; exact hw2
  have hz0 : ySum (fun j => (I1 n j).toInt) 9 = 0 := by
    rw [ySum_eq (f := fun j => (I1 n j).toInt) (g := fun _ => 0) (fun j _ => by rw [hz j]; decide)]; decide
  refine lose1X ht1 hb1 hRb1 ht_v1 (by omega) ht_a (by omega) h94 (by omega) hf1 ⟨hw0, hw1⟩ hw2 (fun I2 x3 e0 e1 e2 e4 => ?_) 10 _ _ I1 (fun _ _ => rfl) (fun j hj => ⟨by rw [hz j]; decide, by rw [hz j]; exact (hf1 j hj).1⟩) (by rw [hz0]; omega) (fun j _ => by rw [hz j]; decide) (fun j hj => by rw [yz_0] at hj; omega) (by decide) (by decide) (by decide)
  refine y_iconst rfl ?_
  refine y_istore (ls' := [some _, some _, some _, some _, some _, some _, some _]) rfl rfl rfl ?_
  have hcapE : (fun j => (I1 (bv + 1 + 1) j).toInt) = mCap G0 bv := funext fun j => by unfold mCap; rw [hI1, hIG]
  have hvE : v.toInt = ySum (mCap G0 bv) 9 := by rw [hv, ← hcapE, hI1]
  have hwE : w.toInt = mBo G0 bv x1 := by
    unfold mBo
    rw [← hvE, hw]
    by_cases hlt : v < x1
    · rw [if_pos hlt, if_pos (Int32.lt_iff_toInt_lt.1 hlt)]
    · rw [if_neg hlt, if_neg fun h => hlt (Int32.lt_iff_toInt_lt.2 h)]
  have hcap0 : ∀ j, j < 9 → 0 ≤ mCap G0 bv j := fun j hj => by rw [← hcapE]; exact (hf1 j hj).1
  have e4' : ∀ j, j < 9 → (I2 n j).toInt = qL (mBo G0 bv x1) (ySum (mCap G0 bv) 9) (mCap G0 bv) j := fun j hj => by rw [e4 j hj, hwE, hvE, hcapE]
  have hLE : x3.toInt = mBo G0 bv x1 - ySum (qL (mBo G0 bv x1) (ySum (mCap G0 bv) 9) (mCap G0 bv)) 9 := by
    have := ySum_eq (f := fun j => (I2 n j).toInt) (g := qL (mBo G0 bv x1) (ySum (mCap G0 bv) 9) (mCap G0 bv)) (k := 9) fun j hj => e4' j hj
    rw [this] at e2; omega
  obtain ⟨p0, p1⟩ := qL_left (b := mBo G0 bv x1) (a := ySum (mCap G0 bv) 9) hcap0 rfl (by omega) (by omega)
  have h9 := lL_9 (q := qL (mBo G0 bv x1) (ySum (mCap G0 bv) 9) (mCap G0 bv)) (cap := mCap G0 bv) p0 p1
  have hqc : ∀ j, j < 9 → 0 ≤ qL (mBo G0 bv x1) (ySum (mCap G0 bv) 9) (mCap G0 bv) j ∧ qL (mBo G0 bv x1) (ySum (mCap G0 bv) 9) (mCap G0 bv) j ≤ (I1 (bv + 1 + 1) j).toInt := fun j hj => by
    rw [← e4' j hj]; exact e1 j hj
  have hsq : 0 ≤ ySum (qL (mBo G0 bv x1) (ySum (mCap G0 bv) 9) (mCap G0 bv)) 9 := by
    have := ySum_mono (f := fun _ => 0) 9 fun j hj => (hqc j hj).1
    rw [ySum_c0 9 fun _ _ => rfl] at this; exact this
  refine lose2X (q := qL (mBo G0 bv x1) (ySum (mCap G0 bv) 9) (mCap G0 bv)) (L := mBo G0 bv x1 - ySum (qL (mBo G0 bv x1) (ySum (mCap G0 bv) 9) (mCap G0 bv)) 9) ht1 hb1 hRb1 ht_v1 (by omega) ht_a (by omega) h94 (by omega) hf1 ⟨hw0, hw1⟩ hqc ⟨p0, by omega⟩ (by rw [hcapE]; exact h9) (fun I3 x4 g0 g1 => ?_) 10 _ _ 0 I2 e0 (fun j hj => by rw [if_neg (by omega), e4' j hj]; omega) hLE (by decide) (by decide) (by decide)
  refine y_iconst rfl ?_
  refine y_istore (ls' := [some _, some _, some _, some _, some _, some _, some _]) rfl rfl rfl ?_
  have hX3 : yX n tg I R n1 tg1 I3 R1 := hX.upI (b := n) (Nat.le_refl n) g0
  exact lose3X (le := I3 n) hlo hbv htb0 hRG ht_a (by omega) (by omega) (fun I4 k => hQ (I3 n) _ _ _ _ (fun j hj => by rw [g1 j hj, hcapE]; rfl) (fun j hj => by
    have hz := hqc j hj
    rw [g1 j hj, ← hIG, ← hI1]
    unfold dL
    split
    · rename_i hd; have h2_ : qL (mBo G0 bv x1) (ySum (mCap G0 bv) 9) (mCap G0 bv) j < (I1 (bv + 1 + 1) j).toInt := hd.2; omega
    · omega) hS1 k) 10 _ I3 (hX0.trans hX3) (fun j _ => rfl) (by decide) (by decide) (by decide)
theorem mPr_kp {b : Nat} {r z : Int32} (h : yRI K n tg I R) (h1 : 94 ≤ b) (h2 : b < n) (h3 : tg b = (21, 0)) : yKp n tg I R n tg (mPrD (upd2 I 83 0 z) b r) R := by
  have hv := (h.ven h1 h2 h3 (j := 3) (by decide)).2.2
  refine yKp.of (fun a ha => (mPrD_row (by omega) (by omega)).trans (upd2_row (by omega))) ((mPrD_row (by decide) (by omega)).trans (upd2_row (by decide))) (fun i hi => ?_) ?_
  · have hq := (h.l87.2.2.2.2 i hi).2.1
    exact (mPrD_row (by omega) (h.wtag hi (by rw [hv]; decide))).trans (upd2_row (by omega))
  · exact (congrFun (mPrD_row (by decide) (by omega)) 1).trans (upd2_ne (.inr (by decide)))
theorem mLs_kp {b : Nat} {le : Nat → Int32} {z : Int32} (h : yRI K n tg I R) (h1 : 94 ≤ b) (h2 : b < n) (h3 : tg b = (21, 0)) : yKp n tg I R n tg (mLsD (upd2 I 83 0 z) b le) R := by
  have hv := (h.ven h1 h2 h3 (j := 1) (by decide)).2.2
  refine yKp.of (fun a ha => (mLsD_row (by omega)).trans (upd2_row (by omega))) ((mLsD_row (by omega)).trans (upd2_row (by decide))) (fun i hi => ?_) ?_
  · have hq := (h.l87.2.2.2.2 i hi).2.1
    exact (mLsD_row (h.wtag hi (by rw [hv]; decide))).trans (upd2_row (by omega))
  · exact (congrFun (mLsD_row (by omega)) 1).trans (upd2_ne (.inr (by decide)))
theorem mLsD_ri {b : Nat} {le : Nat → Int32} (h : yRI K n tg I R) (h1 : 94 ≤ b) (h2 : b < n) (h3 : tg b = (21, 0)) (hle : ∀ j, j < 9 → 0 ≤ (le j).toInt ∧ (le j).toInt ≤ (I (b + 1 + 1) j).toInt) : yRI K n tg (mLsD I b le) R := by
  have key : ∀ m, m ≤ 9 → yRI K n tg (yRec (mLsS b le) I m) R := by
    intro m
    induction m with
    | zero => intro _; exact h
    | succ m ih =>
      intro hm
      refine ((ih (by omega)).capB1 h1 h2 h3 (k := m) (x := le m) (by omega) ?_ rfl).1
      rw [mLsD_k m m, if_neg (Nat.lt_irrefl m)]
      exact hle m (by omega)
  exact key 9 (Nat.le_refl 9)
theorem h_result (hS0 : ySh n tg R) (hR0 : yRI K n tg I R) (hk6 : K < 600) {x1 x2 x3 : Int32} (hQ1 : ¬ ((0 ≤ x1.toInt ∧ x1.toInt < (I 91 2).toInt) ∧ (x3.toInt = -2 ∨ (x3.toInt = -1 ∨ 0 ≤ x3.toInt ∧ x3.toInt < (I 83 8).toInt))) → ∀ (v : Int32) n1 tg1 I1 R1 c1 s1, ySh n1 tg1 R1 → yRI (K + 1) n1 tg1 I1 R1 → yKp n tg I R n1 tg1 I1 R1 → I1 83 0 = Int32.ofInt 1 → yRf n I R I1 R1 → c1 ≤ c + 1 → s1 ≤ s + 9 → Q (.inl (some (.int v))) (n1, tg1, I1, R1) c1 s1) (hQ2 : ((0 ≤ x1.toInt ∧ x1.toInt < (I 91 2).toInt) ∧ (x3.toInt = -2 ∨ (x3.toInt = -1 ∨ 0 ≤ x3.toInt ∧ x3.toInt < (I 83 8).toInt))) ∧ ¬ (-999 ≤ x2.toInt ∧ x2.toInt ≤ 999) → ∀ (v : Int32) n1 tg1 I1 R1 c1 s1, ySh n1 tg1 R1 → yRI (K + 1) n1 tg1 I1 R1 → yKp n tg I R n1 tg1 I1 R1 → I1 83 0 = Int32.ofInt 2 → yRf n I R I1 R1 → c1 ≤ c + 1 → s1 ≤ s + 9 → Q (.inl (some (.int v))) (n1, tg1, I1, R1) c1 s1) (hQ3 : ∀ b, b = yAd R 91 x1.toInt.toNat → ((0 ≤ x1.toInt ∧ x1.toInt < (I 91 2).toInt) ∧ (x3.toInt = -2 ∨ (x3.toInt = -1 ∨ 0 ≤ x3.toInt ∧ x3.toInt < (I 83 8).toInt))) ∧ (-999 ≤ x2.toInt ∧ x2.toInt ≤ 999) ∧ ¬ (x3.toInt = -2 ∨ ¬ (I (b + 1 + 0) (ySeat x3).toInt.toNat).toInt = 0) → ∀ (v : Int32) n1 tg1 I1 R1 c1 s1, ySh n1 tg1 R1 → yRI (K + 1) n1 tg1 I1 R1 → yKp n tg I R n1 tg1 I1 R1 → I1 83 0 = Int32.ofInt 3 → yRf n I R I1 R1 → c1 ≤ c + 1 → s1 ≤ s + 9 → Q (.inl (some (.int v))) (n1, tg1, I1, R1) c1 s1) (hQ0a : ∀ b, b = yAd R 91 x1.toInt.toNat → ((0 ≤ x1.toInt ∧ x1.toInt < (I 91 2).toInt) ∧ (x3.toInt = -2 ∨ (x3.toInt = -1 ∨ 0 ≤ x3.toInt ∧ x3.toInt < (I 83 8).toInt))) ∧ (-999 ≤ x2.toInt ∧ x2.toInt ≤ 999) ∧ (x3.toInt = -2 ∨ ¬ (I (b + 1 + 0) (ySeat x3).toInt.toNat).toInt = 0) ∧ 0 ≤ x2.toInt → ∀ (v : Int32) n1 tg1 I1 R1 c1 s1, ySh n1 tg1 R1 → yRI (K + 1) n1 tg1 I1 R1 → yKp n tg I R n1 tg1 I1 R1 → I1 83 0 = Int32.ofInt 0 → v = yFz (I1 (b + 1 + 1)) 9 → yX n tg (mPrD (upd2 I 83 0 (Int32.ofInt 0)) b x2) R n1 tg1 I1 R1 → c1 ≤ c + 1 → s1 ≤ s + 9 → Q (.inl (some (.int v))) (n1, tg1, I1, R1) c1 s1) (hQ0b : ∀ b, b = yAd R 91 x1.toInt.toNat → ((0 ≤ x1.toInt ∧ x1.toInt < (I 91 2).toInt) ∧ (x3.toInt = -2 ∨ (x3.toInt = -1 ∨ 0 ≤ x3.toInt ∧ x3.toInt < (I 83 8).toInt))) ∧ (-999 ≤ x2.toInt ∧ x2.toInt ≤ 999) ∧ (x3.toInt = -2 ∨ ¬ (I (b + 1 + 0) (ySeat x3).toInt.toNat).toInt = 0) ∧ x2.toInt < 0 ∧ x3.toInt = -2 → ∀ (v : Int32) n1 tg1 I1 R1 c1 s1, ySh n1 tg1 R1 → yRI (K + 1) n1 tg1 I1 R1 → yKp n tg I R n1 tg1 I1 R1 → I1 83 0 = Int32.ofInt 0 → ∀ le : Nat → Int32, (∀ j, j < 9 → (le j).toInt = mLe (upd2 I 83 0 (Int32.ofInt 0)) b (-x2) j) → v = yFz (I1 (b + 1 + 1)) 9 → yX n tg (mLsD (upd2 I 83 0 (Int32.ofInt 0)) b le) R n1 tg1 I1 R1 → c1 ≤ c + 1 → s1 ≤ s + 9 → Q (.inl (some (.int v))) (n1, tg1, I1, R1) c1 s1) (hQ0c : ∀ b, b = yAd R 91 x1.toInt.toNat → ((0 ≤ x1.toInt ∧ x1.toInt < (I 91 2).toInt) ∧ (x3.toInt = -2 ∨ (x3.toInt = -1 ∨ 0 ≤ x3.toInt ∧ x3.toInt < (I 83 8).toInt))) ∧ (-999 ≤ x2.toInt ∧ x2.toInt ≤ 999) ∧ (x3.toInt = -2 ∨ ¬ (I (b + 1 + 0) (ySeat x3).toInt.toNat).toInt = 0) ∧ x2.toInt < 0 ∧ ¬ x3.toInt = -2 → ∀ (v : Int32) n1 tg1 I1 R1 c1 s1, ySh n1 tg1 R1 → yRI (K + 1) n1 tg1 I1 R1 → yKp n tg I R n1 tg1 I1 R1 → I1 83 0 = Int32.ofInt 0 → v = yFz (I1 (b + 1 + 1)) 9 → yX n tg (upd2 (upd2 I 83 0 (Int32.ofInt 0)) 84 (ySeat x3).toInt.toNat (I 84 (ySeat x3).toInt.toNat + x2)) R n1 tg1 I1 R1 → c1 ≤ c + 1 → s1 ≤ s + 9 → Q (.inl (some (.int v))) (n1, tg1, I1, R1) c1 s1) : yC 213 [.ref 83, .int x1, .int x2, .int x3] (n, tg, I, R) c s Q := by
  have hno := Nat.le_refl n
  have hn := hno
  have hRo := hR0
  have hK : yKp n tg I R n tg I R := yKp.rf
  have hX : yX n tg I R n tg I R := yX.rf
  have hS := hS0
  have hR := hR0
  have h94 : 94 ≤ n := hS0.1
  have hz : ySz I I := hX.sz h94
  have hxn := hX.1
  have hN := hR0.1
  have hnb : 94 ≤ n := hR0.2.2.2.2.2.2
  have hg : yGm n I I := yGm.rf
  have hday : I 83 1 = I 83 1 := rfl
  have hb83 : ∀ a, a ≠ 83 → a < n → I a = I a := fun _ _ _ => rfl
  have hRb : ∀ a, a < n → R a = R a := fun _ _ => rfl
  have hB : yX n tg I R n tg I R := yX.rf
  have h8 : ∀ a, 84 ≤ a → a ≤ 86 → I a = I a := fun _ _ _ => rfl
  have h3k : ∀ k, k ≠ 0 → I 83 k = I 83 k := fun _ _ => rfl
  refine y_in (M := xm_X14_result) (ls := [some _, some _, some _, some _, _]) rfl rfl rfl ?_
  refine y_aload_n rfl rfl ?_
  refine y_aload_n rfl rfl ?_
  refine y_iload_n rfl rfl ?_
  refine y_virt rfl rfl rfl rfl rfl (ySh.t hS rfl) (ySh.n hS rfl) ?_
  refine y_in (M := xm_X14_isNoVenture) (ls := [some _, some _]) rfl rfl rfl ?_
  refine y_iload_n rfl rfl ?_
  refine y_iconst rfl ?_
  refine y_aload_n rfl rfl ?_
  refine y_getR rfl (ySh.t hS rfl) (ySh.n hS rfl) rfl rfl (ySh.r hS rfl) ?_
  refine y_virt rfl rfl rfl rfl rfl (ySh.t hS rfl) (ySh.n hS rfl) ?_
  refine y_in (M := xm_Jx4a65c_size_8abf5) (ls := [some _]) rfl rfl rfl ?_
  refine y_aload_n rfl rfl ?_
  refine y_getI rfl (ySh.t hS rfl) (ySh.n hS rfl) rfl rfl ?_
  refine y_ireturn rfl rfl rfl ?_
  refine y_ret1 ?_
  refine y_iconst rfl ?_
  refine y_isub rfl ?_
  refine y_static rfl rfl rfl rfl rfl ?_
  refine r_isIn (fun h_1 h_2 => ?_) (fun h_3 => ?_)
  · rw [yz_0] at h_1
    try rw [ysub (by rw [yz_1]; omega) (by rw [yz_1]; omega), yz_1] at h_2
    refine y_ret1 ?_
    refine y_if_neT rfl j_X14_isNoVenture_21 (by decide) ?_
    refine y_iconst rfl ?_
    refine y_ireturn rfl rfl rfl ?_
    refine y_ret1 ?_
    refine y_if_neF rfl (by decide) ?_
    refine y_iload_n rfl rfl ?_
    refine y_bip rfl (by decide) ?_
    refine y_icmp_eq rfl j_X14_result_27 (fun h_4 => ?_) (fun h_5 => ?_)
    · rw [yz_m2] at h_4
      refine y_iconst rfl ?_
      refine y_iconst rfl ?_
      refine y_virt rfl rfl rfl rfl rfl (ySh.t hS rfl) (ySh.n hS rfl) ?_
      refine y_in (M := xm_X14_start) (ls := [some _, some _, some _]) rfl rfl rfl ?_
      refine y_aload_n rfl rfl ?_
      refine y_iconst rfl ?_
      refine y_putI rfl (ySh.t hS rfl) (ySh.n hS rfl) rfl (Nat.le_of_ble_eq_true rfl) rfl rfl ?_
      refine y_nameI (fun I6 e6 => ?_)
      have hR1 := (hR0.grow hX).mod0 e6 (by decide) (by decide)
      have hK := (hK.x hRo hno hX).upI (upI e6) (by decide) (by decide) (fun i hi => by have := (hRo.l87.2.2.2.2 i hi).2.1; omega) (by rw [e6, upd2_ne (.inr (by decide))]; exact Int.le_refl _)
      have hth : I6 83 0 = Int32.ofInt (0) := by rw [e6, upd2_self]
      have hzz : ySz8 I I6 := ySz8_of (upI e6) (by rw [e6]; exact ⟨upd2_ne (.inr (by decide)), upd2_ne (.inr (by decide))⟩)
      have hB := (hB.trans hX).wr e6 rfl
      have h8 : ∀ a, 84 ≤ a → a ≤ 86 → I6 a = I a := fun a h1 h2 => (upI e6 a (by omega)).trans ((hX.2.1 a (by omega)).2.1.trans (h8 a h1 h2))
      have h3k : ∀ k, k ≠ 0 → I6 83 k = I 83 k := fun k hk => (congrFun (congrFun e6 83) k).trans ((upd2_ne (.inr hk)).trans ((congrFun (hX.2.1 83 (by omega)).2.1 k).trans (h3k k hk)))
      have hg := (hg.gx hX (by omega)).skip e6 (by decide)
      have hday : I6 83 1 = I 83 1 := (congrFun (congrFun e6 83) 1).trans ((upd2_ne (.inr (by decide))).trans ((congrFun (hX.2.1 83 (by omega)).2.1 1).trans hday))
      have hRb : ∀ a, a < n → R a = R a := fun a ha => (hX.2.1 a (by omega)).2.2.trans (hRb a ha)
      have hb83 : ∀ a, a ≠ 83 → a < n → I6 a = I a := fun a ha hb => (upI e6 a ha).trans ((hX.2.1 a (by omega)).2.1.trans (hb83 a ha hb))
      have hS0 := hS
      have hR0 := hR1
      have hn := Nat.le_refl n
      have h94 := hS0.1
      have hX := @yX.rf n tg I6 R
      have hS := hS0.x hX
      have hR := hR0.x hn hX
      have hz := hX.sz h94
      have hxn := hX.1
      have hN := hR0.1
      have hnb := hR0.2.2.2.2.2.2
      have hthB := hth
      refine y_aload_n rfl rfl ?_
      refine y_iload_n rfl rfl ?_
      refine y_iload_n rfl rfl ?_
      refine y_virt rfl rfl rfl rfl rfl (ySh.t hS rfl) (ySh.n hS rfl) ?_
      refine y_in (M := xm_X14_refuse) (ls := [some _, some _, some _]) rfl rfl rfl ?_
      refine y_iload_n rfl rfl ?_
      refine y_if_eqT rfl j_X14_refuse_16 (by decide) ?_
      refine y_aload_n rfl rfl ?_
      refine y_getIv (v := Int32.ofInt (0)) rfl (ySh.t hS rfl) (ySh.n hS rfl) rfl rfl hth ?_
      refine y_if_leT rfl j_X14_refuse_27 (by decide) ?_
      refine y_iconst rfl ?_
      refine y_ireturn rfl rfl rfl ?_
      refine y_ret1 ?_
      refine y_ireturn rfl rfl rfl ?_
      refine y_ret1 ?_
      refine y_if_neF rfl (by decide) ?_
      refine y_aload_n rfl rfl ?_
      refine y_iload_n rfl rfl ?_
      refine y_sip rfl (by decide) ?_
      refine y_sip rfl (by decide) ?_
      refine y_static rfl rfl rfl rfl rfl ?_
      refine r_isIn (fun h_7 h_8 => ?_) (fun h_9 => ?_)
      · rw [yz_m999] at h_7
        rw [yz_999] at h_8
        refine y_ret1 ?_
        refine y_if_neT rfl j_X14_result_53 (by decide) ?_
        refine y_iconst rfl ?_
        refine y_iconst rfl ?_
        refine y_virt rfl rfl rfl rfl rfl (ySh.t hS rfl) (ySh.n hS rfl) ?_
        refine y_in (M := xm_X14_refuse) (ls := [some _, some _, some _]) rfl rfl rfl ?_
        refine y_iload_n rfl rfl ?_
        refine y_if_eqT rfl j_X14_refuse_16 (by decide) ?_
        refine y_aload_n rfl rfl ?_
        refine y_getIv (v := Int32.ofInt (0)) rfl (ySh.t hS rfl) (ySh.n hS rfl) rfl rfl hth ?_
        refine y_if_leT rfl j_X14_refuse_27 (by decide) ?_
        refine y_iconst rfl ?_
        refine y_ireturn rfl rfl rfl ?_
        refine y_ret1 ?_
        refine y_if_neF rfl (by decide) ?_
        refine y_aload_n rfl rfl ?_
        refine y_iload_n rfl rfl ?_
        refine y_bip rfl (by decide) ?_
        refine y_icmp_eq rfl j_X14_result_94 (fun h_10 => ?_) (fun h_11 => ?_)
        · rw [yz_m2] at h_10
          refine y_iconst rfl ?_
          refine y_iconst rfl ?_
          refine y_virt rfl rfl rfl rfl rfl (ySh.t hS rfl) (ySh.n hS rfl) ?_
          refine y_in (M := xm_X14_refuse) (ls := [some _, some _, some _]) rfl rfl rfl ?_
          refine y_iload_n rfl rfl ?_
          refine y_if_eqT rfl j_X14_refuse_16 (by decide) ?_
          refine y_aload_n rfl rfl ?_
          refine y_getIv (v := Int32.ofInt (0)) rfl (ySh.t hS rfl) (ySh.n hS rfl) rfl rfl hth ?_
          refine y_if_leT rfl j_X14_refuse_27 (by decide) ?_
          refine y_iconst rfl ?_
          refine y_ireturn rfl rfl rfl ?_
          refine y_ret1 ?_
          refine y_if_eqT rfl j_X14_result_104 (by decide) ?_
          refine y_aload_n rfl rfl ?_
          refine y_getR rfl (ySh.t hS rfl) (ySh.n hS rfl) rfl rfl (ySh.r hS rfl) ?_
          refine y_iload_n rfl rfl ?_
          refine y_virt rfl rfl rfl rfl rfl (ySh.t hS rfl) (ySh.n hS rfl) ?_
          refine l_get (nb := n) (ySh.t hS rfl) (ySh.n hS rfl) (Nat.le_trans hn hX.1) hR.l91 (by omega) (by omega) (fun b12 eb_b12 hlo_b12 hb0_b12 ht_b12 => ?_)
          have hb_b12 := Nat.lt_of_lt_of_le hb0_b12 hn
          replace ht_b12 := (hX.2.1 _ hb_b12).1.symm.trans ht_b12
          refine y_ret1 ?_
          refine y_cast rfl ((hX.2.1 _ hb_b12).1.trans ht_b12) (Nat.lt_of_lt_of_le hb_b12 hX.1) ?_
          refine y_astore (ls' := [some _, some _, some _, some _, some _]) rfl rfl rfl ?_
          refine y_iload_n rfl rfl ?_
          refine y_if_lt rfl j_X14_result_131 (fun h_13 => ?_) (fun h_14 => ?_)
          · refine y_iload_n rfl rfl ?_
            refine y_bip rfl (by decide) ?_
            refine y_icmp_ne rfl j_X14_result_147 (fun h_15 => ?_) (fun h_16 => ?_)
            · rw [yz_m2] at h_15
              refine y_aload_n rfl rfl ?_
              refine y_getR rfl (ySh.t hS rfl) (ySh.n hS rfl) rfl rfl (ySh.r hS rfl) ?_
              refine y_iload_n rfl rfl ?_
              refine y_static rfl rfl rfl rfl rfl ?_
              refine y_in (M := xm_X14_seat) (ls := [some _]) rfl rfl rfl ?_
              refine y_iload_n rfl rfl ?_
              refine y_iconst rfl ?_
              refine y_icmp_ne rfl j_X14_seat_10 (fun h_17 => ?_) (fun h_18 => ?_)
              · rw [yz_m1] at h_17
                refine y_iload_n rfl rfl ?_
                refine y_ireturn rfl rfl rfl ?_
                refine y_ret1 ?_
                refine y_dup2 rfl rfl rfl ?_
                refine y_ialoadv (J := I 84) rfl (ySh.t hS rfl) (ySh.n hS rfl) (by omega) (by omega) (((hB.trans hX).n (by omega)).trans (by repeat (first | rfl | (rw [upd2_row (by first | decide | omega)]) | refine upd2_cg ?_))) ?_
                refine y_iload_n rfl rfl ?_
                refine y_iadd rfl ?_
                refine y_iastore rfl (ySh.t hS rfl) (ySh.n hS rfl) (Nat.le_of_ble_eq_true rfl) (by omega) (by omega) ?_
                refine y_nameI (fun I19 e19 => ?_)
                have hR1 := (hR0.grow hX).arr e19 (by decide)
                have hK := (hK.x hRo hno hX).upI (upI e19) (by decide) (by decide) (fun i hi => by have := (hRo.l87.2.2.2.2 i hi).2.1; omega) (by rw [e19, upd2_ne (.inl (by omega))]; exact Int.le_refl _)
                have hth := (show I19 83 0 = I6 83 0 by rw [e19, upd2_ne (.inl (by omega))]).trans hth
                have hzz : ySz I6 I19 := ySz_ofE (upI e19) (by omega)
                have hB := (hB.trans hX).wr e19 rfl
                have h3k : ∀ k, k ≠ 0 → I19 83 k = I 83 k := fun k hk => (congrFun (congrFun e19 83) k).trans ((upd2_ne (.inl (by omega))).trans ((congrFun (hX.2.1 83 (by omega)).2.1 k).trans (h3k k hk)))
                have hg := (hg.gx hX (by omega)).skip e19 (by decide)
                have hday : I19 83 1 = I 83 1 := (congrFun (congrFun e19 83) 1).trans ((upd2_ne (.inl (by omega))).trans ((congrFun (hX.2.1 83 (by omega)).2.1 1).trans hday))
                have hRb : ∀ a, a < n → R a = R a := fun a ha => (hX.2.1 a (by omega)).2.2.trans (hRb a ha)
                have hS0 := hS
                have hR0 := hR1
                have ht_b12 := (hX.2.1 _ hb_b12).1.trans ht_b12
                have hb_b12 := Nat.lt_of_lt_of_le hb_b12 hX.1
                have hb0_b12 := hb_b12
                have hn := Nat.le_refl n
                have h94 := hS0.1
                have hX := @yX.rf n tg I19 R
                have hS := hS0.x hX
                have hR := hR0.x hn hX
                have hz := hX.sz h94
                have hxn := hX.1
                have hN := hR0.1
                have hnb := hR0.2.2.2.2.2.2
                have hthB := hth
                refine y_aload rfl rfl ?_
                refine y_aload rfl rfl ?_
                obtain ⟨hR_v20, hb_v20, ht_v20⟩ := hR0.ven hlo_b12 hb0_b12 ht_b12 (j := 1) (by decide)
                have hb0_v20 := hb_v20
                have hb_v20 := Nat.lt_of_lt_of_le hb_v20 hn
                have hlo_v20 : 94 ≤ b12 + 1 + 1 := by omega
                have hR2_v20 := (congrFun (hX.2.1 b12 hb_b12).2.2 1).trans hR_v20
                refine y_getR rfl ((hX.2.1 _ hb_b12).1.trans ht_b12) (Nat.lt_of_lt_of_le hb_b12 hX.1) rfl rfl hR2_v20 ?_
                refine y_virt rfl rfl rfl rfl rfl ((hX.2.1 _ hb_b12).1.trans ht_b12) (Nat.lt_of_lt_of_le hb_b12 hX.1) ?_
                refine r_allX ((hX.2.1 _ hb_v20).1.trans ht_v20) (Nat.lt_of_lt_of_le hb_v20 hX.1) (fun v_21 hv_21 => ?_)
                rw [show I19 (b12 + 1 + 1) = I (b12 + 1 + 1) from (((hB.trans hX).n (by omega)).trans (by repeat (first | rfl | (rw [upd2_row (by first | decide | omega)]) | refine upd2_cg ?_)))] at hv_21
                subst hv_21
                refine y_ret1 ?_
                refine y_ireturn rfl rfl rfl ?_
                exact hQ0c _ eb_b12 (by first | omega | (simp only [show ySeat x3 = x3 from if_neg (by omega)]; omega) | (simp only [show ySeat x3 = Int32.ofInt 8 from if_pos (by omega), show (Int32.ofInt 8).toInt.toNat = 8 from by decide]; omega)) _ _ _ _ _ _ _ hS ((hR0.grow hX).up (Nat.le_succ K) hk6) (hK.x hRo hno hX) hth (congrArg (fun f => yFz f 9) (((hB.trans hX).n (by omega)).trans (by repeat (first | rfl | (rw [upd2_row (by first | decide | omega)]) | refine upd2_cg ?_))).symm) (by first | (exact hB.trans hX) | (simp only [show ySeat x3 = x3 from if_neg (by omega)]; exact hB.trans hX) | (simp only [show ySeat x3 = Int32.ofInt 8 from if_pos (by omega), show (Int32.ofInt 8).toInt.toNat = 8 from by decide]; exact hB.trans hX)) (by omega) (by omega)
              · rw [yz_m1] at h_18
                refine y_bip rfl (by decide) ?_
                refine y_goto rfl j_X14_seat_11 ?_
                refine y_ireturn rfl rfl rfl ?_
                refine y_ret1 ?_
                refine y_dup2 rfl rfl rfl ?_
                refine y_ialoadw (j := 8) (J := I 84) rfl (ySh.t hS rfl) (ySh.n hS rfl) (by decide) (by decide) rfl (((hB.trans hX).n (by omega)).trans (by repeat (first | rfl | (rw [upd2_row (by first | decide | omega)]) | refine upd2_cg ?_))) ?_
                refine y_iload_n rfl rfl ?_
                refine y_iadd rfl ?_
                refine y_iastoreC (j := 8) rfl (ySh.t hS rfl) (ySh.n hS rfl) (Nat.le_of_ble_eq_true rfl) (by decide) (by decide) rfl ?_
                refine y_nameI (fun I22 e22 => ?_)
                have hR1 := (hR0.grow hX).arr e22 (by decide)
                have hK := (hK.x hRo hno hX).upI (upI e22) (by decide) (by decide) (fun i hi => by have := (hRo.l87.2.2.2.2 i hi).2.1; omega) (by rw [e22, upd2_ne (.inl (by omega))]; exact Int.le_refl _)
                have hth := (show I22 83 0 = I6 83 0 by rw [e22, upd2_ne (.inl (by omega))]).trans hth
                have hzz : ySz I6 I22 := ySz_ofE (upI e22) (by omega)
                have hB := (hB.trans hX).wr e22 rfl
                have h3k : ∀ k, k ≠ 0 → I22 83 k = I 83 k := fun k hk => (congrFun (congrFun e22 83) k).trans ((upd2_ne (.inl (by omega))).trans ((congrFun (hX.2.1 83 (by omega)).2.1 k).trans (h3k k hk)))
                have hg := (hg.gx hX (by omega)).skip e22 (by decide)
                have hday : I22 83 1 = I 83 1 := (congrFun (congrFun e22 83) 1).trans ((upd2_ne (.inl (by omega))).trans ((congrFun (hX.2.1 83 (by omega)).2.1 1).trans hday))
                have hRb : ∀ a, a < n → R a = R a := fun a ha => (hX.2.1 a (by omega)).2.2.trans (hRb a ha)
                have hS0 := hS
                have hR0 := hR1
                have ht_b12 := (hX.2.1 _ hb_b12).1.trans ht_b12
                have hb_b12 := Nat.lt_of_lt_of_le hb_b12 hX.1
                have hb0_b12 := hb_b12
                have hn := Nat.le_refl n
                have h94 := hS0.1
                have hX := @yX.rf n tg I22 R
                have hS := hS0.x hX
                have hR := hR0.x hn hX
                have hz := hX.sz h94
                have hxn := hX.1
                have hN := hR0.1
                have hnb := hR0.2.2.2.2.2.2
                have hthB := hth
                refine y_aload rfl rfl ?_
                refine y_aload rfl rfl ?_
                obtain ⟨hR_v23, hb_v23, ht_v23⟩ := hR0.ven hlo_b12 hb0_b12 ht_b12 (j := 1) (by decide)
                have hb0_v23 := hb_v23
                have hb_v23 := Nat.lt_of_lt_of_le hb_v23 hn
                have hlo_v23 : 94 ≤ b12 + 1 + 1 := by omega
                have hR2_v23 := (congrFun (hX.2.1 b12 hb_b12).2.2 1).trans hR_v23
                refine y_getR rfl ((hX.2.1 _ hb_b12).1.trans ht_b12) (Nat.lt_of_lt_of_le hb_b12 hX.1) rfl rfl hR2_v23 ?_
                refine y_virt rfl rfl rfl rfl rfl ((hX.2.1 _ hb_b12).1.trans ht_b12) (Nat.lt_of_lt_of_le hb_b12 hX.1) ?_
                refine r_allX ((hX.2.1 _ hb_v23).1.trans ht_v23) (Nat.lt_of_lt_of_le hb_v23 hX.1) (fun v_24 hv_24 => ?_)
                rw [show I22 (b12 + 1 + 1) = I (b12 + 1 + 1) from (((hB.trans hX).n (by omega)).trans (by repeat (first | rfl | (rw [upd2_row (by first | decide | omega)]) | refine upd2_cg ?_)))] at hv_24
                subst hv_24
                refine y_ret1 ?_
                refine y_ireturn rfl rfl rfl ?_
                exact hQ0c _ eb_b12 (by first | omega | (simp only [show ySeat x3 = x3 from if_neg (by omega)]; omega) | (simp only [show ySeat x3 = Int32.ofInt 8 from if_pos (by omega), show (Int32.ofInt 8).toInt.toNat = 8 from by decide]; omega)) _ _ _ _ _ _ _ hS ((hR0.grow hX).up (Nat.le_succ K) hk6) (hK.x hRo hno hX) hth (congrArg (fun f => yFz f 9) (((hB.trans hX).n (by omega)).trans (by repeat (first | rfl | (rw [upd2_row (by first | decide | omega)]) | refine upd2_cg ?_))).symm) (by first | (exact hB.trans hX) | (simp only [show ySeat x3 = x3 from if_neg (by omega)]; exact hB.trans hX) | (simp only [show ySeat x3 = Int32.ofInt 8 from if_pos (by omega), show (Int32.ofInt 8).toInt.toNat = 8 from by decide]; exact hB.trans hX)) (by omega) (by omega)
            · rw [yz_m2] at h_16
              refine y_aload rfl rfl ?_
              refine y_iload_n rfl rfl ?_
              refine y_ineg rfl ?_
              refine y_virt rfl rfl rfl rfl rfl ((hX.2.1 _ hb_b12).1.trans ht_b12) (Nat.lt_of_lt_of_le hb_b12 hX.1) ?_
              have hRG_ : yRI K n tg (upd2 I 83 0 (Int32.ofInt 0)) R := hRo.mod0 rfl (by decide) (by decide)
              have hBG_ : yX n tg (upd2 I 83 0 (Int32.ofInt 0)) R n tg I6 R := hB.trans hX
              refine hx_lose hS hBG_ hlo_b12 (show b12 < n by have := (hRo.l91.2.2.2.2 x1.toInt.toNat (by omega)).2.2.1; rw [eb_b12]; exact this) (by rw [eb_b12]; exact (hRo.l91.2.2.2.2 _ (by omega)).2.2.2) hRG_ (yneg2 (by omega) (by omega)).1 (yneg2 (by omega) (by omega)).2 (fun le_ n26 tg26 I26 R26 hle_ hlb_ hS hB => ?_)
              have hR1 := (mLsD_ri hRG_ hlo_b12 (show b12 < n by have := (hRo.l91.2.2.2.2 x1.toInt.toNat (by omega)).2.2.1; rw [eb_b12]; exact this) (by rw [eb_b12]; exact (hRo.l91.2.2.2.2 _ (by omega)).2.2.2) hlb_).grow hB
              have hK := (mLs_kp hRo hlo_b12 (show b12 < n by have := (hRo.l91.2.2.2.2 x1.toInt.toNat (by omega)).2.2.1; rw [eb_b12]; exact this) (by rw [eb_b12]; exact (hRo.l91.2.2.2.2 _ (by omega)).2.2.2)).x hRo hno hB
              have hnA := hB.1
              have htZ_b12 := (hX.2.1 _ hb_b12).1.trans ht_b12
              have ht_b12 : tg26 b12 = (21, 0) := (hB.2.1 _ (show b12 < n by have := (hRo.l91.2.2.2.2 x1.toInt.toNat (by omega)).2.2.1; rw [eb_b12]; exact this)).1.trans (by rw [eb_b12]; exact (hRo.l91.2.2.2.2 _ (by omega)).2.2.2)
              have hb_b12 : b12 < n26 := Nat.lt_of_lt_of_le (show b12 < n by have := (hRo.l91.2.2.2.2 x1.toInt.toNat (by omega)).2.2.1; rw [eb_b12]; exact this) hB.1
              have hb0_b12 := hb_b12
              have hth : I26 83 0 = Int32.ofInt 0 := (congrFun (hB.n (by omega : 83 < n)) 0).trans ((congrFun (mLsD_row (by omega)) 0).trans upd2_self)
              have hS0 := hS
              have hR0 := hR1
              have hn := Nat.le_refl n26
              have h94 := hS0.1
              have hX := @yX.rf n26 tg26 I26 R26
              have hS := hS0.x hX
              have hR := hR0.x hn hX
              have hz := hX.sz h94
              have hxn := hX.1
              have hN := hR0.1
              have hnb := hR0.2.2.2.2.2.2
              refine y_ret0 ?_
              refine y_goto rfl j_X14_result_160 ?_
              refine y_aload rfl rfl ?_
              refine y_aload rfl rfl ?_
              obtain ⟨hR_v27, hb_v27, ht_v27⟩ := hR0.ven hlo_b12 hb0_b12 ht_b12 (j := 1) (by decide)
              have hb0_v27 := hb_v27
              have hb_v27 := Nat.lt_of_lt_of_le hb_v27 hn
              have hlo_v27 : 94 ≤ b12 + 1 + 1 := by omega
              have hR2_v27 := (congrFun (hX.2.1 b12 hb_b12).2.2 1).trans hR_v27
              refine y_getR rfl ((hX.2.1 _ hb_b12).1.trans ht_b12) (Nat.lt_of_lt_of_le hb_b12 hX.1) rfl rfl hR2_v27 ?_
              refine y_virt rfl rfl rfl rfl rfl ((hX.2.1 _ hb_b12).1.trans ht_b12) (Nat.lt_of_lt_of_le hb_b12 hX.1) ?_
              refine r_allX ((hX.2.1 _ hb_v27).1.trans ht_v27) (Nat.lt_of_lt_of_le hb_v27 hX.1) (fun v_28 hv_28 => ?_)
              subst hv_28
              refine y_ret1 ?_
              refine y_ireturn rfl rfl rfl ?_
              exact hQ0b _ eb_b12 (by first | omega | (simp only [show ySeat x3 = x3 from if_neg (by omega)]; omega) | (simp only [show ySeat x3 = Int32.ofInt 8 from if_pos (by omega), show (Int32.ofInt 8).toInt.toNat = 8 from by decide]; omega)) _ _ _ _ _ _ _ hS ((hR0.grow hX).up (Nat.le_succ K) hk6) (hK.x hRo hno hX) hth _ hle_ (by first | rfl | (exact congrArg (fun f => yFz f 9) ((hB.trans hX).n (by omega)).symm)) (hB.trans hX) (by omega) (by omega)
          · refine y_aload_n rfl rfl ?_
            refine y_aload rfl rfl ?_
            refine y_iload_n rfl rfl ?_
            refine y_virt rfl rfl rfl rfl rfl (ySh.t hS rfl) (ySh.n hS rfl) ?_
            have hRG_ : yRI K n tg (upd2 I 83 0 (Int32.ofInt 0)) R := hRo.mod0 rfl (by decide) (by decide)
            have hBG_ : yX n tg (upd2 I 83 0 (Int32.ofInt 0)) R n tg I6 R := hB.trans hX
            refine hx_profit hS hBG_ hlo_b12 (show b12 < n by have := (hRo.l91.2.2.2.2 x1.toInt.toNat (by omega)).2.2.1; rw [eb_b12]; exact this) (by rw [eb_b12]; exact (hRo.l91.2.2.2.2 _ (by omega)).2.2.2) hRG_ (fun J29 hB => ?_)
            have hR1 := (mPrD_ri hRG_ hlo_b12 (show b12 < n by have := (hRo.l91.2.2.2.2 x1.toInt.toNat (by omega)).2.2.1; rw [eb_b12]; exact this) (by rw [eb_b12]; exact (hRo.l91.2.2.2.2 _ (by omega)).2.2.2)).grow hB
            have hK := (mPr_kp hRo hlo_b12 (show b12 < n by have := (hRo.l91.2.2.2.2 x1.toInt.toNat (by omega)).2.2.1; rw [eb_b12]; exact this) (by rw [eb_b12]; exact (hRo.l91.2.2.2.2 _ (by omega)).2.2.2)).x hRo hno hB
            have hnA := hB.1
            have ht_b12 : tg b12 = (21, 0) := (hB.2.1 _ (show b12 < n by have := (hRo.l91.2.2.2.2 x1.toInt.toNat (by omega)).2.2.1; rw [eb_b12]; exact this)).1.trans (by rw [eb_b12]; exact (hRo.l91.2.2.2.2 _ (by omega)).2.2.2)
            have hb_b12 : b12 < n := Nat.lt_of_lt_of_le (show b12 < n by have := (hRo.l91.2.2.2.2 x1.toInt.toNat (by omega)).2.2.1; rw [eb_b12]; exact this) hB.1
            have hb0_b12 := hb_b12
            have hth : J29 83 0 = Int32.ofInt 0 := (congrFun (hB.n (by omega : 83 < n)) 0).trans ((congrFun (mPrD_row (by decide) (by omega)) 0).trans upd2_self)
            have hS0 := hS
            have hR0 := hR1
            have hn := Nat.le_refl n
            have h94 := hS0.1
            have hX := @yX.rf n tg J29 R
            have hS := hS0.x hX
            have hR := hR0.x hn hX
            have hz := hX.sz h94
            have hxn := hX.1
            have hN := hR0.1
            have hnb := hR0.2.2.2.2.2.2
            refine y_ret0 ?_
            refine y_goto rfl j_X14_result_160 ?_
            refine y_aload rfl rfl ?_
            refine y_aload rfl rfl ?_
            obtain ⟨hR_v30, hb_v30, ht_v30⟩ := hR0.ven hlo_b12 hb0_b12 ht_b12 (j := 1) (by decide)
            have hb0_v30 := hb_v30
            have hb_v30 := Nat.lt_of_lt_of_le hb_v30 hn
            have hlo_v30 : 94 ≤ b12 + 1 + 1 := by omega
            have hR2_v30 := (congrFun (hX.2.1 b12 hb_b12).2.2 1).trans hR_v30
            refine y_getR rfl ((hX.2.1 _ hb_b12).1.trans ht_b12) (Nat.lt_of_lt_of_le hb_b12 hX.1) rfl rfl hR2_v30 ?_
            refine y_virt rfl rfl rfl rfl rfl ((hX.2.1 _ hb_b12).1.trans ht_b12) (Nat.lt_of_lt_of_le hb_b12 hX.1) ?_
            refine r_allX ((hX.2.1 _ hb_v30).1.trans ht_v30) (Nat.lt_of_lt_of_le hb_v30 hX.1) (fun v_31 hv_31 => ?_)
            subst hv_31
            refine y_ret1 ?_
            refine y_ireturn rfl rfl rfl ?_
            exact hQ0a _ eb_b12 (by first | omega | (simp only [show ySeat x3 = x3 from if_neg (by omega)]; omega) | (simp only [show ySeat x3 = Int32.ofInt 8 from if_pos (by omega), show (Int32.ofInt 8).toInt.toNat = 8 from by decide]; omega)) _ _ _ _ _ _ _ hS ((hR0.grow hX).up (Nat.le_succ K) hk6) (hK.x hRo hno hX) hth (by first | rfl | (exact congrArg (fun f => yFz f 9) ((hB.trans hX).n (by omega)).symm)) (hB.trans hX) (by omega) (by omega)
        · rw [yz_m2] at h_11
          refine y_aload_n rfl rfl ?_
          refine y_getR rfl (ySh.t hS rfl) (ySh.n hS rfl) rfl rfl (ySh.r hS rfl) ?_
          refine y_iload_n rfl rfl ?_
          refine y_virt rfl rfl rfl rfl rfl (ySh.t hS rfl) (ySh.n hS rfl) ?_
          refine l_get (nb := n) (ySh.t hS rfl) (ySh.n hS rfl) (Nat.le_trans hn hX.1) hR.l91 (by omega) (by omega) (fun b32 eb_b32 hlo_b32 hb0_b32 ht_b32 => ?_)
          have hb_b32 := Nat.lt_of_lt_of_le hb0_b32 hn
          replace ht_b32 := (hX.2.1 _ hb_b32).1.symm.trans ht_b32
          refine y_ret1 ?_
          refine y_cast rfl ((hX.2.1 _ hb_b32).1.trans ht_b32) (Nat.lt_of_lt_of_le hb_b32 hX.1) ?_
          obtain ⟨hR_v33, hb_v33, ht_v33⟩ := hR0.ven hlo_b32 hb0_b32 ht_b32 (j := 0) (by decide)
          have hb0_v33 := hb_v33
          have hb_v33 := Nat.lt_of_lt_of_le hb_v33 hn
          have hlo_v33 : 94 ≤ b32 + 1 + 0 := by omega
          have hR2_v33 := (congrFun (hX.2.1 b32 hb_b32).2.2 0).trans hR_v33
          refine y_getR rfl ((hX.2.1 _ hb_b32).1.trans ht_b32) (Nat.lt_of_lt_of_le hb_b32 hX.1) rfl rfl hR2_v33 ?_
          refine y_iload_n rfl rfl ?_
          refine y_static rfl rfl rfl rfl rfl ?_
          refine y_in (M := xm_X14_seat) (ls := [some _]) rfl rfl rfl ?_
          refine y_iload_n rfl rfl ?_
          refine y_iconst rfl ?_
          refine y_icmp_ne rfl j_X14_seat_10 (fun h_34 => ?_) (fun h_35 => ?_)
          · rw [yz_m1] at h_34
            refine y_iload_n rfl rfl ?_
            refine y_ireturn rfl rfl rfl ?_
            refine y_ret1 ?_
            refine y_baloadv (J := I (b32 + 1 + 0)) rfl ((hX.2.1 _ hb_v33).1.trans ht_v33) rfl (Nat.lt_of_lt_of_le hb_v33 hX.1) (by omega) (by omega) (((hB.trans hX).n (by omega)).trans (by repeat (first | rfl | (rw [upd2_row (by first | decide | omega)]) | refine upd2_cg ?_))) ?_
            refine y_if_ne rfl j_X14_result_94 (fun h_36 => ?_) (fun h_37 => ?_)
            · refine y_iconst rfl ?_
              refine y_iconst rfl ?_
              refine y_virt rfl rfl rfl rfl rfl (ySh.t hS rfl) (ySh.n hS rfl) ?_
              refine y_in (M := xm_X14_refuse) (ls := [some _, some _, some _]) rfl rfl rfl ?_
              refine y_iload_n rfl rfl ?_
              refine y_if_eqT rfl j_X14_refuse_16 (by decide) ?_
              refine y_aload_n rfl rfl ?_
              refine y_getIv (v := Int32.ofInt (0)) rfl (ySh.t hS rfl) (ySh.n hS rfl) rfl rfl hth ?_
              refine y_if_leT rfl j_X14_refuse_27 (by decide) ?_
              refine y_iconst rfl ?_
              refine y_ireturn rfl rfl rfl ?_
              refine y_ret1 ?_
              refine y_if_eqT rfl j_X14_result_104 (by decide) ?_
              refine y_aload_n rfl rfl ?_
              refine y_getR rfl (ySh.t hS rfl) (ySh.n hS rfl) rfl rfl (ySh.r hS rfl) ?_
              refine y_iload_n rfl rfl ?_
              refine y_virt rfl rfl rfl rfl rfl (ySh.t hS rfl) (ySh.n hS rfl) ?_
              refine l_get (nb := n) (ySh.t hS rfl) (ySh.n hS rfl) (Nat.le_trans hn hX.1) hR.l91 (by omega) (by omega) (fun c38 eb_c38 _ _ _ => ?_)
              rw [show c38 = b32 from eb_c38.trans eb_b32.symm]
              refine y_ret1 ?_
              refine y_cast rfl ((hX.2.1 _ hb_b32).1.trans ht_b32) (Nat.lt_of_lt_of_le hb_b32 hX.1) ?_
              refine y_astore (ls' := [some _, some _, some _, some _, some _]) rfl rfl rfl ?_
              refine y_iload_n rfl rfl ?_
              refine y_if_lt rfl j_X14_result_131 (fun h_39 => ?_) (fun h_40 => ?_)
              · refine y_iload_n rfl rfl ?_
                refine y_bip rfl (by decide) ?_
                refine y_icmp_ne rfl j_X14_result_147 (fun h_41 => ?_) (fun h_42 => ?_)
                · rw [yz_m2] at h_41
                  refine y_aload_n rfl rfl ?_
                  refine y_getR rfl (ySh.t hS rfl) (ySh.n hS rfl) rfl rfl (ySh.r hS rfl) ?_
                  refine y_iload_n rfl rfl ?_
                  refine y_static rfl rfl rfl rfl rfl ?_
                  refine y_in (M := xm_X14_seat) (ls := [some _]) rfl rfl rfl ?_
                  refine y_iload_n rfl rfl ?_
                  refine y_iconst rfl ?_
                  refine y_icmp_ne rfl j_X14_seat_10 (fun h_43 => ?_) (fun h_44 => ?_)
                  · rw [yz_m1] at h_43
                    refine y_iload_n rfl rfl ?_
                    refine y_ireturn rfl rfl rfl ?_
                    refine y_ret1 ?_
                    refine y_dup2 rfl rfl rfl ?_
                    refine y_ialoadv (J := I 84) rfl (ySh.t hS rfl) (ySh.n hS rfl) (by omega) (by omega) (((hB.trans hX).n (by omega)).trans (by repeat (first | rfl | (rw [upd2_row (by first | decide | omega)]) | refine upd2_cg ?_))) ?_
                    refine y_iload_n rfl rfl ?_
                    refine y_iadd rfl ?_
                    refine y_iastore rfl (ySh.t hS rfl) (ySh.n hS rfl) (Nat.le_of_ble_eq_true rfl) (by omega) (by omega) ?_
                    refine y_nameI (fun I45 e45 => ?_)
                    have hR1 := (hR0.grow hX).arr e45 (by decide)
                    have hK := (hK.x hRo hno hX).upI (upI e45) (by decide) (by decide) (fun i hi => by have := (hRo.l87.2.2.2.2 i hi).2.1; omega) (by rw [e45, upd2_ne (.inl (by omega))]; exact Int.le_refl _)
                    have hth := (show I45 83 0 = I6 83 0 by rw [e45, upd2_ne (.inl (by omega))]).trans hth
                    have hzz : ySz I6 I45 := ySz_ofE (upI e45) (by omega)
                    have hB := (hB.trans hX).wr e45 rfl
                    have h3k : ∀ k, k ≠ 0 → I45 83 k = I 83 k := fun k hk => (congrFun (congrFun e45 83) k).trans ((upd2_ne (.inl (by omega))).trans ((congrFun (hX.2.1 83 (by omega)).2.1 k).trans (h3k k hk)))
                    have hg := (hg.gx hX (by omega)).skip e45 (by decide)
                    have hday : I45 83 1 = I 83 1 := (congrFun (congrFun e45 83) 1).trans ((upd2_ne (.inl (by omega))).trans ((congrFun (hX.2.1 83 (by omega)).2.1 1).trans hday))
                    have hRb : ∀ a, a < n → R a = R a := fun a ha => (hX.2.1 a (by omega)).2.2.trans (hRb a ha)
                    have hS0 := hS
                    have hR0 := hR1
                    have ht_b32 := (hX.2.1 _ hb_b32).1.trans ht_b32
                    have hb_b32 := Nat.lt_of_lt_of_le hb_b32 hX.1
                    have hb0_b32 := hb_b32
                    have ht_v33 := (hX.2.1 _ hb_v33).1.trans ht_v33
                    have hb_v33 := Nat.lt_of_lt_of_le hb_v33 hX.1
                    have hb0_v33 := hb_v33
                    have hn := Nat.le_refl n
                    have h94 := hS0.1
                    have hX := @yX.rf n tg I45 R
                    have hS := hS0.x hX
                    have hR := hR0.x hn hX
                    have hz := hX.sz h94
                    have hxn := hX.1
                    have hN := hR0.1
                    have hnb := hR0.2.2.2.2.2.2
                    have hthB := hth
                    refine y_aload rfl rfl ?_
                    refine y_aload rfl rfl ?_
                    obtain ⟨hR_v46, hb_v46, ht_v46⟩ := hR0.ven hlo_b32 hb0_b32 ht_b32 (j := 1) (by decide)
                    have hb0_v46 := hb_v46
                    have hb_v46 := Nat.lt_of_lt_of_le hb_v46 hn
                    have hlo_v46 : 94 ≤ b32 + 1 + 1 := by omega
                    have hR2_v46 := (congrFun (hX.2.1 b32 hb_b32).2.2 1).trans hR_v46
                    refine y_getR rfl ((hX.2.1 _ hb_b32).1.trans ht_b32) (Nat.lt_of_lt_of_le hb_b32 hX.1) rfl rfl hR2_v46 ?_
                    refine y_virt rfl rfl rfl rfl rfl ((hX.2.1 _ hb_b32).1.trans ht_b32) (Nat.lt_of_lt_of_le hb_b32 hX.1) ?_
                    refine r_allX ((hX.2.1 _ hb_v46).1.trans ht_v46) (Nat.lt_of_lt_of_le hb_v46 hX.1) (fun v_47 hv_47 => ?_)
                    rw [show I45 (b32 + 1 + 1) = I (b32 + 1 + 1) from (((hB.trans hX).n (by omega)).trans (by repeat (first | rfl | (rw [upd2_row (by first | decide | omega)]) | refine upd2_cg ?_)))] at hv_47
                    subst hv_47
                    refine y_ret1 ?_
                    refine y_ireturn rfl rfl rfl ?_
                    exact hQ0c _ eb_b32 (by first | omega | (simp only [show ySeat x3 = x3 from if_neg (by omega)]; omega) | (simp only [show ySeat x3 = Int32.ofInt 8 from if_pos (by omega), show (Int32.ofInt 8).toInt.toNat = 8 from by decide]; omega)) _ _ _ _ _ _ _ hS ((hR0.grow hX).up (Nat.le_succ K) hk6) (hK.x hRo hno hX) hth (congrArg (fun f => yFz f 9) (((hB.trans hX).n (by omega)).trans (by repeat (first | rfl | (rw [upd2_row (by first | decide | omega)]) | refine upd2_cg ?_))).symm) (by first | (exact hB.trans hX) | (simp only [show ySeat x3 = x3 from if_neg (by omega)]; exact hB.trans hX) | (simp only [show ySeat x3 = Int32.ofInt 8 from if_pos (by omega), show (Int32.ofInt 8).toInt.toNat = 8 from by decide]; exact hB.trans hX)) (by omega) (by omega)
                  · rw [yz_m1] at h_44
                    refine y_bip rfl (by decide) ?_
                    refine y_goto rfl j_X14_seat_11 ?_
                    refine y_ireturn rfl rfl rfl ?_
                    refine y_ret1 ?_
                    refine y_dup2 rfl rfl rfl ?_
                    refine y_ialoadw (j := 8) (J := I 84) rfl (ySh.t hS rfl) (ySh.n hS rfl) (by decide) (by decide) rfl (((hB.trans hX).n (by omega)).trans (by repeat (first | rfl | (rw [upd2_row (by first | decide | omega)]) | refine upd2_cg ?_))) ?_
                    refine y_iload_n rfl rfl ?_
                    refine y_iadd rfl ?_
                    refine y_iastoreC (j := 8) rfl (ySh.t hS rfl) (ySh.n hS rfl) (Nat.le_of_ble_eq_true rfl) (by decide) (by decide) rfl ?_
                    refine y_nameI (fun I48 e48 => ?_)
                    have hR1 := (hR0.grow hX).arr e48 (by decide)
                    have hK := (hK.x hRo hno hX).upI (upI e48) (by decide) (by decide) (fun i hi => by have := (hRo.l87.2.2.2.2 i hi).2.1; omega) (by rw [e48, upd2_ne (.inl (by omega))]; exact Int.le_refl _)
                    have hth := (show I48 83 0 = I6 83 0 by rw [e48, upd2_ne (.inl (by omega))]).trans hth
                    have hzz : ySz I6 I48 := ySz_ofE (upI e48) (by omega)
                    have hB := (hB.trans hX).wr e48 rfl
                    have h3k : ∀ k, k ≠ 0 → I48 83 k = I 83 k := fun k hk => (congrFun (congrFun e48 83) k).trans ((upd2_ne (.inl (by omega))).trans ((congrFun (hX.2.1 83 (by omega)).2.1 k).trans (h3k k hk)))
                    have hg := (hg.gx hX (by omega)).skip e48 (by decide)
                    have hday : I48 83 1 = I 83 1 := (congrFun (congrFun e48 83) 1).trans ((upd2_ne (.inl (by omega))).trans ((congrFun (hX.2.1 83 (by omega)).2.1 1).trans hday))
                    have hRb : ∀ a, a < n → R a = R a := fun a ha => (hX.2.1 a (by omega)).2.2.trans (hRb a ha)
                    have hS0 := hS
                    have hR0 := hR1
                    have ht_b32 := (hX.2.1 _ hb_b32).1.trans ht_b32
                    have hb_b32 := Nat.lt_of_lt_of_le hb_b32 hX.1
                    have hb0_b32 := hb_b32
                    have ht_v33 := (hX.2.1 _ hb_v33).1.trans ht_v33
                    have hb_v33 := Nat.lt_of_lt_of_le hb_v33 hX.1
                    have hb0_v33 := hb_v33
                    have hn := Nat.le_refl n
                    have h94 := hS0.1
                    have hX := @yX.rf n tg I48 R
                    have hS := hS0.x hX
                    have hR := hR0.x hn hX
                    have hz := hX.sz h94
                    have hxn := hX.1
                    have hN := hR0.1
                    have hnb := hR0.2.2.2.2.2.2
                    have hthB := hth
                    refine y_aload rfl rfl ?_
                    refine y_aload rfl rfl ?_
                    obtain ⟨hR_v49, hb_v49, ht_v49⟩ := hR0.ven hlo_b32 hb0_b32 ht_b32 (j := 1) (by decide)
                    have hb0_v49 := hb_v49
                    have hb_v49 := Nat.lt_of_lt_of_le hb_v49 hn
                    have hlo_v49 : 94 ≤ b32 + 1 + 1 := by omega
                    have hR2_v49 := (congrFun (hX.2.1 b32 hb_b32).2.2 1).trans hR_v49
                    refine y_getR rfl ((hX.2.1 _ hb_b32).1.trans ht_b32) (Nat.lt_of_lt_of_le hb_b32 hX.1) rfl rfl hR2_v49 ?_
                    refine y_virt rfl rfl rfl rfl rfl ((hX.2.1 _ hb_b32).1.trans ht_b32) (Nat.lt_of_lt_of_le hb_b32 hX.1) ?_
                    refine r_allX ((hX.2.1 _ hb_v49).1.trans ht_v49) (Nat.lt_of_lt_of_le hb_v49 hX.1) (fun v_50 hv_50 => ?_)
                    rw [show I48 (b32 + 1 + 1) = I (b32 + 1 + 1) from (((hB.trans hX).n (by omega)).trans (by repeat (first | rfl | (rw [upd2_row (by first | decide | omega)]) | refine upd2_cg ?_)))] at hv_50
                    subst hv_50
                    refine y_ret1 ?_
                    refine y_ireturn rfl rfl rfl ?_
                    exact hQ0c _ eb_b32 (by first | omega | (simp only [show ySeat x3 = x3 from if_neg (by omega)]; omega) | (simp only [show ySeat x3 = Int32.ofInt 8 from if_pos (by omega), show (Int32.ofInt 8).toInt.toNat = 8 from by decide]; omega)) _ _ _ _ _ _ _ hS ((hR0.grow hX).up (Nat.le_succ K) hk6) (hK.x hRo hno hX) hth (congrArg (fun f => yFz f 9) (((hB.trans hX).n (by omega)).trans (by repeat (first | rfl | (rw [upd2_row (by first | decide | omega)]) | refine upd2_cg ?_))).symm) (by first | (exact hB.trans hX) | (simp only [show ySeat x3 = x3 from if_neg (by omega)]; exact hB.trans hX) | (simp only [show ySeat x3 = Int32.ofInt 8 from if_pos (by omega), show (Int32.ofInt 8).toInt.toNat = 8 from by decide]; exact hB.trans hX)) (by omega) (by omega)
                · rw [yz_m2] at h_42
                  refine y_aload rfl rfl ?_
                  refine y_iload_n rfl rfl ?_
                  refine y_ineg rfl ?_
                  refine y_virt rfl rfl rfl rfl rfl ((hX.2.1 _ hb_b32).1.trans ht_b32) (Nat.lt_of_lt_of_le hb_b32 hX.1) ?_
                  have hRG_ : yRI K n tg (upd2 I 83 0 (Int32.ofInt 0)) R := hRo.mod0 rfl (by decide) (by decide)
                  have hBG_ : yX n tg (upd2 I 83 0 (Int32.ofInt 0)) R n tg I6 R := hB.trans hX
                  refine hx_lose hS hBG_ hlo_b32 (show b32 < n by have := (hRo.l91.2.2.2.2 x1.toInt.toNat (by omega)).2.2.1; rw [eb_b32]; exact this) (by rw [eb_b32]; exact (hRo.l91.2.2.2.2 _ (by omega)).2.2.2) hRG_ (yneg2 (by omega) (by omega)).1 (yneg2 (by omega) (by omega)).2 (fun le_ n52 tg52 I52 R52 hle_ hlb_ hS hB => ?_)
                  have hR1 := (mLsD_ri hRG_ hlo_b32 (show b32 < n by have := (hRo.l91.2.2.2.2 x1.toInt.toNat (by omega)).2.2.1; rw [eb_b32]; exact this) (by rw [eb_b32]; exact (hRo.l91.2.2.2.2 _ (by omega)).2.2.2) hlb_).grow hB
                  have hK := (mLs_kp hRo hlo_b32 (show b32 < n by have := (hRo.l91.2.2.2.2 x1.toInt.toNat (by omega)).2.2.1; rw [eb_b32]; exact this) (by rw [eb_b32]; exact (hRo.l91.2.2.2.2 _ (by omega)).2.2.2)).x hRo hno hB
                  have hnA := hB.1
                  have htZ_b32 := (hX.2.1 _ hb_b32).1.trans ht_b32
                  have htZ_v33 := (hX.2.1 _ hb_v33).1.trans ht_v33
                  have ht_b32 : tg52 b32 = (21, 0) := (hB.2.1 _ (show b32 < n by have := (hRo.l91.2.2.2.2 x1.toInt.toNat (by omega)).2.2.1; rw [eb_b32]; exact this)).1.trans (by rw [eb_b32]; exact (hRo.l91.2.2.2.2 _ (by omega)).2.2.2)
                  have hb_b32 : b32 < n52 := Nat.lt_of_lt_of_le (show b32 < n by have := (hRo.l91.2.2.2.2 x1.toInt.toNat (by omega)).2.2.1; rw [eb_b32]; exact this) hB.1
                  have hb0_b32 := hb_b32
                  have hth : I52 83 0 = Int32.ofInt 0 := (congrFun (hB.n (by omega : 83 < n)) 0).trans ((congrFun (mLsD_row (by omega)) 0).trans upd2_self)
                  have hS0 := hS
                  have hR0 := hR1
                  have hn := Nat.le_refl n52
                  have h94 := hS0.1
                  have hX := @yX.rf n52 tg52 I52 R52
                  have hS := hS0.x hX
                  have hR := hR0.x hn hX
                  have hz := hX.sz h94
                  have hxn := hX.1
                  have hN := hR0.1
                  have hnb := hR0.2.2.2.2.2.2
                  refine y_ret0 ?_
                  refine y_goto rfl j_X14_result_160 ?_
                  refine y_aload rfl rfl ?_
                  refine y_aload rfl rfl ?_
                  obtain ⟨hR_v53, hb_v53, ht_v53⟩ := hR0.ven hlo_b32 hb0_b32 ht_b32 (j := 1) (by decide)
                  have hb0_v53 := hb_v53
                  have hb_v53 := Nat.lt_of_lt_of_le hb_v53 hn
                  have hlo_v53 : 94 ≤ b32 + 1 + 1 := by omega
                  have hR2_v53 := (congrFun (hX.2.1 b32 hb_b32).2.2 1).trans hR_v53
                  refine y_getR rfl ((hX.2.1 _ hb_b32).1.trans ht_b32) (Nat.lt_of_lt_of_le hb_b32 hX.1) rfl rfl hR2_v53 ?_
                  refine y_virt rfl rfl rfl rfl rfl ((hX.2.1 _ hb_b32).1.trans ht_b32) (Nat.lt_of_lt_of_le hb_b32 hX.1) ?_
                  refine r_allX ((hX.2.1 _ hb_v53).1.trans ht_v53) (Nat.lt_of_lt_of_le hb_v53 hX.1) (fun v_54 hv_54 => ?_)
                  subst hv_54
                  refine y_ret1 ?_
                  refine y_ireturn rfl rfl rfl ?_
                  exact hQ0b _ eb_b32 (by first | omega | (simp only [show ySeat x3 = x3 from if_neg (by omega)]; omega) | (simp only [show ySeat x3 = Int32.ofInt 8 from if_pos (by omega), show (Int32.ofInt 8).toInt.toNat = 8 from by decide]; omega)) _ _ _ _ _ _ _ hS ((hR0.grow hX).up (Nat.le_succ K) hk6) (hK.x hRo hno hX) hth _ hle_ (by first | rfl | (exact congrArg (fun f => yFz f 9) ((hB.trans hX).n (by omega)).symm)) (hB.trans hX) (by omega) (by omega)
              · refine y_aload_n rfl rfl ?_
                refine y_aload rfl rfl ?_
                refine y_iload_n rfl rfl ?_
                refine y_virt rfl rfl rfl rfl rfl (ySh.t hS rfl) (ySh.n hS rfl) ?_
                have hRG_ : yRI K n tg (upd2 I 83 0 (Int32.ofInt 0)) R := hRo.mod0 rfl (by decide) (by decide)
                have hBG_ : yX n tg (upd2 I 83 0 (Int32.ofInt 0)) R n tg I6 R := hB.trans hX
                refine hx_profit hS hBG_ hlo_b32 (show b32 < n by have := (hRo.l91.2.2.2.2 x1.toInt.toNat (by omega)).2.2.1; rw [eb_b32]; exact this) (by rw [eb_b32]; exact (hRo.l91.2.2.2.2 _ (by omega)).2.2.2) hRG_ (fun J55 hB => ?_)
                have hR1 := (mPrD_ri hRG_ hlo_b32 (show b32 < n by have := (hRo.l91.2.2.2.2 x1.toInt.toNat (by omega)).2.2.1; rw [eb_b32]; exact this) (by rw [eb_b32]; exact (hRo.l91.2.2.2.2 _ (by omega)).2.2.2)).grow hB
                have hK := (mPr_kp hRo hlo_b32 (show b32 < n by have := (hRo.l91.2.2.2.2 x1.toInt.toNat (by omega)).2.2.1; rw [eb_b32]; exact this) (by rw [eb_b32]; exact (hRo.l91.2.2.2.2 _ (by omega)).2.2.2)).x hRo hno hB
                have hnA := hB.1
                have ht_b32 : tg b32 = (21, 0) := (hB.2.1 _ (show b32 < n by have := (hRo.l91.2.2.2.2 x1.toInt.toNat (by omega)).2.2.1; rw [eb_b32]; exact this)).1.trans (by rw [eb_b32]; exact (hRo.l91.2.2.2.2 _ (by omega)).2.2.2)
                have hb_b32 : b32 < n := Nat.lt_of_lt_of_le (show b32 < n by have := (hRo.l91.2.2.2.2 x1.toInt.toNat (by omega)).2.2.1; rw [eb_b32]; exact this) hB.1
                have hb0_b32 := hb_b32
                have hth : J55 83 0 = Int32.ofInt 0 := (congrFun (hB.n (by omega : 83 < n)) 0).trans ((congrFun (mPrD_row (by decide) (by omega)) 0).trans upd2_self)
                have hS0 := hS
                have hR0 := hR1
                have hn := Nat.le_refl n
                have h94 := hS0.1
                have hX := @yX.rf n tg J55 R
                have hS := hS0.x hX
                have hR := hR0.x hn hX
                have hz := hX.sz h94
                have hxn := hX.1
                have hN := hR0.1
                have hnb := hR0.2.2.2.2.2.2
                refine y_ret0 ?_
                refine y_goto rfl j_X14_result_160 ?_
                refine y_aload rfl rfl ?_
                refine y_aload rfl rfl ?_
                obtain ⟨hR_v56, hb_v56, ht_v56⟩ := hR0.ven hlo_b32 hb0_b32 ht_b32 (j := 1) (by decide)
                have hb0_v56 := hb_v56
                have hb_v56 := Nat.lt_of_lt_of_le hb_v56 hn
                have hlo_v56 : 94 ≤ b32 + 1 + 1 := by omega
                have hR2_v56 := (congrFun (hX.2.1 b32 hb_b32).2.2 1).trans hR_v56
                refine y_getR rfl ((hX.2.1 _ hb_b32).1.trans ht_b32) (Nat.lt_of_lt_of_le hb_b32 hX.1) rfl rfl hR2_v56 ?_
                refine y_virt rfl rfl rfl rfl rfl ((hX.2.1 _ hb_b32).1.trans ht_b32) (Nat.lt_of_lt_of_le hb_b32 hX.1) ?_
                refine r_allX ((hX.2.1 _ hb_v56).1.trans ht_v56) (Nat.lt_of_lt_of_le hb_v56 hX.1) (fun v_57 hv_57 => ?_)
                subst hv_57
                refine y_ret1 ?_
                refine y_ireturn rfl rfl rfl ?_
                exact hQ0a _ eb_b32 (by first | omega | (simp only [show ySeat x3 = x3 from if_neg (by omega)]; omega) | (simp only [show ySeat x3 = Int32.ofInt 8 from if_pos (by omega), show (Int32.ofInt 8).toInt.toNat = 8 from by decide]; omega)) _ _ _ _ _ _ _ hS ((hR0.grow hX).up (Nat.le_succ K) hk6) (hK.x hRo hno hX) hth (by first | rfl | (exact congrArg (fun f => yFz f 9) ((hB.trans hX).n (by omega)).symm)) (hB.trans hX) (by omega) (by omega)
            · refine y_iconst rfl ?_
              refine y_goto rfl j_X14_result_95 ?_
              refine y_iconst rfl ?_
              refine y_virt rfl rfl rfl rfl rfl (ySh.t hS rfl) (ySh.n hS rfl) ?_
              refine y_in (M := xm_X14_refuse) (ls := [some _, some _, some _]) rfl rfl rfl ?_
              refine y_iload_n rfl rfl ?_
              refine y_if_eqF rfl (by decide) ?_
              refine y_aload_n rfl rfl ?_
              refine y_getIv (v := Int32.ofInt (0)) rfl (ySh.t hS rfl) (ySh.n hS rfl) rfl rfl hth ?_
              refine y_if_neF rfl (by decide) ?_
              refine y_aload_n rfl rfl ?_
              refine y_iload_n rfl rfl ?_
              refine y_putI rfl (ySh.t hS rfl) (ySh.n hS rfl) rfl (Nat.le_of_ble_eq_true rfl) rfl rfl ?_
              refine y_nameI (fun I58 e58 => ?_)
              have hR1 := (hR0.grow hX).mod0 e58 (by decide) (by decide)
              have hK := (hK.x hRo hno hX).upI (upI e58) (by decide) (by decide) (fun i hi => by have := (hRo.l87.2.2.2.2 i hi).2.1; omega) (by rw [e58, upd2_ne (.inr (by decide))]; exact Int.le_refl _)
              have hth : I58 83 0 = Int32.ofInt (3) := by rw [e58, upd2_self]
              have hzz : ySz8 I6 I58 := ySz8_of (upI e58) (by rw [e58]; exact ⟨upd2_ne (.inr (by decide)), upd2_ne (.inr (by decide))⟩)
              have hB := (hB.trans hX).wr e58 rfl
              have h8 : ∀ a, 84 ≤ a → a ≤ 86 → I58 a = I a := fun a h1 h2 => (upI e58 a (by omega)).trans ((hX.2.1 a (by omega)).2.1.trans (h8 a h1 h2))
              have h3k : ∀ k, k ≠ 0 → I58 83 k = I 83 k := fun k hk => (congrFun (congrFun e58 83) k).trans ((upd2_ne (.inr hk)).trans ((congrFun (hX.2.1 83 (by omega)).2.1 k).trans (h3k k hk)))
              have hg := (hg.gx hX (by omega)).skip e58 (by decide)
              have hday : I58 83 1 = I 83 1 := (congrFun (congrFun e58 83) 1).trans ((upd2_ne (.inr (by decide))).trans ((congrFun (hX.2.1 83 (by omega)).2.1 1).trans hday))
              have hRb : ∀ a, a < n → R a = R a := fun a ha => (hX.2.1 a (by omega)).2.2.trans (hRb a ha)
              have hb83 : ∀ a, a ≠ 83 → a < n → I58 a = I a := fun a ha hb => (upI e58 a ha).trans ((hX.2.1 a (by omega)).2.1.trans (hb83 a ha hb))
              have hS0 := hS
              have hR0 := hR1
              have ht_b32 := (hX.2.1 _ hb_b32).1.trans ht_b32
              have hb_b32 := Nat.lt_of_lt_of_le hb_b32 hX.1
              have hb0_b32 := hb_b32
              have ht_v33 := (hX.2.1 _ hb_v33).1.trans ht_v33
              have hb_v33 := Nat.lt_of_lt_of_le hb_v33 hX.1
              have hb0_v33 := hb_v33
              have hn := Nat.le_refl n
              have h94 := hS0.1
              have hX := @yX.rf n tg I58 R
              have hS := hS0.x hX
              have hR := hR0.x hn hX
              have hz := hX.sz h94
              have hxn := hX.1
              have hN := hR0.1
              have hnb := hR0.2.2.2.2.2.2
              have hthB := hth
              refine y_aload_n rfl rfl ?_
              refine y_getIv (v := Int32.ofInt (3)) rfl (ySh.t hS rfl) (ySh.n hS rfl) rfl rfl hth ?_
              refine y_if_leF rfl (by decide) ?_
              refine y_iconst rfl ?_
              refine y_goto rfl j_X14_refuse_28 ?_
              refine y_ireturn rfl rfl rfl ?_
              refine y_ret1 ?_
              refine y_if_eqF rfl (by decide) ?_
              refine y_iconst rfl ?_
              refine y_ireturn rfl rfl rfl ?_
              exact hQ3 _ eb_b32 (by first | omega | (simp only [show ySeat x3 = x3 from if_neg (by omega)]; omega) | (simp only [show ySeat x3 = Int32.ofInt 8 from if_pos (by omega), show (Int32.ofInt 8).toInt.toNat = 8 from by decide]; omega)) _ _ _ _ _ _ _ hS ((hR0.grow hX).up (Nat.le_succ K) hk6) (hK.x hRo hno hX) hth ((hB.trans hX).rf2 (by omega)) (by omega) (by omega)
          · rw [yz_m1] at h_35
            refine y_bip rfl (by decide) ?_
            refine y_goto rfl j_X14_seat_11 ?_
            refine y_ireturn rfl rfl rfl ?_
            refine y_ret1 ?_
            refine y_baloadw (j := 8) (J := I (b32 + 1 + 0)) rfl ((hX.2.1 _ hb_v33).1.trans ht_v33) rfl (Nat.lt_of_lt_of_le hb_v33 hX.1) (by decide) (by decide) rfl (((hB.trans hX).n (by omega)).trans (by repeat (first | rfl | (rw [upd2_row (by first | decide | omega)]) | refine upd2_cg ?_))) ?_
            refine y_if_ne rfl j_X14_result_94 (fun h_59 => ?_) (fun h_60 => ?_)
            · refine y_iconst rfl ?_
              refine y_iconst rfl ?_
              refine y_virt rfl rfl rfl rfl rfl (ySh.t hS rfl) (ySh.n hS rfl) ?_
              refine y_in (M := xm_X14_refuse) (ls := [some _, some _, some _]) rfl rfl rfl ?_
              refine y_iload_n rfl rfl ?_
              refine y_if_eqT rfl j_X14_refuse_16 (by decide) ?_
              refine y_aload_n rfl rfl ?_
              refine y_getIv (v := Int32.ofInt (0)) rfl (ySh.t hS rfl) (ySh.n hS rfl) rfl rfl hth ?_
              refine y_if_leT rfl j_X14_refuse_27 (by decide) ?_
              refine y_iconst rfl ?_
              refine y_ireturn rfl rfl rfl ?_
              refine y_ret1 ?_
              refine y_if_eqT rfl j_X14_result_104 (by decide) ?_
              refine y_aload_n rfl rfl ?_
              refine y_getR rfl (ySh.t hS rfl) (ySh.n hS rfl) rfl rfl (ySh.r hS rfl) ?_
              refine y_iload_n rfl rfl ?_
              refine y_virt rfl rfl rfl rfl rfl (ySh.t hS rfl) (ySh.n hS rfl) ?_
              refine l_get (nb := n) (ySh.t hS rfl) (ySh.n hS rfl) (Nat.le_trans hn hX.1) hR.l91 (by omega) (by omega) (fun c61 eb_c61 _ _ _ => ?_)
              rw [show c61 = b32 from eb_c61.trans eb_b32.symm]
              refine y_ret1 ?_
              refine y_cast rfl ((hX.2.1 _ hb_b32).1.trans ht_b32) (Nat.lt_of_lt_of_le hb_b32 hX.1) ?_
              refine y_astore (ls' := [some _, some _, some _, some _, some _]) rfl rfl rfl ?_
              refine y_iload_n rfl rfl ?_
              refine y_if_lt rfl j_X14_result_131 (fun h_62 => ?_) (fun h_63 => ?_)
              · refine y_iload_n rfl rfl ?_
                refine y_bip rfl (by decide) ?_
                refine y_icmp_ne rfl j_X14_result_147 (fun h_64 => ?_) (fun h_65 => ?_)
                · rw [yz_m2] at h_64
                  refine y_aload_n rfl rfl ?_
                  refine y_getR rfl (ySh.t hS rfl) (ySh.n hS rfl) rfl rfl (ySh.r hS rfl) ?_
                  refine y_iload_n rfl rfl ?_
                  refine y_static rfl rfl rfl rfl rfl ?_
                  refine y_in (M := xm_X14_seat) (ls := [some _]) rfl rfl rfl ?_
                  refine y_iload_n rfl rfl ?_
                  refine y_iconst rfl ?_
                  refine y_icmp_ne rfl j_X14_seat_10 (fun h_66 => ?_) (fun h_67 => ?_)
                  · rw [yz_m1] at h_66
                    refine y_iload_n rfl rfl ?_
                    refine y_ireturn rfl rfl rfl ?_
                    refine y_ret1 ?_
                    refine y_dup2 rfl rfl rfl ?_
                    refine y_ialoadv (J := I 84) rfl (ySh.t hS rfl) (ySh.n hS rfl) (by omega) (by omega) (((hB.trans hX).n (by omega)).trans (by repeat (first | rfl | (rw [upd2_row (by first | decide | omega)]) | refine upd2_cg ?_))) ?_
                    refine y_iload_n rfl rfl ?_
                    refine y_iadd rfl ?_
                    refine y_iastore rfl (ySh.t hS rfl) (ySh.n hS rfl) (Nat.le_of_ble_eq_true rfl) (by omega) (by omega) ?_
                    refine y_nameI (fun I68 e68 => ?_)
                    have hR1 := (hR0.grow hX).arr e68 (by decide)
                    have hK := (hK.x hRo hno hX).upI (upI e68) (by decide) (by decide) (fun i hi => by have := (hRo.l87.2.2.2.2 i hi).2.1; omega) (by rw [e68, upd2_ne (.inl (by omega))]; exact Int.le_refl _)
                    have hth := (show I68 83 0 = I6 83 0 by rw [e68, upd2_ne (.inl (by omega))]).trans hth
                    have hzz : ySz I6 I68 := ySz_ofE (upI e68) (by omega)
                    have hB := (hB.trans hX).wr e68 rfl
                    have h3k : ∀ k, k ≠ 0 → I68 83 k = I 83 k := fun k hk => (congrFun (congrFun e68 83) k).trans ((upd2_ne (.inl (by omega))).trans ((congrFun (hX.2.1 83 (by omega)).2.1 k).trans (h3k k hk)))
                    have hg := (hg.gx hX (by omega)).skip e68 (by decide)
                    have hday : I68 83 1 = I 83 1 := (congrFun (congrFun e68 83) 1).trans ((upd2_ne (.inl (by omega))).trans ((congrFun (hX.2.1 83 (by omega)).2.1 1).trans hday))
                    have hRb : ∀ a, a < n → R a = R a := fun a ha => (hX.2.1 a (by omega)).2.2.trans (hRb a ha)
                    have hS0 := hS
                    have hR0 := hR1
                    have ht_b32 := (hX.2.1 _ hb_b32).1.trans ht_b32
                    have hb_b32 := Nat.lt_of_lt_of_le hb_b32 hX.1
                    have hb0_b32 := hb_b32
                    have ht_v33 := (hX.2.1 _ hb_v33).1.trans ht_v33
                    have hb_v33 := Nat.lt_of_lt_of_le hb_v33 hX.1
                    have hb0_v33 := hb_v33
                    have hn := Nat.le_refl n
                    have h94 := hS0.1
                    have hX := @yX.rf n tg I68 R
                    have hS := hS0.x hX
                    have hR := hR0.x hn hX
                    have hz := hX.sz h94
                    have hxn := hX.1
                    have hN := hR0.1
                    have hnb := hR0.2.2.2.2.2.2
                    have hthB := hth
                    refine y_aload rfl rfl ?_
                    refine y_aload rfl rfl ?_
                    obtain ⟨hR_v69, hb_v69, ht_v69⟩ := hR0.ven hlo_b32 hb0_b32 ht_b32 (j := 1) (by decide)
                    have hb0_v69 := hb_v69
                    have hb_v69 := Nat.lt_of_lt_of_le hb_v69 hn
                    have hlo_v69 : 94 ≤ b32 + 1 + 1 := by omega
                    have hR2_v69 := (congrFun (hX.2.1 b32 hb_b32).2.2 1).trans hR_v69
                    refine y_getR rfl ((hX.2.1 _ hb_b32).1.trans ht_b32) (Nat.lt_of_lt_of_le hb_b32 hX.1) rfl rfl hR2_v69 ?_
                    refine y_virt rfl rfl rfl rfl rfl ((hX.2.1 _ hb_b32).1.trans ht_b32) (Nat.lt_of_lt_of_le hb_b32 hX.1) ?_
                    refine r_allX ((hX.2.1 _ hb_v69).1.trans ht_v69) (Nat.lt_of_lt_of_le hb_v69 hX.1) (fun v_70 hv_70 => ?_)
                    rw [show I68 (b32 + 1 + 1) = I (b32 + 1 + 1) from (((hB.trans hX).n (by omega)).trans (by repeat (first | rfl | (rw [upd2_row (by first | decide | omega)]) | refine upd2_cg ?_)))] at hv_70
                    subst hv_70
                    refine y_ret1 ?_
                    refine y_ireturn rfl rfl rfl ?_
                    exact hQ0c _ eb_b32 (by first | omega | (simp only [show ySeat x3 = x3 from if_neg (by omega)]; omega) | (simp only [show ySeat x3 = Int32.ofInt 8 from if_pos (by omega), show (Int32.ofInt 8).toInt.toNat = 8 from by decide]; omega)) _ _ _ _ _ _ _ hS ((hR0.grow hX).up (Nat.le_succ K) hk6) (hK.x hRo hno hX) hth (congrArg (fun f => yFz f 9) (((hB.trans hX).n (by omega)).trans (by repeat (first | rfl | (rw [upd2_row (by first | decide | omega)]) | refine upd2_cg ?_))).symm) (by first | (exact hB.trans hX) | (simp only [show ySeat x3 = x3 from if_neg (by omega)]; exact hB.trans hX) | (simp only [show ySeat x3 = Int32.ofInt 8 from if_pos (by omega), show (Int32.ofInt 8).toInt.toNat = 8 from by decide]; exact hB.trans hX)) (by omega) (by omega)
                  · rw [yz_m1] at h_67
                    refine y_bip rfl (by decide) ?_
                    refine y_goto rfl j_X14_seat_11 ?_
                    refine y_ireturn rfl rfl rfl ?_
                    refine y_ret1 ?_
                    refine y_dup2 rfl rfl rfl ?_
                    refine y_ialoadw (j := 8) (J := I 84) rfl (ySh.t hS rfl) (ySh.n hS rfl) (by decide) (by decide) rfl (((hB.trans hX).n (by omega)).trans (by repeat (first | rfl | (rw [upd2_row (by first | decide | omega)]) | refine upd2_cg ?_))) ?_
                    refine y_iload_n rfl rfl ?_
                    refine y_iadd rfl ?_
                    refine y_iastoreC (j := 8) rfl (ySh.t hS rfl) (ySh.n hS rfl) (Nat.le_of_ble_eq_true rfl) (by decide) (by decide) rfl ?_
                    refine y_nameI (fun I71 e71 => ?_)
                    have hR1 := (hR0.grow hX).arr e71 (by decide)
                    have hK := (hK.x hRo hno hX).upI (upI e71) (by decide) (by decide) (fun i hi => by have := (hRo.l87.2.2.2.2 i hi).2.1; omega) (by rw [e71, upd2_ne (.inl (by omega))]; exact Int.le_refl _)
                    have hth := (show I71 83 0 = I6 83 0 by rw [e71, upd2_ne (.inl (by omega))]).trans hth
                    have hzz : ySz I6 I71 := ySz_ofE (upI e71) (by omega)
                    have hB := (hB.trans hX).wr e71 rfl
                    have h3k : ∀ k, k ≠ 0 → I71 83 k = I 83 k := fun k hk => (congrFun (congrFun e71 83) k).trans ((upd2_ne (.inl (by omega))).trans ((congrFun (hX.2.1 83 (by omega)).2.1 k).trans (h3k k hk)))
                    have hg := (hg.gx hX (by omega)).skip e71 (by decide)
                    have hday : I71 83 1 = I 83 1 := (congrFun (congrFun e71 83) 1).trans ((upd2_ne (.inl (by omega))).trans ((congrFun (hX.2.1 83 (by omega)).2.1 1).trans hday))
                    have hRb : ∀ a, a < n → R a = R a := fun a ha => (hX.2.1 a (by omega)).2.2.trans (hRb a ha)
                    have hS0 := hS
                    have hR0 := hR1
                    have ht_b32 := (hX.2.1 _ hb_b32).1.trans ht_b32
                    have hb_b32 := Nat.lt_of_lt_of_le hb_b32 hX.1
                    have hb0_b32 := hb_b32
                    have ht_v33 := (hX.2.1 _ hb_v33).1.trans ht_v33
                    have hb_v33 := Nat.lt_of_lt_of_le hb_v33 hX.1
                    have hb0_v33 := hb_v33
                    have hn := Nat.le_refl n
                    have h94 := hS0.1
                    have hX := @yX.rf n tg I71 R
                    have hS := hS0.x hX
                    have hR := hR0.x hn hX
                    have hz := hX.sz h94
                    have hxn := hX.1
                    have hN := hR0.1
                    have hnb := hR0.2.2.2.2.2.2
                    have hthB := hth
                    refine y_aload rfl rfl ?_
                    refine y_aload rfl rfl ?_
                    obtain ⟨hR_v72, hb_v72, ht_v72⟩ := hR0.ven hlo_b32 hb0_b32 ht_b32 (j := 1) (by decide)
                    have hb0_v72 := hb_v72
                    have hb_v72 := Nat.lt_of_lt_of_le hb_v72 hn
                    have hlo_v72 : 94 ≤ b32 + 1 + 1 := by omega
                    have hR2_v72 := (congrFun (hX.2.1 b32 hb_b32).2.2 1).trans hR_v72
                    refine y_getR rfl ((hX.2.1 _ hb_b32).1.trans ht_b32) (Nat.lt_of_lt_of_le hb_b32 hX.1) rfl rfl hR2_v72 ?_
                    refine y_virt rfl rfl rfl rfl rfl ((hX.2.1 _ hb_b32).1.trans ht_b32) (Nat.lt_of_lt_of_le hb_b32 hX.1) ?_
                    refine r_allX ((hX.2.1 _ hb_v72).1.trans ht_v72) (Nat.lt_of_lt_of_le hb_v72 hX.1) (fun v_73 hv_73 => ?_)
                    rw [show I71 (b32 + 1 + 1) = I (b32 + 1 + 1) from (((hB.trans hX).n (by omega)).trans (by repeat (first | rfl | (rw [upd2_row (by first | decide | omega)]) | refine upd2_cg ?_)))] at hv_73
                    subst hv_73
                    refine y_ret1 ?_
                    refine y_ireturn rfl rfl rfl ?_
                    exact hQ0c _ eb_b32 (by first | omega | (simp only [show ySeat x3 = x3 from if_neg (by omega)]; omega) | (simp only [show ySeat x3 = Int32.ofInt 8 from if_pos (by omega), show (Int32.ofInt 8).toInt.toNat = 8 from by decide]; omega)) _ _ _ _ _ _ _ hS ((hR0.grow hX).up (Nat.le_succ K) hk6) (hK.x hRo hno hX) hth (congrArg (fun f => yFz f 9) (((hB.trans hX).n (by omega)).trans (by repeat (first | rfl | (rw [upd2_row (by first | decide | omega)]) | refine upd2_cg ?_))).symm) (by first | (exact hB.trans hX) | (simp only [show ySeat x3 = x3 from if_neg (by omega)]; exact hB.trans hX) | (simp only [show ySeat x3 = Int32.ofInt 8 from if_pos (by omega), show (Int32.ofInt 8).toInt.toNat = 8 from by decide]; exact hB.trans hX)) (by omega) (by omega)
                · rw [yz_m2] at h_65
                  refine y_aload rfl rfl ?_
                  refine y_iload_n rfl rfl ?_
                  refine y_ineg rfl ?_
                  refine y_virt rfl rfl rfl rfl rfl ((hX.2.1 _ hb_b32).1.trans ht_b32) (Nat.lt_of_lt_of_le hb_b32 hX.1) ?_
                  have hRG_ : yRI K n tg (upd2 I 83 0 (Int32.ofInt 0)) R := hRo.mod0 rfl (by decide) (by decide)
                  have hBG_ : yX n tg (upd2 I 83 0 (Int32.ofInt 0)) R n tg I6 R := hB.trans hX
                  refine hx_lose hS hBG_ hlo_b32 (show b32 < n by have := (hRo.l91.2.2.2.2 x1.toInt.toNat (by omega)).2.2.1; rw [eb_b32]; exact this) (by rw [eb_b32]; exact (hRo.l91.2.2.2.2 _ (by omega)).2.2.2) hRG_ (yneg2 (by omega) (by omega)).1 (yneg2 (by omega) (by omega)).2 (fun le_ n75 tg75 I75 R75 hle_ hlb_ hS hB => ?_)
                  have hR1 := (mLsD_ri hRG_ hlo_b32 (show b32 < n by have := (hRo.l91.2.2.2.2 x1.toInt.toNat (by omega)).2.2.1; rw [eb_b32]; exact this) (by rw [eb_b32]; exact (hRo.l91.2.2.2.2 _ (by omega)).2.2.2) hlb_).grow hB
                  have hK := (mLs_kp hRo hlo_b32 (show b32 < n by have := (hRo.l91.2.2.2.2 x1.toInt.toNat (by omega)).2.2.1; rw [eb_b32]; exact this) (by rw [eb_b32]; exact (hRo.l91.2.2.2.2 _ (by omega)).2.2.2)).x hRo hno hB
                  have hnA := hB.1
                  have htZ_b32 := (hX.2.1 _ hb_b32).1.trans ht_b32
                  have htZ_v33 := (hX.2.1 _ hb_v33).1.trans ht_v33
                  have ht_b32 : tg75 b32 = (21, 0) := (hB.2.1 _ (show b32 < n by have := (hRo.l91.2.2.2.2 x1.toInt.toNat (by omega)).2.2.1; rw [eb_b32]; exact this)).1.trans (by rw [eb_b32]; exact (hRo.l91.2.2.2.2 _ (by omega)).2.2.2)
                  have hb_b32 : b32 < n75 := Nat.lt_of_lt_of_le (show b32 < n by have := (hRo.l91.2.2.2.2 x1.toInt.toNat (by omega)).2.2.1; rw [eb_b32]; exact this) hB.1
                  have hb0_b32 := hb_b32
                  have hth : I75 83 0 = Int32.ofInt 0 := (congrFun (hB.n (by omega : 83 < n)) 0).trans ((congrFun (mLsD_row (by omega)) 0).trans upd2_self)
                  have hS0 := hS
                  have hR0 := hR1
                  have hn := Nat.le_refl n75
                  have h94 := hS0.1
                  have hX := @yX.rf n75 tg75 I75 R75
                  have hS := hS0.x hX
                  have hR := hR0.x hn hX
                  have hz := hX.sz h94
                  have hxn := hX.1
                  have hN := hR0.1
                  have hnb := hR0.2.2.2.2.2.2
                  refine y_ret0 ?_
                  refine y_goto rfl j_X14_result_160 ?_
                  refine y_aload rfl rfl ?_
                  refine y_aload rfl rfl ?_
                  obtain ⟨hR_v76, hb_v76, ht_v76⟩ := hR0.ven hlo_b32 hb0_b32 ht_b32 (j := 1) (by decide)
                  have hb0_v76 := hb_v76
                  have hb_v76 := Nat.lt_of_lt_of_le hb_v76 hn
                  have hlo_v76 : 94 ≤ b32 + 1 + 1 := by omega
                  have hR2_v76 := (congrFun (hX.2.1 b32 hb_b32).2.2 1).trans hR_v76
                  refine y_getR rfl ((hX.2.1 _ hb_b32).1.trans ht_b32) (Nat.lt_of_lt_of_le hb_b32 hX.1) rfl rfl hR2_v76 ?_
                  refine y_virt rfl rfl rfl rfl rfl ((hX.2.1 _ hb_b32).1.trans ht_b32) (Nat.lt_of_lt_of_le hb_b32 hX.1) ?_
                  refine r_allX ((hX.2.1 _ hb_v76).1.trans ht_v76) (Nat.lt_of_lt_of_le hb_v76 hX.1) (fun v_77 hv_77 => ?_)
                  subst hv_77
                  refine y_ret1 ?_
                  refine y_ireturn rfl rfl rfl ?_
                  exact hQ0b _ eb_b32 (by first | omega | (simp only [show ySeat x3 = x3 from if_neg (by omega)]; omega) | (simp only [show ySeat x3 = Int32.ofInt 8 from if_pos (by omega), show (Int32.ofInt 8).toInt.toNat = 8 from by decide]; omega)) _ _ _ _ _ _ _ hS ((hR0.grow hX).up (Nat.le_succ K) hk6) (hK.x hRo hno hX) hth _ hle_ (by first | rfl | (exact congrArg (fun f => yFz f 9) ((hB.trans hX).n (by omega)).symm)) (hB.trans hX) (by omega) (by omega)
              · refine y_aload_n rfl rfl ?_
                refine y_aload rfl rfl ?_
                refine y_iload_n rfl rfl ?_
                refine y_virt rfl rfl rfl rfl rfl (ySh.t hS rfl) (ySh.n hS rfl) ?_
                have hRG_ : yRI K n tg (upd2 I 83 0 (Int32.ofInt 0)) R := hRo.mod0 rfl (by decide) (by decide)
                have hBG_ : yX n tg (upd2 I 83 0 (Int32.ofInt 0)) R n tg I6 R := hB.trans hX
                refine hx_profit hS hBG_ hlo_b32 (show b32 < n by have := (hRo.l91.2.2.2.2 x1.toInt.toNat (by omega)).2.2.1; rw [eb_b32]; exact this) (by rw [eb_b32]; exact (hRo.l91.2.2.2.2 _ (by omega)).2.2.2) hRG_ (fun J78 hB => ?_)
                have hR1 := (mPrD_ri hRG_ hlo_b32 (show b32 < n by have := (hRo.l91.2.2.2.2 x1.toInt.toNat (by omega)).2.2.1; rw [eb_b32]; exact this) (by rw [eb_b32]; exact (hRo.l91.2.2.2.2 _ (by omega)).2.2.2)).grow hB
                have hK := (mPr_kp hRo hlo_b32 (show b32 < n by have := (hRo.l91.2.2.2.2 x1.toInt.toNat (by omega)).2.2.1; rw [eb_b32]; exact this) (by rw [eb_b32]; exact (hRo.l91.2.2.2.2 _ (by omega)).2.2.2)).x hRo hno hB
                have hnA := hB.1
                have ht_b32 : tg b32 = (21, 0) := (hB.2.1 _ (show b32 < n by have := (hRo.l91.2.2.2.2 x1.toInt.toNat (by omega)).2.2.1; rw [eb_b32]; exact this)).1.trans (by rw [eb_b32]; exact (hRo.l91.2.2.2.2 _ (by omega)).2.2.2)
                have hb_b32 : b32 < n := Nat.lt_of_lt_of_le (show b32 < n by have := (hRo.l91.2.2.2.2 x1.toInt.toNat (by omega)).2.2.1; rw [eb_b32]; exact this) hB.1
                have hb0_b32 := hb_b32
                have hth : J78 83 0 = Int32.ofInt 0 := (congrFun (hB.n (by omega : 83 < n)) 0).trans ((congrFun (mPrD_row (by decide) (by omega)) 0).trans upd2_self)
                have hS0 := hS
                have hR0 := hR1
                have hn := Nat.le_refl n
                have h94 := hS0.1
                have hX := @yX.rf n tg J78 R
                have hS := hS0.x hX
                have hR := hR0.x hn hX
                have hz := hX.sz h94
                have hxn := hX.1
                have hN := hR0.1
                have hnb := hR0.2.2.2.2.2.2
                refine y_ret0 ?_
                refine y_goto rfl j_X14_result_160 ?_
                refine y_aload rfl rfl ?_
                refine y_aload rfl rfl ?_
                obtain ⟨hR_v79, hb_v79, ht_v79⟩ := hR0.ven hlo_b32 hb0_b32 ht_b32 (j := 1) (by decide)
                have hb0_v79 := hb_v79
                have hb_v79 := Nat.lt_of_lt_of_le hb_v79 hn
                have hlo_v79 : 94 ≤ b32 + 1 + 1 := by omega
                have hR2_v79 := (congrFun (hX.2.1 b32 hb_b32).2.2 1).trans hR_v79
                refine y_getR rfl ((hX.2.1 _ hb_b32).1.trans ht_b32) (Nat.lt_of_lt_of_le hb_b32 hX.1) rfl rfl hR2_v79 ?_
                refine y_virt rfl rfl rfl rfl rfl ((hX.2.1 _ hb_b32).1.trans ht_b32) (Nat.lt_of_lt_of_le hb_b32 hX.1) ?_
                refine r_allX ((hX.2.1 _ hb_v79).1.trans ht_v79) (Nat.lt_of_lt_of_le hb_v79 hX.1) (fun v_80 hv_80 => ?_)
                subst hv_80
                refine y_ret1 ?_
                refine y_ireturn rfl rfl rfl ?_
                exact hQ0a _ eb_b32 (by first | omega | (simp only [show ySeat x3 = x3 from if_neg (by omega)]; omega) | (simp only [show ySeat x3 = Int32.ofInt 8 from if_pos (by omega), show (Int32.ofInt 8).toInt.toNat = 8 from by decide]; omega)) _ _ _ _ _ _ _ hS ((hR0.grow hX).up (Nat.le_succ K) hk6) (hK.x hRo hno hX) hth (by first | rfl | (exact congrArg (fun f => yFz f 9) ((hB.trans hX).n (by omega)).symm)) (hB.trans hX) (by omega) (by omega)
            · refine y_iconst rfl ?_
              refine y_goto rfl j_X14_result_95 ?_
              refine y_iconst rfl ?_
              refine y_virt rfl rfl rfl rfl rfl (ySh.t hS rfl) (ySh.n hS rfl) ?_
              refine y_in (M := xm_X14_refuse) (ls := [some _, some _, some _]) rfl rfl rfl ?_
              refine y_iload_n rfl rfl ?_
              refine y_if_eqF rfl (by decide) ?_
              refine y_aload_n rfl rfl ?_
              refine y_getIv (v := Int32.ofInt (0)) rfl (ySh.t hS rfl) (ySh.n hS rfl) rfl rfl hth ?_
              refine y_if_neF rfl (by decide) ?_
              refine y_aload_n rfl rfl ?_
              refine y_iload_n rfl rfl ?_
              refine y_putI rfl (ySh.t hS rfl) (ySh.n hS rfl) rfl (Nat.le_of_ble_eq_true rfl) rfl rfl ?_
              refine y_nameI (fun I81 e81 => ?_)
              have hR1 := (hR0.grow hX).mod0 e81 (by decide) (by decide)
              have hK := (hK.x hRo hno hX).upI (upI e81) (by decide) (by decide) (fun i hi => by have := (hRo.l87.2.2.2.2 i hi).2.1; omega) (by rw [e81, upd2_ne (.inr (by decide))]; exact Int.le_refl _)
              have hth : I81 83 0 = Int32.ofInt (3) := by rw [e81, upd2_self]
              have hzz : ySz8 I6 I81 := ySz8_of (upI e81) (by rw [e81]; exact ⟨upd2_ne (.inr (by decide)), upd2_ne (.inr (by decide))⟩)
              have hB := (hB.trans hX).wr e81 rfl
              have h8 : ∀ a, 84 ≤ a → a ≤ 86 → I81 a = I a := fun a h1 h2 => (upI e81 a (by omega)).trans ((hX.2.1 a (by omega)).2.1.trans (h8 a h1 h2))
              have h3k : ∀ k, k ≠ 0 → I81 83 k = I 83 k := fun k hk => (congrFun (congrFun e81 83) k).trans ((upd2_ne (.inr hk)).trans ((congrFun (hX.2.1 83 (by omega)).2.1 k).trans (h3k k hk)))
              have hg := (hg.gx hX (by omega)).skip e81 (by decide)
              have hday : I81 83 1 = I 83 1 := (congrFun (congrFun e81 83) 1).trans ((upd2_ne (.inr (by decide))).trans ((congrFun (hX.2.1 83 (by omega)).2.1 1).trans hday))
              have hRb : ∀ a, a < n → R a = R a := fun a ha => (hX.2.1 a (by omega)).2.2.trans (hRb a ha)
              have hb83 : ∀ a, a ≠ 83 → a < n → I81 a = I a := fun a ha hb => (upI e81 a ha).trans ((hX.2.1 a (by omega)).2.1.trans (hb83 a ha hb))
              have hS0 := hS
              have hR0 := hR1
              have ht_b32 := (hX.2.1 _ hb_b32).1.trans ht_b32
              have hb_b32 := Nat.lt_of_lt_of_le hb_b32 hX.1
              have hb0_b32 := hb_b32
              have ht_v33 := (hX.2.1 _ hb_v33).1.trans ht_v33
              have hb_v33 := Nat.lt_of_lt_of_le hb_v33 hX.1
              have hb0_v33 := hb_v33
              have hn := Nat.le_refl n
              have h94 := hS0.1
              have hX := @yX.rf n tg I81 R
              have hS := hS0.x hX
              have hR := hR0.x hn hX
              have hz := hX.sz h94
              have hxn := hX.1
              have hN := hR0.1
              have hnb := hR0.2.2.2.2.2.2
              have hthB := hth
              refine y_aload_n rfl rfl ?_
              refine y_getIv (v := Int32.ofInt (3)) rfl (ySh.t hS rfl) (ySh.n hS rfl) rfl rfl hth ?_
              refine y_if_leF rfl (by decide) ?_
              refine y_iconst rfl ?_
              refine y_goto rfl j_X14_refuse_28 ?_
              refine y_ireturn rfl rfl rfl ?_
              refine y_ret1 ?_
              refine y_if_eqF rfl (by decide) ?_
              refine y_iconst rfl ?_
              refine y_ireturn rfl rfl rfl ?_
              exact hQ3 _ eb_b32 (by first | omega | (simp only [show ySeat x3 = x3 from if_neg (by omega)]; omega) | (simp only [show ySeat x3 = Int32.ofInt 8 from if_pos (by omega), show (Int32.ofInt 8).toInt.toNat = 8 from by decide]; omega)) _ _ _ _ _ _ _ hS ((hR0.grow hX).up (Nat.le_succ K) hk6) (hK.x hRo hno hX) hth ((hB.trans hX).rf2 (by omega)) (by omega) (by omega)
      · rw [yz_m999] at h_9
        rw [yz_999] at h_9
        refine y_ret1 ?_
        refine y_if_neF rfl (by decide) ?_
        refine y_iconst rfl ?_
        refine y_goto rfl j_X14_result_54 ?_
        refine y_iconst rfl ?_
        refine y_virt rfl rfl rfl rfl rfl (ySh.t hS rfl) (ySh.n hS rfl) ?_
        refine y_in (M := xm_X14_refuse) (ls := [some _, some _, some _]) rfl rfl rfl ?_
        refine y_iload_n rfl rfl ?_
        refine y_if_eqF rfl (by decide) ?_
        refine y_aload_n rfl rfl ?_
        refine y_getIv (v := Int32.ofInt (0)) rfl (ySh.t hS rfl) (ySh.n hS rfl) rfl rfl hth ?_
        refine y_if_neF rfl (by decide) ?_
        refine y_aload_n rfl rfl ?_
        refine y_iload_n rfl rfl ?_
        refine y_putI rfl (ySh.t hS rfl) (ySh.n hS rfl) rfl (Nat.le_of_ble_eq_true rfl) rfl rfl ?_
        refine y_nameI (fun I82 e82 => ?_)
        have hR1 := (hR0.grow hX).mod0 e82 (by decide) (by decide)
        have hK := (hK.x hRo hno hX).upI (upI e82) (by decide) (by decide) (fun i hi => by have := (hRo.l87.2.2.2.2 i hi).2.1; omega) (by rw [e82, upd2_ne (.inr (by decide))]; exact Int.le_refl _)
        have hth : I82 83 0 = Int32.ofInt (2) := by rw [e82, upd2_self]
        have hzz : ySz8 I6 I82 := ySz8_of (upI e82) (by rw [e82]; exact ⟨upd2_ne (.inr (by decide)), upd2_ne (.inr (by decide))⟩)
        have hB := (hB.trans hX).wr e82 rfl
        have h8 : ∀ a, 84 ≤ a → a ≤ 86 → I82 a = I a := fun a h1 h2 => (upI e82 a (by omega)).trans ((hX.2.1 a (by omega)).2.1.trans (h8 a h1 h2))
        have h3k : ∀ k, k ≠ 0 → I82 83 k = I 83 k := fun k hk => (congrFun (congrFun e82 83) k).trans ((upd2_ne (.inr hk)).trans ((congrFun (hX.2.1 83 (by omega)).2.1 k).trans (h3k k hk)))
        have hg := (hg.gx hX (by omega)).skip e82 (by decide)
        have hday : I82 83 1 = I 83 1 := (congrFun (congrFun e82 83) 1).trans ((upd2_ne (.inr (by decide))).trans ((congrFun (hX.2.1 83 (by omega)).2.1 1).trans hday))
        have hRb : ∀ a, a < n → R a = R a := fun a ha => (hX.2.1 a (by omega)).2.2.trans (hRb a ha)
        have hb83 : ∀ a, a ≠ 83 → a < n → I82 a = I a := fun a ha hb => (upI e82 a ha).trans ((hX.2.1 a (by omega)).2.1.trans (hb83 a ha hb))
        have hS0 := hS
        have hR0 := hR1
        have hn := Nat.le_refl n
        have h94 := hS0.1
        have hX := @yX.rf n tg I82 R
        have hS := hS0.x hX
        have hR := hR0.x hn hX
        have hz := hX.sz h94
        have hxn := hX.1
        have hN := hR0.1
        have hnb := hR0.2.2.2.2.2.2
        have hthB := hth
        refine y_aload_n rfl rfl ?_
        refine y_getIv (v := Int32.ofInt (2)) rfl (ySh.t hS rfl) (ySh.n hS rfl) rfl rfl hth ?_
        refine y_if_leF rfl (by decide) ?_
        refine y_iconst rfl ?_
        refine y_goto rfl j_X14_refuse_28 ?_
        refine y_ireturn rfl rfl rfl ?_
        refine y_ret1 ?_
        refine y_if_neT rfl j_X14_result_102 (by decide) ?_
        refine y_iconst rfl ?_
        refine y_ireturn rfl rfl rfl ?_
        exact hQ2 (by first | omega | (simp only [show ySeat x3 = x3 from if_neg (by omega)]; omega) | (simp only [show ySeat x3 = Int32.ofInt 8 from if_pos (by omega), show (Int32.ofInt 8).toInt.toNat = 8 from by decide]; omega)) _ _ _ _ _ _ _ hS ((hR0.grow hX).up (Nat.le_succ K) hk6) (hK.x hRo hno hX) hth ((hB.trans hX).rf2 (by omega)) (by omega) (by omega)
    · rw [yz_m2] at h_5
      refine y_aload_n rfl rfl ?_
      refine y_iload_n rfl rfl ?_
      refine y_virt rfl rfl rfl rfl rfl (ySh.t hS rfl) (ySh.n hS rfl) ?_
      refine y_in (M := xm_X14_isNoOne) (ls := [some _, some _]) rfl rfl rfl ?_
      refine y_iload_n rfl rfl ?_
      refine y_iconst rfl ?_
      refine y_icmp_eq rfl j_X14_isNoOne_17 (fun h_83 => ?_) (fun h_84 => ?_)
      · rw [yz_m1] at h_83
        refine y_iconst rfl ?_
        refine y_ireturn rfl rfl rfl ?_
        refine y_ret1 ?_
        refine y_if_eqT rfl j_X14_result_27 (by decide) ?_
        refine y_iconst rfl ?_
        refine y_iconst rfl ?_
        refine y_virt rfl rfl rfl rfl rfl (ySh.t hS rfl) (ySh.n hS rfl) ?_
        refine y_in (M := xm_X14_start) (ls := [some _, some _, some _]) rfl rfl rfl ?_
        refine y_aload_n rfl rfl ?_
        refine y_iconst rfl ?_
        refine y_putI rfl (ySh.t hS rfl) (ySh.n hS rfl) rfl (Nat.le_of_ble_eq_true rfl) rfl rfl ?_
        refine y_nameI (fun I85 e85 => ?_)
        have hR1 := (hR0.grow hX).mod0 e85 (by decide) (by decide)
        have hK := (hK.x hRo hno hX).upI (upI e85) (by decide) (by decide) (fun i hi => by have := (hRo.l87.2.2.2.2 i hi).2.1; omega) (by rw [e85, upd2_ne (.inr (by decide))]; exact Int.le_refl _)
        have hth : I85 83 0 = Int32.ofInt (0) := by rw [e85, upd2_self]
        have hzz : ySz8 I I85 := ySz8_of (upI e85) (by rw [e85]; exact ⟨upd2_ne (.inr (by decide)), upd2_ne (.inr (by decide))⟩)
        have hB := (hB.trans hX).wr e85 rfl
        have h8 : ∀ a, 84 ≤ a → a ≤ 86 → I85 a = I a := fun a h1 h2 => (upI e85 a (by omega)).trans ((hX.2.1 a (by omega)).2.1.trans (h8 a h1 h2))
        have h3k : ∀ k, k ≠ 0 → I85 83 k = I 83 k := fun k hk => (congrFun (congrFun e85 83) k).trans ((upd2_ne (.inr hk)).trans ((congrFun (hX.2.1 83 (by omega)).2.1 k).trans (h3k k hk)))
        have hg := (hg.gx hX (by omega)).skip e85 (by decide)
        have hday : I85 83 1 = I 83 1 := (congrFun (congrFun e85 83) 1).trans ((upd2_ne (.inr (by decide))).trans ((congrFun (hX.2.1 83 (by omega)).2.1 1).trans hday))
        have hRb : ∀ a, a < n → R a = R a := fun a ha => (hX.2.1 a (by omega)).2.2.trans (hRb a ha)
        have hb83 : ∀ a, a ≠ 83 → a < n → I85 a = I a := fun a ha hb => (upI e85 a ha).trans ((hX.2.1 a (by omega)).2.1.trans (hb83 a ha hb))
        have hS0 := hS
        have hR0 := hR1
        have hn := Nat.le_refl n
        have h94 := hS0.1
        have hX := @yX.rf n tg I85 R
        have hS := hS0.x hX
        have hR := hR0.x hn hX
        have hz := hX.sz h94
        have hxn := hX.1
        have hN := hR0.1
        have hnb := hR0.2.2.2.2.2.2
        have hthB := hth
        refine y_aload_n rfl rfl ?_
        refine y_iload_n rfl rfl ?_
        refine y_iload_n rfl rfl ?_
        refine y_virt rfl rfl rfl rfl rfl (ySh.t hS rfl) (ySh.n hS rfl) ?_
        refine y_in (M := xm_X14_refuse) (ls := [some _, some _, some _]) rfl rfl rfl ?_
        refine y_iload_n rfl rfl ?_
        refine y_if_eqT rfl j_X14_refuse_16 (by decide) ?_
        refine y_aload_n rfl rfl ?_
        refine y_getIv (v := Int32.ofInt (0)) rfl (ySh.t hS rfl) (ySh.n hS rfl) rfl rfl hth ?_
        refine y_if_leT rfl j_X14_refuse_27 (by decide) ?_
        refine y_iconst rfl ?_
        refine y_ireturn rfl rfl rfl ?_
        refine y_ret1 ?_
        refine y_ireturn rfl rfl rfl ?_
        refine y_ret1 ?_
        refine y_if_neF rfl (by decide) ?_
        refine y_aload_n rfl rfl ?_
        refine y_iload_n rfl rfl ?_
        refine y_sip rfl (by decide) ?_
        refine y_sip rfl (by decide) ?_
        refine y_static rfl rfl rfl rfl rfl ?_
        refine r_isIn (fun h_86 h_87 => ?_) (fun h_88 => ?_)
        · rw [yz_m999] at h_86
          rw [yz_999] at h_87
          refine y_ret1 ?_
          refine y_if_neT rfl j_X14_result_53 (by decide) ?_
          refine y_iconst rfl ?_
          refine y_iconst rfl ?_
          refine y_virt rfl rfl rfl rfl rfl (ySh.t hS rfl) (ySh.n hS rfl) ?_
          refine y_in (M := xm_X14_refuse) (ls := [some _, some _, some _]) rfl rfl rfl ?_
          refine y_iload_n rfl rfl ?_
          refine y_if_eqT rfl j_X14_refuse_16 (by decide) ?_
          refine y_aload_n rfl rfl ?_
          refine y_getIv (v := Int32.ofInt (0)) rfl (ySh.t hS rfl) (ySh.n hS rfl) rfl rfl hth ?_
          refine y_if_leT rfl j_X14_refuse_27 (by decide) ?_
          refine y_iconst rfl ?_
          refine y_ireturn rfl rfl rfl ?_
          refine y_ret1 ?_
          refine y_if_neF rfl (by decide) ?_
          refine y_aload_n rfl rfl ?_
          refine y_iload_n rfl rfl ?_
          refine y_bip rfl (by decide) ?_
          refine y_icmp_eq rfl j_X14_result_94 (fun h_89 => ?_) (fun h_90 => ?_)
          · rw [yz_m2] at h_89
            refine y_iconst rfl ?_
            refine y_iconst rfl ?_
            refine y_virt rfl rfl rfl rfl rfl (ySh.t hS rfl) (ySh.n hS rfl) ?_
            refine y_in (M := xm_X14_refuse) (ls := [some _, some _, some _]) rfl rfl rfl ?_
            refine y_iload_n rfl rfl ?_
            refine y_if_eqT rfl j_X14_refuse_16 (by decide) ?_
            refine y_aload_n rfl rfl ?_
            refine y_getIv (v := Int32.ofInt (0)) rfl (ySh.t hS rfl) (ySh.n hS rfl) rfl rfl hth ?_
            refine y_if_leT rfl j_X14_refuse_27 (by decide) ?_
            refine y_iconst rfl ?_
            refine y_ireturn rfl rfl rfl ?_
            refine y_ret1 ?_
            refine y_if_eqT rfl j_X14_result_104 (by decide) ?_
            refine y_aload_n rfl rfl ?_
            refine y_getR rfl (ySh.t hS rfl) (ySh.n hS rfl) rfl rfl (ySh.r hS rfl) ?_
            refine y_iload_n rfl rfl ?_
            refine y_virt rfl rfl rfl rfl rfl (ySh.t hS rfl) (ySh.n hS rfl) ?_
            refine l_get (nb := n) (ySh.t hS rfl) (ySh.n hS rfl) (Nat.le_trans hn hX.1) hR.l91 (by omega) (by omega) (fun b91 eb_b91 hlo_b91 hb0_b91 ht_b91 => ?_)
            have hb_b91 := Nat.lt_of_lt_of_le hb0_b91 hn
            replace ht_b91 := (hX.2.1 _ hb_b91).1.symm.trans ht_b91
            refine y_ret1 ?_
            refine y_cast rfl ((hX.2.1 _ hb_b91).1.trans ht_b91) (Nat.lt_of_lt_of_le hb_b91 hX.1) ?_
            refine y_astore (ls' := [some _, some _, some _, some _, some _]) rfl rfl rfl ?_
            refine y_iload_n rfl rfl ?_
            refine y_if_lt rfl j_X14_result_131 (fun h_92 => ?_) (fun h_93 => ?_)
            · refine y_iload_n rfl rfl ?_
              refine y_bip rfl (by decide) ?_
              refine y_icmp_ne rfl j_X14_result_147 (fun h_94 => ?_) (fun h_95 => ?_)
              · rw [yz_m2] at h_94
                refine y_aload_n rfl rfl ?_
                refine y_getR rfl (ySh.t hS rfl) (ySh.n hS rfl) rfl rfl (ySh.r hS rfl) ?_
                refine y_iload_n rfl rfl ?_
                refine y_static rfl rfl rfl rfl rfl ?_
                refine y_in (M := xm_X14_seat) (ls := [some _]) rfl rfl rfl ?_
                refine y_iload_n rfl rfl ?_
                refine y_iconst rfl ?_
                refine y_icmp_ne rfl j_X14_seat_10 (fun h_96 => ?_) (fun h_97 => ?_)
                · rw [yz_m1] at h_96
                  refine y_iload_n rfl rfl ?_
                  refine y_ireturn rfl rfl rfl ?_
                  refine y_ret1 ?_
                  refine y_dup2 rfl rfl rfl ?_
                  refine y_ialoadv (J := I 84) rfl (ySh.t hS rfl) (ySh.n hS rfl) (by omega) (by omega) (((hB.trans hX).n (by omega)).trans (by repeat (first | rfl | (rw [upd2_row (by first | decide | omega)]) | refine upd2_cg ?_))) ?_
                  refine y_iload_n rfl rfl ?_
                  refine y_iadd rfl ?_
                  refine y_iastore rfl (ySh.t hS rfl) (ySh.n hS rfl) (Nat.le_of_ble_eq_true rfl) (by omega) (by omega) ?_
                  refine y_nameI (fun I98 e98 => ?_)
                  have hR1 := (hR0.grow hX).arr e98 (by decide)
                  have hK := (hK.x hRo hno hX).upI (upI e98) (by decide) (by decide) (fun i hi => by have := (hRo.l87.2.2.2.2 i hi).2.1; omega) (by rw [e98, upd2_ne (.inl (by omega))]; exact Int.le_refl _)
                  have hth := (show I98 83 0 = I85 83 0 by rw [e98, upd2_ne (.inl (by omega))]).trans hth
                  have hzz : ySz I85 I98 := ySz_ofE (upI e98) (by omega)
                  have hB := (hB.trans hX).wr e98 rfl
                  have h3k : ∀ k, k ≠ 0 → I98 83 k = I 83 k := fun k hk => (congrFun (congrFun e98 83) k).trans ((upd2_ne (.inl (by omega))).trans ((congrFun (hX.2.1 83 (by omega)).2.1 k).trans (h3k k hk)))
                  have hg := (hg.gx hX (by omega)).skip e98 (by decide)
                  have hday : I98 83 1 = I 83 1 := (congrFun (congrFun e98 83) 1).trans ((upd2_ne (.inl (by omega))).trans ((congrFun (hX.2.1 83 (by omega)).2.1 1).trans hday))
                  have hRb : ∀ a, a < n → R a = R a := fun a ha => (hX.2.1 a (by omega)).2.2.trans (hRb a ha)
                  have hS0 := hS
                  have hR0 := hR1
                  have ht_b91 := (hX.2.1 _ hb_b91).1.trans ht_b91
                  have hb_b91 := Nat.lt_of_lt_of_le hb_b91 hX.1
                  have hb0_b91 := hb_b91
                  have hn := Nat.le_refl n
                  have h94 := hS0.1
                  have hX := @yX.rf n tg I98 R
                  have hS := hS0.x hX
                  have hR := hR0.x hn hX
                  have hz := hX.sz h94
                  have hxn := hX.1
                  have hN := hR0.1
                  have hnb := hR0.2.2.2.2.2.2
                  have hthB := hth
                  refine y_aload rfl rfl ?_
                  refine y_aload rfl rfl ?_
                  obtain ⟨hR_v99, hb_v99, ht_v99⟩ := hR0.ven hlo_b91 hb0_b91 ht_b91 (j := 1) (by decide)
                  have hb0_v99 := hb_v99
                  have hb_v99 := Nat.lt_of_lt_of_le hb_v99 hn
                  have hlo_v99 : 94 ≤ b91 + 1 + 1 := by omega
                  have hR2_v99 := (congrFun (hX.2.1 b91 hb_b91).2.2 1).trans hR_v99
                  refine y_getR rfl ((hX.2.1 _ hb_b91).1.trans ht_b91) (Nat.lt_of_lt_of_le hb_b91 hX.1) rfl rfl hR2_v99 ?_
                  refine y_virt rfl rfl rfl rfl rfl ((hX.2.1 _ hb_b91).1.trans ht_b91) (Nat.lt_of_lt_of_le hb_b91 hX.1) ?_
                  refine r_allX ((hX.2.1 _ hb_v99).1.trans ht_v99) (Nat.lt_of_lt_of_le hb_v99 hX.1) (fun v_100 hv_100 => ?_)
                  rw [show I98 (b91 + 1 + 1) = I (b91 + 1 + 1) from (((hB.trans hX).n (by omega)).trans (by repeat (first | rfl | (rw [upd2_row (by first | decide | omega)]) | refine upd2_cg ?_)))] at hv_100
                  subst hv_100
                  refine y_ret1 ?_
                  refine y_ireturn rfl rfl rfl ?_
                  exact hQ0c _ eb_b91 (by first | omega | (simp only [show ySeat x3 = x3 from if_neg (by omega)]; omega) | (simp only [show ySeat x3 = Int32.ofInt 8 from if_pos (by omega), show (Int32.ofInt 8).toInt.toNat = 8 from by decide]; omega)) _ _ _ _ _ _ _ hS ((hR0.grow hX).up (Nat.le_succ K) hk6) (hK.x hRo hno hX) hth (congrArg (fun f => yFz f 9) (((hB.trans hX).n (by omega)).trans (by repeat (first | rfl | (rw [upd2_row (by first | decide | omega)]) | refine upd2_cg ?_))).symm) (by first | (exact hB.trans hX) | (simp only [show ySeat x3 = x3 from if_neg (by omega)]; exact hB.trans hX) | (simp only [show ySeat x3 = Int32.ofInt 8 from if_pos (by omega), show (Int32.ofInt 8).toInt.toNat = 8 from by decide]; exact hB.trans hX)) (by omega) (by omega)
                · rw [yz_m1] at h_97
                  refine y_bip rfl (by decide) ?_
                  refine y_goto rfl j_X14_seat_11 ?_
                  refine y_ireturn rfl rfl rfl ?_
                  refine y_ret1 ?_
                  refine y_dup2 rfl rfl rfl ?_
                  refine y_ialoadw (j := 8) (J := I 84) rfl (ySh.t hS rfl) (ySh.n hS rfl) (by decide) (by decide) rfl (((hB.trans hX).n (by omega)).trans (by repeat (first | rfl | (rw [upd2_row (by first | decide | omega)]) | refine upd2_cg ?_))) ?_
                  refine y_iload_n rfl rfl ?_
                  refine y_iadd rfl ?_
                  refine y_iastoreC (j := 8) rfl (ySh.t hS rfl) (ySh.n hS rfl) (Nat.le_of_ble_eq_true rfl) (by decide) (by decide) rfl ?_
                  refine y_nameI (fun I101 e101 => ?_)
                  have hR1 := (hR0.grow hX).arr e101 (by decide)
                  have hK := (hK.x hRo hno hX).upI (upI e101) (by decide) (by decide) (fun i hi => by have := (hRo.l87.2.2.2.2 i hi).2.1; omega) (by rw [e101, upd2_ne (.inl (by omega))]; exact Int.le_refl _)
                  have hth := (show I101 83 0 = I85 83 0 by rw [e101, upd2_ne (.inl (by omega))]).trans hth
                  have hzz : ySz I85 I101 := ySz_ofE (upI e101) (by omega)
                  have hB := (hB.trans hX).wr e101 rfl
                  have h3k : ∀ k, k ≠ 0 → I101 83 k = I 83 k := fun k hk => (congrFun (congrFun e101 83) k).trans ((upd2_ne (.inl (by omega))).trans ((congrFun (hX.2.1 83 (by omega)).2.1 k).trans (h3k k hk)))
                  have hg := (hg.gx hX (by omega)).skip e101 (by decide)
                  have hday : I101 83 1 = I 83 1 := (congrFun (congrFun e101 83) 1).trans ((upd2_ne (.inl (by omega))).trans ((congrFun (hX.2.1 83 (by omega)).2.1 1).trans hday))
                  have hRb : ∀ a, a < n → R a = R a := fun a ha => (hX.2.1 a (by omega)).2.2.trans (hRb a ha)
                  have hS0 := hS
                  have hR0 := hR1
                  have ht_b91 := (hX.2.1 _ hb_b91).1.trans ht_b91
                  have hb_b91 := Nat.lt_of_lt_of_le hb_b91 hX.1
                  have hb0_b91 := hb_b91
                  have hn := Nat.le_refl n
                  have h94 := hS0.1
                  have hX := @yX.rf n tg I101 R
                  have hS := hS0.x hX
                  have hR := hR0.x hn hX
                  have hz := hX.sz h94
                  have hxn := hX.1
                  have hN := hR0.1
                  have hnb := hR0.2.2.2.2.2.2
                  have hthB := hth
                  refine y_aload rfl rfl ?_
                  refine y_aload rfl rfl ?_
                  obtain ⟨hR_v102, hb_v102, ht_v102⟩ := hR0.ven hlo_b91 hb0_b91 ht_b91 (j := 1) (by decide)
                  have hb0_v102 := hb_v102
                  have hb_v102 := Nat.lt_of_lt_of_le hb_v102 hn
                  have hlo_v102 : 94 ≤ b91 + 1 + 1 := by omega
                  have hR2_v102 := (congrFun (hX.2.1 b91 hb_b91).2.2 1).trans hR_v102
                  refine y_getR rfl ((hX.2.1 _ hb_b91).1.trans ht_b91) (Nat.lt_of_lt_of_le hb_b91 hX.1) rfl rfl hR2_v102 ?_
                  refine y_virt rfl rfl rfl rfl rfl ((hX.2.1 _ hb_b91).1.trans ht_b91) (Nat.lt_of_lt_of_le hb_b91 hX.1) ?_
                  refine r_allX ((hX.2.1 _ hb_v102).1.trans ht_v102) (Nat.lt_of_lt_of_le hb_v102 hX.1) (fun v_103 hv_103 => ?_)
                  rw [show I101 (b91 + 1 + 1) = I (b91 + 1 + 1) from (((hB.trans hX).n (by omega)).trans (by repeat (first | rfl | (rw [upd2_row (by first | decide | omega)]) | refine upd2_cg ?_)))] at hv_103
                  subst hv_103
                  refine y_ret1 ?_
                  refine y_ireturn rfl rfl rfl ?_
                  exact hQ0c _ eb_b91 (by first | omega | (simp only [show ySeat x3 = x3 from if_neg (by omega)]; omega) | (simp only [show ySeat x3 = Int32.ofInt 8 from if_pos (by omega), show (Int32.ofInt 8).toInt.toNat = 8 from by decide]; omega)) _ _ _ _ _ _ _ hS ((hR0.grow hX).up (Nat.le_succ K) hk6) (hK.x hRo hno hX) hth (congrArg (fun f => yFz f 9) (((hB.trans hX).n (by omega)).trans (by repeat (first | rfl | (rw [upd2_row (by first | decide | omega)]) | refine upd2_cg ?_))).symm) (by first | (exact hB.trans hX) | (simp only [show ySeat x3 = x3 from if_neg (by omega)]; exact hB.trans hX) | (simp only [show ySeat x3 = Int32.ofInt 8 from if_pos (by omega), show (Int32.ofInt 8).toInt.toNat = 8 from by decide]; exact hB.trans hX)) (by omega) (by omega)
              · rw [yz_m2] at h_95
                refine y_aload rfl rfl ?_
                refine y_iload_n rfl rfl ?_
                refine y_ineg rfl ?_
                refine y_virt rfl rfl rfl rfl rfl ((hX.2.1 _ hb_b91).1.trans ht_b91) (Nat.lt_of_lt_of_le hb_b91 hX.1) ?_
                have hRG_ : yRI K n tg (upd2 I 83 0 (Int32.ofInt 0)) R := hRo.mod0 rfl (by decide) (by decide)
                have hBG_ : yX n tg (upd2 I 83 0 (Int32.ofInt 0)) R n tg I85 R := hB.trans hX
                refine hx_lose hS hBG_ hlo_b91 (show b91 < n by have := (hRo.l91.2.2.2.2 x1.toInt.toNat (by omega)).2.2.1; rw [eb_b91]; exact this) (by rw [eb_b91]; exact (hRo.l91.2.2.2.2 _ (by omega)).2.2.2) hRG_ (yneg2 (by omega) (by omega)).1 (yneg2 (by omega) (by omega)).2 (fun le_ n105 tg105 I105 R105 hle_ hlb_ hS hB => ?_)
                have hR1 := (mLsD_ri hRG_ hlo_b91 (show b91 < n by have := (hRo.l91.2.2.2.2 x1.toInt.toNat (by omega)).2.2.1; rw [eb_b91]; exact this) (by rw [eb_b91]; exact (hRo.l91.2.2.2.2 _ (by omega)).2.2.2) hlb_).grow hB
                have hK := (mLs_kp hRo hlo_b91 (show b91 < n by have := (hRo.l91.2.2.2.2 x1.toInt.toNat (by omega)).2.2.1; rw [eb_b91]; exact this) (by rw [eb_b91]; exact (hRo.l91.2.2.2.2 _ (by omega)).2.2.2)).x hRo hno hB
                have hnA := hB.1
                have htZ_b91 := (hX.2.1 _ hb_b91).1.trans ht_b91
                have ht_b91 : tg105 b91 = (21, 0) := (hB.2.1 _ (show b91 < n by have := (hRo.l91.2.2.2.2 x1.toInt.toNat (by omega)).2.2.1; rw [eb_b91]; exact this)).1.trans (by rw [eb_b91]; exact (hRo.l91.2.2.2.2 _ (by omega)).2.2.2)
                have hb_b91 : b91 < n105 := Nat.lt_of_lt_of_le (show b91 < n by have := (hRo.l91.2.2.2.2 x1.toInt.toNat (by omega)).2.2.1; rw [eb_b91]; exact this) hB.1
                have hb0_b91 := hb_b91
                have hth : I105 83 0 = Int32.ofInt 0 := (congrFun (hB.n (by omega : 83 < n)) 0).trans ((congrFun (mLsD_row (by omega)) 0).trans upd2_self)
                have hS0 := hS
                have hR0 := hR1
                have hn := Nat.le_refl n105
                have h94 := hS0.1
                have hX := @yX.rf n105 tg105 I105 R105
                have hS := hS0.x hX
                have hR := hR0.x hn hX
                have hz := hX.sz h94
                have hxn := hX.1
                have hN := hR0.1
                have hnb := hR0.2.2.2.2.2.2
                refine y_ret0 ?_
                refine y_goto rfl j_X14_result_160 ?_
                refine y_aload rfl rfl ?_
                refine y_aload rfl rfl ?_
                obtain ⟨hR_v106, hb_v106, ht_v106⟩ := hR0.ven hlo_b91 hb0_b91 ht_b91 (j := 1) (by decide)
                have hb0_v106 := hb_v106
                have hb_v106 := Nat.lt_of_lt_of_le hb_v106 hn
                have hlo_v106 : 94 ≤ b91 + 1 + 1 := by omega
                have hR2_v106 := (congrFun (hX.2.1 b91 hb_b91).2.2 1).trans hR_v106
                refine y_getR rfl ((hX.2.1 _ hb_b91).1.trans ht_b91) (Nat.lt_of_lt_of_le hb_b91 hX.1) rfl rfl hR2_v106 ?_
                refine y_virt rfl rfl rfl rfl rfl ((hX.2.1 _ hb_b91).1.trans ht_b91) (Nat.lt_of_lt_of_le hb_b91 hX.1) ?_
                refine r_allX ((hX.2.1 _ hb_v106).1.trans ht_v106) (Nat.lt_of_lt_of_le hb_v106 hX.1) (fun v_107 hv_107 => ?_)
                subst hv_107
                refine y_ret1 ?_
                refine y_ireturn rfl rfl rfl ?_
                exact hQ0b _ eb_b91 (by first | omega | (simp only [show ySeat x3 = x3 from if_neg (by omega)]; omega) | (simp only [show ySeat x3 = Int32.ofInt 8 from if_pos (by omega), show (Int32.ofInt 8).toInt.toNat = 8 from by decide]; omega)) _ _ _ _ _ _ _ hS ((hR0.grow hX).up (Nat.le_succ K) hk6) (hK.x hRo hno hX) hth _ hle_ (by first | rfl | (exact congrArg (fun f => yFz f 9) ((hB.trans hX).n (by omega)).symm)) (hB.trans hX) (by omega) (by omega)
            · refine y_aload_n rfl rfl ?_
              refine y_aload rfl rfl ?_
              refine y_iload_n rfl rfl ?_
              refine y_virt rfl rfl rfl rfl rfl (ySh.t hS rfl) (ySh.n hS rfl) ?_
              have hRG_ : yRI K n tg (upd2 I 83 0 (Int32.ofInt 0)) R := hRo.mod0 rfl (by decide) (by decide)
              have hBG_ : yX n tg (upd2 I 83 0 (Int32.ofInt 0)) R n tg I85 R := hB.trans hX
              refine hx_profit hS hBG_ hlo_b91 (show b91 < n by have := (hRo.l91.2.2.2.2 x1.toInt.toNat (by omega)).2.2.1; rw [eb_b91]; exact this) (by rw [eb_b91]; exact (hRo.l91.2.2.2.2 _ (by omega)).2.2.2) hRG_ (fun J108 hB => ?_)
              have hR1 := (mPrD_ri hRG_ hlo_b91 (show b91 < n by have := (hRo.l91.2.2.2.2 x1.toInt.toNat (by omega)).2.2.1; rw [eb_b91]; exact this) (by rw [eb_b91]; exact (hRo.l91.2.2.2.2 _ (by omega)).2.2.2)).grow hB
              have hK := (mPr_kp hRo hlo_b91 (show b91 < n by have := (hRo.l91.2.2.2.2 x1.toInt.toNat (by omega)).2.2.1; rw [eb_b91]; exact this) (by rw [eb_b91]; exact (hRo.l91.2.2.2.2 _ (by omega)).2.2.2)).x hRo hno hB
              have hnA := hB.1
              have ht_b91 : tg b91 = (21, 0) := (hB.2.1 _ (show b91 < n by have := (hRo.l91.2.2.2.2 x1.toInt.toNat (by omega)).2.2.1; rw [eb_b91]; exact this)).1.trans (by rw [eb_b91]; exact (hRo.l91.2.2.2.2 _ (by omega)).2.2.2)
              have hb_b91 : b91 < n := Nat.lt_of_lt_of_le (show b91 < n by have := (hRo.l91.2.2.2.2 x1.toInt.toNat (by omega)).2.2.1; rw [eb_b91]; exact this) hB.1
              have hb0_b91 := hb_b91
              have hth : J108 83 0 = Int32.ofInt 0 := (congrFun (hB.n (by omega : 83 < n)) 0).trans ((congrFun (mPrD_row (by decide) (by omega)) 0).trans upd2_self)
              have hS0 := hS
              have hR0 := hR1
              have hn := Nat.le_refl n
              have h94 := hS0.1
              have hX := @yX.rf n tg J108 R
              have hS := hS0.x hX
              have hR := hR0.x hn hX
              have hz := hX.sz h94
              have hxn := hX.1
              have hN := hR0.1
              have hnb := hR0.2.2.2.2.2.2
              refine y_ret0 ?_
              refine y_goto rfl j_X14_result_160 ?_
              refine y_aload rfl rfl ?_
              refine y_aload rfl rfl ?_
              obtain ⟨hR_v109, hb_v109, ht_v109⟩ := hR0.ven hlo_b91 hb0_b91 ht_b91 (j := 1) (by decide)
              have hb0_v109 := hb_v109
              have hb_v109 := Nat.lt_of_lt_of_le hb_v109 hn
              have hlo_v109 : 94 ≤ b91 + 1 + 1 := by omega
              have hR2_v109 := (congrFun (hX.2.1 b91 hb_b91).2.2 1).trans hR_v109
              refine y_getR rfl ((hX.2.1 _ hb_b91).1.trans ht_b91) (Nat.lt_of_lt_of_le hb_b91 hX.1) rfl rfl hR2_v109 ?_
              refine y_virt rfl rfl rfl rfl rfl ((hX.2.1 _ hb_b91).1.trans ht_b91) (Nat.lt_of_lt_of_le hb_b91 hX.1) ?_
              refine r_allX ((hX.2.1 _ hb_v109).1.trans ht_v109) (Nat.lt_of_lt_of_le hb_v109 hX.1) (fun v_110 hv_110 => ?_)
              subst hv_110
              refine y_ret1 ?_
              refine y_ireturn rfl rfl rfl ?_
              exact hQ0a _ eb_b91 (by first | omega | (simp only [show ySeat x3 = x3 from if_neg (by omega)]; omega) | (simp only [show ySeat x3 = Int32.ofInt 8 from if_pos (by omega), show (Int32.ofInt 8).toInt.toNat = 8 from by decide]; omega)) _ _ _ _ _ _ _ hS ((hR0.grow hX).up (Nat.le_succ K) hk6) (hK.x hRo hno hX) hth (by first | rfl | (exact congrArg (fun f => yFz f 9) ((hB.trans hX).n (by omega)).symm)) (hB.trans hX) (by omega) (by omega)
          · rw [yz_m2] at h_90
            refine y_aload_n rfl rfl ?_
            refine y_getR rfl (ySh.t hS rfl) (ySh.n hS rfl) rfl rfl (ySh.r hS rfl) ?_
            refine y_iload_n rfl rfl ?_
            refine y_virt rfl rfl rfl rfl rfl (ySh.t hS rfl) (ySh.n hS rfl) ?_
            refine l_get (nb := n) (ySh.t hS rfl) (ySh.n hS rfl) (Nat.le_trans hn hX.1) hR.l91 (by omega) (by omega) (fun b111 eb_b111 hlo_b111 hb0_b111 ht_b111 => ?_)
            have hb_b111 := Nat.lt_of_lt_of_le hb0_b111 hn
            replace ht_b111 := (hX.2.1 _ hb_b111).1.symm.trans ht_b111
            refine y_ret1 ?_
            refine y_cast rfl ((hX.2.1 _ hb_b111).1.trans ht_b111) (Nat.lt_of_lt_of_le hb_b111 hX.1) ?_
            obtain ⟨hR_v112, hb_v112, ht_v112⟩ := hR0.ven hlo_b111 hb0_b111 ht_b111 (j := 0) (by decide)
            have hb0_v112 := hb_v112
            have hb_v112 := Nat.lt_of_lt_of_le hb_v112 hn
            have hlo_v112 : 94 ≤ b111 + 1 + 0 := by omega
            have hR2_v112 := (congrFun (hX.2.1 b111 hb_b111).2.2 0).trans hR_v112
            refine y_getR rfl ((hX.2.1 _ hb_b111).1.trans ht_b111) (Nat.lt_of_lt_of_le hb_b111 hX.1) rfl rfl hR2_v112 ?_
            refine y_iload_n rfl rfl ?_
            refine y_static rfl rfl rfl rfl rfl ?_
            refine y_in (M := xm_X14_seat) (ls := [some _]) rfl rfl rfl ?_
            refine y_iload_n rfl rfl ?_
            refine y_iconst rfl ?_
            refine y_icmp_ne rfl j_X14_seat_10 (fun h_113 => ?_) (fun h_114 => ?_)
            · rw [yz_m1] at h_113
              refine y_iload_n rfl rfl ?_
              refine y_ireturn rfl rfl rfl ?_
              refine y_ret1 ?_
              refine y_baloadv (J := I (b111 + 1 + 0)) rfl ((hX.2.1 _ hb_v112).1.trans ht_v112) rfl (Nat.lt_of_lt_of_le hb_v112 hX.1) (by omega) (by omega) (((hB.trans hX).n (by omega)).trans (by repeat (first | rfl | (rw [upd2_row (by first | decide | omega)]) | refine upd2_cg ?_))) ?_
              refine y_if_ne rfl j_X14_result_94 (fun h_115 => ?_) (fun h_116 => ?_)
              · refine y_iconst rfl ?_
                refine y_iconst rfl ?_
                refine y_virt rfl rfl rfl rfl rfl (ySh.t hS rfl) (ySh.n hS rfl) ?_
                refine y_in (M := xm_X14_refuse) (ls := [some _, some _, some _]) rfl rfl rfl ?_
                refine y_iload_n rfl rfl ?_
                refine y_if_eqT rfl j_X14_refuse_16 (by decide) ?_
                refine y_aload_n rfl rfl ?_
                refine y_getIv (v := Int32.ofInt (0)) rfl (ySh.t hS rfl) (ySh.n hS rfl) rfl rfl hth ?_
                refine y_if_leT rfl j_X14_refuse_27 (by decide) ?_
                refine y_iconst rfl ?_
                refine y_ireturn rfl rfl rfl ?_
                refine y_ret1 ?_
                refine y_if_eqT rfl j_X14_result_104 (by decide) ?_
                refine y_aload_n rfl rfl ?_
                refine y_getR rfl (ySh.t hS rfl) (ySh.n hS rfl) rfl rfl (ySh.r hS rfl) ?_
                refine y_iload_n rfl rfl ?_
                refine y_virt rfl rfl rfl rfl rfl (ySh.t hS rfl) (ySh.n hS rfl) ?_
                refine l_get (nb := n) (ySh.t hS rfl) (ySh.n hS rfl) (Nat.le_trans hn hX.1) hR.l91 (by omega) (by omega) (fun c117 eb_c117 _ _ _ => ?_)
                rw [show c117 = b111 from eb_c117.trans eb_b111.symm]
                refine y_ret1 ?_
                refine y_cast rfl ((hX.2.1 _ hb_b111).1.trans ht_b111) (Nat.lt_of_lt_of_le hb_b111 hX.1) ?_
                refine y_astore (ls' := [some _, some _, some _, some _, some _]) rfl rfl rfl ?_
                refine y_iload_n rfl rfl ?_
                refine y_if_lt rfl j_X14_result_131 (fun h_118 => ?_) (fun h_119 => ?_)
                · refine y_iload_n rfl rfl ?_
                  refine y_bip rfl (by decide) ?_
                  refine y_icmp_ne rfl j_X14_result_147 (fun h_120 => ?_) (fun h_121 => ?_)
                  · rw [yz_m2] at h_120
                    refine y_aload_n rfl rfl ?_
                    refine y_getR rfl (ySh.t hS rfl) (ySh.n hS rfl) rfl rfl (ySh.r hS rfl) ?_
                    refine y_iload_n rfl rfl ?_
                    refine y_static rfl rfl rfl rfl rfl ?_
                    refine y_in (M := xm_X14_seat) (ls := [some _]) rfl rfl rfl ?_
                    refine y_iload_n rfl rfl ?_
                    refine y_iconst rfl ?_
                    refine y_icmp_ne rfl j_X14_seat_10 (fun h_122 => ?_) (fun h_123 => ?_)
                    · rw [yz_m1] at h_122
                      refine y_iload_n rfl rfl ?_
                      refine y_ireturn rfl rfl rfl ?_
                      refine y_ret1 ?_
                      refine y_dup2 rfl rfl rfl ?_
                      refine y_ialoadv (J := I 84) rfl (ySh.t hS rfl) (ySh.n hS rfl) (by omega) (by omega) (((hB.trans hX).n (by omega)).trans (by repeat (first | rfl | (rw [upd2_row (by first | decide | omega)]) | refine upd2_cg ?_))) ?_
                      refine y_iload_n rfl rfl ?_
                      refine y_iadd rfl ?_
                      refine y_iastore rfl (ySh.t hS rfl) (ySh.n hS rfl) (Nat.le_of_ble_eq_true rfl) (by omega) (by omega) ?_
                      refine y_nameI (fun I124 e124 => ?_)
                      have hR1 := (hR0.grow hX).arr e124 (by decide)
                      have hK := (hK.x hRo hno hX).upI (upI e124) (by decide) (by decide) (fun i hi => by have := (hRo.l87.2.2.2.2 i hi).2.1; omega) (by rw [e124, upd2_ne (.inl (by omega))]; exact Int.le_refl _)
                      have hth := (show I124 83 0 = I85 83 0 by rw [e124, upd2_ne (.inl (by omega))]).trans hth
                      have hzz : ySz I85 I124 := ySz_ofE (upI e124) (by omega)
                      have hB := (hB.trans hX).wr e124 rfl
                      have h3k : ∀ k, k ≠ 0 → I124 83 k = I 83 k := fun k hk => (congrFun (congrFun e124 83) k).trans ((upd2_ne (.inl (by omega))).trans ((congrFun (hX.2.1 83 (by omega)).2.1 k).trans (h3k k hk)))
                      have hg := (hg.gx hX (by omega)).skip e124 (by decide)
                      have hday : I124 83 1 = I 83 1 := (congrFun (congrFun e124 83) 1).trans ((upd2_ne (.inl (by omega))).trans ((congrFun (hX.2.1 83 (by omega)).2.1 1).trans hday))
                      have hRb : ∀ a, a < n → R a = R a := fun a ha => (hX.2.1 a (by omega)).2.2.trans (hRb a ha)
                      have hS0 := hS
                      have hR0 := hR1
                      have ht_b111 := (hX.2.1 _ hb_b111).1.trans ht_b111
                      have hb_b111 := Nat.lt_of_lt_of_le hb_b111 hX.1
                      have hb0_b111 := hb_b111
                      have ht_v112 := (hX.2.1 _ hb_v112).1.trans ht_v112
                      have hb_v112 := Nat.lt_of_lt_of_le hb_v112 hX.1
                      have hb0_v112 := hb_v112
                      have hn := Nat.le_refl n
                      have h94 := hS0.1
                      have hX := @yX.rf n tg I124 R
                      have hS := hS0.x hX
                      have hR := hR0.x hn hX
                      have hz := hX.sz h94
                      have hxn := hX.1
                      have hN := hR0.1
                      have hnb := hR0.2.2.2.2.2.2
                      have hthB := hth
                      refine y_aload rfl rfl ?_
                      refine y_aload rfl rfl ?_
                      obtain ⟨hR_v125, hb_v125, ht_v125⟩ := hR0.ven hlo_b111 hb0_b111 ht_b111 (j := 1) (by decide)
                      have hb0_v125 := hb_v125
                      have hb_v125 := Nat.lt_of_lt_of_le hb_v125 hn
                      have hlo_v125 : 94 ≤ b111 + 1 + 1 := by omega
                      have hR2_v125 := (congrFun (hX.2.1 b111 hb_b111).2.2 1).trans hR_v125
                      refine y_getR rfl ((hX.2.1 _ hb_b111).1.trans ht_b111) (Nat.lt_of_lt_of_le hb_b111 hX.1) rfl rfl hR2_v125 ?_
                      refine y_virt rfl rfl rfl rfl rfl ((hX.2.1 _ hb_b111).1.trans ht_b111) (Nat.lt_of_lt_of_le hb_b111 hX.1) ?_
                      refine r_allX ((hX.2.1 _ hb_v125).1.trans ht_v125) (Nat.lt_of_lt_of_le hb_v125 hX.1) (fun v_126 hv_126 => ?_)
                      rw [show I124 (b111 + 1 + 1) = I (b111 + 1 + 1) from (((hB.trans hX).n (by omega)).trans (by repeat (first | rfl | (rw [upd2_row (by first | decide | omega)]) | refine upd2_cg ?_)))] at hv_126
                      subst hv_126
                      refine y_ret1 ?_
                      refine y_ireturn rfl rfl rfl ?_
                      exact hQ0c _ eb_b111 (by first | omega | (simp only [show ySeat x3 = x3 from if_neg (by omega)]; omega) | (simp only [show ySeat x3 = Int32.ofInt 8 from if_pos (by omega), show (Int32.ofInt 8).toInt.toNat = 8 from by decide]; omega)) _ _ _ _ _ _ _ hS ((hR0.grow hX).up (Nat.le_succ K) hk6) (hK.x hRo hno hX) hth (congrArg (fun f => yFz f 9) (((hB.trans hX).n (by omega)).trans (by repeat (first | rfl | (rw [upd2_row (by first | decide | omega)]) | refine upd2_cg ?_))).symm) (by first | (exact hB.trans hX) | (simp only [show ySeat x3 = x3 from if_neg (by omega)]; exact hB.trans hX) | (simp only [show ySeat x3 = Int32.ofInt 8 from if_pos (by omega), show (Int32.ofInt 8).toInt.toNat = 8 from by decide]; exact hB.trans hX)) (by omega) (by omega)
                    · rw [yz_m1] at h_123
                      refine y_bip rfl (by decide) ?_
                      refine y_goto rfl j_X14_seat_11 ?_
                      refine y_ireturn rfl rfl rfl ?_
                      refine y_ret1 ?_
                      refine y_dup2 rfl rfl rfl ?_
                      refine y_ialoadw (j := 8) (J := I 84) rfl (ySh.t hS rfl) (ySh.n hS rfl) (by decide) (by decide) rfl (((hB.trans hX).n (by omega)).trans (by repeat (first | rfl | (rw [upd2_row (by first | decide | omega)]) | refine upd2_cg ?_))) ?_
                      refine y_iload_n rfl rfl ?_
                      refine y_iadd rfl ?_
                      refine y_iastoreC (j := 8) rfl (ySh.t hS rfl) (ySh.n hS rfl) (Nat.le_of_ble_eq_true rfl) (by decide) (by decide) rfl ?_
                      refine y_nameI (fun I127 e127 => ?_)
                      have hR1 := (hR0.grow hX).arr e127 (by decide)
                      have hK := (hK.x hRo hno hX).upI (upI e127) (by decide) (by decide) (fun i hi => by have := (hRo.l87.2.2.2.2 i hi).2.1; omega) (by rw [e127, upd2_ne (.inl (by omega))]; exact Int.le_refl _)
                      have hth := (show I127 83 0 = I85 83 0 by rw [e127, upd2_ne (.inl (by omega))]).trans hth
                      have hzz : ySz I85 I127 := ySz_ofE (upI e127) (by omega)
                      have hB := (hB.trans hX).wr e127 rfl
                      have h3k : ∀ k, k ≠ 0 → I127 83 k = I 83 k := fun k hk => (congrFun (congrFun e127 83) k).trans ((upd2_ne (.inl (by omega))).trans ((congrFun (hX.2.1 83 (by omega)).2.1 k).trans (h3k k hk)))
                      have hg := (hg.gx hX (by omega)).skip e127 (by decide)
                      have hday : I127 83 1 = I 83 1 := (congrFun (congrFun e127 83) 1).trans ((upd2_ne (.inl (by omega))).trans ((congrFun (hX.2.1 83 (by omega)).2.1 1).trans hday))
                      have hRb : ∀ a, a < n → R a = R a := fun a ha => (hX.2.1 a (by omega)).2.2.trans (hRb a ha)
                      have hS0 := hS
                      have hR0 := hR1
                      have ht_b111 := (hX.2.1 _ hb_b111).1.trans ht_b111
                      have hb_b111 := Nat.lt_of_lt_of_le hb_b111 hX.1
                      have hb0_b111 := hb_b111
                      have ht_v112 := (hX.2.1 _ hb_v112).1.trans ht_v112
                      have hb_v112 := Nat.lt_of_lt_of_le hb_v112 hX.1
                      have hb0_v112 := hb_v112
                      have hn := Nat.le_refl n
                      have h94 := hS0.1
                      have hX := @yX.rf n tg I127 R
                      have hS := hS0.x hX
                      have hR := hR0.x hn hX
                      have hz := hX.sz h94
                      have hxn := hX.1
                      have hN := hR0.1
                      have hnb := hR0.2.2.2.2.2.2
                      have hthB := hth
                      refine y_aload rfl rfl ?_
                      refine y_aload rfl rfl ?_
                      obtain ⟨hR_v128, hb_v128, ht_v128⟩ := hR0.ven hlo_b111 hb0_b111 ht_b111 (j := 1) (by decide)
                      have hb0_v128 := hb_v128
                      have hb_v128 := Nat.lt_of_lt_of_le hb_v128 hn
                      have hlo_v128 : 94 ≤ b111 + 1 + 1 := by omega
                      have hR2_v128 := (congrFun (hX.2.1 b111 hb_b111).2.2 1).trans hR_v128
                      refine y_getR rfl ((hX.2.1 _ hb_b111).1.trans ht_b111) (Nat.lt_of_lt_of_le hb_b111 hX.1) rfl rfl hR2_v128 ?_
                      refine y_virt rfl rfl rfl rfl rfl ((hX.2.1 _ hb_b111).1.trans ht_b111) (Nat.lt_of_lt_of_le hb_b111 hX.1) ?_
                      refine r_allX ((hX.2.1 _ hb_v128).1.trans ht_v128) (Nat.lt_of_lt_of_le hb_v128 hX.1) (fun v_129 hv_129 => ?_)
                      rw [show I127 (b111 + 1 + 1) = I (b111 + 1 + 1) from (((hB.trans hX).n (by omega)).trans (by repeat (first | rfl | (rw [upd2_row (by first | decide | omega)]) | refine upd2_cg ?_)))] at hv_129
                      subst hv_129
                      refine y_ret1 ?_
                      refine y_ireturn rfl rfl rfl ?_
                      exact hQ0c _ eb_b111 (by first | omega | (simp only [show ySeat x3 = x3 from if_neg (by omega)]; omega) | (simp only [show ySeat x3 = Int32.ofInt 8 from if_pos (by omega), show (Int32.ofInt 8).toInt.toNat = 8 from by decide]; omega)) _ _ _ _ _ _ _ hS ((hR0.grow hX).up (Nat.le_succ K) hk6) (hK.x hRo hno hX) hth (congrArg (fun f => yFz f 9) (((hB.trans hX).n (by omega)).trans (by repeat (first | rfl | (rw [upd2_row (by first | decide | omega)]) | refine upd2_cg ?_))).symm) (by first | (exact hB.trans hX) | (simp only [show ySeat x3 = x3 from if_neg (by omega)]; exact hB.trans hX) | (simp only [show ySeat x3 = Int32.ofInt 8 from if_pos (by omega), show (Int32.ofInt 8).toInt.toNat = 8 from by decide]; exact hB.trans hX)) (by omega) (by omega)
                  · rw [yz_m2] at h_121
                    refine y_aload rfl rfl ?_
                    refine y_iload_n rfl rfl ?_
                    refine y_ineg rfl ?_
                    refine y_virt rfl rfl rfl rfl rfl ((hX.2.1 _ hb_b111).1.trans ht_b111) (Nat.lt_of_lt_of_le hb_b111 hX.1) ?_
                    have hRG_ : yRI K n tg (upd2 I 83 0 (Int32.ofInt 0)) R := hRo.mod0 rfl (by decide) (by decide)
                    have hBG_ : yX n tg (upd2 I 83 0 (Int32.ofInt 0)) R n tg I85 R := hB.trans hX
                    refine hx_lose hS hBG_ hlo_b111 (show b111 < n by have := (hRo.l91.2.2.2.2 x1.toInt.toNat (by omega)).2.2.1; rw [eb_b111]; exact this) (by rw [eb_b111]; exact (hRo.l91.2.2.2.2 _ (by omega)).2.2.2) hRG_ (yneg2 (by omega) (by omega)).1 (yneg2 (by omega) (by omega)).2 (fun le_ n131 tg131 I131 R131 hle_ hlb_ hS hB => ?_)
                    have hR1 := (mLsD_ri hRG_ hlo_b111 (show b111 < n by have := (hRo.l91.2.2.2.2 x1.toInt.toNat (by omega)).2.2.1; rw [eb_b111]; exact this) (by rw [eb_b111]; exact (hRo.l91.2.2.2.2 _ (by omega)).2.2.2) hlb_).grow hB
                    have hK := (mLs_kp hRo hlo_b111 (show b111 < n by have := (hRo.l91.2.2.2.2 x1.toInt.toNat (by omega)).2.2.1; rw [eb_b111]; exact this) (by rw [eb_b111]; exact (hRo.l91.2.2.2.2 _ (by omega)).2.2.2)).x hRo hno hB
                    have hnA := hB.1
                    have htZ_b111 := (hX.2.1 _ hb_b111).1.trans ht_b111
                    have htZ_v112 := (hX.2.1 _ hb_v112).1.trans ht_v112
                    have ht_b111 : tg131 b111 = (21, 0) := (hB.2.1 _ (show b111 < n by have := (hRo.l91.2.2.2.2 x1.toInt.toNat (by omega)).2.2.1; rw [eb_b111]; exact this)).1.trans (by rw [eb_b111]; exact (hRo.l91.2.2.2.2 _ (by omega)).2.2.2)
                    have hb_b111 : b111 < n131 := Nat.lt_of_lt_of_le (show b111 < n by have := (hRo.l91.2.2.2.2 x1.toInt.toNat (by omega)).2.2.1; rw [eb_b111]; exact this) hB.1
                    have hb0_b111 := hb_b111
                    have hth : I131 83 0 = Int32.ofInt 0 := (congrFun (hB.n (by omega : 83 < n)) 0).trans ((congrFun (mLsD_row (by omega)) 0).trans upd2_self)
                    have hS0 := hS
                    have hR0 := hR1
                    have hn := Nat.le_refl n131
                    have h94 := hS0.1
                    have hX := @yX.rf n131 tg131 I131 R131
                    have hS := hS0.x hX
                    have hR := hR0.x hn hX
                    have hz := hX.sz h94
                    have hxn := hX.1
                    have hN := hR0.1
                    have hnb := hR0.2.2.2.2.2.2
                    refine y_ret0 ?_
                    refine y_goto rfl j_X14_result_160 ?_
                    refine y_aload rfl rfl ?_
                    refine y_aload rfl rfl ?_
                    obtain ⟨hR_v132, hb_v132, ht_v132⟩ := hR0.ven hlo_b111 hb0_b111 ht_b111 (j := 1) (by decide)
                    have hb0_v132 := hb_v132
                    have hb_v132 := Nat.lt_of_lt_of_le hb_v132 hn
                    have hlo_v132 : 94 ≤ b111 + 1 + 1 := by omega
                    have hR2_v132 := (congrFun (hX.2.1 b111 hb_b111).2.2 1).trans hR_v132
                    refine y_getR rfl ((hX.2.1 _ hb_b111).1.trans ht_b111) (Nat.lt_of_lt_of_le hb_b111 hX.1) rfl rfl hR2_v132 ?_
                    refine y_virt rfl rfl rfl rfl rfl ((hX.2.1 _ hb_b111).1.trans ht_b111) (Nat.lt_of_lt_of_le hb_b111 hX.1) ?_
                    refine r_allX ((hX.2.1 _ hb_v132).1.trans ht_v132) (Nat.lt_of_lt_of_le hb_v132 hX.1) (fun v_133 hv_133 => ?_)
                    subst hv_133
                    refine y_ret1 ?_
                    refine y_ireturn rfl rfl rfl ?_
                    exact hQ0b _ eb_b111 (by first | omega | (simp only [show ySeat x3 = x3 from if_neg (by omega)]; omega) | (simp only [show ySeat x3 = Int32.ofInt 8 from if_pos (by omega), show (Int32.ofInt 8).toInt.toNat = 8 from by decide]; omega)) _ _ _ _ _ _ _ hS ((hR0.grow hX).up (Nat.le_succ K) hk6) (hK.x hRo hno hX) hth _ hle_ (by first | rfl | (exact congrArg (fun f => yFz f 9) ((hB.trans hX).n (by omega)).symm)) (hB.trans hX) (by omega) (by omega)
                · refine y_aload_n rfl rfl ?_
                  refine y_aload rfl rfl ?_
                  refine y_iload_n rfl rfl ?_
                  refine y_virt rfl rfl rfl rfl rfl (ySh.t hS rfl) (ySh.n hS rfl) ?_
                  have hRG_ : yRI K n tg (upd2 I 83 0 (Int32.ofInt 0)) R := hRo.mod0 rfl (by decide) (by decide)
                  have hBG_ : yX n tg (upd2 I 83 0 (Int32.ofInt 0)) R n tg I85 R := hB.trans hX
                  refine hx_profit hS hBG_ hlo_b111 (show b111 < n by have := (hRo.l91.2.2.2.2 x1.toInt.toNat (by omega)).2.2.1; rw [eb_b111]; exact this) (by rw [eb_b111]; exact (hRo.l91.2.2.2.2 _ (by omega)).2.2.2) hRG_ (fun J134 hB => ?_)
                  have hR1 := (mPrD_ri hRG_ hlo_b111 (show b111 < n by have := (hRo.l91.2.2.2.2 x1.toInt.toNat (by omega)).2.2.1; rw [eb_b111]; exact this) (by rw [eb_b111]; exact (hRo.l91.2.2.2.2 _ (by omega)).2.2.2)).grow hB
                  have hK := (mPr_kp hRo hlo_b111 (show b111 < n by have := (hRo.l91.2.2.2.2 x1.toInt.toNat (by omega)).2.2.1; rw [eb_b111]; exact this) (by rw [eb_b111]; exact (hRo.l91.2.2.2.2 _ (by omega)).2.2.2)).x hRo hno hB
                  have hnA := hB.1
                  have ht_b111 : tg b111 = (21, 0) := (hB.2.1 _ (show b111 < n by have := (hRo.l91.2.2.2.2 x1.toInt.toNat (by omega)).2.2.1; rw [eb_b111]; exact this)).1.trans (by rw [eb_b111]; exact (hRo.l91.2.2.2.2 _ (by omega)).2.2.2)
                  have hb_b111 : b111 < n := Nat.lt_of_lt_of_le (show b111 < n by have := (hRo.l91.2.2.2.2 x1.toInt.toNat (by omega)).2.2.1; rw [eb_b111]; exact this) hB.1
                  have hb0_b111 := hb_b111
                  have hth : J134 83 0 = Int32.ofInt 0 := (congrFun (hB.n (by omega : 83 < n)) 0).trans ((congrFun (mPrD_row (by decide) (by omega)) 0).trans upd2_self)
                  have hS0 := hS
                  have hR0 := hR1
                  have hn := Nat.le_refl n
                  have h94 := hS0.1
                  have hX := @yX.rf n tg J134 R
                  have hS := hS0.x hX
                  have hR := hR0.x hn hX
                  have hz := hX.sz h94
                  have hxn := hX.1
                  have hN := hR0.1
                  have hnb := hR0.2.2.2.2.2.2
                  refine y_ret0 ?_
                  refine y_goto rfl j_X14_result_160 ?_
                  refine y_aload rfl rfl ?_
                  refine y_aload rfl rfl ?_
                  obtain ⟨hR_v135, hb_v135, ht_v135⟩ := hR0.ven hlo_b111 hb0_b111 ht_b111 (j := 1) (by decide)
                  have hb0_v135 := hb_v135
                  have hb_v135 := Nat.lt_of_lt_of_le hb_v135 hn
                  have hlo_v135 : 94 ≤ b111 + 1 + 1 := by omega
                  have hR2_v135 := (congrFun (hX.2.1 b111 hb_b111).2.2 1).trans hR_v135
                  refine y_getR rfl ((hX.2.1 _ hb_b111).1.trans ht_b111) (Nat.lt_of_lt_of_le hb_b111 hX.1) rfl rfl hR2_v135 ?_
                  refine y_virt rfl rfl rfl rfl rfl ((hX.2.1 _ hb_b111).1.trans ht_b111) (Nat.lt_of_lt_of_le hb_b111 hX.1) ?_
                  refine r_allX ((hX.2.1 _ hb_v135).1.trans ht_v135) (Nat.lt_of_lt_of_le hb_v135 hX.1) (fun v_136 hv_136 => ?_)
                  subst hv_136
                  refine y_ret1 ?_
                  refine y_ireturn rfl rfl rfl ?_
                  exact hQ0a _ eb_b111 (by first | omega | (simp only [show ySeat x3 = x3 from if_neg (by omega)]; omega) | (simp only [show ySeat x3 = Int32.ofInt 8 from if_pos (by omega), show (Int32.ofInt 8).toInt.toNat = 8 from by decide]; omega)) _ _ _ _ _ _ _ hS ((hR0.grow hX).up (Nat.le_succ K) hk6) (hK.x hRo hno hX) hth (by first | rfl | (exact congrArg (fun f => yFz f 9) ((hB.trans hX).n (by omega)).symm)) (hB.trans hX) (by omega) (by omega)
              · refine y_iconst rfl ?_
                refine y_goto rfl j_X14_result_95 ?_
                refine y_iconst rfl ?_
                refine y_virt rfl rfl rfl rfl rfl (ySh.t hS rfl) (ySh.n hS rfl) ?_
                refine y_in (M := xm_X14_refuse) (ls := [some _, some _, some _]) rfl rfl rfl ?_
                refine y_iload_n rfl rfl ?_
                refine y_if_eqF rfl (by decide) ?_
                refine y_aload_n rfl rfl ?_
                refine y_getIv (v := Int32.ofInt (0)) rfl (ySh.t hS rfl) (ySh.n hS rfl) rfl rfl hth ?_
                refine y_if_neF rfl (by decide) ?_
                refine y_aload_n rfl rfl ?_
                refine y_iload_n rfl rfl ?_
                refine y_putI rfl (ySh.t hS rfl) (ySh.n hS rfl) rfl (Nat.le_of_ble_eq_true rfl) rfl rfl ?_
                refine y_nameI (fun I137 e137 => ?_)
                have hR1 := (hR0.grow hX).mod0 e137 (by decide) (by decide)
                have hK := (hK.x hRo hno hX).upI (upI e137) (by decide) (by decide) (fun i hi => by have := (hRo.l87.2.2.2.2 i hi).2.1; omega) (by rw [e137, upd2_ne (.inr (by decide))]; exact Int.le_refl _)
                have hth : I137 83 0 = Int32.ofInt (3) := by rw [e137, upd2_self]
                have hzz : ySz8 I85 I137 := ySz8_of (upI e137) (by rw [e137]; exact ⟨upd2_ne (.inr (by decide)), upd2_ne (.inr (by decide))⟩)
                have hB := (hB.trans hX).wr e137 rfl
                have h8 : ∀ a, 84 ≤ a → a ≤ 86 → I137 a = I a := fun a h1 h2 => (upI e137 a (by omega)).trans ((hX.2.1 a (by omega)).2.1.trans (h8 a h1 h2))
                have h3k : ∀ k, k ≠ 0 → I137 83 k = I 83 k := fun k hk => (congrFun (congrFun e137 83) k).trans ((upd2_ne (.inr hk)).trans ((congrFun (hX.2.1 83 (by omega)).2.1 k).trans (h3k k hk)))
                have hg := (hg.gx hX (by omega)).skip e137 (by decide)
                have hday : I137 83 1 = I 83 1 := (congrFun (congrFun e137 83) 1).trans ((upd2_ne (.inr (by decide))).trans ((congrFun (hX.2.1 83 (by omega)).2.1 1).trans hday))
                have hRb : ∀ a, a < n → R a = R a := fun a ha => (hX.2.1 a (by omega)).2.2.trans (hRb a ha)
                have hb83 : ∀ a, a ≠ 83 → a < n → I137 a = I a := fun a ha hb => (upI e137 a ha).trans ((hX.2.1 a (by omega)).2.1.trans (hb83 a ha hb))
                have hS0 := hS
                have hR0 := hR1
                have ht_b111 := (hX.2.1 _ hb_b111).1.trans ht_b111
                have hb_b111 := Nat.lt_of_lt_of_le hb_b111 hX.1
                have hb0_b111 := hb_b111
                have ht_v112 := (hX.2.1 _ hb_v112).1.trans ht_v112
                have hb_v112 := Nat.lt_of_lt_of_le hb_v112 hX.1
                have hb0_v112 := hb_v112
                have hn := Nat.le_refl n
                have h94 := hS0.1
                have hX := @yX.rf n tg I137 R
                have hS := hS0.x hX
                have hR := hR0.x hn hX
                have hz := hX.sz h94
                have hxn := hX.1
                have hN := hR0.1
                have hnb := hR0.2.2.2.2.2.2
                have hthB := hth
                refine y_aload_n rfl rfl ?_
                refine y_getIv (v := Int32.ofInt (3)) rfl (ySh.t hS rfl) (ySh.n hS rfl) rfl rfl hth ?_
                refine y_if_leF rfl (by decide) ?_
                refine y_iconst rfl ?_
                refine y_goto rfl j_X14_refuse_28 ?_
                refine y_ireturn rfl rfl rfl ?_
                refine y_ret1 ?_
                refine y_if_eqF rfl (by decide) ?_
                refine y_iconst rfl ?_
                refine y_ireturn rfl rfl rfl ?_
                exact hQ3 _ eb_b111 (by first | omega | (simp only [show ySeat x3 = x3 from if_neg (by omega)]; omega) | (simp only [show ySeat x3 = Int32.ofInt 8 from if_pos (by omega), show (Int32.ofInt 8).toInt.toNat = 8 from by decide]; omega)) _ _ _ _ _ _ _ hS ((hR0.grow hX).up (Nat.le_succ K) hk6) (hK.x hRo hno hX) hth ((hB.trans hX).rf2 (by omega)) (by omega) (by omega)
            · rw [yz_m1] at h_114
              refine y_bip rfl (by decide) ?_
              refine y_goto rfl j_X14_seat_11 ?_
              refine y_ireturn rfl rfl rfl ?_
              refine y_ret1 ?_
              refine y_baloadw (j := 8) (J := I (b111 + 1 + 0)) rfl ((hX.2.1 _ hb_v112).1.trans ht_v112) rfl (Nat.lt_of_lt_of_le hb_v112 hX.1) (by decide) (by decide) rfl (((hB.trans hX).n (by omega)).trans (by repeat (first | rfl | (rw [upd2_row (by first | decide | omega)]) | refine upd2_cg ?_))) ?_
              refine y_if_ne rfl j_X14_result_94 (fun h_138 => ?_) (fun h_139 => ?_)
              · refine y_iconst rfl ?_
                refine y_iconst rfl ?_
                refine y_virt rfl rfl rfl rfl rfl (ySh.t hS rfl) (ySh.n hS rfl) ?_
                refine y_in (M := xm_X14_refuse) (ls := [some _, some _, some _]) rfl rfl rfl ?_
                refine y_iload_n rfl rfl ?_
                refine y_if_eqT rfl j_X14_refuse_16 (by decide) ?_
                refine y_aload_n rfl rfl ?_
                refine y_getIv (v := Int32.ofInt (0)) rfl (ySh.t hS rfl) (ySh.n hS rfl) rfl rfl hth ?_
                refine y_if_leT rfl j_X14_refuse_27 (by decide) ?_
                refine y_iconst rfl ?_
                refine y_ireturn rfl rfl rfl ?_
                refine y_ret1 ?_
                refine y_if_eqT rfl j_X14_result_104 (by decide) ?_
                refine y_aload_n rfl rfl ?_
                refine y_getR rfl (ySh.t hS rfl) (ySh.n hS rfl) rfl rfl (ySh.r hS rfl) ?_
                refine y_iload_n rfl rfl ?_
                refine y_virt rfl rfl rfl rfl rfl (ySh.t hS rfl) (ySh.n hS rfl) ?_
                refine l_get (nb := n) (ySh.t hS rfl) (ySh.n hS rfl) (Nat.le_trans hn hX.1) hR.l91 (by omega) (by omega) (fun c140 eb_c140 _ _ _ => ?_)
                rw [show c140 = b111 from eb_c140.trans eb_b111.symm]
                refine y_ret1 ?_
                refine y_cast rfl ((hX.2.1 _ hb_b111).1.trans ht_b111) (Nat.lt_of_lt_of_le hb_b111 hX.1) ?_
                refine y_astore (ls' := [some _, some _, some _, some _, some _]) rfl rfl rfl ?_
                refine y_iload_n rfl rfl ?_
                refine y_if_lt rfl j_X14_result_131 (fun h_141 => ?_) (fun h_142 => ?_)
                · refine y_iload_n rfl rfl ?_
                  refine y_bip rfl (by decide) ?_
                  refine y_icmp_ne rfl j_X14_result_147 (fun h_143 => ?_) (fun h_144 => ?_)
                  · rw [yz_m2] at h_143
                    refine y_aload_n rfl rfl ?_
                    refine y_getR rfl (ySh.t hS rfl) (ySh.n hS rfl) rfl rfl (ySh.r hS rfl) ?_
                    refine y_iload_n rfl rfl ?_
                    refine y_static rfl rfl rfl rfl rfl ?_
                    refine y_in (M := xm_X14_seat) (ls := [some _]) rfl rfl rfl ?_
                    refine y_iload_n rfl rfl ?_
                    refine y_iconst rfl ?_
                    refine y_icmp_ne rfl j_X14_seat_10 (fun h_145 => ?_) (fun h_146 => ?_)
                    · rw [yz_m1] at h_145
                      refine y_iload_n rfl rfl ?_
                      refine y_ireturn rfl rfl rfl ?_
                      refine y_ret1 ?_
                      refine y_dup2 rfl rfl rfl ?_
                      refine y_ialoadv (J := I 84) rfl (ySh.t hS rfl) (ySh.n hS rfl) (by omega) (by omega) (((hB.trans hX).n (by omega)).trans (by repeat (first | rfl | (rw [upd2_row (by first | decide | omega)]) | refine upd2_cg ?_))) ?_
                      refine y_iload_n rfl rfl ?_
                      refine y_iadd rfl ?_
                      refine y_iastore rfl (ySh.t hS rfl) (ySh.n hS rfl) (Nat.le_of_ble_eq_true rfl) (by omega) (by omega) ?_
                      refine y_nameI (fun I147 e147 => ?_)
                      have hR1 := (hR0.grow hX).arr e147 (by decide)
                      have hK := (hK.x hRo hno hX).upI (upI e147) (by decide) (by decide) (fun i hi => by have := (hRo.l87.2.2.2.2 i hi).2.1; omega) (by rw [e147, upd2_ne (.inl (by omega))]; exact Int.le_refl _)
                      have hth := (show I147 83 0 = I85 83 0 by rw [e147, upd2_ne (.inl (by omega))]).trans hth
                      have hzz : ySz I85 I147 := ySz_ofE (upI e147) (by omega)
                      have hB := (hB.trans hX).wr e147 rfl
                      have h3k : ∀ k, k ≠ 0 → I147 83 k = I 83 k := fun k hk => (congrFun (congrFun e147 83) k).trans ((upd2_ne (.inl (by omega))).trans ((congrFun (hX.2.1 83 (by omega)).2.1 k).trans (h3k k hk)))
                      have hg := (hg.gx hX (by omega)).skip e147 (by decide)
                      have hday : I147 83 1 = I 83 1 := (congrFun (congrFun e147 83) 1).trans ((upd2_ne (.inl (by omega))).trans ((congrFun (hX.2.1 83 (by omega)).2.1 1).trans hday))
                      have hRb : ∀ a, a < n → R a = R a := fun a ha => (hX.2.1 a (by omega)).2.2.trans (hRb a ha)
                      have hS0 := hS
                      have hR0 := hR1
                      have ht_b111 := (hX.2.1 _ hb_b111).1.trans ht_b111
                      have hb_b111 := Nat.lt_of_lt_of_le hb_b111 hX.1
                      have hb0_b111 := hb_b111
                      have ht_v112 := (hX.2.1 _ hb_v112).1.trans ht_v112
                      have hb_v112 := Nat.lt_of_lt_of_le hb_v112 hX.1
                      have hb0_v112 := hb_v112
                      have hn := Nat.le_refl n
                      have h94 := hS0.1
                      have hX := @yX.rf n tg I147 R
                      have hS := hS0.x hX
                      have hR := hR0.x hn hX
                      have hz := hX.sz h94
                      have hxn := hX.1
                      have hN := hR0.1
                      have hnb := hR0.2.2.2.2.2.2
                      have hthB := hth
                      refine y_aload rfl rfl ?_
                      refine y_aload rfl rfl ?_
                      obtain ⟨hR_v148, hb_v148, ht_v148⟩ := hR0.ven hlo_b111 hb0_b111 ht_b111 (j := 1) (by decide)
                      have hb0_v148 := hb_v148
                      have hb_v148 := Nat.lt_of_lt_of_le hb_v148 hn
                      have hlo_v148 : 94 ≤ b111 + 1 + 1 := by omega
                      have hR2_v148 := (congrFun (hX.2.1 b111 hb_b111).2.2 1).trans hR_v148
                      refine y_getR rfl ((hX.2.1 _ hb_b111).1.trans ht_b111) (Nat.lt_of_lt_of_le hb_b111 hX.1) rfl rfl hR2_v148 ?_
                      refine y_virt rfl rfl rfl rfl rfl ((hX.2.1 _ hb_b111).1.trans ht_b111) (Nat.lt_of_lt_of_le hb_b111 hX.1) ?_
                      refine r_allX ((hX.2.1 _ hb_v148).1.trans ht_v148) (Nat.lt_of_lt_of_le hb_v148 hX.1) (fun v_149 hv_149 => ?_)
                      rw [show I147 (b111 + 1 + 1) = I (b111 + 1 + 1) from (((hB.trans hX).n (by omega)).trans (by repeat (first | rfl | (rw [upd2_row (by first | decide | omega)]) | refine upd2_cg ?_)))] at hv_149
                      subst hv_149
                      refine y_ret1 ?_
                      refine y_ireturn rfl rfl rfl ?_
                      exact hQ0c _ eb_b111 (by first | omega | (simp only [show ySeat x3 = x3 from if_neg (by omega)]; omega) | (simp only [show ySeat x3 = Int32.ofInt 8 from if_pos (by omega), show (Int32.ofInt 8).toInt.toNat = 8 from by decide]; omega)) _ _ _ _ _ _ _ hS ((hR0.grow hX).up (Nat.le_succ K) hk6) (hK.x hRo hno hX) hth (congrArg (fun f => yFz f 9) (((hB.trans hX).n (by omega)).trans (by repeat (first | rfl | (rw [upd2_row (by first | decide | omega)]) | refine upd2_cg ?_))).symm) (by first | (exact hB.trans hX) | (simp only [show ySeat x3 = x3 from if_neg (by omega)]; exact hB.trans hX) | (simp only [show ySeat x3 = Int32.ofInt 8 from if_pos (by omega), show (Int32.ofInt 8).toInt.toNat = 8 from by decide]; exact hB.trans hX)) (by omega) (by omega)
                    · rw [yz_m1] at h_146
                      refine y_bip rfl (by decide) ?_
                      refine y_goto rfl j_X14_seat_11 ?_
                      refine y_ireturn rfl rfl rfl ?_
                      refine y_ret1 ?_
                      refine y_dup2 rfl rfl rfl ?_
                      refine y_ialoadw (j := 8) (J := I 84) rfl (ySh.t hS rfl) (ySh.n hS rfl) (by decide) (by decide) rfl (((hB.trans hX).n (by omega)).trans (by repeat (first | rfl | (rw [upd2_row (by first | decide | omega)]) | refine upd2_cg ?_))) ?_
                      refine y_iload_n rfl rfl ?_
                      refine y_iadd rfl ?_
                      refine y_iastoreC (j := 8) rfl (ySh.t hS rfl) (ySh.n hS rfl) (Nat.le_of_ble_eq_true rfl) (by decide) (by decide) rfl ?_
                      refine y_nameI (fun I150 e150 => ?_)
                      have hR1 := (hR0.grow hX).arr e150 (by decide)
                      have hK := (hK.x hRo hno hX).upI (upI e150) (by decide) (by decide) (fun i hi => by have := (hRo.l87.2.2.2.2 i hi).2.1; omega) (by rw [e150, upd2_ne (.inl (by omega))]; exact Int.le_refl _)
                      have hth := (show I150 83 0 = I85 83 0 by rw [e150, upd2_ne (.inl (by omega))]).trans hth
                      have hzz : ySz I85 I150 := ySz_ofE (upI e150) (by omega)
                      have hB := (hB.trans hX).wr e150 rfl
                      have h3k : ∀ k, k ≠ 0 → I150 83 k = I 83 k := fun k hk => (congrFun (congrFun e150 83) k).trans ((upd2_ne (.inl (by omega))).trans ((congrFun (hX.2.1 83 (by omega)).2.1 k).trans (h3k k hk)))
                      have hg := (hg.gx hX (by omega)).skip e150 (by decide)
                      have hday : I150 83 1 = I 83 1 := (congrFun (congrFun e150 83) 1).trans ((upd2_ne (.inl (by omega))).trans ((congrFun (hX.2.1 83 (by omega)).2.1 1).trans hday))
                      have hRb : ∀ a, a < n → R a = R a := fun a ha => (hX.2.1 a (by omega)).2.2.trans (hRb a ha)
                      have hS0 := hS
                      have hR0 := hR1
                      have ht_b111 := (hX.2.1 _ hb_b111).1.trans ht_b111
                      have hb_b111 := Nat.lt_of_lt_of_le hb_b111 hX.1
                      have hb0_b111 := hb_b111
                      have ht_v112 := (hX.2.1 _ hb_v112).1.trans ht_v112
                      have hb_v112 := Nat.lt_of_lt_of_le hb_v112 hX.1
                      have hb0_v112 := hb_v112
                      have hn := Nat.le_refl n
                      have h94 := hS0.1
                      have hX := @yX.rf n tg I150 R
                      have hS := hS0.x hX
                      have hR := hR0.x hn hX
                      have hz := hX.sz h94
                      have hxn := hX.1
                      have hN := hR0.1
                      have hnb := hR0.2.2.2.2.2.2
                      have hthB := hth
                      refine y_aload rfl rfl ?_
                      refine y_aload rfl rfl ?_
                      obtain ⟨hR_v151, hb_v151, ht_v151⟩ := hR0.ven hlo_b111 hb0_b111 ht_b111 (j := 1) (by decide)
                      have hb0_v151 := hb_v151
                      have hb_v151 := Nat.lt_of_lt_of_le hb_v151 hn
                      have hlo_v151 : 94 ≤ b111 + 1 + 1 := by omega
                      have hR2_v151 := (congrFun (hX.2.1 b111 hb_b111).2.2 1).trans hR_v151
                      refine y_getR rfl ((hX.2.1 _ hb_b111).1.trans ht_b111) (Nat.lt_of_lt_of_le hb_b111 hX.1) rfl rfl hR2_v151 ?_
                      refine y_virt rfl rfl rfl rfl rfl ((hX.2.1 _ hb_b111).1.trans ht_b111) (Nat.lt_of_lt_of_le hb_b111 hX.1) ?_
                      refine r_allX ((hX.2.1 _ hb_v151).1.trans ht_v151) (Nat.lt_of_lt_of_le hb_v151 hX.1) (fun v_152 hv_152 => ?_)
                      rw [show I150 (b111 + 1 + 1) = I (b111 + 1 + 1) from (((hB.trans hX).n (by omega)).trans (by repeat (first | rfl | (rw [upd2_row (by first | decide | omega)]) | refine upd2_cg ?_)))] at hv_152
                      subst hv_152
                      refine y_ret1 ?_
                      refine y_ireturn rfl rfl rfl ?_
                      exact hQ0c _ eb_b111 (by first | omega | (simp only [show ySeat x3 = x3 from if_neg (by omega)]; omega) | (simp only [show ySeat x3 = Int32.ofInt 8 from if_pos (by omega), show (Int32.ofInt 8).toInt.toNat = 8 from by decide]; omega)) _ _ _ _ _ _ _ hS ((hR0.grow hX).up (Nat.le_succ K) hk6) (hK.x hRo hno hX) hth (congrArg (fun f => yFz f 9) (((hB.trans hX).n (by omega)).trans (by repeat (first | rfl | (rw [upd2_row (by first | decide | omega)]) | refine upd2_cg ?_))).symm) (by first | (exact hB.trans hX) | (simp only [show ySeat x3 = x3 from if_neg (by omega)]; exact hB.trans hX) | (simp only [show ySeat x3 = Int32.ofInt 8 from if_pos (by omega), show (Int32.ofInt 8).toInt.toNat = 8 from by decide]; exact hB.trans hX)) (by omega) (by omega)
                  · rw [yz_m2] at h_144
                    refine y_aload rfl rfl ?_
                    refine y_iload_n rfl rfl ?_
                    refine y_ineg rfl ?_
                    refine y_virt rfl rfl rfl rfl rfl ((hX.2.1 _ hb_b111).1.trans ht_b111) (Nat.lt_of_lt_of_le hb_b111 hX.1) ?_
                    have hRG_ : yRI K n tg (upd2 I 83 0 (Int32.ofInt 0)) R := hRo.mod0 rfl (by decide) (by decide)
                    have hBG_ : yX n tg (upd2 I 83 0 (Int32.ofInt 0)) R n tg I85 R := hB.trans hX
                    refine hx_lose hS hBG_ hlo_b111 (show b111 < n by have := (hRo.l91.2.2.2.2 x1.toInt.toNat (by omega)).2.2.1; rw [eb_b111]; exact this) (by rw [eb_b111]; exact (hRo.l91.2.2.2.2 _ (by omega)).2.2.2) hRG_ (yneg2 (by omega) (by omega)).1 (yneg2 (by omega) (by omega)).2 (fun le_ n154 tg154 I154 R154 hle_ hlb_ hS hB => ?_)
                    have hR1 := (mLsD_ri hRG_ hlo_b111 (show b111 < n by have := (hRo.l91.2.2.2.2 x1.toInt.toNat (by omega)).2.2.1; rw [eb_b111]; exact this) (by rw [eb_b111]; exact (hRo.l91.2.2.2.2 _ (by omega)).2.2.2) hlb_).grow hB
                    have hK := (mLs_kp hRo hlo_b111 (show b111 < n by have := (hRo.l91.2.2.2.2 x1.toInt.toNat (by omega)).2.2.1; rw [eb_b111]; exact this) (by rw [eb_b111]; exact (hRo.l91.2.2.2.2 _ (by omega)).2.2.2)).x hRo hno hB
                    have hnA := hB.1
                    have htZ_b111 := (hX.2.1 _ hb_b111).1.trans ht_b111
                    have htZ_v112 := (hX.2.1 _ hb_v112).1.trans ht_v112
                    have ht_b111 : tg154 b111 = (21, 0) := (hB.2.1 _ (show b111 < n by have := (hRo.l91.2.2.2.2 x1.toInt.toNat (by omega)).2.2.1; rw [eb_b111]; exact this)).1.trans (by rw [eb_b111]; exact (hRo.l91.2.2.2.2 _ (by omega)).2.2.2)
                    have hb_b111 : b111 < n154 := Nat.lt_of_lt_of_le (show b111 < n by have := (hRo.l91.2.2.2.2 x1.toInt.toNat (by omega)).2.2.1; rw [eb_b111]; exact this) hB.1
                    have hb0_b111 := hb_b111
                    have hth : I154 83 0 = Int32.ofInt 0 := (congrFun (hB.n (by omega : 83 < n)) 0).trans ((congrFun (mLsD_row (by omega)) 0).trans upd2_self)
                    have hS0 := hS
                    have hR0 := hR1
                    have hn := Nat.le_refl n154
                    have h94 := hS0.1
                    have hX := @yX.rf n154 tg154 I154 R154
                    have hS := hS0.x hX
                    have hR := hR0.x hn hX
                    have hz := hX.sz h94
                    have hxn := hX.1
                    have hN := hR0.1
                    have hnb := hR0.2.2.2.2.2.2
                    refine y_ret0 ?_
                    refine y_goto rfl j_X14_result_160 ?_
                    refine y_aload rfl rfl ?_
                    refine y_aload rfl rfl ?_
                    obtain ⟨hR_v155, hb_v155, ht_v155⟩ := hR0.ven hlo_b111 hb0_b111 ht_b111 (j := 1) (by decide)
                    have hb0_v155 := hb_v155
                    have hb_v155 := Nat.lt_of_lt_of_le hb_v155 hn
                    have hlo_v155 : 94 ≤ b111 + 1 + 1 := by omega
                    have hR2_v155 := (congrFun (hX.2.1 b111 hb_b111).2.2 1).trans hR_v155
                    refine y_getR rfl ((hX.2.1 _ hb_b111).1.trans ht_b111) (Nat.lt_of_lt_of_le hb_b111 hX.1) rfl rfl hR2_v155 ?_
                    refine y_virt rfl rfl rfl rfl rfl ((hX.2.1 _ hb_b111).1.trans ht_b111) (Nat.lt_of_lt_of_le hb_b111 hX.1) ?_
                    refine r_allX ((hX.2.1 _ hb_v155).1.trans ht_v155) (Nat.lt_of_lt_of_le hb_v155 hX.1) (fun v_156 hv_156 => ?_)
                    subst hv_156
                    refine y_ret1 ?_
                    refine y_ireturn rfl rfl rfl ?_
                    exact hQ0b _ eb_b111 (by first | omega | (simp only [show ySeat x3 = x3 from if_neg (by omega)]; omega) | (simp only [show ySeat x3 = Int32.ofInt 8 from if_pos (by omega), show (Int32.ofInt 8).toInt.toNat = 8 from by decide]; omega)) _ _ _ _ _ _ _ hS ((hR0.grow hX).up (Nat.le_succ K) hk6) (hK.x hRo hno hX) hth _ hle_ (by first | rfl | (exact congrArg (fun f => yFz f 9) ((hB.trans hX).n (by omega)).symm)) (hB.trans hX) (by omega) (by omega)
                · refine y_aload_n rfl rfl ?_
                  refine y_aload rfl rfl ?_
                  refine y_iload_n rfl rfl ?_
                  refine y_virt rfl rfl rfl rfl rfl (ySh.t hS rfl) (ySh.n hS rfl) ?_
                  have hRG_ : yRI K n tg (upd2 I 83 0 (Int32.ofInt 0)) R := hRo.mod0 rfl (by decide) (by decide)
                  have hBG_ : yX n tg (upd2 I 83 0 (Int32.ofInt 0)) R n tg I85 R := hB.trans hX
                  refine hx_profit hS hBG_ hlo_b111 (show b111 < n by have := (hRo.l91.2.2.2.2 x1.toInt.toNat (by omega)).2.2.1; rw [eb_b111]; exact this) (by rw [eb_b111]; exact (hRo.l91.2.2.2.2 _ (by omega)).2.2.2) hRG_ (fun J157 hB => ?_)
                  have hR1 := (mPrD_ri hRG_ hlo_b111 (show b111 < n by have := (hRo.l91.2.2.2.2 x1.toInt.toNat (by omega)).2.2.1; rw [eb_b111]; exact this) (by rw [eb_b111]; exact (hRo.l91.2.2.2.2 _ (by omega)).2.2.2)).grow hB
                  have hK := (mPr_kp hRo hlo_b111 (show b111 < n by have := (hRo.l91.2.2.2.2 x1.toInt.toNat (by omega)).2.2.1; rw [eb_b111]; exact this) (by rw [eb_b111]; exact (hRo.l91.2.2.2.2 _ (by omega)).2.2.2)).x hRo hno hB
                  have hnA := hB.1
                  have ht_b111 : tg b111 = (21, 0) := (hB.2.1 _ (show b111 < n by have := (hRo.l91.2.2.2.2 x1.toInt.toNat (by omega)).2.2.1; rw [eb_b111]; exact this)).1.trans (by rw [eb_b111]; exact (hRo.l91.2.2.2.2 _ (by omega)).2.2.2)
                  have hb_b111 : b111 < n := Nat.lt_of_lt_of_le (show b111 < n by have := (hRo.l91.2.2.2.2 x1.toInt.toNat (by omega)).2.2.1; rw [eb_b111]; exact this) hB.1
                  have hb0_b111 := hb_b111
                  have hth : J157 83 0 = Int32.ofInt 0 := (congrFun (hB.n (by omega : 83 < n)) 0).trans ((congrFun (mPrD_row (by decide) (by omega)) 0).trans upd2_self)
                  have hS0 := hS
                  have hR0 := hR1
                  have hn := Nat.le_refl n
                  have h94 := hS0.1
                  have hX := @yX.rf n tg J157 R
                  have hS := hS0.x hX
                  have hR := hR0.x hn hX
                  have hz := hX.sz h94
                  have hxn := hX.1
                  have hN := hR0.1
                  have hnb := hR0.2.2.2.2.2.2
                  refine y_ret0 ?_
                  refine y_goto rfl j_X14_result_160 ?_
                  refine y_aload rfl rfl ?_
                  refine y_aload rfl rfl ?_
                  obtain ⟨hR_v158, hb_v158, ht_v158⟩ := hR0.ven hlo_b111 hb0_b111 ht_b111 (j := 1) (by decide)
                  have hb0_v158 := hb_v158
                  have hb_v158 := Nat.lt_of_lt_of_le hb_v158 hn
                  have hlo_v158 : 94 ≤ b111 + 1 + 1 := by omega
                  have hR2_v158 := (congrFun (hX.2.1 b111 hb_b111).2.2 1).trans hR_v158
                  refine y_getR rfl ((hX.2.1 _ hb_b111).1.trans ht_b111) (Nat.lt_of_lt_of_le hb_b111 hX.1) rfl rfl hR2_v158 ?_
                  refine y_virt rfl rfl rfl rfl rfl ((hX.2.1 _ hb_b111).1.trans ht_b111) (Nat.lt_of_lt_of_le hb_b111 hX.1) ?_
                  refine r_allX ((hX.2.1 _ hb_v158).1.trans ht_v158) (Nat.lt_of_lt_of_le hb_v158 hX.1) (fun v_159 hv_159 => ?_)
                  subst hv_159
                  refine y_ret1 ?_
                  refine y_ireturn rfl rfl rfl ?_
                  exact hQ0a _ eb_b111 (by first | omega | (simp only [show ySeat x3 = x3 from if_neg (by omega)]; omega) | (simp only [show ySeat x3 = Int32.ofInt 8 from if_pos (by omega), show (Int32.ofInt 8).toInt.toNat = 8 from by decide]; omega)) _ _ _ _ _ _ _ hS ((hR0.grow hX).up (Nat.le_succ K) hk6) (hK.x hRo hno hX) hth (by first | rfl | (exact congrArg (fun f => yFz f 9) ((hB.trans hX).n (by omega)).symm)) (hB.trans hX) (by omega) (by omega)
              · refine y_iconst rfl ?_
                refine y_goto rfl j_X14_result_95 ?_
                refine y_iconst rfl ?_
                refine y_virt rfl rfl rfl rfl rfl (ySh.t hS rfl) (ySh.n hS rfl) ?_
                refine y_in (M := xm_X14_refuse) (ls := [some _, some _, some _]) rfl rfl rfl ?_
                refine y_iload_n rfl rfl ?_
                refine y_if_eqF rfl (by decide) ?_
                refine y_aload_n rfl rfl ?_
                refine y_getIv (v := Int32.ofInt (0)) rfl (ySh.t hS rfl) (ySh.n hS rfl) rfl rfl hth ?_
                refine y_if_neF rfl (by decide) ?_
                refine y_aload_n rfl rfl ?_
                refine y_iload_n rfl rfl ?_
                refine y_putI rfl (ySh.t hS rfl) (ySh.n hS rfl) rfl (Nat.le_of_ble_eq_true rfl) rfl rfl ?_
                refine y_nameI (fun I160 e160 => ?_)
                have hR1 := (hR0.grow hX).mod0 e160 (by decide) (by decide)
                have hK := (hK.x hRo hno hX).upI (upI e160) (by decide) (by decide) (fun i hi => by have := (hRo.l87.2.2.2.2 i hi).2.1; omega) (by rw [e160, upd2_ne (.inr (by decide))]; exact Int.le_refl _)
                have hth : I160 83 0 = Int32.ofInt (3) := by rw [e160, upd2_self]
                have hzz : ySz8 I85 I160 := ySz8_of (upI e160) (by rw [e160]; exact ⟨upd2_ne (.inr (by decide)), upd2_ne (.inr (by decide))⟩)
                have hB := (hB.trans hX).wr e160 rfl
                have h8 : ∀ a, 84 ≤ a → a ≤ 86 → I160 a = I a := fun a h1 h2 => (upI e160 a (by omega)).trans ((hX.2.1 a (by omega)).2.1.trans (h8 a h1 h2))
                have h3k : ∀ k, k ≠ 0 → I160 83 k = I 83 k := fun k hk => (congrFun (congrFun e160 83) k).trans ((upd2_ne (.inr hk)).trans ((congrFun (hX.2.1 83 (by omega)).2.1 k).trans (h3k k hk)))
                have hg := (hg.gx hX (by omega)).skip e160 (by decide)
                have hday : I160 83 1 = I 83 1 := (congrFun (congrFun e160 83) 1).trans ((upd2_ne (.inr (by decide))).trans ((congrFun (hX.2.1 83 (by omega)).2.1 1).trans hday))
                have hRb : ∀ a, a < n → R a = R a := fun a ha => (hX.2.1 a (by omega)).2.2.trans (hRb a ha)
                have hb83 : ∀ a, a ≠ 83 → a < n → I160 a = I a := fun a ha hb => (upI e160 a ha).trans ((hX.2.1 a (by omega)).2.1.trans (hb83 a ha hb))
                have hS0 := hS
                have hR0 := hR1
                have ht_b111 := (hX.2.1 _ hb_b111).1.trans ht_b111
                have hb_b111 := Nat.lt_of_lt_of_le hb_b111 hX.1
                have hb0_b111 := hb_b111
                have ht_v112 := (hX.2.1 _ hb_v112).1.trans ht_v112
                have hb_v112 := Nat.lt_of_lt_of_le hb_v112 hX.1
                have hb0_v112 := hb_v112
                have hn := Nat.le_refl n
                have h94 := hS0.1
                have hX := @yX.rf n tg I160 R
                have hS := hS0.x hX
                have hR := hR0.x hn hX
                have hz := hX.sz h94
                have hxn := hX.1
                have hN := hR0.1
                have hnb := hR0.2.2.2.2.2.2
                have hthB := hth
                refine y_aload_n rfl rfl ?_
                refine y_getIv (v := Int32.ofInt (3)) rfl (ySh.t hS rfl) (ySh.n hS rfl) rfl rfl hth ?_
                refine y_if_leF rfl (by decide) ?_
                refine y_iconst rfl ?_
                refine y_goto rfl j_X14_refuse_28 ?_
                refine y_ireturn rfl rfl rfl ?_
                refine y_ret1 ?_
                refine y_if_eqF rfl (by decide) ?_
                refine y_iconst rfl ?_
                refine y_ireturn rfl rfl rfl ?_
                exact hQ3 _ eb_b111 (by first | omega | (simp only [show ySeat x3 = x3 from if_neg (by omega)]; omega) | (simp only [show ySeat x3 = Int32.ofInt 8 from if_pos (by omega), show (Int32.ofInt 8).toInt.toNat = 8 from by decide]; omega)) _ _ _ _ _ _ _ hS ((hR0.grow hX).up (Nat.le_succ K) hk6) (hK.x hRo hno hX) hth ((hB.trans hX).rf2 (by omega)) (by omega) (by omega)
        · rw [yz_m999] at h_88
          rw [yz_999] at h_88
          refine y_ret1 ?_
          refine y_if_neF rfl (by decide) ?_
          refine y_iconst rfl ?_
          refine y_goto rfl j_X14_result_54 ?_
          refine y_iconst rfl ?_
          refine y_virt rfl rfl rfl rfl rfl (ySh.t hS rfl) (ySh.n hS rfl) ?_
          refine y_in (M := xm_X14_refuse) (ls := [some _, some _, some _]) rfl rfl rfl ?_
          refine y_iload_n rfl rfl ?_
          refine y_if_eqF rfl (by decide) ?_
          refine y_aload_n rfl rfl ?_
          refine y_getIv (v := Int32.ofInt (0)) rfl (ySh.t hS rfl) (ySh.n hS rfl) rfl rfl hth ?_
          refine y_if_neF rfl (by decide) ?_
          refine y_aload_n rfl rfl ?_
          refine y_iload_n rfl rfl ?_
          refine y_putI rfl (ySh.t hS rfl) (ySh.n hS rfl) rfl (Nat.le_of_ble_eq_true rfl) rfl rfl ?_
          refine y_nameI (fun I161 e161 => ?_)
          have hR1 := (hR0.grow hX).mod0 e161 (by decide) (by decide)
          have hK := (hK.x hRo hno hX).upI (upI e161) (by decide) (by decide) (fun i hi => by have := (hRo.l87.2.2.2.2 i hi).2.1; omega) (by rw [e161, upd2_ne (.inr (by decide))]; exact Int.le_refl _)
          have hth : I161 83 0 = Int32.ofInt (2) := by rw [e161, upd2_self]
          have hzz : ySz8 I85 I161 := ySz8_of (upI e161) (by rw [e161]; exact ⟨upd2_ne (.inr (by decide)), upd2_ne (.inr (by decide))⟩)
          have hB := (hB.trans hX).wr e161 rfl
          have h8 : ∀ a, 84 ≤ a → a ≤ 86 → I161 a = I a := fun a h1 h2 => (upI e161 a (by omega)).trans ((hX.2.1 a (by omega)).2.1.trans (h8 a h1 h2))
          have h3k : ∀ k, k ≠ 0 → I161 83 k = I 83 k := fun k hk => (congrFun (congrFun e161 83) k).trans ((upd2_ne (.inr hk)).trans ((congrFun (hX.2.1 83 (by omega)).2.1 k).trans (h3k k hk)))
          have hg := (hg.gx hX (by omega)).skip e161 (by decide)
          have hday : I161 83 1 = I 83 1 := (congrFun (congrFun e161 83) 1).trans ((upd2_ne (.inr (by decide))).trans ((congrFun (hX.2.1 83 (by omega)).2.1 1).trans hday))
          have hRb : ∀ a, a < n → R a = R a := fun a ha => (hX.2.1 a (by omega)).2.2.trans (hRb a ha)
          have hb83 : ∀ a, a ≠ 83 → a < n → I161 a = I a := fun a ha hb => (upI e161 a ha).trans ((hX.2.1 a (by omega)).2.1.trans (hb83 a ha hb))
          have hS0 := hS
          have hR0 := hR1
          have hn := Nat.le_refl n
          have h94 := hS0.1
          have hX := @yX.rf n tg I161 R
          have hS := hS0.x hX
          have hR := hR0.x hn hX
          have hz := hX.sz h94
          have hxn := hX.1
          have hN := hR0.1
          have hnb := hR0.2.2.2.2.2.2
          have hthB := hth
          refine y_aload_n rfl rfl ?_
          refine y_getIv (v := Int32.ofInt (2)) rfl (ySh.t hS rfl) (ySh.n hS rfl) rfl rfl hth ?_
          refine y_if_leF rfl (by decide) ?_
          refine y_iconst rfl ?_
          refine y_goto rfl j_X14_refuse_28 ?_
          refine y_ireturn rfl rfl rfl ?_
          refine y_ret1 ?_
          refine y_if_neT rfl j_X14_result_102 (by decide) ?_
          refine y_iconst rfl ?_
          refine y_ireturn rfl rfl rfl ?_
          exact hQ2 (by first | omega | (simp only [show ySeat x3 = x3 from if_neg (by omega)]; omega) | (simp only [show ySeat x3 = Int32.ofInt 8 from if_pos (by omega), show (Int32.ofInt 8).toInt.toNat = 8 from by decide]; omega)) _ _ _ _ _ _ _ hS ((hR0.grow hX).up (Nat.le_succ K) hk6) (hK.x hRo hno hX) hth ((hB.trans hX).rf2 (by omega)) (by omega) (by omega)
      · rw [yz_m1] at h_84
        refine y_aload_n rfl rfl ?_
        refine y_iload_n rfl rfl ?_
        refine y_virt rfl rfl rfl rfl rfl (ySh.t hS rfl) (ySh.n hS rfl) ?_
        refine y_in (M := xm_X14_isNobody) (ls := [some _, some _]) rfl rfl rfl ?_
        refine y_iload_n rfl rfl ?_
        refine y_iconst rfl ?_
        refine y_aload_n rfl rfl ?_
        refine y_getIv (v := I 83 8) rfl (ySh.t hS rfl) (ySh.n hS rfl) rfl rfl ((congrFun ((hB.trans hX).n (by omega : 83 < n)) 8).trans (by repeat (first | rfl | rw [upd2_ne (by first | exact .inl (by omega) | exact .inr (by decide))]))) ?_
        refine y_iconst rfl ?_
        refine y_isub rfl ?_
        refine y_static rfl rfl rfl rfl rfl ?_
        refine r_isIn (fun h_162 h_163 => ?_) (fun h_164 => ?_)
        · rw [yz_0] at h_162
          try rw [ysub (by rw [yz_1]; omega) (by rw [yz_1]; omega), yz_1] at h_163
          refine y_ret1 ?_
          refine y_if_neT rfl j_X14_isNobody_18 (by decide) ?_
          refine y_iconst rfl ?_
          refine y_ireturn rfl rfl rfl ?_
          refine y_ret1 ?_
          refine y_if_eqT rfl j_X14_isNoOne_17 (by decide) ?_
          refine y_iconst rfl ?_
          refine y_ireturn rfl rfl rfl ?_
          refine y_ret1 ?_
          refine y_if_eqT rfl j_X14_result_27 (by decide) ?_
          refine y_iconst rfl ?_
          refine y_iconst rfl ?_
          refine y_virt rfl rfl rfl rfl rfl (ySh.t hS rfl) (ySh.n hS rfl) ?_
          refine y_in (M := xm_X14_start) (ls := [some _, some _, some _]) rfl rfl rfl ?_
          refine y_aload_n rfl rfl ?_
          refine y_iconst rfl ?_
          refine y_putI rfl (ySh.t hS rfl) (ySh.n hS rfl) rfl (Nat.le_of_ble_eq_true rfl) rfl rfl ?_
          refine y_nameI (fun I165 e165 => ?_)
          have hR1 := (hR0.grow hX).mod0 e165 (by decide) (by decide)
          have hK := (hK.x hRo hno hX).upI (upI e165) (by decide) (by decide) (fun i hi => by have := (hRo.l87.2.2.2.2 i hi).2.1; omega) (by rw [e165, upd2_ne (.inr (by decide))]; exact Int.le_refl _)
          have hth : I165 83 0 = Int32.ofInt (0) := by rw [e165, upd2_self]
          have hzz : ySz8 I I165 := ySz8_of (upI e165) (by rw [e165]; exact ⟨upd2_ne (.inr (by decide)), upd2_ne (.inr (by decide))⟩)
          have hB := (hB.trans hX).wr e165 rfl
          have h8 : ∀ a, 84 ≤ a → a ≤ 86 → I165 a = I a := fun a h1 h2 => (upI e165 a (by omega)).trans ((hX.2.1 a (by omega)).2.1.trans (h8 a h1 h2))
          have h3k : ∀ k, k ≠ 0 → I165 83 k = I 83 k := fun k hk => (congrFun (congrFun e165 83) k).trans ((upd2_ne (.inr hk)).trans ((congrFun (hX.2.1 83 (by omega)).2.1 k).trans (h3k k hk)))
          have hg := (hg.gx hX (by omega)).skip e165 (by decide)
          have hday : I165 83 1 = I 83 1 := (congrFun (congrFun e165 83) 1).trans ((upd2_ne (.inr (by decide))).trans ((congrFun (hX.2.1 83 (by omega)).2.1 1).trans hday))
          have hRb : ∀ a, a < n → R a = R a := fun a ha => (hX.2.1 a (by omega)).2.2.trans (hRb a ha)
          have hb83 : ∀ a, a ≠ 83 → a < n → I165 a = I a := fun a ha hb => (upI e165 a ha).trans ((hX.2.1 a (by omega)).2.1.trans (hb83 a ha hb))
          have hS0 := hS
          have hR0 := hR1
          have hn := Nat.le_refl n
          have h94 := hS0.1
          have hX := @yX.rf n tg I165 R
          have hS := hS0.x hX
          have hR := hR0.x hn hX
          have hz := hX.sz h94
          have hxn := hX.1
          have hN := hR0.1
          have hnb := hR0.2.2.2.2.2.2
          have hthB := hth
          refine y_aload_n rfl rfl ?_
          refine y_iload_n rfl rfl ?_
          refine y_iload_n rfl rfl ?_
          refine y_virt rfl rfl rfl rfl rfl (ySh.t hS rfl) (ySh.n hS rfl) ?_
          refine y_in (M := xm_X14_refuse) (ls := [some _, some _, some _]) rfl rfl rfl ?_
          refine y_iload_n rfl rfl ?_
          refine y_if_eqT rfl j_X14_refuse_16 (by decide) ?_
          refine y_aload_n rfl rfl ?_
          refine y_getIv (v := Int32.ofInt (0)) rfl (ySh.t hS rfl) (ySh.n hS rfl) rfl rfl hth ?_
          refine y_if_leT rfl j_X14_refuse_27 (by decide) ?_
          refine y_iconst rfl ?_
          refine y_ireturn rfl rfl rfl ?_
          refine y_ret1 ?_
          refine y_ireturn rfl rfl rfl ?_
          refine y_ret1 ?_
          refine y_if_neF rfl (by decide) ?_
          refine y_aload_n rfl rfl ?_
          refine y_iload_n rfl rfl ?_
          refine y_sip rfl (by decide) ?_
          refine y_sip rfl (by decide) ?_
          refine y_static rfl rfl rfl rfl rfl ?_
          refine r_isIn (fun h_166 h_167 => ?_) (fun h_168 => ?_)
          · rw [yz_m999] at h_166
            rw [yz_999] at h_167
            refine y_ret1 ?_
            refine y_if_neT rfl j_X14_result_53 (by decide) ?_
            refine y_iconst rfl ?_
            refine y_iconst rfl ?_
            refine y_virt rfl rfl rfl rfl rfl (ySh.t hS rfl) (ySh.n hS rfl) ?_
            refine y_in (M := xm_X14_refuse) (ls := [some _, some _, some _]) rfl rfl rfl ?_
            refine y_iload_n rfl rfl ?_
            refine y_if_eqT rfl j_X14_refuse_16 (by decide) ?_
            refine y_aload_n rfl rfl ?_
            refine y_getIv (v := Int32.ofInt (0)) rfl (ySh.t hS rfl) (ySh.n hS rfl) rfl rfl hth ?_
            refine y_if_leT rfl j_X14_refuse_27 (by decide) ?_
            refine y_iconst rfl ?_
            refine y_ireturn rfl rfl rfl ?_
            refine y_ret1 ?_
            refine y_if_neF rfl (by decide) ?_
            refine y_aload_n rfl rfl ?_
            refine y_iload_n rfl rfl ?_
            refine y_bip rfl (by decide) ?_
            refine y_icmp_eq rfl j_X14_result_94 (fun h_169 => ?_) (fun h_170 => ?_)
            · rw [yz_m2] at h_169
              refine y_iconst rfl ?_
              refine y_iconst rfl ?_
              refine y_virt rfl rfl rfl rfl rfl (ySh.t hS rfl) (ySh.n hS rfl) ?_
              refine y_in (M := xm_X14_refuse) (ls := [some _, some _, some _]) rfl rfl rfl ?_
              refine y_iload_n rfl rfl ?_
              refine y_if_eqT rfl j_X14_refuse_16 (by decide) ?_
              refine y_aload_n rfl rfl ?_
              refine y_getIv (v := Int32.ofInt (0)) rfl (ySh.t hS rfl) (ySh.n hS rfl) rfl rfl hth ?_
              refine y_if_leT rfl j_X14_refuse_27 (by decide) ?_
              refine y_iconst rfl ?_
              refine y_ireturn rfl rfl rfl ?_
              refine y_ret1 ?_
              refine y_if_eqT rfl j_X14_result_104 (by decide) ?_
              refine y_aload_n rfl rfl ?_
              refine y_getR rfl (ySh.t hS rfl) (ySh.n hS rfl) rfl rfl (ySh.r hS rfl) ?_
              refine y_iload_n rfl rfl ?_
              refine y_virt rfl rfl rfl rfl rfl (ySh.t hS rfl) (ySh.n hS rfl) ?_
              refine l_get (nb := n) (ySh.t hS rfl) (ySh.n hS rfl) (Nat.le_trans hn hX.1) hR.l91 (by omega) (by omega) (fun b171 eb_b171 hlo_b171 hb0_b171 ht_b171 => ?_)
              have hb_b171 := Nat.lt_of_lt_of_le hb0_b171 hn
              replace ht_b171 := (hX.2.1 _ hb_b171).1.symm.trans ht_b171
              refine y_ret1 ?_
              refine y_cast rfl ((hX.2.1 _ hb_b171).1.trans ht_b171) (Nat.lt_of_lt_of_le hb_b171 hX.1) ?_
              refine y_astore (ls' := [some _, some _, some _, some _, some _]) rfl rfl rfl ?_
              refine y_iload_n rfl rfl ?_
              refine y_if_lt rfl j_X14_result_131 (fun h_172 => ?_) (fun h_173 => ?_)
              · refine y_iload_n rfl rfl ?_
                refine y_bip rfl (by decide) ?_
                refine y_icmp_ne rfl j_X14_result_147 (fun h_174 => ?_) (fun h_175 => ?_)
                · rw [yz_m2] at h_174
                  refine y_aload_n rfl rfl ?_
                  refine y_getR rfl (ySh.t hS rfl) (ySh.n hS rfl) rfl rfl (ySh.r hS rfl) ?_
                  refine y_iload_n rfl rfl ?_
                  refine y_static rfl rfl rfl rfl rfl ?_
                  refine y_in (M := xm_X14_seat) (ls := [some _]) rfl rfl rfl ?_
                  refine y_iload_n rfl rfl ?_
                  refine y_iconst rfl ?_
                  refine y_icmp_ne rfl j_X14_seat_10 (fun h_176 => ?_) (fun h_177 => ?_)
                  · rw [yz_m1] at h_176
                    refine y_iload_n rfl rfl ?_
                    refine y_ireturn rfl rfl rfl ?_
                    refine y_ret1 ?_
                    refine y_dup2 rfl rfl rfl ?_
                    refine y_ialoadv (J := I 84) rfl (ySh.t hS rfl) (ySh.n hS rfl) (by omega) (by omega) (((hB.trans hX).n (by omega)).trans (by repeat (first | rfl | (rw [upd2_row (by first | decide | omega)]) | refine upd2_cg ?_))) ?_
                    refine y_iload_n rfl rfl ?_
                    refine y_iadd rfl ?_
                    refine y_iastore rfl (ySh.t hS rfl) (ySh.n hS rfl) (Nat.le_of_ble_eq_true rfl) (by omega) (by omega) ?_
                    refine y_nameI (fun I178 e178 => ?_)
                    have hR1 := (hR0.grow hX).arr e178 (by decide)
                    have hK := (hK.x hRo hno hX).upI (upI e178) (by decide) (by decide) (fun i hi => by have := (hRo.l87.2.2.2.2 i hi).2.1; omega) (by rw [e178, upd2_ne (.inl (by omega))]; exact Int.le_refl _)
                    have hth := (show I178 83 0 = I165 83 0 by rw [e178, upd2_ne (.inl (by omega))]).trans hth
                    have hzz : ySz I165 I178 := ySz_ofE (upI e178) (by omega)
                    have hB := (hB.trans hX).wr e178 rfl
                    have h3k : ∀ k, k ≠ 0 → I178 83 k = I 83 k := fun k hk => (congrFun (congrFun e178 83) k).trans ((upd2_ne (.inl (by omega))).trans ((congrFun (hX.2.1 83 (by omega)).2.1 k).trans (h3k k hk)))
                    have hg := (hg.gx hX (by omega)).skip e178 (by decide)
                    have hday : I178 83 1 = I 83 1 := (congrFun (congrFun e178 83) 1).trans ((upd2_ne (.inl (by omega))).trans ((congrFun (hX.2.1 83 (by omega)).2.1 1).trans hday))
                    have hRb : ∀ a, a < n → R a = R a := fun a ha => (hX.2.1 a (by omega)).2.2.trans (hRb a ha)
                    have hS0 := hS
                    have hR0 := hR1
                    have ht_b171 := (hX.2.1 _ hb_b171).1.trans ht_b171
                    have hb_b171 := Nat.lt_of_lt_of_le hb_b171 hX.1
                    have hb0_b171 := hb_b171
                    have hn := Nat.le_refl n
                    have h94 := hS0.1
                    have hX := @yX.rf n tg I178 R
                    have hS := hS0.x hX
                    have hR := hR0.x hn hX
                    have hz := hX.sz h94
                    have hxn := hX.1
                    have hN := hR0.1
                    have hnb := hR0.2.2.2.2.2.2
                    have hthB := hth
                    refine y_aload rfl rfl ?_
                    refine y_aload rfl rfl ?_
                    obtain ⟨hR_v179, hb_v179, ht_v179⟩ := hR0.ven hlo_b171 hb0_b171 ht_b171 (j := 1) (by decide)
                    have hb0_v179 := hb_v179
                    have hb_v179 := Nat.lt_of_lt_of_le hb_v179 hn
                    have hlo_v179 : 94 ≤ b171 + 1 + 1 := by omega
                    have hR2_v179 := (congrFun (hX.2.1 b171 hb_b171).2.2 1).trans hR_v179
                    refine y_getR rfl ((hX.2.1 _ hb_b171).1.trans ht_b171) (Nat.lt_of_lt_of_le hb_b171 hX.1) rfl rfl hR2_v179 ?_
                    refine y_virt rfl rfl rfl rfl rfl ((hX.2.1 _ hb_b171).1.trans ht_b171) (Nat.lt_of_lt_of_le hb_b171 hX.1) ?_
                    refine r_allX ((hX.2.1 _ hb_v179).1.trans ht_v179) (Nat.lt_of_lt_of_le hb_v179 hX.1) (fun v_180 hv_180 => ?_)
                    rw [show I178 (b171 + 1 + 1) = I (b171 + 1 + 1) from (((hB.trans hX).n (by omega)).trans (by repeat (first | rfl | (rw [upd2_row (by first | decide | omega)]) | refine upd2_cg ?_)))] at hv_180
                    subst hv_180
                    refine y_ret1 ?_
                    refine y_ireturn rfl rfl rfl ?_
                    exact hQ0c _ eb_b171 (by first | omega | (simp only [show ySeat x3 = x3 from if_neg (by omega)]; omega) | (simp only [show ySeat x3 = Int32.ofInt 8 from if_pos (by omega), show (Int32.ofInt 8).toInt.toNat = 8 from by decide]; omega)) _ _ _ _ _ _ _ hS ((hR0.grow hX).up (Nat.le_succ K) hk6) (hK.x hRo hno hX) hth (congrArg (fun f => yFz f 9) (((hB.trans hX).n (by omega)).trans (by repeat (first | rfl | (rw [upd2_row (by first | decide | omega)]) | refine upd2_cg ?_))).symm) (by first | (exact hB.trans hX) | (simp only [show ySeat x3 = x3 from if_neg (by omega)]; exact hB.trans hX) | (simp only [show ySeat x3 = Int32.ofInt 8 from if_pos (by omega), show (Int32.ofInt 8).toInt.toNat = 8 from by decide]; exact hB.trans hX)) (by omega) (by omega)
                  · rw [yz_m1] at h_177
                    refine y_bip rfl (by decide) ?_
                    refine y_goto rfl j_X14_seat_11 ?_
                    refine y_ireturn rfl rfl rfl ?_
                    refine y_ret1 ?_
                    refine y_dup2 rfl rfl rfl ?_
                    refine y_ialoadw (j := 8) (J := I 84) rfl (ySh.t hS rfl) (ySh.n hS rfl) (by decide) (by decide) rfl (((hB.trans hX).n (by omega)).trans (by repeat (first | rfl | (rw [upd2_row (by first | decide | omega)]) | refine upd2_cg ?_))) ?_
                    refine y_iload_n rfl rfl ?_
                    refine y_iadd rfl ?_
                    refine y_iastoreC (j := 8) rfl (ySh.t hS rfl) (ySh.n hS rfl) (Nat.le_of_ble_eq_true rfl) (by decide) (by decide) rfl ?_
                    refine y_nameI (fun I181 e181 => ?_)
                    have hR1 := (hR0.grow hX).arr e181 (by decide)
                    have hK := (hK.x hRo hno hX).upI (upI e181) (by decide) (by decide) (fun i hi => by have := (hRo.l87.2.2.2.2 i hi).2.1; omega) (by rw [e181, upd2_ne (.inl (by omega))]; exact Int.le_refl _)
                    have hth := (show I181 83 0 = I165 83 0 by rw [e181, upd2_ne (.inl (by omega))]).trans hth
                    have hzz : ySz I165 I181 := ySz_ofE (upI e181) (by omega)
                    have hB := (hB.trans hX).wr e181 rfl
                    have h3k : ∀ k, k ≠ 0 → I181 83 k = I 83 k := fun k hk => (congrFun (congrFun e181 83) k).trans ((upd2_ne (.inl (by omega))).trans ((congrFun (hX.2.1 83 (by omega)).2.1 k).trans (h3k k hk)))
                    have hg := (hg.gx hX (by omega)).skip e181 (by decide)
                    have hday : I181 83 1 = I 83 1 := (congrFun (congrFun e181 83) 1).trans ((upd2_ne (.inl (by omega))).trans ((congrFun (hX.2.1 83 (by omega)).2.1 1).trans hday))
                    have hRb : ∀ a, a < n → R a = R a := fun a ha => (hX.2.1 a (by omega)).2.2.trans (hRb a ha)
                    have hS0 := hS
                    have hR0 := hR1
                    have ht_b171 := (hX.2.1 _ hb_b171).1.trans ht_b171
                    have hb_b171 := Nat.lt_of_lt_of_le hb_b171 hX.1
                    have hb0_b171 := hb_b171
                    have hn := Nat.le_refl n
                    have h94 := hS0.1
                    have hX := @yX.rf n tg I181 R
                    have hS := hS0.x hX
                    have hR := hR0.x hn hX
                    have hz := hX.sz h94
                    have hxn := hX.1
                    have hN := hR0.1
                    have hnb := hR0.2.2.2.2.2.2
                    have hthB := hth
                    refine y_aload rfl rfl ?_
                    refine y_aload rfl rfl ?_
                    obtain ⟨hR_v182, hb_v182, ht_v182⟩ := hR0.ven hlo_b171 hb0_b171 ht_b171 (j := 1) (by decide)
                    have hb0_v182 := hb_v182
                    have hb_v182 := Nat.lt_of_lt_of_le hb_v182 hn
                    have hlo_v182 : 94 ≤ b171 + 1 + 1 := by omega
                    have hR2_v182 := (congrFun (hX.2.1 b171 hb_b171).2.2 1).trans hR_v182
                    refine y_getR rfl ((hX.2.1 _ hb_b171).1.trans ht_b171) (Nat.lt_of_lt_of_le hb_b171 hX.1) rfl rfl hR2_v182 ?_
                    refine y_virt rfl rfl rfl rfl rfl ((hX.2.1 _ hb_b171).1.trans ht_b171) (Nat.lt_of_lt_of_le hb_b171 hX.1) ?_
                    refine r_allX ((hX.2.1 _ hb_v182).1.trans ht_v182) (Nat.lt_of_lt_of_le hb_v182 hX.1) (fun v_183 hv_183 => ?_)
                    rw [show I181 (b171 + 1 + 1) = I (b171 + 1 + 1) from (((hB.trans hX).n (by omega)).trans (by repeat (first | rfl | (rw [upd2_row (by first | decide | omega)]) | refine upd2_cg ?_)))] at hv_183
                    subst hv_183
                    refine y_ret1 ?_
                    refine y_ireturn rfl rfl rfl ?_
                    exact hQ0c _ eb_b171 (by first | omega | (simp only [show ySeat x3 = x3 from if_neg (by omega)]; omega) | (simp only [show ySeat x3 = Int32.ofInt 8 from if_pos (by omega), show (Int32.ofInt 8).toInt.toNat = 8 from by decide]; omega)) _ _ _ _ _ _ _ hS ((hR0.grow hX).up (Nat.le_succ K) hk6) (hK.x hRo hno hX) hth (congrArg (fun f => yFz f 9) (((hB.trans hX).n (by omega)).trans (by repeat (first | rfl | (rw [upd2_row (by first | decide | omega)]) | refine upd2_cg ?_))).symm) (by first | (exact hB.trans hX) | (simp only [show ySeat x3 = x3 from if_neg (by omega)]; exact hB.trans hX) | (simp only [show ySeat x3 = Int32.ofInt 8 from if_pos (by omega), show (Int32.ofInt 8).toInt.toNat = 8 from by decide]; exact hB.trans hX)) (by omega) (by omega)
                · rw [yz_m2] at h_175
                  refine y_aload rfl rfl ?_
                  refine y_iload_n rfl rfl ?_
                  refine y_ineg rfl ?_
                  refine y_virt rfl rfl rfl rfl rfl ((hX.2.1 _ hb_b171).1.trans ht_b171) (Nat.lt_of_lt_of_le hb_b171 hX.1) ?_
                  have hRG_ : yRI K n tg (upd2 I 83 0 (Int32.ofInt 0)) R := hRo.mod0 rfl (by decide) (by decide)
                  have hBG_ : yX n tg (upd2 I 83 0 (Int32.ofInt 0)) R n tg I165 R := hB.trans hX
                  refine hx_lose hS hBG_ hlo_b171 (show b171 < n by have := (hRo.l91.2.2.2.2 x1.toInt.toNat (by omega)).2.2.1; rw [eb_b171]; exact this) (by rw [eb_b171]; exact (hRo.l91.2.2.2.2 _ (by omega)).2.2.2) hRG_ (yneg2 (by omega) (by omega)).1 (yneg2 (by omega) (by omega)).2 (fun le_ n185 tg185 I185 R185 hle_ hlb_ hS hB => ?_)
                  have hR1 := (mLsD_ri hRG_ hlo_b171 (show b171 < n by have := (hRo.l91.2.2.2.2 x1.toInt.toNat (by omega)).2.2.1; rw [eb_b171]; exact this) (by rw [eb_b171]; exact (hRo.l91.2.2.2.2 _ (by omega)).2.2.2) hlb_).grow hB
                  have hK := (mLs_kp hRo hlo_b171 (show b171 < n by have := (hRo.l91.2.2.2.2 x1.toInt.toNat (by omega)).2.2.1; rw [eb_b171]; exact this) (by rw [eb_b171]; exact (hRo.l91.2.2.2.2 _ (by omega)).2.2.2)).x hRo hno hB
                  have hnA := hB.1
                  have htZ_b171 := (hX.2.1 _ hb_b171).1.trans ht_b171
                  have ht_b171 : tg185 b171 = (21, 0) := (hB.2.1 _ (show b171 < n by have := (hRo.l91.2.2.2.2 x1.toInt.toNat (by omega)).2.2.1; rw [eb_b171]; exact this)).1.trans (by rw [eb_b171]; exact (hRo.l91.2.2.2.2 _ (by omega)).2.2.2)
                  have hb_b171 : b171 < n185 := Nat.lt_of_lt_of_le (show b171 < n by have := (hRo.l91.2.2.2.2 x1.toInt.toNat (by omega)).2.2.1; rw [eb_b171]; exact this) hB.1
                  have hb0_b171 := hb_b171
                  have hth : I185 83 0 = Int32.ofInt 0 := (congrFun (hB.n (by omega : 83 < n)) 0).trans ((congrFun (mLsD_row (by omega)) 0).trans upd2_self)
                  have hS0 := hS
                  have hR0 := hR1
                  have hn := Nat.le_refl n185
                  have h94 := hS0.1
                  have hX := @yX.rf n185 tg185 I185 R185
                  have hS := hS0.x hX
                  have hR := hR0.x hn hX
                  have hz := hX.sz h94
                  have hxn := hX.1
                  have hN := hR0.1
                  have hnb := hR0.2.2.2.2.2.2
                  refine y_ret0 ?_
                  refine y_goto rfl j_X14_result_160 ?_
                  refine y_aload rfl rfl ?_
                  refine y_aload rfl rfl ?_
                  obtain ⟨hR_v186, hb_v186, ht_v186⟩ := hR0.ven hlo_b171 hb0_b171 ht_b171 (j := 1) (by decide)
                  have hb0_v186 := hb_v186
                  have hb_v186 := Nat.lt_of_lt_of_le hb_v186 hn
                  have hlo_v186 : 94 ≤ b171 + 1 + 1 := by omega
                  have hR2_v186 := (congrFun (hX.2.1 b171 hb_b171).2.2 1).trans hR_v186
                  refine y_getR rfl ((hX.2.1 _ hb_b171).1.trans ht_b171) (Nat.lt_of_lt_of_le hb_b171 hX.1) rfl rfl hR2_v186 ?_
                  refine y_virt rfl rfl rfl rfl rfl ((hX.2.1 _ hb_b171).1.trans ht_b171) (Nat.lt_of_lt_of_le hb_b171 hX.1) ?_
                  refine r_allX ((hX.2.1 _ hb_v186).1.trans ht_v186) (Nat.lt_of_lt_of_le hb_v186 hX.1) (fun v_187 hv_187 => ?_)
                  subst hv_187
                  refine y_ret1 ?_
                  refine y_ireturn rfl rfl rfl ?_
                  exact hQ0b _ eb_b171 (by first | omega | (simp only [show ySeat x3 = x3 from if_neg (by omega)]; omega) | (simp only [show ySeat x3 = Int32.ofInt 8 from if_pos (by omega), show (Int32.ofInt 8).toInt.toNat = 8 from by decide]; omega)) _ _ _ _ _ _ _ hS ((hR0.grow hX).up (Nat.le_succ K) hk6) (hK.x hRo hno hX) hth _ hle_ (by first | rfl | (exact congrArg (fun f => yFz f 9) ((hB.trans hX).n (by omega)).symm)) (hB.trans hX) (by omega) (by omega)
              · refine y_aload_n rfl rfl ?_
                refine y_aload rfl rfl ?_
                refine y_iload_n rfl rfl ?_
                refine y_virt rfl rfl rfl rfl rfl (ySh.t hS rfl) (ySh.n hS rfl) ?_
                have hRG_ : yRI K n tg (upd2 I 83 0 (Int32.ofInt 0)) R := hRo.mod0 rfl (by decide) (by decide)
                have hBG_ : yX n tg (upd2 I 83 0 (Int32.ofInt 0)) R n tg I165 R := hB.trans hX
                refine hx_profit hS hBG_ hlo_b171 (show b171 < n by have := (hRo.l91.2.2.2.2 x1.toInt.toNat (by omega)).2.2.1; rw [eb_b171]; exact this) (by rw [eb_b171]; exact (hRo.l91.2.2.2.2 _ (by omega)).2.2.2) hRG_ (fun J188 hB => ?_)
                have hR1 := (mPrD_ri hRG_ hlo_b171 (show b171 < n by have := (hRo.l91.2.2.2.2 x1.toInt.toNat (by omega)).2.2.1; rw [eb_b171]; exact this) (by rw [eb_b171]; exact (hRo.l91.2.2.2.2 _ (by omega)).2.2.2)).grow hB
                have hK := (mPr_kp hRo hlo_b171 (show b171 < n by have := (hRo.l91.2.2.2.2 x1.toInt.toNat (by omega)).2.2.1; rw [eb_b171]; exact this) (by rw [eb_b171]; exact (hRo.l91.2.2.2.2 _ (by omega)).2.2.2)).x hRo hno hB
                have hnA := hB.1
                have ht_b171 : tg b171 = (21, 0) := (hB.2.1 _ (show b171 < n by have := (hRo.l91.2.2.2.2 x1.toInt.toNat (by omega)).2.2.1; rw [eb_b171]; exact this)).1.trans (by rw [eb_b171]; exact (hRo.l91.2.2.2.2 _ (by omega)).2.2.2)
                have hb_b171 : b171 < n := Nat.lt_of_lt_of_le (show b171 < n by have := (hRo.l91.2.2.2.2 x1.toInt.toNat (by omega)).2.2.1; rw [eb_b171]; exact this) hB.1
                have hb0_b171 := hb_b171
                have hth : J188 83 0 = Int32.ofInt 0 := (congrFun (hB.n (by omega : 83 < n)) 0).trans ((congrFun (mPrD_row (by decide) (by omega)) 0).trans upd2_self)
                have hS0 := hS
                have hR0 := hR1
                have hn := Nat.le_refl n
                have h94 := hS0.1
                have hX := @yX.rf n tg J188 R
                have hS := hS0.x hX
                have hR := hR0.x hn hX
                have hz := hX.sz h94
                have hxn := hX.1
                have hN := hR0.1
                have hnb := hR0.2.2.2.2.2.2
                refine y_ret0 ?_
                refine y_goto rfl j_X14_result_160 ?_
                refine y_aload rfl rfl ?_
                refine y_aload rfl rfl ?_
                obtain ⟨hR_v189, hb_v189, ht_v189⟩ := hR0.ven hlo_b171 hb0_b171 ht_b171 (j := 1) (by decide)
                have hb0_v189 := hb_v189
                have hb_v189 := Nat.lt_of_lt_of_le hb_v189 hn
                have hlo_v189 : 94 ≤ b171 + 1 + 1 := by omega
                have hR2_v189 := (congrFun (hX.2.1 b171 hb_b171).2.2 1).trans hR_v189
                refine y_getR rfl ((hX.2.1 _ hb_b171).1.trans ht_b171) (Nat.lt_of_lt_of_le hb_b171 hX.1) rfl rfl hR2_v189 ?_
                refine y_virt rfl rfl rfl rfl rfl ((hX.2.1 _ hb_b171).1.trans ht_b171) (Nat.lt_of_lt_of_le hb_b171 hX.1) ?_
                refine r_allX ((hX.2.1 _ hb_v189).1.trans ht_v189) (Nat.lt_of_lt_of_le hb_v189 hX.1) (fun v_190 hv_190 => ?_)
                subst hv_190
                refine y_ret1 ?_
                refine y_ireturn rfl rfl rfl ?_
                exact hQ0a _ eb_b171 (by first | omega | (simp only [show ySeat x3 = x3 from if_neg (by omega)]; omega) | (simp only [show ySeat x3 = Int32.ofInt 8 from if_pos (by omega), show (Int32.ofInt 8).toInt.toNat = 8 from by decide]; omega)) _ _ _ _ _ _ _ hS ((hR0.grow hX).up (Nat.le_succ K) hk6) (hK.x hRo hno hX) hth (by first | rfl | (exact congrArg (fun f => yFz f 9) ((hB.trans hX).n (by omega)).symm)) (hB.trans hX) (by omega) (by omega)
            · rw [yz_m2] at h_170
              refine y_aload_n rfl rfl ?_
              refine y_getR rfl (ySh.t hS rfl) (ySh.n hS rfl) rfl rfl (ySh.r hS rfl) ?_
              refine y_iload_n rfl rfl ?_
              refine y_virt rfl rfl rfl rfl rfl (ySh.t hS rfl) (ySh.n hS rfl) ?_
              refine l_get (nb := n) (ySh.t hS rfl) (ySh.n hS rfl) (Nat.le_trans hn hX.1) hR.l91 (by omega) (by omega) (fun b191 eb_b191 hlo_b191 hb0_b191 ht_b191 => ?_)
              have hb_b191 := Nat.lt_of_lt_of_le hb0_b191 hn
              replace ht_b191 := (hX.2.1 _ hb_b191).1.symm.trans ht_b191
              refine y_ret1 ?_
              refine y_cast rfl ((hX.2.1 _ hb_b191).1.trans ht_b191) (Nat.lt_of_lt_of_le hb_b191 hX.1) ?_
              obtain ⟨hR_v192, hb_v192, ht_v192⟩ := hR0.ven hlo_b191 hb0_b191 ht_b191 (j := 0) (by decide)
              have hb0_v192 := hb_v192
              have hb_v192 := Nat.lt_of_lt_of_le hb_v192 hn
              have hlo_v192 : 94 ≤ b191 + 1 + 0 := by omega
              have hR2_v192 := (congrFun (hX.2.1 b191 hb_b191).2.2 0).trans hR_v192
              refine y_getR rfl ((hX.2.1 _ hb_b191).1.trans ht_b191) (Nat.lt_of_lt_of_le hb_b191 hX.1) rfl rfl hR2_v192 ?_
              refine y_iload_n rfl rfl ?_
              refine y_static rfl rfl rfl rfl rfl ?_
              refine y_in (M := xm_X14_seat) (ls := [some _]) rfl rfl rfl ?_
              refine y_iload_n rfl rfl ?_
              refine y_iconst rfl ?_
              refine y_icmp_ne rfl j_X14_seat_10 (fun h_193 => ?_) (fun h_194 => ?_)
              · rw [yz_m1] at h_193
                refine y_iload_n rfl rfl ?_
                refine y_ireturn rfl rfl rfl ?_
                refine y_ret1 ?_
                refine y_baloadv (J := I (b191 + 1 + 0)) rfl ((hX.2.1 _ hb_v192).1.trans ht_v192) rfl (Nat.lt_of_lt_of_le hb_v192 hX.1) (by omega) (by omega) (((hB.trans hX).n (by omega)).trans (by repeat (first | rfl | (rw [upd2_row (by first | decide | omega)]) | refine upd2_cg ?_))) ?_
                refine y_if_ne rfl j_X14_result_94 (fun h_195 => ?_) (fun h_196 => ?_)
                · refine y_iconst rfl ?_
                  refine y_iconst rfl ?_
                  refine y_virt rfl rfl rfl rfl rfl (ySh.t hS rfl) (ySh.n hS rfl) ?_
                  refine y_in (M := xm_X14_refuse) (ls := [some _, some _, some _]) rfl rfl rfl ?_
                  refine y_iload_n rfl rfl ?_
                  refine y_if_eqT rfl j_X14_refuse_16 (by decide) ?_
                  refine y_aload_n rfl rfl ?_
                  refine y_getIv (v := Int32.ofInt (0)) rfl (ySh.t hS rfl) (ySh.n hS rfl) rfl rfl hth ?_
                  refine y_if_leT rfl j_X14_refuse_27 (by decide) ?_
                  refine y_iconst rfl ?_
                  refine y_ireturn rfl rfl rfl ?_
                  refine y_ret1 ?_
                  refine y_if_eqT rfl j_X14_result_104 (by decide) ?_
                  refine y_aload_n rfl rfl ?_
                  refine y_getR rfl (ySh.t hS rfl) (ySh.n hS rfl) rfl rfl (ySh.r hS rfl) ?_
                  refine y_iload_n rfl rfl ?_
                  refine y_virt rfl rfl rfl rfl rfl (ySh.t hS rfl) (ySh.n hS rfl) ?_
                  refine l_get (nb := n) (ySh.t hS rfl) (ySh.n hS rfl) (Nat.le_trans hn hX.1) hR.l91 (by omega) (by omega) (fun c197 eb_c197 _ _ _ => ?_)
                  rw [show c197 = b191 from eb_c197.trans eb_b191.symm]
                  refine y_ret1 ?_
                  refine y_cast rfl ((hX.2.1 _ hb_b191).1.trans ht_b191) (Nat.lt_of_lt_of_le hb_b191 hX.1) ?_
                  refine y_astore (ls' := [some _, some _, some _, some _, some _]) rfl rfl rfl ?_
                  refine y_iload_n rfl rfl ?_
                  refine y_if_lt rfl j_X14_result_131 (fun h_198 => ?_) (fun h_199 => ?_)
                  · refine y_iload_n rfl rfl ?_
                    refine y_bip rfl (by decide) ?_
                    refine y_icmp_ne rfl j_X14_result_147 (fun h_200 => ?_) (fun h_201 => ?_)
                    · rw [yz_m2] at h_200
                      refine y_aload_n rfl rfl ?_
                      refine y_getR rfl (ySh.t hS rfl) (ySh.n hS rfl) rfl rfl (ySh.r hS rfl) ?_
                      refine y_iload_n rfl rfl ?_
                      refine y_static rfl rfl rfl rfl rfl ?_
                      refine y_in (M := xm_X14_seat) (ls := [some _]) rfl rfl rfl ?_
                      refine y_iload_n rfl rfl ?_
                      refine y_iconst rfl ?_
                      refine y_icmp_ne rfl j_X14_seat_10 (fun h_202 => ?_) (fun h_203 => ?_)
                      · rw [yz_m1] at h_202
                        refine y_iload_n rfl rfl ?_
                        refine y_ireturn rfl rfl rfl ?_
                        refine y_ret1 ?_
                        refine y_dup2 rfl rfl rfl ?_
                        refine y_ialoadv (J := I 84) rfl (ySh.t hS rfl) (ySh.n hS rfl) (by omega) (by omega) (((hB.trans hX).n (by omega)).trans (by repeat (first | rfl | (rw [upd2_row (by first | decide | omega)]) | refine upd2_cg ?_))) ?_
                        refine y_iload_n rfl rfl ?_
                        refine y_iadd rfl ?_
                        refine y_iastore rfl (ySh.t hS rfl) (ySh.n hS rfl) (Nat.le_of_ble_eq_true rfl) (by omega) (by omega) ?_
                        refine y_nameI (fun I204 e204 => ?_)
                        have hR1 := (hR0.grow hX).arr e204 (by decide)
                        have hK := (hK.x hRo hno hX).upI (upI e204) (by decide) (by decide) (fun i hi => by have := (hRo.l87.2.2.2.2 i hi).2.1; omega) (by rw [e204, upd2_ne (.inl (by omega))]; exact Int.le_refl _)
                        have hth := (show I204 83 0 = I165 83 0 by rw [e204, upd2_ne (.inl (by omega))]).trans hth
                        have hzz : ySz I165 I204 := ySz_ofE (upI e204) (by omega)
                        have hB := (hB.trans hX).wr e204 rfl
                        have h3k : ∀ k, k ≠ 0 → I204 83 k = I 83 k := fun k hk => (congrFun (congrFun e204 83) k).trans ((upd2_ne (.inl (by omega))).trans ((congrFun (hX.2.1 83 (by omega)).2.1 k).trans (h3k k hk)))
                        have hg := (hg.gx hX (by omega)).skip e204 (by decide)
                        have hday : I204 83 1 = I 83 1 := (congrFun (congrFun e204 83) 1).trans ((upd2_ne (.inl (by omega))).trans ((congrFun (hX.2.1 83 (by omega)).2.1 1).trans hday))
                        have hRb : ∀ a, a < n → R a = R a := fun a ha => (hX.2.1 a (by omega)).2.2.trans (hRb a ha)
                        have hS0 := hS
                        have hR0 := hR1
                        have ht_b191 := (hX.2.1 _ hb_b191).1.trans ht_b191
                        have hb_b191 := Nat.lt_of_lt_of_le hb_b191 hX.1
                        have hb0_b191 := hb_b191
                        have ht_v192 := (hX.2.1 _ hb_v192).1.trans ht_v192
                        have hb_v192 := Nat.lt_of_lt_of_le hb_v192 hX.1
                        have hb0_v192 := hb_v192
                        have hn := Nat.le_refl n
                        have h94 := hS0.1
                        have hX := @yX.rf n tg I204 R
                        have hS := hS0.x hX
                        have hR := hR0.x hn hX
                        have hz := hX.sz h94
                        have hxn := hX.1
                        have hN := hR0.1
                        have hnb := hR0.2.2.2.2.2.2
                        have hthB := hth
                        refine y_aload rfl rfl ?_
                        refine y_aload rfl rfl ?_
                        obtain ⟨hR_v205, hb_v205, ht_v205⟩ := hR0.ven hlo_b191 hb0_b191 ht_b191 (j := 1) (by decide)
                        have hb0_v205 := hb_v205
                        have hb_v205 := Nat.lt_of_lt_of_le hb_v205 hn
                        have hlo_v205 : 94 ≤ b191 + 1 + 1 := by omega
                        have hR2_v205 := (congrFun (hX.2.1 b191 hb_b191).2.2 1).trans hR_v205
                        refine y_getR rfl ((hX.2.1 _ hb_b191).1.trans ht_b191) (Nat.lt_of_lt_of_le hb_b191 hX.1) rfl rfl hR2_v205 ?_
                        refine y_virt rfl rfl rfl rfl rfl ((hX.2.1 _ hb_b191).1.trans ht_b191) (Nat.lt_of_lt_of_le hb_b191 hX.1) ?_
                        refine r_allX ((hX.2.1 _ hb_v205).1.trans ht_v205) (Nat.lt_of_lt_of_le hb_v205 hX.1) (fun v_206 hv_206 => ?_)
                        rw [show I204 (b191 + 1 + 1) = I (b191 + 1 + 1) from (((hB.trans hX).n (by omega)).trans (by repeat (first | rfl | (rw [upd2_row (by first | decide | omega)]) | refine upd2_cg ?_)))] at hv_206
                        subst hv_206
                        refine y_ret1 ?_
                        refine y_ireturn rfl rfl rfl ?_
                        exact hQ0c _ eb_b191 (by first | omega | (simp only [show ySeat x3 = x3 from if_neg (by omega)]; omega) | (simp only [show ySeat x3 = Int32.ofInt 8 from if_pos (by omega), show (Int32.ofInt 8).toInt.toNat = 8 from by decide]; omega)) _ _ _ _ _ _ _ hS ((hR0.grow hX).up (Nat.le_succ K) hk6) (hK.x hRo hno hX) hth (congrArg (fun f => yFz f 9) (((hB.trans hX).n (by omega)).trans (by repeat (first | rfl | (rw [upd2_row (by first | decide | omega)]) | refine upd2_cg ?_))).symm) (by first | (exact hB.trans hX) | (simp only [show ySeat x3 = x3 from if_neg (by omega)]; exact hB.trans hX) | (simp only [show ySeat x3 = Int32.ofInt 8 from if_pos (by omega), show (Int32.ofInt 8).toInt.toNat = 8 from by decide]; exact hB.trans hX)) (by omega) (by omega)
                      · rw [yz_m1] at h_203
                        refine y_bip rfl (by decide) ?_
                        refine y_goto rfl j_X14_seat_11 ?_
                        refine y_ireturn rfl rfl rfl ?_
                        refine y_ret1 ?_
                        refine y_dup2 rfl rfl rfl ?_
                        refine y_ialoadw (j := 8) (J := I 84) rfl (ySh.t hS rfl) (ySh.n hS rfl) (by decide) (by decide) rfl (((hB.trans hX).n (by omega)).trans (by repeat (first | rfl | (rw [upd2_row (by first | decide | omega)]) | refine upd2_cg ?_))) ?_
                        refine y_iload_n rfl rfl ?_
                        refine y_iadd rfl ?_
                        refine y_iastoreC (j := 8) rfl (ySh.t hS rfl) (ySh.n hS rfl) (Nat.le_of_ble_eq_true rfl) (by decide) (by decide) rfl ?_
                        refine y_nameI (fun I207 e207 => ?_)
                        have hR1 := (hR0.grow hX).arr e207 (by decide)
                        have hK := (hK.x hRo hno hX).upI (upI e207) (by decide) (by decide) (fun i hi => by have := (hRo.l87.2.2.2.2 i hi).2.1; omega) (by rw [e207, upd2_ne (.inl (by omega))]; exact Int.le_refl _)
                        have hth := (show I207 83 0 = I165 83 0 by rw [e207, upd2_ne (.inl (by omega))]).trans hth
                        have hzz : ySz I165 I207 := ySz_ofE (upI e207) (by omega)
                        have hB := (hB.trans hX).wr e207 rfl
                        have h3k : ∀ k, k ≠ 0 → I207 83 k = I 83 k := fun k hk => (congrFun (congrFun e207 83) k).trans ((upd2_ne (.inl (by omega))).trans ((congrFun (hX.2.1 83 (by omega)).2.1 k).trans (h3k k hk)))
                        have hg := (hg.gx hX (by omega)).skip e207 (by decide)
                        have hday : I207 83 1 = I 83 1 := (congrFun (congrFun e207 83) 1).trans ((upd2_ne (.inl (by omega))).trans ((congrFun (hX.2.1 83 (by omega)).2.1 1).trans hday))
                        have hRb : ∀ a, a < n → R a = R a := fun a ha => (hX.2.1 a (by omega)).2.2.trans (hRb a ha)
                        have hS0 := hS
                        have hR0 := hR1
                        have ht_b191 := (hX.2.1 _ hb_b191).1.trans ht_b191
                        have hb_b191 := Nat.lt_of_lt_of_le hb_b191 hX.1
                        have hb0_b191 := hb_b191
                        have ht_v192 := (hX.2.1 _ hb_v192).1.trans ht_v192
                        have hb_v192 := Nat.lt_of_lt_of_le hb_v192 hX.1
                        have hb0_v192 := hb_v192
                        have hn := Nat.le_refl n
                        have h94 := hS0.1
                        have hX := @yX.rf n tg I207 R
                        have hS := hS0.x hX
                        have hR := hR0.x hn hX
                        have hz := hX.sz h94
                        have hxn := hX.1
                        have hN := hR0.1
                        have hnb := hR0.2.2.2.2.2.2
                        have hthB := hth
                        refine y_aload rfl rfl ?_
                        refine y_aload rfl rfl ?_
                        obtain ⟨hR_v208, hb_v208, ht_v208⟩ := hR0.ven hlo_b191 hb0_b191 ht_b191 (j := 1) (by decide)
                        have hb0_v208 := hb_v208
                        have hb_v208 := Nat.lt_of_lt_of_le hb_v208 hn
                        have hlo_v208 : 94 ≤ b191 + 1 + 1 := by omega
                        have hR2_v208 := (congrFun (hX.2.1 b191 hb_b191).2.2 1).trans hR_v208
                        refine y_getR rfl ((hX.2.1 _ hb_b191).1.trans ht_b191) (Nat.lt_of_lt_of_le hb_b191 hX.1) rfl rfl hR2_v208 ?_
                        refine y_virt rfl rfl rfl rfl rfl ((hX.2.1 _ hb_b191).1.trans ht_b191) (Nat.lt_of_lt_of_le hb_b191 hX.1) ?_
                        refine r_allX ((hX.2.1 _ hb_v208).1.trans ht_v208) (Nat.lt_of_lt_of_le hb_v208 hX.1) (fun v_209 hv_209 => ?_)
                        rw [show I207 (b191 + 1 + 1) = I (b191 + 1 + 1) from (((hB.trans hX).n (by omega)).trans (by repeat (first | rfl | (rw [upd2_row (by first | decide | omega)]) | refine upd2_cg ?_)))] at hv_209
                        subst hv_209
                        refine y_ret1 ?_
                        refine y_ireturn rfl rfl rfl ?_
                        exact hQ0c _ eb_b191 (by first | omega | (simp only [show ySeat x3 = x3 from if_neg (by omega)]; omega) | (simp only [show ySeat x3 = Int32.ofInt 8 from if_pos (by omega), show (Int32.ofInt 8).toInt.toNat = 8 from by decide]; omega)) _ _ _ _ _ _ _ hS ((hR0.grow hX).up (Nat.le_succ K) hk6) (hK.x hRo hno hX) hth (congrArg (fun f => yFz f 9) (((hB.trans hX).n (by omega)).trans (by repeat (first | rfl | (rw [upd2_row (by first | decide | omega)]) | refine upd2_cg ?_))).symm) (by first | (exact hB.trans hX) | (simp only [show ySeat x3 = x3 from if_neg (by omega)]; exact hB.trans hX) | (simp only [show ySeat x3 = Int32.ofInt 8 from if_pos (by omega), show (Int32.ofInt 8).toInt.toNat = 8 from by decide]; exact hB.trans hX)) (by omega) (by omega)
                    · rw [yz_m2] at h_201
                      refine y_aload rfl rfl ?_
                      refine y_iload_n rfl rfl ?_
                      refine y_ineg rfl ?_
                      refine y_virt rfl rfl rfl rfl rfl ((hX.2.1 _ hb_b191).1.trans ht_b191) (Nat.lt_of_lt_of_le hb_b191 hX.1) ?_
                      have hRG_ : yRI K n tg (upd2 I 83 0 (Int32.ofInt 0)) R := hRo.mod0 rfl (by decide) (by decide)
                      have hBG_ : yX n tg (upd2 I 83 0 (Int32.ofInt 0)) R n tg I165 R := hB.trans hX
                      refine hx_lose hS hBG_ hlo_b191 (show b191 < n by have := (hRo.l91.2.2.2.2 x1.toInt.toNat (by omega)).2.2.1; rw [eb_b191]; exact this) (by rw [eb_b191]; exact (hRo.l91.2.2.2.2 _ (by omega)).2.2.2) hRG_ (yneg2 (by omega) (by omega)).1 (yneg2 (by omega) (by omega)).2 (fun le_ n211 tg211 I211 R211 hle_ hlb_ hS hB => ?_)
                      have hR1 := (mLsD_ri hRG_ hlo_b191 (show b191 < n by have := (hRo.l91.2.2.2.2 x1.toInt.toNat (by omega)).2.2.1; rw [eb_b191]; exact this) (by rw [eb_b191]; exact (hRo.l91.2.2.2.2 _ (by omega)).2.2.2) hlb_).grow hB
                      have hK := (mLs_kp hRo hlo_b191 (show b191 < n by have := (hRo.l91.2.2.2.2 x1.toInt.toNat (by omega)).2.2.1; rw [eb_b191]; exact this) (by rw [eb_b191]; exact (hRo.l91.2.2.2.2 _ (by omega)).2.2.2)).x hRo hno hB
                      have hnA := hB.1
                      have htZ_b191 := (hX.2.1 _ hb_b191).1.trans ht_b191
                      have htZ_v192 := (hX.2.1 _ hb_v192).1.trans ht_v192
                      have ht_b191 : tg211 b191 = (21, 0) := (hB.2.1 _ (show b191 < n by have := (hRo.l91.2.2.2.2 x1.toInt.toNat (by omega)).2.2.1; rw [eb_b191]; exact this)).1.trans (by rw [eb_b191]; exact (hRo.l91.2.2.2.2 _ (by omega)).2.2.2)
                      have hb_b191 : b191 < n211 := Nat.lt_of_lt_of_le (show b191 < n by have := (hRo.l91.2.2.2.2 x1.toInt.toNat (by omega)).2.2.1; rw [eb_b191]; exact this) hB.1
                      have hb0_b191 := hb_b191
                      have hth : I211 83 0 = Int32.ofInt 0 := (congrFun (hB.n (by omega : 83 < n)) 0).trans ((congrFun (mLsD_row (by omega)) 0).trans upd2_self)
                      have hS0 := hS
                      have hR0 := hR1
                      have hn := Nat.le_refl n211
                      have h94 := hS0.1
                      have hX := @yX.rf n211 tg211 I211 R211
                      have hS := hS0.x hX
                      have hR := hR0.x hn hX
                      have hz := hX.sz h94
                      have hxn := hX.1
                      have hN := hR0.1
                      have hnb := hR0.2.2.2.2.2.2
                      refine y_ret0 ?_
                      refine y_goto rfl j_X14_result_160 ?_
                      refine y_aload rfl rfl ?_
                      refine y_aload rfl rfl ?_
                      obtain ⟨hR_v212, hb_v212, ht_v212⟩ := hR0.ven hlo_b191 hb0_b191 ht_b191 (j := 1) (by decide)
                      have hb0_v212 := hb_v212
                      have hb_v212 := Nat.lt_of_lt_of_le hb_v212 hn
                      have hlo_v212 : 94 ≤ b191 + 1 + 1 := by omega
                      have hR2_v212 := (congrFun (hX.2.1 b191 hb_b191).2.2 1).trans hR_v212
                      refine y_getR rfl ((hX.2.1 _ hb_b191).1.trans ht_b191) (Nat.lt_of_lt_of_le hb_b191 hX.1) rfl rfl hR2_v212 ?_
                      refine y_virt rfl rfl rfl rfl rfl ((hX.2.1 _ hb_b191).1.trans ht_b191) (Nat.lt_of_lt_of_le hb_b191 hX.1) ?_
                      refine r_allX ((hX.2.1 _ hb_v212).1.trans ht_v212) (Nat.lt_of_lt_of_le hb_v212 hX.1) (fun v_213 hv_213 => ?_)
                      subst hv_213
                      refine y_ret1 ?_
                      refine y_ireturn rfl rfl rfl ?_
                      exact hQ0b _ eb_b191 (by first | omega | (simp only [show ySeat x3 = x3 from if_neg (by omega)]; omega) | (simp only [show ySeat x3 = Int32.ofInt 8 from if_pos (by omega), show (Int32.ofInt 8).toInt.toNat = 8 from by decide]; omega)) _ _ _ _ _ _ _ hS ((hR0.grow hX).up (Nat.le_succ K) hk6) (hK.x hRo hno hX) hth _ hle_ (by first | rfl | (exact congrArg (fun f => yFz f 9) ((hB.trans hX).n (by omega)).symm)) (hB.trans hX) (by omega) (by omega)
                  · refine y_aload_n rfl rfl ?_
                    refine y_aload rfl rfl ?_
                    refine y_iload_n rfl rfl ?_
                    refine y_virt rfl rfl rfl rfl rfl (ySh.t hS rfl) (ySh.n hS rfl) ?_
                    have hRG_ : yRI K n tg (upd2 I 83 0 (Int32.ofInt 0)) R := hRo.mod0 rfl (by decide) (by decide)
                    have hBG_ : yX n tg (upd2 I 83 0 (Int32.ofInt 0)) R n tg I165 R := hB.trans hX
                    refine hx_profit hS hBG_ hlo_b191 (show b191 < n by have := (hRo.l91.2.2.2.2 x1.toInt.toNat (by omega)).2.2.1; rw [eb_b191]; exact this) (by rw [eb_b191]; exact (hRo.l91.2.2.2.2 _ (by omega)).2.2.2) hRG_ (fun J214 hB => ?_)
                    have hR1 := (mPrD_ri hRG_ hlo_b191 (show b191 < n by have := (hRo.l91.2.2.2.2 x1.toInt.toNat (by omega)).2.2.1; rw [eb_b191]; exact this) (by rw [eb_b191]; exact (hRo.l91.2.2.2.2 _ (by omega)).2.2.2)).grow hB
                    have hK := (mPr_kp hRo hlo_b191 (show b191 < n by have := (hRo.l91.2.2.2.2 x1.toInt.toNat (by omega)).2.2.1; rw [eb_b191]; exact this) (by rw [eb_b191]; exact (hRo.l91.2.2.2.2 _ (by omega)).2.2.2)).x hRo hno hB
                    have hnA := hB.1
                    have ht_b191 : tg b191 = (21, 0) := (hB.2.1 _ (show b191 < n by have := (hRo.l91.2.2.2.2 x1.toInt.toNat (by omega)).2.2.1; rw [eb_b191]; exact this)).1.trans (by rw [eb_b191]; exact (hRo.l91.2.2.2.2 _ (by omega)).2.2.2)
                    have hb_b191 : b191 < n := Nat.lt_of_lt_of_le (show b191 < n by have := (hRo.l91.2.2.2.2 x1.toInt.toNat (by omega)).2.2.1; rw [eb_b191]; exact this) hB.1
                    have hb0_b191 := hb_b191
                    have hth : J214 83 0 = Int32.ofInt 0 := (congrFun (hB.n (by omega : 83 < n)) 0).trans ((congrFun (mPrD_row (by decide) (by omega)) 0).trans upd2_self)
                    have hS0 := hS
                    have hR0 := hR1
                    have hn := Nat.le_refl n
                    have h94 := hS0.1
                    have hX := @yX.rf n tg J214 R
                    have hS := hS0.x hX
                    have hR := hR0.x hn hX
                    have hz := hX.sz h94
                    have hxn := hX.1
                    have hN := hR0.1
                    have hnb := hR0.2.2.2.2.2.2
                    refine y_ret0 ?_
                    refine y_goto rfl j_X14_result_160 ?_
                    refine y_aload rfl rfl ?_
                    refine y_aload rfl rfl ?_
                    obtain ⟨hR_v215, hb_v215, ht_v215⟩ := hR0.ven hlo_b191 hb0_b191 ht_b191 (j := 1) (by decide)
                    have hb0_v215 := hb_v215
                    have hb_v215 := Nat.lt_of_lt_of_le hb_v215 hn
                    have hlo_v215 : 94 ≤ b191 + 1 + 1 := by omega
                    have hR2_v215 := (congrFun (hX.2.1 b191 hb_b191).2.2 1).trans hR_v215
                    refine y_getR rfl ((hX.2.1 _ hb_b191).1.trans ht_b191) (Nat.lt_of_lt_of_le hb_b191 hX.1) rfl rfl hR2_v215 ?_
                    refine y_virt rfl rfl rfl rfl rfl ((hX.2.1 _ hb_b191).1.trans ht_b191) (Nat.lt_of_lt_of_le hb_b191 hX.1) ?_
                    refine r_allX ((hX.2.1 _ hb_v215).1.trans ht_v215) (Nat.lt_of_lt_of_le hb_v215 hX.1) (fun v_216 hv_216 => ?_)
                    subst hv_216
                    refine y_ret1 ?_
                    refine y_ireturn rfl rfl rfl ?_
                    exact hQ0a _ eb_b191 (by first | omega | (simp only [show ySeat x3 = x3 from if_neg (by omega)]; omega) | (simp only [show ySeat x3 = Int32.ofInt 8 from if_pos (by omega), show (Int32.ofInt 8).toInt.toNat = 8 from by decide]; omega)) _ _ _ _ _ _ _ hS ((hR0.grow hX).up (Nat.le_succ K) hk6) (hK.x hRo hno hX) hth (by first | rfl | (exact congrArg (fun f => yFz f 9) ((hB.trans hX).n (by omega)).symm)) (hB.trans hX) (by omega) (by omega)
                · refine y_iconst rfl ?_
                  refine y_goto rfl j_X14_result_95 ?_
                  refine y_iconst rfl ?_
                  refine y_virt rfl rfl rfl rfl rfl (ySh.t hS rfl) (ySh.n hS rfl) ?_
                  refine y_in (M := xm_X14_refuse) (ls := [some _, some _, some _]) rfl rfl rfl ?_
                  refine y_iload_n rfl rfl ?_
                  refine y_if_eqF rfl (by decide) ?_
                  refine y_aload_n rfl rfl ?_
                  refine y_getIv (v := Int32.ofInt (0)) rfl (ySh.t hS rfl) (ySh.n hS rfl) rfl rfl hth ?_
                  refine y_if_neF rfl (by decide) ?_
                  refine y_aload_n rfl rfl ?_
                  refine y_iload_n rfl rfl ?_
                  refine y_putI rfl (ySh.t hS rfl) (ySh.n hS rfl) rfl (Nat.le_of_ble_eq_true rfl) rfl rfl ?_
                  refine y_nameI (fun I217 e217 => ?_)
                  have hR1 := (hR0.grow hX).mod0 e217 (by decide) (by decide)
                  have hK := (hK.x hRo hno hX).upI (upI e217) (by decide) (by decide) (fun i hi => by have := (hRo.l87.2.2.2.2 i hi).2.1; omega) (by rw [e217, upd2_ne (.inr (by decide))]; exact Int.le_refl _)
                  have hth : I217 83 0 = Int32.ofInt (3) := by rw [e217, upd2_self]
                  have hzz : ySz8 I165 I217 := ySz8_of (upI e217) (by rw [e217]; exact ⟨upd2_ne (.inr (by decide)), upd2_ne (.inr (by decide))⟩)
                  have hB := (hB.trans hX).wr e217 rfl
                  have h8 : ∀ a, 84 ≤ a → a ≤ 86 → I217 a = I a := fun a h1 h2 => (upI e217 a (by omega)).trans ((hX.2.1 a (by omega)).2.1.trans (h8 a h1 h2))
                  have h3k : ∀ k, k ≠ 0 → I217 83 k = I 83 k := fun k hk => (congrFun (congrFun e217 83) k).trans ((upd2_ne (.inr hk)).trans ((congrFun (hX.2.1 83 (by omega)).2.1 k).trans (h3k k hk)))
                  have hg := (hg.gx hX (by omega)).skip e217 (by decide)
                  have hday : I217 83 1 = I 83 1 := (congrFun (congrFun e217 83) 1).trans ((upd2_ne (.inr (by decide))).trans ((congrFun (hX.2.1 83 (by omega)).2.1 1).trans hday))
                  have hRb : ∀ a, a < n → R a = R a := fun a ha => (hX.2.1 a (by omega)).2.2.trans (hRb a ha)
                  have hb83 : ∀ a, a ≠ 83 → a < n → I217 a = I a := fun a ha hb => (upI e217 a ha).trans ((hX.2.1 a (by omega)).2.1.trans (hb83 a ha hb))
                  have hS0 := hS
                  have hR0 := hR1
                  have ht_b191 := (hX.2.1 _ hb_b191).1.trans ht_b191
                  have hb_b191 := Nat.lt_of_lt_of_le hb_b191 hX.1
                  have hb0_b191 := hb_b191
                  have ht_v192 := (hX.2.1 _ hb_v192).1.trans ht_v192
                  have hb_v192 := Nat.lt_of_lt_of_le hb_v192 hX.1
                  have hb0_v192 := hb_v192
                  have hn := Nat.le_refl n
                  have h94 := hS0.1
                  have hX := @yX.rf n tg I217 R
                  have hS := hS0.x hX
                  have hR := hR0.x hn hX
                  have hz := hX.sz h94
                  have hxn := hX.1
                  have hN := hR0.1
                  have hnb := hR0.2.2.2.2.2.2
                  have hthB := hth
                  refine y_aload_n rfl rfl ?_
                  refine y_getIv (v := Int32.ofInt (3)) rfl (ySh.t hS rfl) (ySh.n hS rfl) rfl rfl hth ?_
                  refine y_if_leF rfl (by decide) ?_
                  refine y_iconst rfl ?_
                  refine y_goto rfl j_X14_refuse_28 ?_
                  refine y_ireturn rfl rfl rfl ?_
                  refine y_ret1 ?_
                  refine y_if_eqF rfl (by decide) ?_
                  refine y_iconst rfl ?_
                  refine y_ireturn rfl rfl rfl ?_
                  exact hQ3 _ eb_b191 (by first | omega | (simp only [show ySeat x3 = x3 from if_neg (by omega)]; omega) | (simp only [show ySeat x3 = Int32.ofInt 8 from if_pos (by omega), show (Int32.ofInt 8).toInt.toNat = 8 from by decide]; omega)) _ _ _ _ _ _ _ hS ((hR0.grow hX).up (Nat.le_succ K) hk6) (hK.x hRo hno hX) hth ((hB.trans hX).rf2 (by omega)) (by omega) (by omega)
              · rw [yz_m1] at h_194
                refine y_bip rfl (by decide) ?_
                refine y_goto rfl j_X14_seat_11 ?_
                refine y_ireturn rfl rfl rfl ?_
                refine y_ret1 ?_
                refine y_baloadw (j := 8) (J := I (b191 + 1 + 0)) rfl ((hX.2.1 _ hb_v192).1.trans ht_v192) rfl (Nat.lt_of_lt_of_le hb_v192 hX.1) (by decide) (by decide) rfl (((hB.trans hX).n (by omega)).trans (by repeat (first | rfl | (rw [upd2_row (by first | decide | omega)]) | refine upd2_cg ?_))) ?_
                refine y_if_ne rfl j_X14_result_94 (fun h_218 => ?_) (fun h_219 => ?_)
                · refine y_iconst rfl ?_
                  refine y_iconst rfl ?_
                  refine y_virt rfl rfl rfl rfl rfl (ySh.t hS rfl) (ySh.n hS rfl) ?_
                  refine y_in (M := xm_X14_refuse) (ls := [some _, some _, some _]) rfl rfl rfl ?_
                  refine y_iload_n rfl rfl ?_
                  refine y_if_eqT rfl j_X14_refuse_16 (by decide) ?_
                  refine y_aload_n rfl rfl ?_
                  refine y_getIv (v := Int32.ofInt (0)) rfl (ySh.t hS rfl) (ySh.n hS rfl) rfl rfl hth ?_
                  refine y_if_leT rfl j_X14_refuse_27 (by decide) ?_
                  refine y_iconst rfl ?_
                  refine y_ireturn rfl rfl rfl ?_
                  refine y_ret1 ?_
                  refine y_if_eqT rfl j_X14_result_104 (by decide) ?_
                  refine y_aload_n rfl rfl ?_
                  refine y_getR rfl (ySh.t hS rfl) (ySh.n hS rfl) rfl rfl (ySh.r hS rfl) ?_
                  refine y_iload_n rfl rfl ?_
                  refine y_virt rfl rfl rfl rfl rfl (ySh.t hS rfl) (ySh.n hS rfl) ?_
                  refine l_get (nb := n) (ySh.t hS rfl) (ySh.n hS rfl) (Nat.le_trans hn hX.1) hR.l91 (by omega) (by omega) (fun c220 eb_c220 _ _ _ => ?_)
                  rw [show c220 = b191 from eb_c220.trans eb_b191.symm]
                  refine y_ret1 ?_
                  refine y_cast rfl ((hX.2.1 _ hb_b191).1.trans ht_b191) (Nat.lt_of_lt_of_le hb_b191 hX.1) ?_
                  refine y_astore (ls' := [some _, some _, some _, some _, some _]) rfl rfl rfl ?_
                  refine y_iload_n rfl rfl ?_
                  refine y_if_lt rfl j_X14_result_131 (fun h_221 => ?_) (fun h_222 => ?_)
                  · refine y_iload_n rfl rfl ?_
                    refine y_bip rfl (by decide) ?_
                    refine y_icmp_ne rfl j_X14_result_147 (fun h_223 => ?_) (fun h_224 => ?_)
                    · rw [yz_m2] at h_223
                      refine y_aload_n rfl rfl ?_
                      refine y_getR rfl (ySh.t hS rfl) (ySh.n hS rfl) rfl rfl (ySh.r hS rfl) ?_
                      refine y_iload_n rfl rfl ?_
                      refine y_static rfl rfl rfl rfl rfl ?_
                      refine y_in (M := xm_X14_seat) (ls := [some _]) rfl rfl rfl ?_
                      refine y_iload_n rfl rfl ?_
                      refine y_iconst rfl ?_
                      refine y_icmp_ne rfl j_X14_seat_10 (fun h_225 => ?_) (fun h_226 => ?_)
                      · rw [yz_m1] at h_225
                        refine y_iload_n rfl rfl ?_
                        refine y_ireturn rfl rfl rfl ?_
                        refine y_ret1 ?_
                        refine y_dup2 rfl rfl rfl ?_
                        refine y_ialoadv (J := I 84) rfl (ySh.t hS rfl) (ySh.n hS rfl) (by omega) (by omega) (((hB.trans hX).n (by omega)).trans (by repeat (first | rfl | (rw [upd2_row (by first | decide | omega)]) | refine upd2_cg ?_))) ?_
                        refine y_iload_n rfl rfl ?_
                        refine y_iadd rfl ?_
                        refine y_iastore rfl (ySh.t hS rfl) (ySh.n hS rfl) (Nat.le_of_ble_eq_true rfl) (by omega) (by omega) ?_
                        refine y_nameI (fun I227 e227 => ?_)
                        have hR1 := (hR0.grow hX).arr e227 (by decide)
                        have hK := (hK.x hRo hno hX).upI (upI e227) (by decide) (by decide) (fun i hi => by have := (hRo.l87.2.2.2.2 i hi).2.1; omega) (by rw [e227, upd2_ne (.inl (by omega))]; exact Int.le_refl _)
                        have hth := (show I227 83 0 = I165 83 0 by rw [e227, upd2_ne (.inl (by omega))]).trans hth
                        have hzz : ySz I165 I227 := ySz_ofE (upI e227) (by omega)
                        have hB := (hB.trans hX).wr e227 rfl
                        have h3k : ∀ k, k ≠ 0 → I227 83 k = I 83 k := fun k hk => (congrFun (congrFun e227 83) k).trans ((upd2_ne (.inl (by omega))).trans ((congrFun (hX.2.1 83 (by omega)).2.1 k).trans (h3k k hk)))
                        have hg := (hg.gx hX (by omega)).skip e227 (by decide)
                        have hday : I227 83 1 = I 83 1 := (congrFun (congrFun e227 83) 1).trans ((upd2_ne (.inl (by omega))).trans ((congrFun (hX.2.1 83 (by omega)).2.1 1).trans hday))
                        have hRb : ∀ a, a < n → R a = R a := fun a ha => (hX.2.1 a (by omega)).2.2.trans (hRb a ha)
                        have hS0 := hS
                        have hR0 := hR1
                        have ht_b191 := (hX.2.1 _ hb_b191).1.trans ht_b191
                        have hb_b191 := Nat.lt_of_lt_of_le hb_b191 hX.1
                        have hb0_b191 := hb_b191
                        have ht_v192 := (hX.2.1 _ hb_v192).1.trans ht_v192
                        have hb_v192 := Nat.lt_of_lt_of_le hb_v192 hX.1
                        have hb0_v192 := hb_v192
                        have hn := Nat.le_refl n
                        have h94 := hS0.1
                        have hX := @yX.rf n tg I227 R
                        have hS := hS0.x hX
                        have hR := hR0.x hn hX
                        have hz := hX.sz h94
                        have hxn := hX.1
                        have hN := hR0.1
                        have hnb := hR0.2.2.2.2.2.2
                        have hthB := hth
                        refine y_aload rfl rfl ?_
                        refine y_aload rfl rfl ?_
                        obtain ⟨hR_v228, hb_v228, ht_v228⟩ := hR0.ven hlo_b191 hb0_b191 ht_b191 (j := 1) (by decide)
                        have hb0_v228 := hb_v228
                        have hb_v228 := Nat.lt_of_lt_of_le hb_v228 hn
                        have hlo_v228 : 94 ≤ b191 + 1 + 1 := by omega
                        have hR2_v228 := (congrFun (hX.2.1 b191 hb_b191).2.2 1).trans hR_v228
                        refine y_getR rfl ((hX.2.1 _ hb_b191).1.trans ht_b191) (Nat.lt_of_lt_of_le hb_b191 hX.1) rfl rfl hR2_v228 ?_
                        refine y_virt rfl rfl rfl rfl rfl ((hX.2.1 _ hb_b191).1.trans ht_b191) (Nat.lt_of_lt_of_le hb_b191 hX.1) ?_
                        refine r_allX ((hX.2.1 _ hb_v228).1.trans ht_v228) (Nat.lt_of_lt_of_le hb_v228 hX.1) (fun v_229 hv_229 => ?_)
                        rw [show I227 (b191 + 1 + 1) = I (b191 + 1 + 1) from (((hB.trans hX).n (by omega)).trans (by repeat (first | rfl | (rw [upd2_row (by first | decide | omega)]) | refine upd2_cg ?_)))] at hv_229
                        subst hv_229
                        refine y_ret1 ?_
                        refine y_ireturn rfl rfl rfl ?_
                        exact hQ0c _ eb_b191 (by first | omega | (simp only [show ySeat x3 = x3 from if_neg (by omega)]; omega) | (simp only [show ySeat x3 = Int32.ofInt 8 from if_pos (by omega), show (Int32.ofInt 8).toInt.toNat = 8 from by decide]; omega)) _ _ _ _ _ _ _ hS ((hR0.grow hX).up (Nat.le_succ K) hk6) (hK.x hRo hno hX) hth (congrArg (fun f => yFz f 9) (((hB.trans hX).n (by omega)).trans (by repeat (first | rfl | (rw [upd2_row (by first | decide | omega)]) | refine upd2_cg ?_))).symm) (by first | (exact hB.trans hX) | (simp only [show ySeat x3 = x3 from if_neg (by omega)]; exact hB.trans hX) | (simp only [show ySeat x3 = Int32.ofInt 8 from if_pos (by omega), show (Int32.ofInt 8).toInt.toNat = 8 from by decide]; exact hB.trans hX)) (by omega) (by omega)
                      · rw [yz_m1] at h_226
                        refine y_bip rfl (by decide) ?_
                        refine y_goto rfl j_X14_seat_11 ?_
                        refine y_ireturn rfl rfl rfl ?_
                        refine y_ret1 ?_
                        refine y_dup2 rfl rfl rfl ?_
                        refine y_ialoadw (j := 8) (J := I 84) rfl (ySh.t hS rfl) (ySh.n hS rfl) (by decide) (by decide) rfl (((hB.trans hX).n (by omega)).trans (by repeat (first | rfl | (rw [upd2_row (by first | decide | omega)]) | refine upd2_cg ?_))) ?_
                        refine y_iload_n rfl rfl ?_
                        refine y_iadd rfl ?_
                        refine y_iastoreC (j := 8) rfl (ySh.t hS rfl) (ySh.n hS rfl) (Nat.le_of_ble_eq_true rfl) (by decide) (by decide) rfl ?_
                        refine y_nameI (fun I230 e230 => ?_)
                        have hR1 := (hR0.grow hX).arr e230 (by decide)
                        have hK := (hK.x hRo hno hX).upI (upI e230) (by decide) (by decide) (fun i hi => by have := (hRo.l87.2.2.2.2 i hi).2.1; omega) (by rw [e230, upd2_ne (.inl (by omega))]; exact Int.le_refl _)
                        have hth := (show I230 83 0 = I165 83 0 by rw [e230, upd2_ne (.inl (by omega))]).trans hth
                        have hzz : ySz I165 I230 := ySz_ofE (upI e230) (by omega)
                        have hB := (hB.trans hX).wr e230 rfl
                        have h3k : ∀ k, k ≠ 0 → I230 83 k = I 83 k := fun k hk => (congrFun (congrFun e230 83) k).trans ((upd2_ne (.inl (by omega))).trans ((congrFun (hX.2.1 83 (by omega)).2.1 k).trans (h3k k hk)))
                        have hg := (hg.gx hX (by omega)).skip e230 (by decide)
                        have hday : I230 83 1 = I 83 1 := (congrFun (congrFun e230 83) 1).trans ((upd2_ne (.inl (by omega))).trans ((congrFun (hX.2.1 83 (by omega)).2.1 1).trans hday))
                        have hRb : ∀ a, a < n → R a = R a := fun a ha => (hX.2.1 a (by omega)).2.2.trans (hRb a ha)
                        have hS0 := hS
                        have hR0 := hR1
                        have ht_b191 := (hX.2.1 _ hb_b191).1.trans ht_b191
                        have hb_b191 := Nat.lt_of_lt_of_le hb_b191 hX.1
                        have hb0_b191 := hb_b191
                        have ht_v192 := (hX.2.1 _ hb_v192).1.trans ht_v192
                        have hb_v192 := Nat.lt_of_lt_of_le hb_v192 hX.1
                        have hb0_v192 := hb_v192
                        have hn := Nat.le_refl n
                        have h94 := hS0.1
                        have hX := @yX.rf n tg I230 R
                        have hS := hS0.x hX
                        have hR := hR0.x hn hX
                        have hz := hX.sz h94
                        have hxn := hX.1
                        have hN := hR0.1
                        have hnb := hR0.2.2.2.2.2.2
                        have hthB := hth
                        refine y_aload rfl rfl ?_
                        refine y_aload rfl rfl ?_
                        obtain ⟨hR_v231, hb_v231, ht_v231⟩ := hR0.ven hlo_b191 hb0_b191 ht_b191 (j := 1) (by decide)
                        have hb0_v231 := hb_v231
                        have hb_v231 := Nat.lt_of_lt_of_le hb_v231 hn
                        have hlo_v231 : 94 ≤ b191 + 1 + 1 := by omega
                        have hR2_v231 := (congrFun (hX.2.1 b191 hb_b191).2.2 1).trans hR_v231
                        refine y_getR rfl ((hX.2.1 _ hb_b191).1.trans ht_b191) (Nat.lt_of_lt_of_le hb_b191 hX.1) rfl rfl hR2_v231 ?_
                        refine y_virt rfl rfl rfl rfl rfl ((hX.2.1 _ hb_b191).1.trans ht_b191) (Nat.lt_of_lt_of_le hb_b191 hX.1) ?_
                        refine r_allX ((hX.2.1 _ hb_v231).1.trans ht_v231) (Nat.lt_of_lt_of_le hb_v231 hX.1) (fun v_232 hv_232 => ?_)
                        rw [show I230 (b191 + 1 + 1) = I (b191 + 1 + 1) from (((hB.trans hX).n (by omega)).trans (by repeat (first | rfl | (rw [upd2_row (by first | decide | omega)]) | refine upd2_cg ?_)))] at hv_232
                        subst hv_232
                        refine y_ret1 ?_
                        refine y_ireturn rfl rfl rfl ?_
                        exact hQ0c _ eb_b191 (by first | omega | (simp only [show ySeat x3 = x3 from if_neg (by omega)]; omega) | (simp only [show ySeat x3 = Int32.ofInt 8 from if_pos (by omega), show (Int32.ofInt 8).toInt.toNat = 8 from by decide]; omega)) _ _ _ _ _ _ _ hS ((hR0.grow hX).up (Nat.le_succ K) hk6) (hK.x hRo hno hX) hth (congrArg (fun f => yFz f 9) (((hB.trans hX).n (by omega)).trans (by repeat (first | rfl | (rw [upd2_row (by first | decide | omega)]) | refine upd2_cg ?_))).symm) (by first | (exact hB.trans hX) | (simp only [show ySeat x3 = x3 from if_neg (by omega)]; exact hB.trans hX) | (simp only [show ySeat x3 = Int32.ofInt 8 from if_pos (by omega), show (Int32.ofInt 8).toInt.toNat = 8 from by decide]; exact hB.trans hX)) (by omega) (by omega)
                    · rw [yz_m2] at h_224
                      refine y_aload rfl rfl ?_
                      refine y_iload_n rfl rfl ?_
                      refine y_ineg rfl ?_
                      refine y_virt rfl rfl rfl rfl rfl ((hX.2.1 _ hb_b191).1.trans ht_b191) (Nat.lt_of_lt_of_le hb_b191 hX.1) ?_
                      have hRG_ : yRI K n tg (upd2 I 83 0 (Int32.ofInt 0)) R := hRo.mod0 rfl (by decide) (by decide)
                      have hBG_ : yX n tg (upd2 I 83 0 (Int32.ofInt 0)) R n tg I165 R := hB.trans hX
                      refine hx_lose hS hBG_ hlo_b191 (show b191 < n by have := (hRo.l91.2.2.2.2 x1.toInt.toNat (by omega)).2.2.1; rw [eb_b191]; exact this) (by rw [eb_b191]; exact (hRo.l91.2.2.2.2 _ (by omega)).2.2.2) hRG_ (yneg2 (by omega) (by omega)).1 (yneg2 (by omega) (by omega)).2 (fun le_ n234 tg234 I234 R234 hle_ hlb_ hS hB => ?_)
                      have hR1 := (mLsD_ri hRG_ hlo_b191 (show b191 < n by have := (hRo.l91.2.2.2.2 x1.toInt.toNat (by omega)).2.2.1; rw [eb_b191]; exact this) (by rw [eb_b191]; exact (hRo.l91.2.2.2.2 _ (by omega)).2.2.2) hlb_).grow hB
                      have hK := (mLs_kp hRo hlo_b191 (show b191 < n by have := (hRo.l91.2.2.2.2 x1.toInt.toNat (by omega)).2.2.1; rw [eb_b191]; exact this) (by rw [eb_b191]; exact (hRo.l91.2.2.2.2 _ (by omega)).2.2.2)).x hRo hno hB
                      have hnA := hB.1
                      have htZ_b191 := (hX.2.1 _ hb_b191).1.trans ht_b191
                      have htZ_v192 := (hX.2.1 _ hb_v192).1.trans ht_v192
                      have ht_b191 : tg234 b191 = (21, 0) := (hB.2.1 _ (show b191 < n by have := (hRo.l91.2.2.2.2 x1.toInt.toNat (by omega)).2.2.1; rw [eb_b191]; exact this)).1.trans (by rw [eb_b191]; exact (hRo.l91.2.2.2.2 _ (by omega)).2.2.2)
                      have hb_b191 : b191 < n234 := Nat.lt_of_lt_of_le (show b191 < n by have := (hRo.l91.2.2.2.2 x1.toInt.toNat (by omega)).2.2.1; rw [eb_b191]; exact this) hB.1
                      have hb0_b191 := hb_b191
                      have hth : I234 83 0 = Int32.ofInt 0 := (congrFun (hB.n (by omega : 83 < n)) 0).trans ((congrFun (mLsD_row (by omega)) 0).trans upd2_self)
                      have hS0 := hS
                      have hR0 := hR1
                      have hn := Nat.le_refl n234
                      have h94 := hS0.1
                      have hX := @yX.rf n234 tg234 I234 R234
                      have hS := hS0.x hX
                      have hR := hR0.x hn hX
                      have hz := hX.sz h94
                      have hxn := hX.1
                      have hN := hR0.1
                      have hnb := hR0.2.2.2.2.2.2
                      refine y_ret0 ?_
                      refine y_goto rfl j_X14_result_160 ?_
                      refine y_aload rfl rfl ?_
                      refine y_aload rfl rfl ?_
                      obtain ⟨hR_v235, hb_v235, ht_v235⟩ := hR0.ven hlo_b191 hb0_b191 ht_b191 (j := 1) (by decide)
                      have hb0_v235 := hb_v235
                      have hb_v235 := Nat.lt_of_lt_of_le hb_v235 hn
                      have hlo_v235 : 94 ≤ b191 + 1 + 1 := by omega
                      have hR2_v235 := (congrFun (hX.2.1 b191 hb_b191).2.2 1).trans hR_v235
                      refine y_getR rfl ((hX.2.1 _ hb_b191).1.trans ht_b191) (Nat.lt_of_lt_of_le hb_b191 hX.1) rfl rfl hR2_v235 ?_
                      refine y_virt rfl rfl rfl rfl rfl ((hX.2.1 _ hb_b191).1.trans ht_b191) (Nat.lt_of_lt_of_le hb_b191 hX.1) ?_
                      refine r_allX ((hX.2.1 _ hb_v235).1.trans ht_v235) (Nat.lt_of_lt_of_le hb_v235 hX.1) (fun v_236 hv_236 => ?_)
                      subst hv_236
                      refine y_ret1 ?_
                      refine y_ireturn rfl rfl rfl ?_
                      exact hQ0b _ eb_b191 (by first | omega | (simp only [show ySeat x3 = x3 from if_neg (by omega)]; omega) | (simp only [show ySeat x3 = Int32.ofInt 8 from if_pos (by omega), show (Int32.ofInt 8).toInt.toNat = 8 from by decide]; omega)) _ _ _ _ _ _ _ hS ((hR0.grow hX).up (Nat.le_succ K) hk6) (hK.x hRo hno hX) hth _ hle_ (by first | rfl | (exact congrArg (fun f => yFz f 9) ((hB.trans hX).n (by omega)).symm)) (hB.trans hX) (by omega) (by omega)
                  · refine y_aload_n rfl rfl ?_
                    refine y_aload rfl rfl ?_
                    refine y_iload_n rfl rfl ?_
                    refine y_virt rfl rfl rfl rfl rfl (ySh.t hS rfl) (ySh.n hS rfl) ?_
                    have hRG_ : yRI K n tg (upd2 I 83 0 (Int32.ofInt 0)) R := hRo.mod0 rfl (by decide) (by decide)
                    have hBG_ : yX n tg (upd2 I 83 0 (Int32.ofInt 0)) R n tg I165 R := hB.trans hX
                    refine hx_profit hS hBG_ hlo_b191 (show b191 < n by have := (hRo.l91.2.2.2.2 x1.toInt.toNat (by omega)).2.2.1; rw [eb_b191]; exact this) (by rw [eb_b191]; exact (hRo.l91.2.2.2.2 _ (by omega)).2.2.2) hRG_ (fun J237 hB => ?_)
                    have hR1 := (mPrD_ri hRG_ hlo_b191 (show b191 < n by have := (hRo.l91.2.2.2.2 x1.toInt.toNat (by omega)).2.2.1; rw [eb_b191]; exact this) (by rw [eb_b191]; exact (hRo.l91.2.2.2.2 _ (by omega)).2.2.2)).grow hB
                    have hK := (mPr_kp hRo hlo_b191 (show b191 < n by have := (hRo.l91.2.2.2.2 x1.toInt.toNat (by omega)).2.2.1; rw [eb_b191]; exact this) (by rw [eb_b191]; exact (hRo.l91.2.2.2.2 _ (by omega)).2.2.2)).x hRo hno hB
                    have hnA := hB.1
                    have ht_b191 : tg b191 = (21, 0) := (hB.2.1 _ (show b191 < n by have := (hRo.l91.2.2.2.2 x1.toInt.toNat (by omega)).2.2.1; rw [eb_b191]; exact this)).1.trans (by rw [eb_b191]; exact (hRo.l91.2.2.2.2 _ (by omega)).2.2.2)
                    have hb_b191 : b191 < n := Nat.lt_of_lt_of_le (show b191 < n by have := (hRo.l91.2.2.2.2 x1.toInt.toNat (by omega)).2.2.1; rw [eb_b191]; exact this) hB.1
                    have hb0_b191 := hb_b191
                    have hth : J237 83 0 = Int32.ofInt 0 := (congrFun (hB.n (by omega : 83 < n)) 0).trans ((congrFun (mPrD_row (by decide) (by omega)) 0).trans upd2_self)
                    have hS0 := hS
                    have hR0 := hR1
                    have hn := Nat.le_refl n
                    have h94 := hS0.1
                    have hX := @yX.rf n tg J237 R
                    have hS := hS0.x hX
                    have hR := hR0.x hn hX
                    have hz := hX.sz h94
                    have hxn := hX.1
                    have hN := hR0.1
                    have hnb := hR0.2.2.2.2.2.2
                    refine y_ret0 ?_
                    refine y_goto rfl j_X14_result_160 ?_
                    refine y_aload rfl rfl ?_
                    refine y_aload rfl rfl ?_
                    obtain ⟨hR_v238, hb_v238, ht_v238⟩ := hR0.ven hlo_b191 hb0_b191 ht_b191 (j := 1) (by decide)
                    have hb0_v238 := hb_v238
                    have hb_v238 := Nat.lt_of_lt_of_le hb_v238 hn
                    have hlo_v238 : 94 ≤ b191 + 1 + 1 := by omega
                    have hR2_v238 := (congrFun (hX.2.1 b191 hb_b191).2.2 1).trans hR_v238
                    refine y_getR rfl ((hX.2.1 _ hb_b191).1.trans ht_b191) (Nat.lt_of_lt_of_le hb_b191 hX.1) rfl rfl hR2_v238 ?_
                    refine y_virt rfl rfl rfl rfl rfl ((hX.2.1 _ hb_b191).1.trans ht_b191) (Nat.lt_of_lt_of_le hb_b191 hX.1) ?_
                    refine r_allX ((hX.2.1 _ hb_v238).1.trans ht_v238) (Nat.lt_of_lt_of_le hb_v238 hX.1) (fun v_239 hv_239 => ?_)
                    subst hv_239
                    refine y_ret1 ?_
                    refine y_ireturn rfl rfl rfl ?_
                    exact hQ0a _ eb_b191 (by first | omega | (simp only [show ySeat x3 = x3 from if_neg (by omega)]; omega) | (simp only [show ySeat x3 = Int32.ofInt 8 from if_pos (by omega), show (Int32.ofInt 8).toInt.toNat = 8 from by decide]; omega)) _ _ _ _ _ _ _ hS ((hR0.grow hX).up (Nat.le_succ K) hk6) (hK.x hRo hno hX) hth (by first | rfl | (exact congrArg (fun f => yFz f 9) ((hB.trans hX).n (by omega)).symm)) (hB.trans hX) (by omega) (by omega)
                · refine y_iconst rfl ?_
                  refine y_goto rfl j_X14_result_95 ?_
                  refine y_iconst rfl ?_
                  refine y_virt rfl rfl rfl rfl rfl (ySh.t hS rfl) (ySh.n hS rfl) ?_
                  refine y_in (M := xm_X14_refuse) (ls := [some _, some _, some _]) rfl rfl rfl ?_
                  refine y_iload_n rfl rfl ?_
                  refine y_if_eqF rfl (by decide) ?_
                  refine y_aload_n rfl rfl ?_
                  refine y_getIv (v := Int32.ofInt (0)) rfl (ySh.t hS rfl) (ySh.n hS rfl) rfl rfl hth ?_
                  refine y_if_neF rfl (by decide) ?_
                  refine y_aload_n rfl rfl ?_
                  refine y_iload_n rfl rfl ?_
                  refine y_putI rfl (ySh.t hS rfl) (ySh.n hS rfl) rfl (Nat.le_of_ble_eq_true rfl) rfl rfl ?_
                  refine y_nameI (fun I240 e240 => ?_)
                  have hR1 := (hR0.grow hX).mod0 e240 (by decide) (by decide)
                  have hK := (hK.x hRo hno hX).upI (upI e240) (by decide) (by decide) (fun i hi => by have := (hRo.l87.2.2.2.2 i hi).2.1; omega) (by rw [e240, upd2_ne (.inr (by decide))]; exact Int.le_refl _)
                  have hth : I240 83 0 = Int32.ofInt (3) := by rw [e240, upd2_self]
                  have hzz : ySz8 I165 I240 := ySz8_of (upI e240) (by rw [e240]; exact ⟨upd2_ne (.inr (by decide)), upd2_ne (.inr (by decide))⟩)
                  have hB := (hB.trans hX).wr e240 rfl
                  have h8 : ∀ a, 84 ≤ a → a ≤ 86 → I240 a = I a := fun a h1 h2 => (upI e240 a (by omega)).trans ((hX.2.1 a (by omega)).2.1.trans (h8 a h1 h2))
                  have h3k : ∀ k, k ≠ 0 → I240 83 k = I 83 k := fun k hk => (congrFun (congrFun e240 83) k).trans ((upd2_ne (.inr hk)).trans ((congrFun (hX.2.1 83 (by omega)).2.1 k).trans (h3k k hk)))
                  have hg := (hg.gx hX (by omega)).skip e240 (by decide)
                  have hday : I240 83 1 = I 83 1 := (congrFun (congrFun e240 83) 1).trans ((upd2_ne (.inr (by decide))).trans ((congrFun (hX.2.1 83 (by omega)).2.1 1).trans hday))
                  have hRb : ∀ a, a < n → R a = R a := fun a ha => (hX.2.1 a (by omega)).2.2.trans (hRb a ha)
                  have hb83 : ∀ a, a ≠ 83 → a < n → I240 a = I a := fun a ha hb => (upI e240 a ha).trans ((hX.2.1 a (by omega)).2.1.trans (hb83 a ha hb))
                  have hS0 := hS
                  have hR0 := hR1
                  have ht_b191 := (hX.2.1 _ hb_b191).1.trans ht_b191
                  have hb_b191 := Nat.lt_of_lt_of_le hb_b191 hX.1
                  have hb0_b191 := hb_b191
                  have ht_v192 := (hX.2.1 _ hb_v192).1.trans ht_v192
                  have hb_v192 := Nat.lt_of_lt_of_le hb_v192 hX.1
                  have hb0_v192 := hb_v192
                  have hn := Nat.le_refl n
                  have h94 := hS0.1
                  have hX := @yX.rf n tg I240 R
                  have hS := hS0.x hX
                  have hR := hR0.x hn hX
                  have hz := hX.sz h94
                  have hxn := hX.1
                  have hN := hR0.1
                  have hnb := hR0.2.2.2.2.2.2
                  have hthB := hth
                  refine y_aload_n rfl rfl ?_
                  refine y_getIv (v := Int32.ofInt (3)) rfl (ySh.t hS rfl) (ySh.n hS rfl) rfl rfl hth ?_
                  refine y_if_leF rfl (by decide) ?_
                  refine y_iconst rfl ?_
                  refine y_goto rfl j_X14_refuse_28 ?_
                  refine y_ireturn rfl rfl rfl ?_
                  refine y_ret1 ?_
                  refine y_if_eqF rfl (by decide) ?_
                  refine y_iconst rfl ?_
                  refine y_ireturn rfl rfl rfl ?_
                  exact hQ3 _ eb_b191 (by first | omega | (simp only [show ySeat x3 = x3 from if_neg (by omega)]; omega) | (simp only [show ySeat x3 = Int32.ofInt 8 from if_pos (by omega), show (Int32.ofInt 8).toInt.toNat = 8 from by decide]; omega)) _ _ _ _ _ _ _ hS ((hR0.grow hX).up (Nat.le_succ K) hk6) (hK.x hRo hno hX) hth ((hB.trans hX).rf2 (by omega)) (by omega) (by omega)
          · rw [yz_m999] at h_168
            rw [yz_999] at h_168
            refine y_ret1 ?_
            refine y_if_neF rfl (by decide) ?_
            refine y_iconst rfl ?_
            refine y_goto rfl j_X14_result_54 ?_
            refine y_iconst rfl ?_
            refine y_virt rfl rfl rfl rfl rfl (ySh.t hS rfl) (ySh.n hS rfl) ?_
            refine y_in (M := xm_X14_refuse) (ls := [some _, some _, some _]) rfl rfl rfl ?_
            refine y_iload_n rfl rfl ?_
            refine y_if_eqF rfl (by decide) ?_
            refine y_aload_n rfl rfl ?_
            refine y_getIv (v := Int32.ofInt (0)) rfl (ySh.t hS rfl) (ySh.n hS rfl) rfl rfl hth ?_
            refine y_if_neF rfl (by decide) ?_
            refine y_aload_n rfl rfl ?_
            refine y_iload_n rfl rfl ?_
            refine y_putI rfl (ySh.t hS rfl) (ySh.n hS rfl) rfl (Nat.le_of_ble_eq_true rfl) rfl rfl ?_
            refine y_nameI (fun I241 e241 => ?_)
            have hR1 := (hR0.grow hX).mod0 e241 (by decide) (by decide)
            have hK := (hK.x hRo hno hX).upI (upI e241) (by decide) (by decide) (fun i hi => by have := (hRo.l87.2.2.2.2 i hi).2.1; omega) (by rw [e241, upd2_ne (.inr (by decide))]; exact Int.le_refl _)
            have hth : I241 83 0 = Int32.ofInt (2) := by rw [e241, upd2_self]
            have hzz : ySz8 I165 I241 := ySz8_of (upI e241) (by rw [e241]; exact ⟨upd2_ne (.inr (by decide)), upd2_ne (.inr (by decide))⟩)
            have hB := (hB.trans hX).wr e241 rfl
            have h8 : ∀ a, 84 ≤ a → a ≤ 86 → I241 a = I a := fun a h1 h2 => (upI e241 a (by omega)).trans ((hX.2.1 a (by omega)).2.1.trans (h8 a h1 h2))
            have h3k : ∀ k, k ≠ 0 → I241 83 k = I 83 k := fun k hk => (congrFun (congrFun e241 83) k).trans ((upd2_ne (.inr hk)).trans ((congrFun (hX.2.1 83 (by omega)).2.1 k).trans (h3k k hk)))
            have hg := (hg.gx hX (by omega)).skip e241 (by decide)
            have hday : I241 83 1 = I 83 1 := (congrFun (congrFun e241 83) 1).trans ((upd2_ne (.inr (by decide))).trans ((congrFun (hX.2.1 83 (by omega)).2.1 1).trans hday))
            have hRb : ∀ a, a < n → R a = R a := fun a ha => (hX.2.1 a (by omega)).2.2.trans (hRb a ha)
            have hb83 : ∀ a, a ≠ 83 → a < n → I241 a = I a := fun a ha hb => (upI e241 a ha).trans ((hX.2.1 a (by omega)).2.1.trans (hb83 a ha hb))
            have hS0 := hS
            have hR0 := hR1
            have hn := Nat.le_refl n
            have h94 := hS0.1
            have hX := @yX.rf n tg I241 R
            have hS := hS0.x hX
            have hR := hR0.x hn hX
            have hz := hX.sz h94
            have hxn := hX.1
            have hN := hR0.1
            have hnb := hR0.2.2.2.2.2.2
            have hthB := hth
            refine y_aload_n rfl rfl ?_
            refine y_getIv (v := Int32.ofInt (2)) rfl (ySh.t hS rfl) (ySh.n hS rfl) rfl rfl hth ?_
            refine y_if_leF rfl (by decide) ?_
            refine y_iconst rfl ?_
            refine y_goto rfl j_X14_refuse_28 ?_
            refine y_ireturn rfl rfl rfl ?_
            refine y_ret1 ?_
            refine y_if_neT rfl j_X14_result_102 (by decide) ?_
            refine y_iconst rfl ?_
            refine y_ireturn rfl rfl rfl ?_
            exact hQ2 (by first | omega | (simp only [show ySeat x3 = x3 from if_neg (by omega)]; omega) | (simp only [show ySeat x3 = Int32.ofInt 8 from if_pos (by omega), show (Int32.ofInt 8).toInt.toNat = 8 from by decide]; omega)) _ _ _ _ _ _ _ hS ((hR0.grow hX).up (Nat.le_succ K) hk6) (hK.x hRo hno hX) hth ((hB.trans hX).rf2 (by omega)) (by omega) (by omega)
        · rw [yz_0] at h_164
          try rw [ysub (by rw [yz_1]; omega) (by rw [yz_1]; omega), yz_1] at h_164
          refine y_ret1 ?_
          refine y_if_neF rfl (by decide) ?_
          refine y_iconst rfl ?_
          refine y_goto rfl j_X14_isNobody_19 ?_
          refine y_ireturn rfl rfl rfl ?_
          refine y_ret1 ?_
          refine y_if_eqF rfl (by decide) ?_
          refine y_iconst rfl ?_
          refine y_goto rfl j_X14_isNoOne_18 ?_
          refine y_ireturn rfl rfl rfl ?_
          refine y_ret1 ?_
          refine y_if_eqF rfl (by decide) ?_
          refine y_iconst rfl ?_
          refine y_goto rfl j_X14_result_28 ?_
          refine y_iconst rfl ?_
          refine y_virt rfl rfl rfl rfl rfl (ySh.t hS rfl) (ySh.n hS rfl) ?_
          refine y_in (M := xm_X14_start) (ls := [some _, some _, some _]) rfl rfl rfl ?_
          refine y_aload_n rfl rfl ?_
          refine y_iconst rfl ?_
          refine y_putI rfl (ySh.t hS rfl) (ySh.n hS rfl) rfl (Nat.le_of_ble_eq_true rfl) rfl rfl ?_
          refine y_nameI (fun I242 e242 => ?_)
          have hR1 := (hR0.grow hX).mod0 e242 (by decide) (by decide)
          have hK := (hK.x hRo hno hX).upI (upI e242) (by decide) (by decide) (fun i hi => by have := (hRo.l87.2.2.2.2 i hi).2.1; omega) (by rw [e242, upd2_ne (.inr (by decide))]; exact Int.le_refl _)
          have hth : I242 83 0 = Int32.ofInt (0) := by rw [e242, upd2_self]
          have hzz : ySz8 I I242 := ySz8_of (upI e242) (by rw [e242]; exact ⟨upd2_ne (.inr (by decide)), upd2_ne (.inr (by decide))⟩)
          have hB := (hB.trans hX).wr e242 rfl
          have h8 : ∀ a, 84 ≤ a → a ≤ 86 → I242 a = I a := fun a h1 h2 => (upI e242 a (by omega)).trans ((hX.2.1 a (by omega)).2.1.trans (h8 a h1 h2))
          have h3k : ∀ k, k ≠ 0 → I242 83 k = I 83 k := fun k hk => (congrFun (congrFun e242 83) k).trans ((upd2_ne (.inr hk)).trans ((congrFun (hX.2.1 83 (by omega)).2.1 k).trans (h3k k hk)))
          have hg := (hg.gx hX (by omega)).skip e242 (by decide)
          have hday : I242 83 1 = I 83 1 := (congrFun (congrFun e242 83) 1).trans ((upd2_ne (.inr (by decide))).trans ((congrFun (hX.2.1 83 (by omega)).2.1 1).trans hday))
          have hRb : ∀ a, a < n → R a = R a := fun a ha => (hX.2.1 a (by omega)).2.2.trans (hRb a ha)
          have hb83 : ∀ a, a ≠ 83 → a < n → I242 a = I a := fun a ha hb => (upI e242 a ha).trans ((hX.2.1 a (by omega)).2.1.trans (hb83 a ha hb))
          have hS0 := hS
          have hR0 := hR1
          have hn := Nat.le_refl n
          have h94 := hS0.1
          have hX := @yX.rf n tg I242 R
          have hS := hS0.x hX
          have hR := hR0.x hn hX
          have hz := hX.sz h94
          have hxn := hX.1
          have hN := hR0.1
          have hnb := hR0.2.2.2.2.2.2
          have hthB := hth
          refine y_aload_n rfl rfl ?_
          refine y_iload_n rfl rfl ?_
          refine y_iload_n rfl rfl ?_
          refine y_virt rfl rfl rfl rfl rfl (ySh.t hS rfl) (ySh.n hS rfl) ?_
          refine y_in (M := xm_X14_refuse) (ls := [some _, some _, some _]) rfl rfl rfl ?_
          refine y_iload_n rfl rfl ?_
          refine y_if_eqF rfl (by decide) ?_
          refine y_aload_n rfl rfl ?_
          refine y_getIv (v := Int32.ofInt (0)) rfl (ySh.t hS rfl) (ySh.n hS rfl) rfl rfl hth ?_
          refine y_if_neF rfl (by decide) ?_
          refine y_aload_n rfl rfl ?_
          refine y_iload_n rfl rfl ?_
          refine y_putI rfl (ySh.t hS rfl) (ySh.n hS rfl) rfl (Nat.le_of_ble_eq_true rfl) rfl rfl ?_
          refine y_nameI (fun I243 e243 => ?_)
          have hR1 := (hR0.grow hX).mod0 e243 (by decide) (by decide)
          have hK := (hK.x hRo hno hX).upI (upI e243) (by decide) (by decide) (fun i hi => by have := (hRo.l87.2.2.2.2 i hi).2.1; omega) (by rw [e243, upd2_ne (.inr (by decide))]; exact Int.le_refl _)
          have hth : I243 83 0 = Int32.ofInt (1) := by rw [e243, upd2_self]
          have hzz : ySz8 I242 I243 := ySz8_of (upI e243) (by rw [e243]; exact ⟨upd2_ne (.inr (by decide)), upd2_ne (.inr (by decide))⟩)
          have hB := (hB.trans hX).wr e243 rfl
          have h8 : ∀ a, 84 ≤ a → a ≤ 86 → I243 a = I a := fun a h1 h2 => (upI e243 a (by omega)).trans ((hX.2.1 a (by omega)).2.1.trans (h8 a h1 h2))
          have h3k : ∀ k, k ≠ 0 → I243 83 k = I 83 k := fun k hk => (congrFun (congrFun e243 83) k).trans ((upd2_ne (.inr hk)).trans ((congrFun (hX.2.1 83 (by omega)).2.1 k).trans (h3k k hk)))
          have hg := (hg.gx hX (by omega)).skip e243 (by decide)
          have hday : I243 83 1 = I 83 1 := (congrFun (congrFun e243 83) 1).trans ((upd2_ne (.inr (by decide))).trans ((congrFun (hX.2.1 83 (by omega)).2.1 1).trans hday))
          have hRb : ∀ a, a < n → R a = R a := fun a ha => (hX.2.1 a (by omega)).2.2.trans (hRb a ha)
          have hb83 : ∀ a, a ≠ 83 → a < n → I243 a = I a := fun a ha hb => (upI e243 a ha).trans ((hX.2.1 a (by omega)).2.1.trans (hb83 a ha hb))
          have hS0 := hS
          have hR0 := hR1
          have hn := Nat.le_refl n
          have h94 := hS0.1
          have hX := @yX.rf n tg I243 R
          have hS := hS0.x hX
          have hR := hR0.x hn hX
          have hz := hX.sz h94
          have hxn := hX.1
          have hN := hR0.1
          have hnb := hR0.2.2.2.2.2.2
          have hthB := hth
          refine y_aload_n rfl rfl ?_
          refine y_getIv (v := Int32.ofInt (1)) rfl (ySh.t hS rfl) (ySh.n hS rfl) rfl rfl hth ?_
          refine y_if_leF rfl (by decide) ?_
          refine y_iconst rfl ?_
          refine y_goto rfl j_X14_refuse_28 ?_
          refine y_ireturn rfl rfl rfl ?_
          refine y_ret1 ?_
          refine y_ireturn rfl rfl rfl ?_
          refine y_ret1 ?_
          refine y_if_neT rfl j_X14_result_102 (by decide) ?_
          refine y_iconst rfl ?_
          refine y_ireturn rfl rfl rfl ?_
          exact hQ1 (by first | omega | (simp only [show ySeat x3 = x3 from if_neg (by omega)]; omega) | (simp only [show ySeat x3 = Int32.ofInt 8 from if_pos (by omega), show (Int32.ofInt 8).toInt.toNat = 8 from by decide]; omega)) _ _ _ _ _ _ _ hS ((hR0.grow hX).up (Nat.le_succ K) hk6) (hK.x hRo hno hX) hth ((hB.trans hX).rf2 (by omega)) (by omega) (by omega)
  · rw [yz_0] at h_3
    try rw [ysub (by rw [yz_1]; omega) (by rw [yz_1]; omega), yz_1] at h_3
    refine y_ret1 ?_
    refine y_if_neF rfl (by decide) ?_
    refine y_iconst rfl ?_
    refine y_goto rfl j_X14_isNoVenture_22 ?_
    refine y_ireturn rfl rfl rfl ?_
    refine y_ret1 ?_
    refine y_if_neT rfl j_X14_result_23 (by decide) ?_
    refine y_iconst rfl ?_
    refine y_goto rfl j_X14_result_28 ?_
    refine y_iconst rfl ?_
    refine y_virt rfl rfl rfl rfl rfl (ySh.t hS rfl) (ySh.n hS rfl) ?_
    refine y_in (M := xm_X14_start) (ls := [some _, some _, some _]) rfl rfl rfl ?_
    refine y_aload_n rfl rfl ?_
    refine y_iconst rfl ?_
    refine y_putI rfl (ySh.t hS rfl) (ySh.n hS rfl) rfl (Nat.le_of_ble_eq_true rfl) rfl rfl ?_
    refine y_nameI (fun I244 e244 => ?_)
    have hR1 := (hR0.grow hX).mod0 e244 (by decide) (by decide)
    have hK := (hK.x hRo hno hX).upI (upI e244) (by decide) (by decide) (fun i hi => by have := (hRo.l87.2.2.2.2 i hi).2.1; omega) (by rw [e244, upd2_ne (.inr (by decide))]; exact Int.le_refl _)
    have hth : I244 83 0 = Int32.ofInt (0) := by rw [e244, upd2_self]
    have hzz : ySz8 I I244 := ySz8_of (upI e244) (by rw [e244]; exact ⟨upd2_ne (.inr (by decide)), upd2_ne (.inr (by decide))⟩)
    have hB := (hB.trans hX).wr e244 rfl
    have h8 : ∀ a, 84 ≤ a → a ≤ 86 → I244 a = I a := fun a h1 h2 => (upI e244 a (by omega)).trans ((hX.2.1 a (by omega)).2.1.trans (h8 a h1 h2))
    have h3k : ∀ k, k ≠ 0 → I244 83 k = I 83 k := fun k hk => (congrFun (congrFun e244 83) k).trans ((upd2_ne (.inr hk)).trans ((congrFun (hX.2.1 83 (by omega)).2.1 k).trans (h3k k hk)))
    have hg := (hg.gx hX (by omega)).skip e244 (by decide)
    have hday : I244 83 1 = I 83 1 := (congrFun (congrFun e244 83) 1).trans ((upd2_ne (.inr (by decide))).trans ((congrFun (hX.2.1 83 (by omega)).2.1 1).trans hday))
    have hRb : ∀ a, a < n → R a = R a := fun a ha => (hX.2.1 a (by omega)).2.2.trans (hRb a ha)
    have hb83 : ∀ a, a ≠ 83 → a < n → I244 a = I a := fun a ha hb => (upI e244 a ha).trans ((hX.2.1 a (by omega)).2.1.trans (hb83 a ha hb))
    have hS0 := hS
    have hR0 := hR1
    have hn := Nat.le_refl n
    have h94 := hS0.1
    have hX := @yX.rf n tg I244 R
    have hS := hS0.x hX
    have hR := hR0.x hn hX
    have hz := hX.sz h94
    have hxn := hX.1
    have hN := hR0.1
    have hnb := hR0.2.2.2.2.2.2
    have hthB := hth
    refine y_aload_n rfl rfl ?_
    refine y_iload_n rfl rfl ?_
    refine y_iload_n rfl rfl ?_
    refine y_virt rfl rfl rfl rfl rfl (ySh.t hS rfl) (ySh.n hS rfl) ?_
    refine y_in (M := xm_X14_refuse) (ls := [some _, some _, some _]) rfl rfl rfl ?_
    refine y_iload_n rfl rfl ?_
    refine y_if_eqF rfl (by decide) ?_
    refine y_aload_n rfl rfl ?_
    refine y_getIv (v := Int32.ofInt (0)) rfl (ySh.t hS rfl) (ySh.n hS rfl) rfl rfl hth ?_
    refine y_if_neF rfl (by decide) ?_
    refine y_aload_n rfl rfl ?_
    refine y_iload_n rfl rfl ?_
    refine y_putI rfl (ySh.t hS rfl) (ySh.n hS rfl) rfl (Nat.le_of_ble_eq_true rfl) rfl rfl ?_
    refine y_nameI (fun I245 e245 => ?_)
    have hR1 := (hR0.grow hX).mod0 e245 (by decide) (by decide)
    have hK := (hK.x hRo hno hX).upI (upI e245) (by decide) (by decide) (fun i hi => by have := (hRo.l87.2.2.2.2 i hi).2.1; omega) (by rw [e245, upd2_ne (.inr (by decide))]; exact Int.le_refl _)
    have hth : I245 83 0 = Int32.ofInt (1) := by rw [e245, upd2_self]
    have hzz : ySz8 I244 I245 := ySz8_of (upI e245) (by rw [e245]; exact ⟨upd2_ne (.inr (by decide)), upd2_ne (.inr (by decide))⟩)
    have hB := (hB.trans hX).wr e245 rfl
    have h8 : ∀ a, 84 ≤ a → a ≤ 86 → I245 a = I a := fun a h1 h2 => (upI e245 a (by omega)).trans ((hX.2.1 a (by omega)).2.1.trans (h8 a h1 h2))
    have h3k : ∀ k, k ≠ 0 → I245 83 k = I 83 k := fun k hk => (congrFun (congrFun e245 83) k).trans ((upd2_ne (.inr hk)).trans ((congrFun (hX.2.1 83 (by omega)).2.1 k).trans (h3k k hk)))
    have hg := (hg.gx hX (by omega)).skip e245 (by decide)
    have hday : I245 83 1 = I 83 1 := (congrFun (congrFun e245 83) 1).trans ((upd2_ne (.inr (by decide))).trans ((congrFun (hX.2.1 83 (by omega)).2.1 1).trans hday))
    have hRb : ∀ a, a < n → R a = R a := fun a ha => (hX.2.1 a (by omega)).2.2.trans (hRb a ha)
    have hb83 : ∀ a, a ≠ 83 → a < n → I245 a = I a := fun a ha hb => (upI e245 a ha).trans ((hX.2.1 a (by omega)).2.1.trans (hb83 a ha hb))
    have hS0 := hS
    have hR0 := hR1
    have hn := Nat.le_refl n
    have h94 := hS0.1
    have hX := @yX.rf n tg I245 R
    have hS := hS0.x hX
    have hR := hR0.x hn hX
    have hz := hX.sz h94
    have hxn := hX.1
    have hN := hR0.1
    have hnb := hR0.2.2.2.2.2.2
    have hthB := hth
    refine y_aload_n rfl rfl ?_
    refine y_getIv (v := Int32.ofInt (1)) rfl (ySh.t hS rfl) (ySh.n hS rfl) rfl rfl hth ?_
    refine y_if_leF rfl (by decide) ?_
    refine y_iconst rfl ?_
    refine y_goto rfl j_X14_refuse_28 ?_
    refine y_ireturn rfl rfl rfl ?_
    refine y_ret1 ?_
    refine y_ireturn rfl rfl rfl ?_
    refine y_ret1 ?_
    refine y_if_neT rfl j_X14_result_102 (by decide) ?_
    refine y_iconst rfl ?_
    refine y_ireturn rfl rfl rfl ?_
    exact hQ1 (by first | omega | (simp only [show ySeat x3 = x3 from if_neg (by omega)]; omega) | (simp only [show ySeat x3 = Int32.ofInt 8 from if_pos (by omega), show (Int32.ofInt 8).toInt.toNat = 8 from by decide]; omega)) _ _ _ _ _ _ _ hS ((hR0.grow hX).up (Nat.le_succ K) hk6) (hK.x hRo hno hX) hth ((hB.trans hX).rf2 (by omega)) (by omega) (by omega)
end YXH
