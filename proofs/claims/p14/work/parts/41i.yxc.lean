/-! THE CLASS AROUND THINGS, LEASES AND SALES, EXACTLY (by ex4c.py) -/
theorem y64_tr {x y : Int32} : (x.toInt64 / y.toInt64).toInt32 = x / y := by
  apply Int32.toInt_inj.mp
  rw [Int64.toInt_toInt32, Int64.toInt_div, Int32.toInt_div, Int32.toInt_toInt64, Int32.toInt_toInt64]
  exact Int.bmod_bmod_of_dvd (by decide)
theorem yPor_pl {x y : Int32} (hy : 0 < y.toInt) : yPor x.toInt64 (Int64.ofNat (1 : Fin 2)) y.toInt64 = x / y := by
  have h1 : (Int64.ofNat (1 : Fin 2)) = 1 := by decide
  unfold yPor
  rw [if_pos (by rw [Int64.lt_iff_toInt_lt, Int32.toInt_toInt64]; simpa using hy), h1, Int64.mul_one, y64_tr]
theorem y64_mul {m p : Int32} (h0 : 0 ≤ m.toInt) (h1 : m.toInt ≤ 99) (h2 : 0 ≤ p.toInt) (h3 : p.toInt ≤ 2000) : m.toInt64 * p.toInt64 = (m * p).toInt64 := by
  have h4 : m.toInt * p.toInt ≤ 99 * 2000 := Int.mul_le_mul h1 h3 h2 (by decide)
  have h5 : 0 ≤ m.toInt * p.toInt := Int.mul_nonneg h0 h2
  apply Int64.toInt_inj.mp
  rw [Int64.toInt_mul, Int32.toInt_toInt64, Int32.toInt_toInt64, Int32.toInt_toInt64, Int32.toInt_mul]
  rw [Int.bmod_eq_of_le (by omega) (by omega), Int.bmod_eq_of_le (by omega) (by omega)]
theorem yPor_rb {m p : Int32} (h0 : 0 ≤ m.toInt) (h1 : m.toInt ≤ 99) (h2 : 0 ≤ p.toInt) (h3 : p.toInt ≤ 2000) : yPor m.toInt64 p.toInt64 (Int32.ofInt 100 + m).toInt64 = m * p / (Int32.ofInt 100 + m) := by
  have h4 : (Int32.ofInt 100 + m).toInt = 100 + m.toInt := by
    rw [Int32.toInt_add, show (Int32.ofInt 100).toInt = 100 by decide, Int.bmod_eq_of_le (by omega) (by omega)]
  unfold yPor
  rw [if_pos (by rw [Int64.lt_iff_toInt_lt, Int32.toInt_toInt64, h4]; show (0 : Int) < _; omega), y64_mul h0 h1 h2 h3, y64_tr]
/-- the k'th part of a sale -/
def yPa (pr pa k : Int32) : Int32 := if k.toInt + 1 < pa.toInt then pr / pa else pr - pr / pa * (pa - Int32.ofInt 1)
/-- its size -/
theorem yPa_bd {pr pa k : Int32} (h0 : 0 ≤ pr.toInt) (h1 : pr.toInt ≤ 2000) (h2 : 1 ≤ pa.toInt) (h3 : pa.toInt ≤ 12) : 0 ≤ (yPa pr pa k).toInt ∧ (yPa pr pa k).toInt ≤ 2000 := by
  have hd : (pr / pa).toInt = pr.toInt / pa.toInt := by
    rw [Int32.toInt_div, Int.tdiv_eq_ediv_of_nonneg h0]
    have q1 := Int.ediv_nonneg h0 (by omega : 0 ≤ pa.toInt)
    have q2 := Int.ediv_le_self pa.toInt h0
    exact Int.bmod_eq_of_le (by omega) (by omega)
  have q1 := Int.ediv_nonneg h0 (by omega : 0 ≤ pa.toInt)
  have q2 := Int.ediv_le_self pa.toInt h0
  have q3 : pr.toInt / pa.toInt * pa.toInt ≤ pr.toInt := Int.ediv_mul_le _ (by omega)
  unfold yPa
  split
  · rw [hd]; omega
  · have h4 : (pa - Int32.ofInt 1).toInt = pa.toInt - 1 := by
      rw [Int32.toInt_sub, show (Int32.ofInt 1).toInt = 1 by decide, Int.bmod_eq_of_le (by omega) (by omega)]
    have h5 : pr.toInt / pa.toInt * (pa.toInt - 1) = pr.toInt / pa.toInt * pa.toInt - pr.toInt / pa.toInt := by rw [Int.mul_sub, Int.mul_one]
    have h6 : (pr / pa * (pa - Int32.ofInt 1)).toInt = pr.toInt / pa.toInt * (pa.toInt - 1) := by
      have h7 : 0 ≤ pr.toInt / pa.toInt * (pa.toInt - 1) := Int.mul_nonneg q1 (by omega)
      rw [Int32.toInt_mul, hd, h4, Int.bmod_eq_of_le (by omega) (by omega)]
    have h7 : 0 ≤ pr.toInt / pa.toInt * (pa.toInt - 1) := Int.mul_nonneg q1 (by omega)
    have h8 : (pr - pr / pa * (pa - Int32.ofInt 1)).toInt = pr.toInt - pr.toInt / pa.toInt * (pa.toInt - 1) := by
      rw [Int32.toInt_sub, h6, Int.bmod_eq_of_le (by omega) (by omega)]
    rw [h8]; omega
/-- the last part as what is owed -/
theorem yPa_last {pr pa k : Int32} (h : k.toInt + 1 = pa.toInt) (h2 : 1 ≤ pa.toInt) (h3 : pa.toInt ≤ 12) : pr - k * (pr / pa) = yPa pr pa k := by
  have e : k = pa - Int32.ofInt 1 := by
    apply Int32.toInt_inj.mp
    rw [Int32.toInt_sub, show (Int32.ofInt 1).toInt = 1 by decide, Int.bmod_eq_of_le (by omega) (by omega)]; omega
  unfold yPa
  rw [if_neg (by omega), e, Int32.mul_comm]
theorem yMx_comm {z : Int32} : (if Int32.ofInt 1 < z then z else Int32.ofInt 1) = (if z < Int32.ofInt 1 then Int32.ofInt 1 else z) := by
  have h1 : (Int32.ofInt 1).toInt = 1 := by decide
  split <;> split <;> rename_i p q
  · rw [Int32.lt_iff_toInt_lt] at p q; omega
  · rfl
  · rfl
  · rw [Int32.lt_iff_toInt_lt] at p q; exact yext (by omega)
/-- a late part's fee, an early part's rebate; l the days late, al how many are for it -/
def yFe (l pt : Int32) (al : Int) : Int32 := if 10 < l.toInt ∧ 3 ≤ al then (if pt * Int32.ofInt 2 / Int32.ofInt 100 < Int32.ofInt 1 then Int32.ofInt 1 else pt * Int32.ofInt 2 / Int32.ofInt 100) else Int32.ofInt 0
def yRb (l pt m : Int32) (al : Int) : Int32 := if l.toInt ≤ -10 ∧ 3 ≤ al then m * pt / (Int32.ofInt 100 + m) / Int32.ofInt 2 else Int32.ofInt 0
/-- a sale's price -/
theorem yPr_bd {c m : Int32} (h0 : 0 ≤ c.toInt) (h1 : c.toInt ≤ 999) (h2 : 0 ≤ m.toInt) (h3 : m.toInt ≤ 99) : 0 ≤ (c + c * m / Int32.ofInt 100).toInt ∧ (c + c * m / Int32.ofInt 100).toInt ≤ 2000 := by
  have h4 : c.toInt * m.toInt ≤ 999 * 99 := Int.mul_le_mul h1 h3 h2 (by decide)
  have h5 : 0 ≤ c.toInt * m.toInt := Int.mul_nonneg h0 h2
  have h6 : (c * m).toInt = c.toInt * m.toInt := by rw [Int32.toInt_mul, Int.bmod_eq_of_le (by omega) (by omega)]
  have h7 : (c * m / Int32.ofInt 100).toInt = c.toInt * m.toInt / 100 := by
    rw [Int32.toInt_div, h6, show (Int32.ofInt 100).toInt = 100 by decide, Int.tdiv_eq_ediv_of_nonneg h5, Int.bmod_eq_of_le (by omega) (by omega)]
  rw [yadd (by omega) (by omega), h7]; omega
/-- what is told of a sale: its row (as the reference numbers it), what is asked -/
def yOS (r : Nat → Int32) (w : Int) : Int32 := if w = 0 then r 0 else if w = 1 then r 1 else if w = 2 then r 2 else if w = 3 then r 5 else if w = 4 then r 4 else if w = 5 then r 7 else if w = 6 then (if (r 5).toInt = 0 ∧ (r 7).toInt < (r 4).toInt then r 6 + Int32.ofInt 30 * (r 7 + Int32.ofInt 1) else Int32.ofInt (-1)) else if w = 7 then (if (r 5).toInt = 0 ∧ (r 7).toInt < (r 4).toInt then yPa (r 2) (r 4) (r 7) else Int32.ofInt 0) else if w = 8 then r 8 else r 9
/-- a sale's row in the class, numbered as the reference does -/
def ySc (f : Nat) : Nat := if f = 0 then 49 else if f = 1 then 50 else if f = 2 then 52 else if f = 3 then 51 else if f = 4 then 54 else if f = 5 then 53 else if f = 6 then 56 else if f = 7 then 55 else if f = 8 then 57 else 58

theorem y_ialoadv {M : xM} {code rest : List xI} {ls : yLs} {r : List Value} {c s : Nat} {Q : yQ} {p len n a : Nat} {tg : Nat → yT} {I : Nat → Nat → Int32} {R : Nat → Nat → Value} {an : List Nat} {J : Nat → Int32} {i : Int32} {m : Nat} (hk : code = (p, len, .iaload, an) :: rest) (ht : tg a = (0, m)) (ha : a < n) (h0 : 0 ≤ i.toInt) (h1 : i.toInt < (m : Int)) (hJ : I a = J) (kk : yW M rest ls (.int (J i.toInt.toNat) :: r) (n, tg, I, R) c s Q) : yW M code ls (.int i :: .ref a :: r) (n, tg, I, R) c s Q := y_iaload hk ht ha h0 h1 (by rw [hJ]; exact kk)
theorem y_baloadv {M : xM} {code rest : List xI} {ls : yLs} {r : List Value} {c s : Nat} {Q : yQ} {p len n a : Nat} {tg : Nat → yT} {I : Nat → Nat → Int32} {R : Nat → Nat → Value} {an : List Nat} {J : Nat → Int32} {i : Int32} {m kd : Nat} (hk : code = (p, len, .baload, an) :: rest) (ht : tg a = (kd + 1, m)) (hd : Nat.ble kd 1 = true) (ha : a < n) (h0 : 0 ≤ i.toInt) (h1 : i.toInt < (m : Int)) (hJ : I a = J) (kk : yW M rest ls (.int (J i.toInt.toNat) :: r) (n, tg, I, R) c s Q) : yW M code ls (.int i :: .ref a :: r) (n, tg, I, R) c s Q := y_baload hk ht hd ha h0 h1 (by rw [hJ]; exact kk)
/-- a purse, the market having none -/
def yAddC (I : Nat → Nat → Int32) (p x : Int32) : Nat → Nat → Int32 := if 0 ≤ p.toInt ∧ p.toInt ≤ 8 then upd2 I 39 p.toInt.toNat (I 39 p.toInt.toNat + x) else I
theorem yAddC_row {I : Nat → Nat → Int32} {p x : Int32} {a : Nat} (h : a ≠ 39) : yAddC I p x a = I a := by
  unfold yAddC
  split
  · exact upd2_row h
  · rfl
theorem yCI.addC {I : Nat → Nat → Int32} {p x : Int32} (h : yCI I) : yCI (yAddC I p x) := by
  unfold yAddC
  split
  · exact h
  · exact h
theorem yFt.addC {I I' : Nat → Nat → Int32} {p x : Int32} (h : yFt I I') : yFt I (yAddC I' p x) := by
  unfold yAddC
  split
  · exact h.upd (by decide)
  · exact h
/-- two worlds' numbers agree on a part of the cells -/
def yGc (p : Nat → Bool) (J J' : Nat → Nat → Int32) : Prop := ∀ a, p a = true → J a = J' a
section YG
variable {p : Nat → Bool} {J J' : Nat → Nat → Int32} {a k : Nat} {x z : Int32}
theorem yGc.rf : yGc p J J := fun _ _ => rfl
theorem yGc.both (h : yGc p J J') : yGc p (upd2 J a k x) (upd2 J' a k x) := fun b hb => by
  funext j
  by_cases hj : b = a ∧ j = k
  · obtain ⟨rfl, rfl⟩ := hj; rw [upd2_self, upd2_self]
  · have hj : b ≠ a ∨ j ≠ k := by omega
    rw [upd2_ne hj, upd2_ne hj, h b hb]
theorem yGc.skip (h : yGc p J J') (ha : p a = false) : yGc p (upd2 J a k x) J' := fun b hb => by
  have hne : b ≠ a := fun e => by rw [e, ha] at hb; cases hb
  rw [upd2_row hne]; exact h b hb
theorem yGc.skipC (h : yGc p J J') (ha : p 39 = false) : yGc p (yAddC J x z) J' := fun b hb => by
  have hne : b ≠ 39 := fun e => by rw [e, ha] at hb; cases hb
  rw [yAddC_row hne]; exact h b hb
end YG
def yTL (a : Nat) : Bool := Nat.ble 40 a && Nat.ble a 68
theorem yCI.inc38v {I J : Nat → Nat → Int32} (h : yCI J) (e : J 38 0 = I 38 0) (hx : (I 38 0).toInt < 8) : yCI (upd2 J 38 0 (I 38 0 + Int32.ofInt 1)) := by
  rw [← e]; exact yCI.inc38 h (by rw [e]; exact hx)
theorem yCI.inc40v {I J : Nat → Nat → Int32} (h : yCI J) (e : J 40 0 = I 40 0) (hx : (I 40 0).toInt < 16) : yCI (upd2 J 40 0 (I 40 0 + Int32.ofInt 1)) := by
  rw [← e]; exact yCI.inc40 h (by rw [e]; exact hx)
theorem yCI.inc48v {I J : Nat → Nat → Int32} (h : yCI J) (e : J 48 0 = I 48 0) (hx : (I 48 0).toInt < 12) : yCI (upd2 J 48 0 (I 48 0 + Int32.ofInt 1)) := by
  rw [← e]; exact yCI.inc48 h (by rw [e]; exact hx)
theorem yCI.inc59v {I J : Nat → Nat → Int32} (h : yCI J) (e : J 59 0 = I 59 0) (hx : (I 59 0).toInt < 8) : yCI (upd2 J 59 0 (I 59 0 + Int32.ofInt 1)) := by
  rw [← e]; exact yCI.inc59 h (by rw [e]; exact hx)
theorem yCI.inc69v {I J : Nat → Nat → Int32} (h : yCI J) (e : J 69 0 = I 69 0) (hx : (I 69 0).toInt < 6) : yCI (upd2 J 69 0 (I 69 0 + Int32.ofInt 1)) := by
  rw [← e]; exact yCI.inc69 h (by rw [e]; exact hx)
theorem yCI.inc77v {I J : Nat → Nat → Int32} (h : yCI J) (e : J 77 0 = I 77 0) (hx : (I 77 0).toInt < 10) : yCI (upd2 J 77 0 (I 77 0 + Int32.ofInt 1)) := by
  rw [← e]; exact yCI.inc77 h (by rw [e]; exact hx)
/-- what pillars a sale lacks: owner, held, how many are for an early sale, ruined, the seller, the buyer -/
def yMs (o h b ru sl by_ : Int) : Int := (if o = 8 then (if h = 0 then (if 3 ≤ b then 0 else 2) else 0) else 1) + (if ru = 0 then 0 else 4) + (if sl = by_ then 8 else 0)
/-- what is told of a thing: its row, its lease, what is asked -/
def yOT (r : Nat → Int32) (l w : Int) : Int := if w = 0 then (r 0).toInt else if w = 1 then (r 1).toInt else if w = 2 then (if (r 2).toInt = 0 then 0 else 1) else if w = 3 then (if (r 3).toInt = 0 then 0 else 1) else if w = 4 then (r 4).toInt else if w = 5 then (r 5).toInt else l
/-- a lease's row in the class, numbered as the reference does -/
def yLc (f : Nat) : Nat := if f = 0 then 60 else if f = 1 then 62 else if f = 5 then 65 else if f = 6 then 67 else 68
/-- what is told of a lease: its row, its next day, what is asked -/
def yOL (r : Nat → Int32) (nx : Int32) (w : Int) : Int := if w = 0 then (r 0).toInt else if w = 1 then (r 1).toInt else if w = 2 then (if (r 5).toInt = 0 then 0 else 1) else if w = 3 then (r 6).toInt else if w = 4 then (r 7).toInt else (if (r 5).toInt = 0 then nx.toInt else -1)
/-- sums of numbers that wrap -/
def yFz (f : Nat → Int32) : Nat → Int32
  | 0 => Int32.ofInt 0
  | k + 1 => yFz f k + f k
theorem yFs_nx {f : Nat → Int32} {x i v : Int32} (h0 : 0 ≤ i.toInt ∧ i.toInt < 2147483647) (hx : x = yFz f i.toInt.toNat) (hv : v = f i.toInt.toNat) : x + v = yFz f (i + Int32.ofInt 1).toInt.toNat := by
  rw [yinc h0.2, show (i.toInt + 1).toNat = i.toInt.toNat + 1 by omega, hx, hv]; rfl
theorem yFz_nz {f : Nat → Int32} {x i : Int32} (h0 : 0 ≤ i.toInt ∧ i.toInt < 2147483647) (hx : x = yFz f i.toInt.toNat) (hv : f i.toInt.toNat = Int32.ofInt 0) : x = yFz f (i + Int32.ofInt 1).toInt.toNat := by
  rw [yinc h0.2, show (i.toInt + 1).toNat = i.toInt.toNat + 1 by omega, hx]
  show _ = yFz f i.toInt.toNat + f i.toInt.toNat
  rw [hv, show Int32.ofInt 0 = 0 by decide, Int32.add_zero]
section YXC
variable {n : Nat} {tg : Nat → yT} {I : Nat → Nat → Int32} {R : Nat → Nat → Value} {c s : Nat} {Q : yQ}
theorem spx_add (hS : ySh n tg R) {x1 x2 : Int32} (hQ : Q (.inl none) (n, tg, yAddC I x1 x2, R) c s) : yC 71 [.ref 38, .int x1, .int x2] (n, tg, I, R) c s Q := by
  refine y_in (M := xm_X4_add) (ls := [some _, some _, some _]) rfl rfl rfl ?_
  refine y_iload_n rfl rfl ?_
  refine y_iconst rfl ?_
  refine y_bip rfl (by decide) ?_
  refine y_static rfl rfl rfl rfl rfl ?_
  refine s_isIn (fun h_1 h_2 => ?_) (fun h_3 => ?_)
  · rw [yz_0] at h_1
    rw [yz_8] at h_2
    refine y_ret1 ?_
    refine y_if_eqF rfl (by decide) ?_
    refine y_aload_n rfl rfl ?_
    refine y_getR rfl (ySh.t hS rfl) (ySh.n hS rfl) rfl rfl (ySh.r hS rfl) ?_
    refine y_iload_n rfl rfl ?_
    refine y_dup2 rfl rfl rfl ?_
    refine y_iaload rfl (ySh.t hS rfl) (ySh.n hS rfl) (by omega) (by omega) ?_
    refine y_iload_n rfl rfl ?_
    refine y_iadd rfl ?_
    refine y_iastore rfl (ySh.t hS rfl) (ySh.n hS rfl) (Nat.le_of_ble_eq_true rfl) (by omega) (by omega) ?_
    refine y_return rfl ?_
    have h_ := hQ
    first | (rw [yAddC, if_pos ⟨by omega, by omega⟩] at h_; exact h_) | (rw [yAddC, if_neg (by omega)] at h_; exact h_)
  · rw [yz_0] at h_3
    rw [yz_8] at h_3
    refine y_ret1 ?_
    refine y_if_eqT rfl j_X4_add_20 (by decide) ?_
    refine y_return rfl ?_
    have h_ := hQ
    first | (rw [yAddC, if_pos ⟨by omega, by omega⟩] at h_; exact h_) | (rw [yAddC, if_neg (by omega)] at h_; exact h_)
theorem spx_missing (hS : ySh n tg R) (hC : yCI I) {x1 x2 : Int32} (hv0 : 0 ≤ x1.toInt) (hv1 : x1.toInt < 16) (hQ : ∀ v : Int32, v.toInt = yMs (I 42 x1.toInt.toNat).toInt (I 43 x1.toInt.toNat).toInt (yBC (I 36 0)).toInt (I 44 x1.toInt.toNat).toInt (I 46 x1.toInt.toNat).toInt x2.toInt → Q (.inl (some (.int v))) (n, tg, I, R) c s) : yC 167 [.ref 34, .int x1, .int x2] (n, tg, I, R) c s Q := by
  have hF : yFt I I := yFt.rf
  refine y_in (M := xm_X8_missingPillars) (ls := [some _, some _, some _, _]) rfl rfl rfl ?_
  refine y_iconst rfl ?_
  refine y_istore_n (ls' := [some _, some _, some _, some _]) rfl rfl rfl ?_
  refine y_aload_n rfl rfl ?_
  refine y_getR rfl (ySh.t hS rfl) (ySh.n hS rfl) rfl rfl (ySh.r hS rfl) ?_
  refine y_getR rfl (ySh.t hS rfl) (ySh.n hS rfl) rfl rfl (ySh.r hS rfl) ?_
  refine y_iload_n rfl rfl ?_
  refine y_ialoadv (J := I 42) rfl (ySh.t hS rfl) (ySh.n hS rfl) (by omega) (by omega) rfl ?_
  refine y_bip rfl (by decide) ?_
  refine y_icmp_eq rfl j_X8_missingPillars_23 (fun h_1 => ?_) (fun h_2 => ?_)
  · rw [yz_8] at h_1
    refine y_aload_n rfl rfl ?_
    refine y_getR rfl (ySh.t hS rfl) (ySh.n hS rfl) rfl rfl (ySh.r hS rfl) ?_
    refine y_getR rfl (ySh.t hS rfl) (ySh.n hS rfl) rfl rfl (ySh.r hS rfl) ?_
    refine y_iload_n rfl rfl ?_
    refine y_baloadv (J := I 43) rfl (ySh.t hS rfl) rfl (ySh.n hS rfl) (by omega) (by omega) rfl ?_
    refine y_if_ne rfl j_X8_missingPillars_50 (fun h_3 => ?_) (fun h_4 => ?_)
    · refine y_aload_n rfl rfl ?_
      refine y_getR rfl (ySh.t hS rfl) (ySh.n hS rfl) rfl rfl (ySh.r hS rfl) ?_
      refine y_getR rfl (ySh.t hS rfl) (ySh.n hS rfl) rfl rfl (ySh.r hS rfl) ?_
      refine y_iload_n rfl rfl ?_
      refine y_baloadv (J := I 44) rfl (ySh.t hS rfl) rfl (ySh.n hS rfl) (by omega) (by omega) rfl ?_
      refine y_if_eq rfl j_X8_missingPillars_66 (fun h_5 => ?_) (fun h_6 => ?_)
      · refine y_aload_n rfl rfl ?_
        refine y_getR rfl (ySh.t hS rfl) (ySh.n hS rfl) rfl rfl (ySh.r hS rfl) ?_
        refine y_getR rfl (ySh.t hS rfl) (ySh.n hS rfl) rfl rfl (ySh.r hS rfl) ?_
        refine y_iload_n rfl rfl ?_
        refine y_ialoadv (J := I 46) rfl (ySh.t hS rfl) (ySh.n hS rfl) (by omega) (by omega) rfl ?_
        refine y_iload_n rfl rfl ?_
        refine y_icmp_ne rfl j_X8_missingPillars_84 (fun h_7 => ?_) (fun h_8 => ?_)
        · refine y_iload_n rfl rfl ?_
          refine y_ireturn rfl rfl rfl ?_
          exact hQ _ (by unfold yMs; (repeat' split) <;> first | decide | (exfalso; omega))
        · refine y_iload_n rfl rfl ?_
          refine y_bip rfl (by decide) ?_
          refine y_ior rfl ?_
          refine y_istore_n (ls' := [some _, some _, some _, some _]) rfl rfl rfl ?_
          refine y_iload_n rfl rfl ?_
          refine y_ireturn rfl rfl rfl ?_
          exact hQ _ (by unfold yMs; (repeat' split) <;> first | decide | (exfalso; omega))
      · refine y_iload_n rfl rfl ?_
        refine y_iconst rfl ?_
        refine y_ior rfl ?_
        refine y_istore_n (ls' := [some _, some _, some _, some _]) rfl rfl rfl ?_
        refine y_aload_n rfl rfl ?_
        refine y_getR rfl (ySh.t hS rfl) (ySh.n hS rfl) rfl rfl (ySh.r hS rfl) ?_
        refine y_getR rfl (ySh.t hS rfl) (ySh.n hS rfl) rfl rfl (ySh.r hS rfl) ?_
        refine y_iload_n rfl rfl ?_
        refine y_ialoadv (J := I 46) rfl (ySh.t hS rfl) (ySh.n hS rfl) (by omega) (by omega) rfl ?_
        refine y_iload_n rfl rfl ?_
        refine y_icmp_ne rfl j_X8_missingPillars_84 (fun h_9 => ?_) (fun h_10 => ?_)
        · refine y_iload_n rfl rfl ?_
          refine y_ireturn rfl rfl rfl ?_
          exact hQ _ (by unfold yMs; (repeat' split) <;> first | decide | (exfalso; omega))
        · refine y_iload_n rfl rfl ?_
          refine y_bip rfl (by decide) ?_
          refine y_ior rfl ?_
          refine y_istore_n (ls' := [some _, some _, some _, some _]) rfl rfl rfl ?_
          refine y_iload_n rfl rfl ?_
          refine y_ireturn rfl rfl rfl ?_
          exact hQ _ (by unfold yMs; (repeat' split) <;> first | decide | (exfalso; omega))
    · refine y_aload_n rfl rfl ?_
      refine y_getR rfl (ySh.t hS rfl) (ySh.n hS rfl) rfl rfl (ySh.r hS rfl) ?_
      refine y_iconst rfl ?_
      refine y_virt rfl rfl rfl rfl rfl (ySh.t hS rfl) (ySh.n hS rfl) ?_
      refine sp_isAllowedNow hS (by decide) (by decide) (fun h_11 => ?_) (fun h_12 => ?_)
      · rw [show (Int32.ofInt 0).toInt.toNat = 0 by decide] at h_11
        refine y_ret1 ?_
        refine y_if_neT rfl j_X8_missingPillars_50 (by decide) ?_
        refine y_aload_n rfl rfl ?_
        refine y_getR rfl (ySh.t hS rfl) (ySh.n hS rfl) rfl rfl (ySh.r hS rfl) ?_
        refine y_getR rfl (ySh.t hS rfl) (ySh.n hS rfl) rfl rfl (ySh.r hS rfl) ?_
        refine y_iload_n rfl rfl ?_
        refine y_baloadv (J := I 44) rfl (ySh.t hS rfl) rfl (ySh.n hS rfl) (by omega) (by omega) rfl ?_
        refine y_if_eq rfl j_X8_missingPillars_66 (fun h_13 => ?_) (fun h_14 => ?_)
        · refine y_aload_n rfl rfl ?_
          refine y_getR rfl (ySh.t hS rfl) (ySh.n hS rfl) rfl rfl (ySh.r hS rfl) ?_
          refine y_getR rfl (ySh.t hS rfl) (ySh.n hS rfl) rfl rfl (ySh.r hS rfl) ?_
          refine y_iload_n rfl rfl ?_
          refine y_ialoadv (J := I 46) rfl (ySh.t hS rfl) (ySh.n hS rfl) (by omega) (by omega) rfl ?_
          refine y_iload_n rfl rfl ?_
          refine y_icmp_ne rfl j_X8_missingPillars_84 (fun h_15 => ?_) (fun h_16 => ?_)
          · refine y_iload_n rfl rfl ?_
            refine y_ireturn rfl rfl rfl ?_
            exact hQ _ (by unfold yMs; (repeat' split) <;> first | decide | (exfalso; omega))
          · refine y_iload_n rfl rfl ?_
            refine y_bip rfl (by decide) ?_
            refine y_ior rfl ?_
            refine y_istore_n (ls' := [some _, some _, some _, some _]) rfl rfl rfl ?_
            refine y_iload_n rfl rfl ?_
            refine y_ireturn rfl rfl rfl ?_
            exact hQ _ (by unfold yMs; (repeat' split) <;> first | decide | (exfalso; omega))
        · refine y_iload_n rfl rfl ?_
          refine y_iconst rfl ?_
          refine y_ior rfl ?_
          refine y_istore_n (ls' := [some _, some _, some _, some _]) rfl rfl rfl ?_
          refine y_aload_n rfl rfl ?_
          refine y_getR rfl (ySh.t hS rfl) (ySh.n hS rfl) rfl rfl (ySh.r hS rfl) ?_
          refine y_getR rfl (ySh.t hS rfl) (ySh.n hS rfl) rfl rfl (ySh.r hS rfl) ?_
          refine y_iload_n rfl rfl ?_
          refine y_ialoadv (J := I 46) rfl (ySh.t hS rfl) (ySh.n hS rfl) (by omega) (by omega) rfl ?_
          refine y_iload_n rfl rfl ?_
          refine y_icmp_ne rfl j_X8_missingPillars_84 (fun h_17 => ?_) (fun h_18 => ?_)
          · refine y_iload_n rfl rfl ?_
            refine y_ireturn rfl rfl rfl ?_
            exact hQ _ (by unfold yMs; (repeat' split) <;> first | decide | (exfalso; omega))
          · refine y_iload_n rfl rfl ?_
            refine y_bip rfl (by decide) ?_
            refine y_ior rfl ?_
            refine y_istore_n (ls' := [some _, some _, some _, some _]) rfl rfl rfl ?_
            refine y_iload_n rfl rfl ?_
            refine y_ireturn rfl rfl rfl ?_
            exact hQ _ (by unfold yMs; (repeat' split) <;> first | decide | (exfalso; omega))
      · rw [show (Int32.ofInt 0).toInt.toNat = 0 by decide] at h_12
        refine y_ret1 ?_
        refine y_if_neF rfl (by decide) ?_
        refine y_iload_n rfl rfl ?_
        refine y_iconst rfl ?_
        refine y_ior rfl ?_
        refine y_istore_n (ls' := [some _, some _, some _, some _]) rfl rfl rfl ?_
        refine y_aload_n rfl rfl ?_
        refine y_getR rfl (ySh.t hS rfl) (ySh.n hS rfl) rfl rfl (ySh.r hS rfl) ?_
        refine y_getR rfl (ySh.t hS rfl) (ySh.n hS rfl) rfl rfl (ySh.r hS rfl) ?_
        refine y_iload_n rfl rfl ?_
        refine y_baloadv (J := I 44) rfl (ySh.t hS rfl) rfl (ySh.n hS rfl) (by omega) (by omega) rfl ?_
        refine y_if_eq rfl j_X8_missingPillars_66 (fun h_19 => ?_) (fun h_20 => ?_)
        · refine y_aload_n rfl rfl ?_
          refine y_getR rfl (ySh.t hS rfl) (ySh.n hS rfl) rfl rfl (ySh.r hS rfl) ?_
          refine y_getR rfl (ySh.t hS rfl) (ySh.n hS rfl) rfl rfl (ySh.r hS rfl) ?_
          refine y_iload_n rfl rfl ?_
          refine y_ialoadv (J := I 46) rfl (ySh.t hS rfl) (ySh.n hS rfl) (by omega) (by omega) rfl ?_
          refine y_iload_n rfl rfl ?_
          refine y_icmp_ne rfl j_X8_missingPillars_84 (fun h_21 => ?_) (fun h_22 => ?_)
          · refine y_iload_n rfl rfl ?_
            refine y_ireturn rfl rfl rfl ?_
            exact hQ _ (by unfold yMs; (repeat' split) <;> first | decide | (exfalso; omega))
          · refine y_iload_n rfl rfl ?_
            refine y_bip rfl (by decide) ?_
            refine y_ior rfl ?_
            refine y_istore_n (ls' := [some _, some _, some _, some _]) rfl rfl rfl ?_
            refine y_iload_n rfl rfl ?_
            refine y_ireturn rfl rfl rfl ?_
            exact hQ _ (by unfold yMs; (repeat' split) <;> first | decide | (exfalso; omega))
        · refine y_iload_n rfl rfl ?_
          refine y_iconst rfl ?_
          refine y_ior rfl ?_
          refine y_istore_n (ls' := [some _, some _, some _, some _]) rfl rfl rfl ?_
          refine y_aload_n rfl rfl ?_
          refine y_getR rfl (ySh.t hS rfl) (ySh.n hS rfl) rfl rfl (ySh.r hS rfl) ?_
          refine y_getR rfl (ySh.t hS rfl) (ySh.n hS rfl) rfl rfl (ySh.r hS rfl) ?_
          refine y_iload_n rfl rfl ?_
          refine y_ialoadv (J := I 46) rfl (ySh.t hS rfl) (ySh.n hS rfl) (by omega) (by omega) rfl ?_
          refine y_iload_n rfl rfl ?_
          refine y_icmp_ne rfl j_X8_missingPillars_84 (fun h_23 => ?_) (fun h_24 => ?_)
          · refine y_iload_n rfl rfl ?_
            refine y_ireturn rfl rfl rfl ?_
            exact hQ _ (by unfold yMs; (repeat' split) <;> first | decide | (exfalso; omega))
          · refine y_iload_n rfl rfl ?_
            refine y_bip rfl (by decide) ?_
            refine y_ior rfl ?_
            refine y_istore_n (ls' := [some _, some _, some _, some _]) rfl rfl rfl ?_
            refine y_iload_n rfl rfl ?_
            refine y_ireturn rfl rfl rfl ?_
            exact hQ _ (by unfold yMs; (repeat' split) <;> first | decide | (exfalso; omega))
  · rw [yz_8] at h_2
    refine y_iload_n rfl rfl ?_
    refine y_iconst rfl ?_
    refine y_ior rfl ?_
    refine y_istore_n (ls' := [some _, some _, some _, some _]) rfl rfl rfl ?_
    refine y_goto rfl j_X8_missingPillars_50 ?_
    refine y_aload_n rfl rfl ?_
    refine y_getR rfl (ySh.t hS rfl) (ySh.n hS rfl) rfl rfl (ySh.r hS rfl) ?_
    refine y_getR rfl (ySh.t hS rfl) (ySh.n hS rfl) rfl rfl (ySh.r hS rfl) ?_
    refine y_iload_n rfl rfl ?_
    refine y_baloadv (J := I 44) rfl (ySh.t hS rfl) rfl (ySh.n hS rfl) (by omega) (by omega) rfl ?_
    refine y_if_eq rfl j_X8_missingPillars_66 (fun h_25 => ?_) (fun h_26 => ?_)
    · refine y_aload_n rfl rfl ?_
      refine y_getR rfl (ySh.t hS rfl) (ySh.n hS rfl) rfl rfl (ySh.r hS rfl) ?_
      refine y_getR rfl (ySh.t hS rfl) (ySh.n hS rfl) rfl rfl (ySh.r hS rfl) ?_
      refine y_iload_n rfl rfl ?_
      refine y_ialoadv (J := I 46) rfl (ySh.t hS rfl) (ySh.n hS rfl) (by omega) (by omega) rfl ?_
      refine y_iload_n rfl rfl ?_
      refine y_icmp_ne rfl j_X8_missingPillars_84 (fun h_27 => ?_) (fun h_28 => ?_)
      · refine y_iload_n rfl rfl ?_
        refine y_ireturn rfl rfl rfl ?_
        exact hQ _ (by unfold yMs; (repeat' split) <;> first | decide | (exfalso; omega))
      · refine y_iload_n rfl rfl ?_
        refine y_bip rfl (by decide) ?_
        refine y_ior rfl ?_
        refine y_istore_n (ls' := [some _, some _, some _, some _]) rfl rfl rfl ?_
        refine y_iload_n rfl rfl ?_
        refine y_ireturn rfl rfl rfl ?_
        exact hQ _ (by unfold yMs; (repeat' split) <;> first | decide | (exfalso; omega))
    · refine y_iload_n rfl rfl ?_
      refine y_iconst rfl ?_
      refine y_ior rfl ?_
      refine y_istore_n (ls' := [some _, some _, some _, some _]) rfl rfl rfl ?_
      refine y_aload_n rfl rfl ?_
      refine y_getR rfl (ySh.t hS rfl) (ySh.n hS rfl) rfl rfl (ySh.r hS rfl) ?_
      refine y_getR rfl (ySh.t hS rfl) (ySh.n hS rfl) rfl rfl (ySh.r hS rfl) ?_
      refine y_iload_n rfl rfl ?_
      refine y_ialoadv (J := I 46) rfl (ySh.t hS rfl) (ySh.n hS rfl) (by omega) (by omega) rfl ?_
      refine y_iload_n rfl rfl ?_
      refine y_icmp_ne rfl j_X8_missingPillars_84 (fun h_29 => ?_) (fun h_30 => ?_)
      · refine y_iload_n rfl rfl ?_
        refine y_ireturn rfl rfl rfl ?_
        exact hQ _ (by unfold yMs; (repeat' split) <;> first | decide | (exfalso; omega))
      · refine y_iload_n rfl rfl ?_
        refine y_bip rfl (by decide) ?_
        refine y_ior rfl ?_
        refine y_istore_n (ls' := [some _, some _, some _, some _]) rfl rfl rfl ?_
        refine y_iload_n rfl rfl ?_
        refine y_ireturn rfl rfl rfl ?_
        exact hQ _ (by unfold yMs; (repeat' split) <;> first | decide | (exfalso; omega))
theorem spx_canLease (hS : ySh n tg R) (hC : yCI I) {x1 x2 : Int32} (hv0 : 0 ≤ x1.toInt) (hv1 : x1.toInt < 16) (hQ1 : ((I 42 x1.toInt.toNat).toInt = 8 ∧ ¬ (I 43 x1.toInt.toNat).toInt = 0 ∧ (I 44 x1.toInt.toNat).toInt = 0 ∧ (I 47 x1.toInt.toNat).toInt = -1 ∧ (¬ (I 46 x1.toInt.toNat).toInt = x2.toInt ∨ 3 ≤ (yBC (I 36 3)).toInt)) → Q (.inl (some (.int (Int32.ofInt 1)))) (n, tg, I, R) c s) (hQ0 : ¬ ((I 42 x1.toInt.toNat).toInt = 8 ∧ ¬ (I 43 x1.toInt.toNat).toInt = 0 ∧ (I 44 x1.toInt.toNat).toInt = 0 ∧ (I 47 x1.toInt.toNat).toInt = -1 ∧ (¬ (I 46 x1.toInt.toNat).toInt = x2.toInt ∨ 3 ≤ (yBC (I 36 3)).toInt)) → Q (.inl (some (.int (Int32.ofInt 0)))) (n, tg, I, R) c s) : yC 168 [.ref 34, .int x1, .int x2] (n, tg, I, R) c s Q := by
  have hF : yFt I I := yFt.rf
  refine y_in (M := xm_X8_canLease) (ls := [some _, some _, some _]) rfl rfl rfl ?_
  refine y_aload_n rfl rfl ?_
  refine y_getR rfl (ySh.t hS rfl) (ySh.n hS rfl) rfl rfl (ySh.r hS rfl) ?_
  refine y_getR rfl (ySh.t hS rfl) (ySh.n hS rfl) rfl rfl (ySh.r hS rfl) ?_
  refine y_iload_n rfl rfl ?_
  refine y_ialoadv (J := I 42) rfl (ySh.t hS rfl) (ySh.n hS rfl) (by omega) (by omega) rfl ?_
  refine y_bip rfl (by decide) ?_
  refine y_icmp_ne rfl j_X8_canLease_77 (fun h_1 => ?_) (fun h_2 => ?_)
  · rw [yz_8] at h_1
    refine y_iconst rfl ?_
    refine y_ireturn rfl rfl rfl ?_
    exact hQ0 (by omega)
  · rw [yz_8] at h_2
    refine y_aload_n rfl rfl ?_
    refine y_getR rfl (ySh.t hS rfl) (ySh.n hS rfl) rfl rfl (ySh.r hS rfl) ?_
    refine y_getR rfl (ySh.t hS rfl) (ySh.n hS rfl) rfl rfl (ySh.r hS rfl) ?_
    refine y_iload_n rfl rfl ?_
    refine y_baloadv (J := I 43) rfl (ySh.t hS rfl) rfl (ySh.n hS rfl) (by omega) (by omega) rfl ?_
    refine y_if_eq rfl j_X8_canLease_77 (fun h_3 => ?_) (fun h_4 => ?_)
    · refine y_iconst rfl ?_
      refine y_ireturn rfl rfl rfl ?_
      exact hQ0 (by omega)
    · refine y_aload_n rfl rfl ?_
      refine y_getR rfl (ySh.t hS rfl) (ySh.n hS rfl) rfl rfl (ySh.r hS rfl) ?_
      refine y_getR rfl (ySh.t hS rfl) (ySh.n hS rfl) rfl rfl (ySh.r hS rfl) ?_
      refine y_iload_n rfl rfl ?_
      refine y_baloadv (J := I 44) rfl (ySh.t hS rfl) rfl (ySh.n hS rfl) (by omega) (by omega) rfl ?_
      refine y_if_ne rfl j_X8_canLease_77 (fun h_5 => ?_) (fun h_6 => ?_)
      · refine y_iconst rfl ?_
        refine y_ireturn rfl rfl rfl ?_
        exact hQ0 (by omega)
      · refine y_aload_n rfl rfl ?_
        refine y_getR rfl (ySh.t hS rfl) (ySh.n hS rfl) rfl rfl (ySh.r hS rfl) ?_
        refine y_iload_n rfl rfl ?_
        refine y_virt rfl rfl rfl rfl rfl (ySh.t hS rfl) (ySh.n hS rfl) ?_
        refine y_in (M := xm_X6_isLeased) (ls := [some _, some _]) rfl rfl rfl ?_
        refine y_aload_n rfl rfl ?_
        refine y_getR rfl (ySh.t hS rfl) (ySh.n hS rfl) rfl rfl (ySh.r hS rfl) ?_
        refine y_iload_n rfl rfl ?_
        refine y_ialoadv (J := I 47) rfl (ySh.t hS rfl) (ySh.n hS rfl) (by omega) (by omega) rfl ?_
        refine y_iconst rfl ?_
        refine y_icmp_eq rfl j_X6_isLeased_14 (fun h_7 => ?_) (fun h_8 => ?_)
        · rw [yz_m1] at h_7
          refine y_iconst rfl ?_
          refine y_ireturn rfl rfl rfl ?_
          refine y_ret1 ?_
          refine y_if_neF rfl (by decide) ?_
          refine y_aload_n rfl rfl ?_
          refine y_getR rfl (ySh.t hS rfl) (ySh.n hS rfl) rfl rfl (ySh.r hS rfl) ?_
          refine y_getR rfl (ySh.t hS rfl) (ySh.n hS rfl) rfl rfl (ySh.r hS rfl) ?_
          refine y_iload_n rfl rfl ?_
          refine y_ialoadv (J := I 46) rfl (ySh.t hS rfl) (ySh.n hS rfl) (by omega) (by omega) rfl ?_
          refine y_iload_n rfl rfl ?_
          refine y_icmp_ne rfl j_X8_canLease_73 (fun h_9 => ?_) (fun h_10 => ?_)
          · refine y_iconst rfl ?_
            refine y_goto rfl j_X8_canLease_78 ?_
            refine y_ireturn rfl rfl rfl ?_
            exact hQ1 (by omega)
          · refine y_aload_n rfl rfl ?_
            refine y_getR rfl (ySh.t hS rfl) (ySh.n hS rfl) rfl rfl (ySh.r hS rfl) ?_
            refine y_iconst rfl ?_
            refine y_virt rfl rfl rfl rfl rfl (ySh.t hS rfl) (ySh.n hS rfl) ?_
            refine sp_isAllowedNow hS (by decide) (by decide) (fun h_11 => ?_) (fun h_12 => ?_)
            · rw [show (Int32.ofInt 3).toInt.toNat = 3 by decide] at h_11
              refine y_ret1 ?_
              refine y_if_eqF rfl (by decide) ?_
              refine y_iconst rfl ?_
              refine y_goto rfl j_X8_canLease_78 ?_
              refine y_ireturn rfl rfl rfl ?_
              exact hQ1 (by omega)
            · rw [show (Int32.ofInt 3).toInt.toNat = 3 by decide] at h_12
              refine y_ret1 ?_
              refine y_if_eqT rfl j_X8_canLease_77 (by decide) ?_
              refine y_iconst rfl ?_
              refine y_ireturn rfl rfl rfl ?_
              exact hQ0 (by omega)
        · rw [yz_m1] at h_8
          refine y_iconst rfl ?_
          refine y_goto rfl j_X6_isLeased_15 ?_
          refine y_ireturn rfl rfl rfl ?_
          refine y_ret1 ?_
          refine y_if_neT rfl j_X8_canLease_77 (by decide) ?_
          refine y_iconst rfl ?_
          refine y_ireturn rfl rfl rfl ?_
          exact hQ0 (by omega)
theorem lp_heldX (hS : ySh n tg R) (hC : yCI I) (hQ : ∀ v : Int32, v = yFz (fun j : Nat => if (I 42 j).toInt = 8 ∧ ¬ (I 43 j).toInt = 0 then Int32.ofInt 1 else Int32.ofInt 0) (I 40 0).toInt.toNat → Q (.inl (some (.int v))) (n, tg, I, R) c s) : ∀ (m : Nat) (x1 : Int32) (x2 : Int32), (0 ≤ x2.toInt) → (x2.toInt ≤ (I 40 0).toInt) → (x1 = yFz (fun j : Nat => if (I 42 j).toInt = 8 ∧ ¬ (I 43 j).toInt = 0 then Int32.ofInt 1 else Int32.ofInt 0) x2.toInt.toNat) → (I 40 0).toInt - x2.toInt < m → yW xm_X6_heldByHouse xc_X6_heldByHouse_4 [some (.ref 40), some (.int x1), some (.int x2)] [] (n, tg, I, R) c s Q := by
  intro m
  induction m with
  | zero => intro x1 x2 i0 i1 i2 hm; exfalso; omega
  | succ m ih =>
    intro x1 x2 i0 i1 i2 hm
    refine y_iload_n rfl rfl ?_
    refine y_aload_n rfl rfl ?_
    refine y_getI rfl (ySh.t hS rfl) (ySh.n hS rfl) rfl rfl ?_
    refine y_icmp_ge rfl j_X6_heldByHouse_41 (fun h_1 => ?_) (fun h_2 => ?_)
    · refine y_iload_n rfl rfl ?_
      refine y_ireturn rfl rfl rfl ?_
      exact hQ _ (by rw [show (I 40 0).toInt.toNat = x2.toInt.toNat by omega]; assumption)
    · refine y_aload_n rfl rfl ?_
      refine y_getR rfl (ySh.t hS rfl) (ySh.n hS rfl) rfl rfl (ySh.r hS rfl) ?_
      refine y_iload_n rfl rfl ?_
      refine y_iaload rfl (ySh.t hS rfl) (ySh.n hS rfl) (by omega) (by omega) ?_
      refine y_bip rfl (by decide) ?_
      refine y_icmp_ne rfl j_X6_heldByHouse_35 (fun h_3 => ?_) (fun h_4 => ?_)
      · rw [yz_8] at h_3
        refine y_iinc (ls' := [some _, some _, some _]) rfl rfl rfl rfl ?_
        refine y_goto rfl j_X6_heldByHouse_4 ?_
        exact ih _ _ (by first | omega | (rw [yinc (by omega)]; omega)) (by first | omega | (rw [yinc (by omega)]; omega)) (by first | exact yFs_nx (by omega) (by assumption) (if_pos (by omega)).symm | exact yFz_nz (by omega) (by assumption) (if_neg (by omega))) (by first | omega | (rw [yinc (by omega)]; omega))
      · rw [yz_8] at h_4
        refine y_aload_n rfl rfl ?_
        refine y_getR rfl (ySh.t hS rfl) (ySh.n hS rfl) rfl rfl (ySh.r hS rfl) ?_
        refine y_iload_n rfl rfl ?_
        refine y_baload rfl (ySh.t hS rfl) rfl (ySh.n hS rfl) (by omega) (by omega) ?_
        refine y_if_eq rfl j_X6_heldByHouse_35 (fun h_5 => ?_) (fun h_6 => ?_)
        · refine y_iinc (ls' := [some _, some _, some _]) rfl rfl rfl rfl ?_
          refine y_goto rfl j_X6_heldByHouse_4 ?_
          exact ih _ _ (by first | omega | (rw [yinc (by omega)]; omega)) (by first | omega | (rw [yinc (by omega)]; omega)) (by first | exact yFs_nx (by omega) (by assumption) (if_pos (by omega)).symm | exact yFz_nz (by omega) (by assumption) (if_neg (by omega))) (by first | omega | (rw [yinc (by omega)]; omega))
        · refine y_iinc (ls' := [some _, some _, some _]) rfl rfl rfl rfl ?_
          refine y_iinc (ls' := [some _, some _, some _]) rfl rfl rfl rfl ?_
          refine y_goto rfl j_X6_heldByHouse_4 ?_
          exact ih _ _ (by first | omega | (rw [yinc (by omega)]; omega)) (by first | omega | (rw [yinc (by omega)]; omega)) (by first | exact yFs_nx (by omega) (by assumption) (if_pos (by omega)).symm | exact yFz_nz (by omega) (by assumption) (if_neg (by omega))) (by first | omega | (rw [yinc (by omega)]; omega))
theorem spx_held (hS : ySh n tg R) (hC : yCI I) (hQ : ∀ v : Int32, v = yFz (fun j : Nat => if (I 42 j).toInt = 8 ∧ ¬ (I 43 j).toInt = 0 then Int32.ofInt 1 else Int32.ofInt 0) (I 40 0).toInt.toNat → Q (.inl (some (.int v))) (n, tg, I, R) c s) : yC 102 [.ref 40] (n, tg, I, R) c s Q := by
  refine y_in (M := xm_X6_heldByHouse) (ls := [some _, _, _]) rfl rfl rfl ?_
  refine y_iconst rfl ?_
  refine y_istore_n (ls' := [some _, some _, _]) rfl rfl rfl ?_
  refine y_iconst rfl ?_
  refine y_istore_n (ls' := [some _, some _, some _]) rfl rfl rfl ?_
  exact lp_heldX hS hC hQ 100 _ _ (by decide) (by rw [yz_0]; omega) rfl (by rw [yz_0]; omega)
theorem g_thing (hS : ySh n tg R) (hC : yCI I) {x1 x2 : Int32} (hE0 : ¬ (x2.toInt = -1 ∨ 0 ≤ x2.toInt ∧ x2.toInt < (I 38 0).toInt) → Q (.inr "java/lang/IndexOutOfBoundsException") (n, tg, I, R) (c + 1) (s + 6)) (hE1 : (x2.toInt = -1 ∨ 0 ≤ x2.toInt ∧ x2.toInt < (I 38 0).toInt) ∧ ¬ (1 ≤ x1.toInt ∧ x1.toInt ≤ 999) → Q (.inr "java/lang/IllegalArgumentException") (n, tg, I, R) (c + 1) (s + 6)) (hE2 : (x2.toInt = -1 ∨ 0 ≤ x2.toInt ∧ x2.toInt < (I 38 0).toInt) ∧ (1 ≤ x1.toInt ∧ x1.toInt ≤ 999) ∧ (I 40 0).toInt = 16 → Q (.inr "java/lang/IllegalStateException") (n, tg, I, R) (c + 1) (s + 6)) (hQ : (x2.toInt = -1 ∨ 0 ≤ x2.toInt ∧ x2.toInt < (I 38 0).toInt) ∧ (1 ≤ x1.toInt ∧ x1.toInt ≤ 999) ∧ (I 40 0).toInt < 16 → ∀ (v : Int32) (I1 : Nat → Nat → Int32) (own : Int32), yCI I1 → yFt I I1 → (x2.toInt = -1 ∧ own = Int32.ofInt 9 ∨ ¬ x2.toInt = -1 ∧ own = x2) → v = I 40 0 → yGc yTL I1 (upd2 (upd2 (upd2 (upd2 (upd2 (upd2 I 41 (I 40 0).toInt.toNat x1) 42 (I 40 0).toInt.toNat own) 43 (I 40 0).toInt.toNat (Int32.ofInt 1)) 46 (I 40 0).toInt.toNat (Int32.ofInt (-1))) 47 (I 40 0).toInt.toNat (Int32.ofInt (-1))) 40 0 (I 40 0 + Int32.ofInt 1)) → I1 = (upd2 (upd2 (upd2 (upd2 (upd2 (upd2 I 41 (I 40 0).toInt.toNat x1) 42 (I 40 0).toInt.toNat own) 43 (I 40 0).toInt.toNat (Int32.ofInt 1)) 46 (I 40 0).toInt.toNat (Int32.ofInt (-1))) 47 (I 40 0).toInt.toNat (Int32.ofInt (-1))) 40 0 (I 40 0 + Int32.ofInt 1)) → Q (.inl (some (.int v))) (n, tg, I1, R) c s) : yC 123 [.ref 34, .int x1, .int x2] (n, tg, I, R) c s Q := by
  have hF : yFt I I := yFt.rf
  refine y_in (M := xm_X8_thing) (ls := [some _, some _, some _]) rfl rfl rfl ?_
  refine y_iload_n rfl rfl ?_
  refine y_iconst rfl ?_
  refine y_icmp_eq rfl j_X8_thing_26 (fun h_1 => ?_) (fun h_2 => ?_)
  · rw [yz_m1] at h_1
    refine y_iload_n rfl rfl ?_
    refine y_iconst rfl ?_
    refine y_sip rfl (by decide) ?_
    refine y_static rfl rfl rfl rfl rfl ?_
    refine s_isIn (fun h_3 h_4 => ?_) (fun h_5 => ?_)
    · rw [yz_1] at h_3
      rw [yz_999] at h_4
      refine y_ret1 ?_
      refine y_if_neT rfl j_X8_thing_47 (by decide) ?_
      refine y_aload_n rfl rfl ?_
      refine y_getR rfl (ySh.t hS rfl) (ySh.n hS rfl) rfl rfl (ySh.r hS rfl) ?_
      refine y_getIv (v := I 40 0) rfl (ySh.t hS rfl) (ySh.n hS rfl) rfl rfl rfl ?_
      refine y_bip rfl (by decide) ?_
      refine y_icmp_lt rfl j_X8_thing_69 (fun h_6 => ?_) (fun h_7 => ?_)
      · rw [yz_16] at h_6
        refine y_aload_n rfl rfl ?_
        refine y_getR rfl (ySh.t hS rfl) (ySh.n hS rfl) rfl rfl (ySh.r hS rfl) ?_
        refine y_iload_n rfl rfl ?_
        refine y_iload_n rfl rfl ?_
        refine y_iconst rfl ?_
        refine y_icmp_ne rfl j_X8_thing_84 (fun h_8 => ?_) (fun h_9 => ?_)
        · rw [yz_m1] at h_8
          refine y_iload_n rfl rfl ?_
          refine y_virt rfl rfl rfl rfl rfl (ySh.t hS rfl) (ySh.n hS rfl) ?_
          refine y_in (M := xm_X6_add) (ls := [some _, some _, some _]) rfl rfl rfl ?_
          refine y_aload_n rfl rfl ?_
          refine y_getR rfl (ySh.t hS rfl) (ySh.n hS rfl) rfl rfl (ySh.r hS rfl) ?_
          refine y_aload_n rfl rfl ?_
          refine y_getIv (v := I 40 0) rfl (ySh.t hS rfl) (ySh.n hS rfl) rfl rfl rfl ?_
          refine y_iload_n rfl rfl ?_
          refine y_iastore rfl (ySh.t hS rfl) (ySh.n hS rfl) (Nat.le_of_ble_eq_true rfl) (by omega) (by omega) ?_
          refine y_nameI (fun I10 e10 => ?_)
          have hC : yCI I10 := by rw [e10]; exact hC
          have hF : yFt I I10 := by rw [e10]; exact hF.upd (by decide)
          refine y_aload_n rfl rfl ?_
          refine y_getR rfl (ySh.t hS rfl) (ySh.n hS rfl) rfl rfl (ySh.r hS rfl) ?_
          refine y_aload_n rfl rfl ?_
          refine y_getIv (v := I 40 0) rfl (ySh.t hS rfl) (ySh.n hS rfl) rfl rfl (by rw [e10, upd2_ne (.inl (by decide))]) ?_
          refine y_iload_n rfl rfl ?_
          refine y_iastore rfl (ySh.t hS rfl) (ySh.n hS rfl) (Nat.le_of_ble_eq_true rfl) (by omega) (by omega) ?_
          refine y_nameI (fun I11 e11 => ?_)
          have hC : yCI I11 := by rw [e11]; exact hC
          have hF : yFt I I11 := by rw [e11]; exact hF.upd (by decide)
          refine y_aload_n rfl rfl ?_
          refine y_getR rfl (ySh.t hS rfl) (ySh.n hS rfl) rfl rfl (ySh.r hS rfl) ?_
          refine y_aload_n rfl rfl ?_
          refine y_getIv (v := I 40 0) rfl (ySh.t hS rfl) (ySh.n hS rfl) rfl rfl (by rw [e11, upd2_ne (.inl (by decide)), e10, upd2_ne (.inl (by decide))]) ?_
          refine y_iconst rfl ?_
          refine y_zastore rfl (ySh.t hS rfl) (ySh.n hS rfl) (Nat.le_of_ble_eq_true rfl) (by omega) (by omega) rfl ?_
          refine y_nameI (fun I12 e12 => ?_)
          have hC : yCI I12 := by rw [e12]; exact hC
          have hF : yFt I I12 := by rw [e12]; exact hF.upd (by decide)
          refine y_aload_n rfl rfl ?_
          refine y_getR rfl (ySh.t hS rfl) (ySh.n hS rfl) rfl rfl (ySh.r hS rfl) ?_
          refine y_aload_n rfl rfl ?_
          refine y_getIv (v := I 40 0) rfl (ySh.t hS rfl) (ySh.n hS rfl) rfl rfl (by rw [e12, upd2_ne (.inl (by decide)), e11, upd2_ne (.inl (by decide)), e10, upd2_ne (.inl (by decide))]) ?_
          refine y_iconst rfl ?_
          refine y_iastore rfl (ySh.t hS rfl) (ySh.n hS rfl) (Nat.le_of_ble_eq_true rfl) (by omega) (by omega) ?_
          refine y_nameI (fun I13 e13 => ?_)
          have hC : yCI I13 := by rw [e13]; exact hC
          have hF : yFt I I13 := by rw [e13]; exact hF.upd (by decide)
          refine y_aload_n rfl rfl ?_
          refine y_getR rfl (ySh.t hS rfl) (ySh.n hS rfl) rfl rfl (ySh.r hS rfl) ?_
          refine y_aload_n rfl rfl ?_
          refine y_getIv (v := I 40 0) rfl (ySh.t hS rfl) (ySh.n hS rfl) rfl rfl (by rw [e13, upd2_ne (.inl (by decide)), e12, upd2_ne (.inl (by decide)), e11, upd2_ne (.inl (by decide)), e10, upd2_ne (.inl (by decide))]) ?_
          refine y_iconst rfl ?_
          refine y_iastore rfl (ySh.t hS rfl) (ySh.n hS rfl) (Nat.le_of_ble_eq_true rfl) (by omega) (by omega) ?_
          refine y_nameI (fun I14 e14 => ?_)
          have hC : yCI I14 := by rw [e14]; exact hC
          have hF : yFt I I14 := by rw [e14]; exact hF.upd (by decide)
          refine y_aload_n rfl rfl ?_
          refine y_dup rfl rfl ?_
          refine y_getIv (v := I 40 0) rfl (ySh.t hS rfl) (ySh.n hS rfl) rfl rfl (by rw [e14, upd2_ne (.inl (by decide)), e13, upd2_ne (.inl (by decide)), e12, upd2_ne (.inl (by decide)), e11, upd2_ne (.inl (by decide)), e10, upd2_ne (.inl (by decide))]) ?_
          refine y_dup_x1 rfl rfl rfl ?_
          refine y_iconst rfl ?_
          refine y_iadd rfl ?_
          refine y_putI rfl (ySh.t hS rfl) (ySh.n hS rfl) rfl (Nat.le_of_ble_eq_true rfl) rfl rfl ?_
          refine y_nameI (fun I15 e15 => ?_)
          have hC : yCI I15 := by rw [e15]; exact yCI.inc40v hC (by rw [e14, upd2_ne (.inl (by decide)), e13, upd2_ne (.inl (by decide)), e12, upd2_ne (.inl (by decide)), e11, upd2_ne (.inl (by decide)), e10, upd2_ne (.inl (by decide))]) (by omega)
          have hF : yFt I I15 := by rw [e15]; exact hF.upd (by decide)
          refine y_ireturn rfl rfl rfl ?_
          refine y_ret1 ?_
          refine y_ireturn rfl rfl rfl ?_
          first | (exfalso; omega) | (exact hQ (by omega) _ _ _ hC hF (by first | exact .inl ⟨by omega, rfl⟩ | exact .inr ⟨by omega, rfl⟩) rfl (by rw [e15, e14, e13, e12, e11, e10]; repeat (first | exact yGc.rf | refine yGc.skipC ?_ (by decide) | refine yGc.skip ?_ (by decide) | refine yGc.both ?_)) (by first | (rw [e15, e14, e13, e12, e11, e10]; done) | (rw [e15, e14, e13, e12, e11, e10]; rfl)))
        · rw [yz_m1] at h_9
          refine y_bip rfl (by decide) ?_
          refine y_goto rfl j_X8_thing_85 ?_
          refine y_virt rfl rfl rfl rfl rfl (ySh.t hS rfl) (ySh.n hS rfl) ?_
          refine y_in (M := xm_X6_add) (ls := [some _, some _, some _]) rfl rfl rfl ?_
          refine y_aload_n rfl rfl ?_
          refine y_getR rfl (ySh.t hS rfl) (ySh.n hS rfl) rfl rfl (ySh.r hS rfl) ?_
          refine y_aload_n rfl rfl ?_
          refine y_getIv (v := I 40 0) rfl (ySh.t hS rfl) (ySh.n hS rfl) rfl rfl rfl ?_
          refine y_iload_n rfl rfl ?_
          refine y_iastore rfl (ySh.t hS rfl) (ySh.n hS rfl) (Nat.le_of_ble_eq_true rfl) (by omega) (by omega) ?_
          refine y_nameI (fun I16 e16 => ?_)
          have hC : yCI I16 := by rw [e16]; exact hC
          have hF : yFt I I16 := by rw [e16]; exact hF.upd (by decide)
          refine y_aload_n rfl rfl ?_
          refine y_getR rfl (ySh.t hS rfl) (ySh.n hS rfl) rfl rfl (ySh.r hS rfl) ?_
          refine y_aload_n rfl rfl ?_
          refine y_getIv (v := I 40 0) rfl (ySh.t hS rfl) (ySh.n hS rfl) rfl rfl (by rw [e16, upd2_ne (.inl (by decide))]) ?_
          refine y_iload_n rfl rfl ?_
          refine y_iastore rfl (ySh.t hS rfl) (ySh.n hS rfl) (Nat.le_of_ble_eq_true rfl) (by omega) (by omega) ?_
          refine y_nameI (fun I17 e17 => ?_)
          have hC : yCI I17 := by rw [e17]; exact hC
          have hF : yFt I I17 := by rw [e17]; exact hF.upd (by decide)
          refine y_aload_n rfl rfl ?_
          refine y_getR rfl (ySh.t hS rfl) (ySh.n hS rfl) rfl rfl (ySh.r hS rfl) ?_
          refine y_aload_n rfl rfl ?_
          refine y_getIv (v := I 40 0) rfl (ySh.t hS rfl) (ySh.n hS rfl) rfl rfl (by rw [e17, upd2_ne (.inl (by decide)), e16, upd2_ne (.inl (by decide))]) ?_
          refine y_iconst rfl ?_
          refine y_zastore rfl (ySh.t hS rfl) (ySh.n hS rfl) (Nat.le_of_ble_eq_true rfl) (by omega) (by omega) rfl ?_
          refine y_nameI (fun I18 e18 => ?_)
          have hC : yCI I18 := by rw [e18]; exact hC
          have hF : yFt I I18 := by rw [e18]; exact hF.upd (by decide)
          refine y_aload_n rfl rfl ?_
          refine y_getR rfl (ySh.t hS rfl) (ySh.n hS rfl) rfl rfl (ySh.r hS rfl) ?_
          refine y_aload_n rfl rfl ?_
          refine y_getIv (v := I 40 0) rfl (ySh.t hS rfl) (ySh.n hS rfl) rfl rfl (by rw [e18, upd2_ne (.inl (by decide)), e17, upd2_ne (.inl (by decide)), e16, upd2_ne (.inl (by decide))]) ?_
          refine y_iconst rfl ?_
          refine y_iastore rfl (ySh.t hS rfl) (ySh.n hS rfl) (Nat.le_of_ble_eq_true rfl) (by omega) (by omega) ?_
          refine y_nameI (fun I19 e19 => ?_)
          have hC : yCI I19 := by rw [e19]; exact hC
          have hF : yFt I I19 := by rw [e19]; exact hF.upd (by decide)
          refine y_aload_n rfl rfl ?_
          refine y_getR rfl (ySh.t hS rfl) (ySh.n hS rfl) rfl rfl (ySh.r hS rfl) ?_
          refine y_aload_n rfl rfl ?_
          refine y_getIv (v := I 40 0) rfl (ySh.t hS rfl) (ySh.n hS rfl) rfl rfl (by rw [e19, upd2_ne (.inl (by decide)), e18, upd2_ne (.inl (by decide)), e17, upd2_ne (.inl (by decide)), e16, upd2_ne (.inl (by decide))]) ?_
          refine y_iconst rfl ?_
          refine y_iastore rfl (ySh.t hS rfl) (ySh.n hS rfl) (Nat.le_of_ble_eq_true rfl) (by omega) (by omega) ?_
          refine y_nameI (fun I20 e20 => ?_)
          have hC : yCI I20 := by rw [e20]; exact hC
          have hF : yFt I I20 := by rw [e20]; exact hF.upd (by decide)
          refine y_aload_n rfl rfl ?_
          refine y_dup rfl rfl ?_
          refine y_getIv (v := I 40 0) rfl (ySh.t hS rfl) (ySh.n hS rfl) rfl rfl (by rw [e20, upd2_ne (.inl (by decide)), e19, upd2_ne (.inl (by decide)), e18, upd2_ne (.inl (by decide)), e17, upd2_ne (.inl (by decide)), e16, upd2_ne (.inl (by decide))]) ?_
          refine y_dup_x1 rfl rfl rfl ?_
          refine y_iconst rfl ?_
          refine y_iadd rfl ?_
          refine y_putI rfl (ySh.t hS rfl) (ySh.n hS rfl) rfl (Nat.le_of_ble_eq_true rfl) rfl rfl ?_
          refine y_nameI (fun I21 e21 => ?_)
          have hC : yCI I21 := by rw [e21]; exact yCI.inc40v hC (by rw [e20, upd2_ne (.inl (by decide)), e19, upd2_ne (.inl (by decide)), e18, upd2_ne (.inl (by decide)), e17, upd2_ne (.inl (by decide)), e16, upd2_ne (.inl (by decide))]) (by omega)
          have hF : yFt I I21 := by rw [e21]; exact hF.upd (by decide)
          refine y_ireturn rfl rfl rfl ?_
          refine y_ret1 ?_
          refine y_ireturn rfl rfl rfl ?_
          first | (exfalso; omega) | (exact hQ (by omega) _ _ _ hC hF (by first | exact .inl ⟨by omega, rfl⟩ | exact .inr ⟨by omega, rfl⟩) rfl (by rw [e21, e20, e19, e18, e17, e16]; repeat (first | exact yGc.rf | refine yGc.skipC ?_ (by decide) | refine yGc.skip ?_ (by decide) | refine yGc.both ?_)) (by first | (rw [e21, e20, e19, e18, e17, e16]; done) | (rw [e21, e20, e19, e18, e17, e16]; rfl)))
      · rw [yz_16] at h_7
        refine y_throw rfl rfl rfl ?_
        exact hE2 (by omega)
    · rw [yz_1] at h_5
      rw [yz_999] at h_5
      refine y_ret1 ?_
      refine y_if_neF rfl (by decide) ?_
      refine y_throw rfl rfl rfl ?_
      exact hE1 (by omega)
  · rw [yz_m1] at h_2
    refine y_aload_n rfl rfl ?_
    refine y_getR rfl (ySh.t hS rfl) (ySh.n hS rfl) rfl rfl (ySh.r hS rfl) ?_
    refine y_iload_n rfl rfl ?_
    refine y_virt rfl rfl rfl rfl rfl (ySh.t hS rfl) (ySh.n hS rfl) ?_
    refine y_in (M := xm_X4_has) (ls := [some _, some _]) rfl rfl rfl ?_
    refine y_iload_n rfl rfl ?_
    refine y_if_lt rfl j_X4_has_16 (fun h_22 => ?_) (fun h_23 => ?_)
    · refine y_iconst rfl ?_
      refine y_ireturn rfl rfl rfl ?_
      refine y_ret1 ?_
      refine y_if_neF rfl (by decide) ?_
      refine y_throw rfl rfl rfl ?_
      exact hE0 (by omega)
    · refine y_iload_n rfl rfl ?_
      refine y_aload_n rfl rfl ?_
      refine y_getIv (v := I 38 0) rfl (ySh.t hS rfl) (ySh.n hS rfl) rfl rfl rfl ?_
      refine y_icmp_ge rfl j_X4_has_16 (fun h_24 => ?_) (fun h_25 => ?_)
      · refine y_iconst rfl ?_
        refine y_ireturn rfl rfl rfl ?_
        refine y_ret1 ?_
        refine y_if_neF rfl (by decide) ?_
        refine y_throw rfl rfl rfl ?_
        exact hE0 (by omega)
      · refine y_iconst rfl ?_
        refine y_goto rfl j_X4_has_17 ?_
        refine y_ireturn rfl rfl rfl ?_
        refine y_ret1 ?_
        refine y_if_neT rfl j_X8_thing_26 (by decide) ?_
        refine y_iload_n rfl rfl ?_
        refine y_iconst rfl ?_
        refine y_sip rfl (by decide) ?_
        refine y_static rfl rfl rfl rfl rfl ?_
        refine s_isIn (fun h_26 h_27 => ?_) (fun h_28 => ?_)
        · rw [yz_1] at h_26
          rw [yz_999] at h_27
          refine y_ret1 ?_
          refine y_if_neT rfl j_X8_thing_47 (by decide) ?_
          refine y_aload_n rfl rfl ?_
          refine y_getR rfl (ySh.t hS rfl) (ySh.n hS rfl) rfl rfl (ySh.r hS rfl) ?_
          refine y_getIv (v := I 40 0) rfl (ySh.t hS rfl) (ySh.n hS rfl) rfl rfl rfl ?_
          refine y_bip rfl (by decide) ?_
          refine y_icmp_lt rfl j_X8_thing_69 (fun h_29 => ?_) (fun h_30 => ?_)
          · rw [yz_16] at h_29
            refine y_aload_n rfl rfl ?_
            refine y_getR rfl (ySh.t hS rfl) (ySh.n hS rfl) rfl rfl (ySh.r hS rfl) ?_
            refine y_iload_n rfl rfl ?_
            refine y_iload_n rfl rfl ?_
            refine y_iconst rfl ?_
            refine y_icmp_ne rfl j_X8_thing_84 (fun h_31 => ?_) (fun h_32 => ?_)
            · rw [yz_m1] at h_31
              refine y_iload_n rfl rfl ?_
              refine y_virt rfl rfl rfl rfl rfl (ySh.t hS rfl) (ySh.n hS rfl) ?_
              refine y_in (M := xm_X6_add) (ls := [some _, some _, some _]) rfl rfl rfl ?_
              refine y_aload_n rfl rfl ?_
              refine y_getR rfl (ySh.t hS rfl) (ySh.n hS rfl) rfl rfl (ySh.r hS rfl) ?_
              refine y_aload_n rfl rfl ?_
              refine y_getIv (v := I 40 0) rfl (ySh.t hS rfl) (ySh.n hS rfl) rfl rfl rfl ?_
              refine y_iload_n rfl rfl ?_
              refine y_iastore rfl (ySh.t hS rfl) (ySh.n hS rfl) (Nat.le_of_ble_eq_true rfl) (by omega) (by omega) ?_
              refine y_nameI (fun I33 e33 => ?_)
              have hC : yCI I33 := by rw [e33]; exact hC
              have hF : yFt I I33 := by rw [e33]; exact hF.upd (by decide)
              refine y_aload_n rfl rfl ?_
              refine y_getR rfl (ySh.t hS rfl) (ySh.n hS rfl) rfl rfl (ySh.r hS rfl) ?_
              refine y_aload_n rfl rfl ?_
              refine y_getIv (v := I 40 0) rfl (ySh.t hS rfl) (ySh.n hS rfl) rfl rfl (by rw [e33, upd2_ne (.inl (by decide))]) ?_
              refine y_iload_n rfl rfl ?_
              refine y_iastore rfl (ySh.t hS rfl) (ySh.n hS rfl) (Nat.le_of_ble_eq_true rfl) (by omega) (by omega) ?_
              refine y_nameI (fun I34 e34 => ?_)
              have hC : yCI I34 := by rw [e34]; exact hC
              have hF : yFt I I34 := by rw [e34]; exact hF.upd (by decide)
              refine y_aload_n rfl rfl ?_
              refine y_getR rfl (ySh.t hS rfl) (ySh.n hS rfl) rfl rfl (ySh.r hS rfl) ?_
              refine y_aload_n rfl rfl ?_
              refine y_getIv (v := I 40 0) rfl (ySh.t hS rfl) (ySh.n hS rfl) rfl rfl (by rw [e34, upd2_ne (.inl (by decide)), e33, upd2_ne (.inl (by decide))]) ?_
              refine y_iconst rfl ?_
              refine y_zastore rfl (ySh.t hS rfl) (ySh.n hS rfl) (Nat.le_of_ble_eq_true rfl) (by omega) (by omega) rfl ?_
              refine y_nameI (fun I35 e35 => ?_)
              have hC : yCI I35 := by rw [e35]; exact hC
              have hF : yFt I I35 := by rw [e35]; exact hF.upd (by decide)
              refine y_aload_n rfl rfl ?_
              refine y_getR rfl (ySh.t hS rfl) (ySh.n hS rfl) rfl rfl (ySh.r hS rfl) ?_
              refine y_aload_n rfl rfl ?_
              refine y_getIv (v := I 40 0) rfl (ySh.t hS rfl) (ySh.n hS rfl) rfl rfl (by rw [e35, upd2_ne (.inl (by decide)), e34, upd2_ne (.inl (by decide)), e33, upd2_ne (.inl (by decide))]) ?_
              refine y_iconst rfl ?_
              refine y_iastore rfl (ySh.t hS rfl) (ySh.n hS rfl) (Nat.le_of_ble_eq_true rfl) (by omega) (by omega) ?_
              refine y_nameI (fun I36 e36 => ?_)
              have hC : yCI I36 := by rw [e36]; exact hC
              have hF : yFt I I36 := by rw [e36]; exact hF.upd (by decide)
              refine y_aload_n rfl rfl ?_
              refine y_getR rfl (ySh.t hS rfl) (ySh.n hS rfl) rfl rfl (ySh.r hS rfl) ?_
              refine y_aload_n rfl rfl ?_
              refine y_getIv (v := I 40 0) rfl (ySh.t hS rfl) (ySh.n hS rfl) rfl rfl (by rw [e36, upd2_ne (.inl (by decide)), e35, upd2_ne (.inl (by decide)), e34, upd2_ne (.inl (by decide)), e33, upd2_ne (.inl (by decide))]) ?_
              refine y_iconst rfl ?_
              refine y_iastore rfl (ySh.t hS rfl) (ySh.n hS rfl) (Nat.le_of_ble_eq_true rfl) (by omega) (by omega) ?_
              refine y_nameI (fun I37 e37 => ?_)
              have hC : yCI I37 := by rw [e37]; exact hC
              have hF : yFt I I37 := by rw [e37]; exact hF.upd (by decide)
              refine y_aload_n rfl rfl ?_
              refine y_dup rfl rfl ?_
              refine y_getIv (v := I 40 0) rfl (ySh.t hS rfl) (ySh.n hS rfl) rfl rfl (by rw [e37, upd2_ne (.inl (by decide)), e36, upd2_ne (.inl (by decide)), e35, upd2_ne (.inl (by decide)), e34, upd2_ne (.inl (by decide)), e33, upd2_ne (.inl (by decide))]) ?_
              refine y_dup_x1 rfl rfl rfl ?_
              refine y_iconst rfl ?_
              refine y_iadd rfl ?_
              refine y_putI rfl (ySh.t hS rfl) (ySh.n hS rfl) rfl (Nat.le_of_ble_eq_true rfl) rfl rfl ?_
              refine y_nameI (fun I38 e38 => ?_)
              have hC : yCI I38 := by rw [e38]; exact yCI.inc40v hC (by rw [e37, upd2_ne (.inl (by decide)), e36, upd2_ne (.inl (by decide)), e35, upd2_ne (.inl (by decide)), e34, upd2_ne (.inl (by decide)), e33, upd2_ne (.inl (by decide))]) (by omega)
              have hF : yFt I I38 := by rw [e38]; exact hF.upd (by decide)
              refine y_ireturn rfl rfl rfl ?_
              refine y_ret1 ?_
              refine y_ireturn rfl rfl rfl ?_
              first | (exfalso; omega) | (exact hQ (by omega) _ _ _ hC hF (by first | exact .inl ⟨by omega, rfl⟩ | exact .inr ⟨by omega, rfl⟩) rfl (by rw [e38, e37, e36, e35, e34, e33]; repeat (first | exact yGc.rf | refine yGc.skipC ?_ (by decide) | refine yGc.skip ?_ (by decide) | refine yGc.both ?_)) (by first | (rw [e38, e37, e36, e35, e34, e33]; done) | (rw [e38, e37, e36, e35, e34, e33]; rfl)))
            · rw [yz_m1] at h_32
              refine y_bip rfl (by decide) ?_
              refine y_goto rfl j_X8_thing_85 ?_
              refine y_virt rfl rfl rfl rfl rfl (ySh.t hS rfl) (ySh.n hS rfl) ?_
              refine y_in (M := xm_X6_add) (ls := [some _, some _, some _]) rfl rfl rfl ?_
              refine y_aload_n rfl rfl ?_
              refine y_getR rfl (ySh.t hS rfl) (ySh.n hS rfl) rfl rfl (ySh.r hS rfl) ?_
              refine y_aload_n rfl rfl ?_
              refine y_getIv (v := I 40 0) rfl (ySh.t hS rfl) (ySh.n hS rfl) rfl rfl rfl ?_
              refine y_iload_n rfl rfl ?_
              refine y_iastore rfl (ySh.t hS rfl) (ySh.n hS rfl) (Nat.le_of_ble_eq_true rfl) (by omega) (by omega) ?_
              refine y_nameI (fun I39 e39 => ?_)
              have hC : yCI I39 := by rw [e39]; exact hC
              have hF : yFt I I39 := by rw [e39]; exact hF.upd (by decide)
              refine y_aload_n rfl rfl ?_
              refine y_getR rfl (ySh.t hS rfl) (ySh.n hS rfl) rfl rfl (ySh.r hS rfl) ?_
              refine y_aload_n rfl rfl ?_
              refine y_getIv (v := I 40 0) rfl (ySh.t hS rfl) (ySh.n hS rfl) rfl rfl (by rw [e39, upd2_ne (.inl (by decide))]) ?_
              refine y_iload_n rfl rfl ?_
              refine y_iastore rfl (ySh.t hS rfl) (ySh.n hS rfl) (Nat.le_of_ble_eq_true rfl) (by omega) (by omega) ?_
              refine y_nameI (fun I40 e40 => ?_)
              have hC : yCI I40 := by rw [e40]; exact hC
              have hF : yFt I I40 := by rw [e40]; exact hF.upd (by decide)
              refine y_aload_n rfl rfl ?_
              refine y_getR rfl (ySh.t hS rfl) (ySh.n hS rfl) rfl rfl (ySh.r hS rfl) ?_
              refine y_aload_n rfl rfl ?_
              refine y_getIv (v := I 40 0) rfl (ySh.t hS rfl) (ySh.n hS rfl) rfl rfl (by rw [e40, upd2_ne (.inl (by decide)), e39, upd2_ne (.inl (by decide))]) ?_
              refine y_iconst rfl ?_
              refine y_zastore rfl (ySh.t hS rfl) (ySh.n hS rfl) (Nat.le_of_ble_eq_true rfl) (by omega) (by omega) rfl ?_
              refine y_nameI (fun I41 e41 => ?_)
              have hC : yCI I41 := by rw [e41]; exact hC
              have hF : yFt I I41 := by rw [e41]; exact hF.upd (by decide)
              refine y_aload_n rfl rfl ?_
              refine y_getR rfl (ySh.t hS rfl) (ySh.n hS rfl) rfl rfl (ySh.r hS rfl) ?_
              refine y_aload_n rfl rfl ?_
              refine y_getIv (v := I 40 0) rfl (ySh.t hS rfl) (ySh.n hS rfl) rfl rfl (by rw [e41, upd2_ne (.inl (by decide)), e40, upd2_ne (.inl (by decide)), e39, upd2_ne (.inl (by decide))]) ?_
              refine y_iconst rfl ?_
              refine y_iastore rfl (ySh.t hS rfl) (ySh.n hS rfl) (Nat.le_of_ble_eq_true rfl) (by omega) (by omega) ?_
              refine y_nameI (fun I42 e42 => ?_)
              have hC : yCI I42 := by rw [e42]; exact hC
              have hF : yFt I I42 := by rw [e42]; exact hF.upd (by decide)
              refine y_aload_n rfl rfl ?_
              refine y_getR rfl (ySh.t hS rfl) (ySh.n hS rfl) rfl rfl (ySh.r hS rfl) ?_
              refine y_aload_n rfl rfl ?_
              refine y_getIv (v := I 40 0) rfl (ySh.t hS rfl) (ySh.n hS rfl) rfl rfl (by rw [e42, upd2_ne (.inl (by decide)), e41, upd2_ne (.inl (by decide)), e40, upd2_ne (.inl (by decide)), e39, upd2_ne (.inl (by decide))]) ?_
              refine y_iconst rfl ?_
              refine y_iastore rfl (ySh.t hS rfl) (ySh.n hS rfl) (Nat.le_of_ble_eq_true rfl) (by omega) (by omega) ?_
              refine y_nameI (fun I43 e43 => ?_)
              have hC : yCI I43 := by rw [e43]; exact hC
              have hF : yFt I I43 := by rw [e43]; exact hF.upd (by decide)
              refine y_aload_n rfl rfl ?_
              refine y_dup rfl rfl ?_
              refine y_getIv (v := I 40 0) rfl (ySh.t hS rfl) (ySh.n hS rfl) rfl rfl (by rw [e43, upd2_ne (.inl (by decide)), e42, upd2_ne (.inl (by decide)), e41, upd2_ne (.inl (by decide)), e40, upd2_ne (.inl (by decide)), e39, upd2_ne (.inl (by decide))]) ?_
              refine y_dup_x1 rfl rfl rfl ?_
              refine y_iconst rfl ?_
              refine y_iadd rfl ?_
              refine y_putI rfl (ySh.t hS rfl) (ySh.n hS rfl) rfl (Nat.le_of_ble_eq_true rfl) rfl rfl ?_
              refine y_nameI (fun I44 e44 => ?_)
              have hC : yCI I44 := by rw [e44]; exact yCI.inc40v hC (by rw [e43, upd2_ne (.inl (by decide)), e42, upd2_ne (.inl (by decide)), e41, upd2_ne (.inl (by decide)), e40, upd2_ne (.inl (by decide)), e39, upd2_ne (.inl (by decide))]) (by omega)
              have hF : yFt I I44 := by rw [e44]; exact hF.upd (by decide)
              refine y_ireturn rfl rfl rfl ?_
              refine y_ret1 ?_
              refine y_ireturn rfl rfl rfl ?_
              first | (exfalso; omega) | (exact hQ (by omega) _ _ _ hC hF (by first | exact .inl ⟨by omega, rfl⟩ | exact .inr ⟨by omega, rfl⟩) rfl (by rw [e44, e43, e42, e41, e40, e39]; repeat (first | exact yGc.rf | refine yGc.skipC ?_ (by decide) | refine yGc.skip ?_ (by decide) | refine yGc.both ?_)) (by first | (rw [e44, e43, e42, e41, e40, e39]; done) | (rw [e44, e43, e42, e41, e40, e39]; rfl)))
          · rw [yz_16] at h_30
            refine y_throw rfl rfl rfl ?_
            exact hE2 (by omega)
        · rw [yz_1] at h_28
          rw [yz_999] at h_28
          refine y_ret1 ?_
          refine y_if_neF rfl (by decide) ?_
          refine y_throw rfl rfl rfl ?_
          exact hE1 (by omega)
theorem g_buy (hS : ySh n tg R) (hC : yCI I) {x1 : Int32} (hE0 : ¬ (0 ≤ x1.toInt ∧ x1.toInt < (I 40 0).toInt) → Q (.inr "java/lang/IndexOutOfBoundsException") (n, tg, I, R) (c + 1) (s + 6)) (hE2 : (0 ≤ x1.toInt ∧ x1.toInt < (I 40 0).toInt) ∧ ¬ (¬ (I 42 x1.toInt.toNat).toInt = 8 ∧ (I 44 x1.toInt.toNat).toInt = 0 ∧ (I 47 x1.toInt.toNat).toInt = -1) → Q (.inr "java/lang/IllegalStateException") (n, tg, I, R) (c + 1) (s + 6)) (hQ : (0 ≤ x1.toInt ∧ x1.toInt < (I 40 0).toInt) ∧ (¬ (I 42 x1.toInt.toNat).toInt = 8 ∧ (I 44 x1.toInt.toNat).toInt = 0 ∧ (I 47 x1.toInt.toNat).toInt = -1) → ∀ (v : Int32) (I1 : Nat → Nat → Int32), yCI I1 → yFt I I1 → v = I 41 x1.toInt.toNat → yGc yTL I1 (upd2 (upd2 (upd2 (upd2 I 45 x1.toInt.toNat (I 41 x1.toInt.toNat)) 46 x1.toInt.toNat (I 42 x1.toInt.toNat)) 42 x1.toInt.toNat (Int32.ofInt 8)) 43 x1.toInt.toNat (Int32.ofInt 0)) → I1 = (upd2 (upd2 (upd2 (upd2 (yAddC (yAddC I (Int32.ofInt 8) (-(I 41 x1.toInt.toNat))) (I 42 x1.toInt.toNat) (I 41 x1.toInt.toNat)) 45 x1.toInt.toNat (I 41 x1.toInt.toNat)) 46 x1.toInt.toNat (I 42 x1.toInt.toNat)) 42 x1.toInt.toNat (Int32.ofInt 8)) 43 x1.toInt.toNat (Int32.ofInt 0)) → Q (.inl (some (.int v))) (n, tg, I1, R) c s) : yC 124 [.ref 34, .int x1] (n, tg, I, R) c s Q := by
  have hF : yFt I I := yFt.rf
  refine y_in (M := xm_X8_buy) (ls := [some _, some _, _]) rfl rfl rfl ?_
  refine y_aload_n rfl rfl ?_
  refine y_getR rfl (ySh.t hS rfl) (ySh.n hS rfl) rfl rfl (ySh.r hS rfl) ?_
  refine y_iload_n rfl rfl ?_
  refine y_virt rfl rfl rfl rfl rfl (ySh.t hS rfl) (ySh.n hS rfl) ?_
  refine y_in (M := xm_X6_has) (ls := [some _, some _]) rfl rfl rfl ?_
  refine y_iload_n rfl rfl ?_
  refine y_if_lt rfl j_X6_has_16 (fun h_1 => ?_) (fun h_2 => ?_)
  · refine y_iconst rfl ?_
    refine y_ireturn rfl rfl rfl ?_
    refine y_ret1 ?_
    refine y_if_neF rfl (by decide) ?_
    refine y_throw rfl rfl rfl ?_
    exact hE0 (by omega)
  · refine y_iload_n rfl rfl ?_
    refine y_aload_n rfl rfl ?_
    refine y_getIv (v := I 40 0) rfl (ySh.t hS rfl) (ySh.n hS rfl) rfl rfl rfl ?_
    refine y_icmp_ge rfl j_X6_has_16 (fun h_3 => ?_) (fun h_4 => ?_)
    · refine y_iconst rfl ?_
      refine y_ireturn rfl rfl rfl ?_
      refine y_ret1 ?_
      refine y_if_neF rfl (by decide) ?_
      refine y_throw rfl rfl rfl ?_
      exact hE0 (by omega)
    · refine y_iconst rfl ?_
      refine y_goto rfl j_X6_has_17 ?_
      refine y_ireturn rfl rfl rfl ?_
      refine y_ret1 ?_
      refine y_if_neT rfl j_X8_buy_21 (by decide) ?_
      refine y_aload_n rfl rfl ?_
      refine y_getR rfl (ySh.t hS rfl) (ySh.n hS rfl) rfl rfl (ySh.r hS rfl) ?_
      refine y_getR rfl (ySh.t hS rfl) (ySh.n hS rfl) rfl rfl (ySh.r hS rfl) ?_
      refine y_iload_n rfl rfl ?_
      refine y_ialoadv (J := I 42) rfl (ySh.t hS rfl) (ySh.n hS rfl) (by omega) (by omega) rfl ?_
      refine y_bip rfl (by decide) ?_
      refine y_icmp_eq rfl j_X8_buy_58 (fun h_5 => ?_) (fun h_6 => ?_)
      · rw [yz_8] at h_5
        refine y_throw rfl rfl rfl ?_
        exact hE2 (by omega)
      · rw [yz_8] at h_6
        refine y_aload_n rfl rfl ?_
        refine y_getR rfl (ySh.t hS rfl) (ySh.n hS rfl) rfl rfl (ySh.r hS rfl) ?_
        refine y_getR rfl (ySh.t hS rfl) (ySh.n hS rfl) rfl rfl (ySh.r hS rfl) ?_
        refine y_iload_n rfl rfl ?_
        refine y_baloadv (J := I 44) rfl (ySh.t hS rfl) rfl (ySh.n hS rfl) (by omega) (by omega) rfl ?_
        refine y_if_ne rfl j_X8_buy_58 (fun h_7 => ?_) (fun h_8 => ?_)
        · refine y_throw rfl rfl rfl ?_
          exact hE2 (by omega)
        · refine y_aload_n rfl rfl ?_
          refine y_getR rfl (ySh.t hS rfl) (ySh.n hS rfl) rfl rfl (ySh.r hS rfl) ?_
          refine y_iload_n rfl rfl ?_
          refine y_virt rfl rfl rfl rfl rfl (ySh.t hS rfl) (ySh.n hS rfl) ?_
          refine y_in (M := xm_X6_isLeased) (ls := [some _, some _]) rfl rfl rfl ?_
          refine y_aload_n rfl rfl ?_
          refine y_getR rfl (ySh.t hS rfl) (ySh.n hS rfl) rfl rfl (ySh.r hS rfl) ?_
          refine y_iload_n rfl rfl ?_
          refine y_ialoadv (J := I 47) rfl (ySh.t hS rfl) (ySh.n hS rfl) (by omega) (by omega) rfl ?_
          refine y_iconst rfl ?_
          refine y_icmp_eq rfl j_X6_isLeased_14 (fun h_9 => ?_) (fun h_10 => ?_)
          · rw [yz_m1] at h_9
            refine y_iconst rfl ?_
            refine y_ireturn rfl rfl rfl ?_
            refine y_ret1 ?_
            refine y_if_eqT rfl j_X8_buy_68 (by decide) ?_
            refine y_aload_n rfl rfl ?_
            refine y_getR rfl (ySh.t hS rfl) (ySh.n hS rfl) rfl rfl (ySh.r hS rfl) ?_
            refine y_getR rfl (ySh.t hS rfl) (ySh.n hS rfl) rfl rfl (ySh.r hS rfl) ?_
            refine y_iload_n rfl rfl ?_
            refine y_ialoadv (J := I 41) rfl (ySh.t hS rfl) (ySh.n hS rfl) (by omega) (by omega) rfl ?_
            refine y_istore_n (ls' := [some _, some _, some _]) rfl rfl rfl ?_
            refine y_aload_n rfl rfl ?_
            refine y_getR rfl (ySh.t hS rfl) (ySh.n hS rfl) rfl rfl (ySh.r hS rfl) ?_
            refine y_bip rfl (by decide) ?_
            refine y_aload_n rfl rfl ?_
            refine y_getR rfl (ySh.t hS rfl) (ySh.n hS rfl) rfl rfl (ySh.r hS rfl) ?_
            refine y_getR rfl (ySh.t hS rfl) (ySh.n hS rfl) rfl rfl (ySh.r hS rfl) ?_
            refine y_iload_n rfl rfl ?_
            refine y_ialoadv (J := I 42) rfl (ySh.t hS rfl) (ySh.n hS rfl) (by omega) (by omega) rfl ?_
            refine y_iload_n rfl rfl ?_
            refine y_virt rfl rfl rfl rfl rfl (ySh.t hS rfl) (ySh.n hS rfl) ?_
            refine y_in (M := xm_X4_move) (ls := [some _, some _, some _, some _]) rfl rfl rfl ?_
            refine y_aload_n rfl rfl ?_
            refine y_iload_n rfl rfl ?_
            refine y_iload_n rfl rfl ?_
            refine y_ineg rfl ?_
            refine y_virt rfl rfl rfl rfl rfl (ySh.t hS rfl) (ySh.n hS rfl) ?_
            refine spx_add hS ?_
            refine y_ret0 ?_
            refine y_nameI (fun I11 e11 => ?_)
            have hC : yCI I11 := by rw [e11]; exact yCI.addC hC
            have hF : yFt I I11 := by rw [e11]; exact hF.addC
            refine y_aload_n rfl rfl ?_
            refine y_iload_n rfl rfl ?_
            refine y_iload_n rfl rfl ?_
            refine y_virt rfl rfl rfl rfl rfl (ySh.t hS rfl) (ySh.n hS rfl) ?_
            refine spx_add hS ?_
            refine y_ret0 ?_
            refine y_nameI (fun I12 e12 => ?_)
            have hC : yCI I12 := by rw [e12]; exact yCI.addC hC
            have hF : yFt I I12 := by rw [e12]; exact hF.addC
            refine y_return rfl ?_
            refine y_ret0 ?_
            refine y_aload_n rfl rfl ?_
            refine y_getR rfl (ySh.t hS rfl) (ySh.n hS rfl) rfl rfl (ySh.r hS rfl) ?_
            refine y_iload_n rfl rfl ?_
            refine y_virt rfl rfl rfl rfl rfl (ySh.t hS rfl) (ySh.n hS rfl) ?_
            refine y_in (M := xm_X6_acquire) (ls := [some _, some _]) rfl rfl rfl ?_
            refine y_aload_n rfl rfl ?_
            refine y_getR rfl (ySh.t hS rfl) (ySh.n hS rfl) rfl rfl (ySh.r hS rfl) ?_
            refine y_iload_n rfl rfl ?_
            refine y_aload_n rfl rfl ?_
            refine y_getR rfl (ySh.t hS rfl) (ySh.n hS rfl) rfl rfl (ySh.r hS rfl) ?_
            refine y_iload_n rfl rfl ?_
            refine y_ialoadv (J := I 41) rfl (ySh.t hS rfl) (ySh.n hS rfl) (by omega) (by omega) (by rw [e12, yAddC_row (by decide), e11, yAddC_row (by decide)]) ?_
            refine y_iastore rfl (ySh.t hS rfl) (ySh.n hS rfl) (Nat.le_of_ble_eq_true rfl) (by omega) (by omega) ?_
            refine y_nameI (fun I13 e13 => ?_)
            have hC : yCI I13 := by rw [e13]; exact hC
            have hF : yFt I I13 := by rw [e13]; exact hF.upd (by decide)
            refine y_aload_n rfl rfl ?_
            refine y_getR rfl (ySh.t hS rfl) (ySh.n hS rfl) rfl rfl (ySh.r hS rfl) ?_
            refine y_iload_n rfl rfl ?_
            refine y_aload_n rfl rfl ?_
            refine y_getR rfl (ySh.t hS rfl) (ySh.n hS rfl) rfl rfl (ySh.r hS rfl) ?_
            refine y_iload_n rfl rfl ?_
            refine y_ialoadv (J := I 42) rfl (ySh.t hS rfl) (ySh.n hS rfl) (by omega) (by omega) (by rw [e13, upd2_row (by decide), e12, yAddC_row (by decide), e11, yAddC_row (by decide)]) ?_
            refine y_iastore rfl (ySh.t hS rfl) (ySh.n hS rfl) (Nat.le_of_ble_eq_true rfl) (by omega) (by omega) ?_
            refine y_nameI (fun I14 e14 => ?_)
            have hC : yCI I14 := by rw [e14]; exact hC
            have hF : yFt I I14 := by rw [e14]; exact hF.upd (by decide)
            refine y_aload_n rfl rfl ?_
            refine y_getR rfl (ySh.t hS rfl) (ySh.n hS rfl) rfl rfl (ySh.r hS rfl) ?_
            refine y_iload_n rfl rfl ?_
            refine y_bip rfl (by decide) ?_
            refine y_iastore rfl (ySh.t hS rfl) (ySh.n hS rfl) (Nat.le_of_ble_eq_true rfl) (by omega) (by omega) ?_
            refine y_nameI (fun I15 e15 => ?_)
            have hC : yCI I15 := by rw [e15]; exact hC
            have hF : yFt I I15 := by rw [e15]; exact hF.upd (by decide)
            refine y_aload_n rfl rfl ?_
            refine y_getR rfl (ySh.t hS rfl) (ySh.n hS rfl) rfl rfl (ySh.r hS rfl) ?_
            refine y_iload_n rfl rfl ?_
            refine y_iconst rfl ?_
            refine y_zastore rfl (ySh.t hS rfl) (ySh.n hS rfl) (Nat.le_of_ble_eq_true rfl) (by omega) (by omega) rfl ?_
            refine y_nameI (fun I16 e16 => ?_)
            have hC : yCI I16 := by rw [e16]; exact hC
            have hF : yFt I I16 := by rw [e16]; exact hF.upd (by decide)
            refine y_return rfl ?_
            refine y_ret0 ?_
            refine y_iload_n rfl rfl ?_
            refine y_ireturn rfl rfl rfl ?_
            first | (exfalso; omega) | (exact hQ (by omega) _ _ hC hF rfl (by rw [e16, e15, e14, e13, e12, e11]; repeat (first | exact yGc.rf | refine yGc.skipC ?_ (by decide) | refine yGc.skip ?_ (by decide) | refine yGc.both ?_)) (by first | (rw [e16, e15, e14, e13, e12, e11]; done) | (rw [e16, e15, e14, e13, e12, e11]; rfl)))
          · rw [yz_m1] at h_10
            refine y_iconst rfl ?_
            refine y_goto rfl j_X6_isLeased_15 ?_
            refine y_ireturn rfl rfl rfl ?_
            refine y_ret1 ?_
            refine y_if_eqF rfl (by decide) ?_
            refine y_throw rfl rfl rfl ?_
            exact hE2 (by omega)
theorem g_take (hS : ySh n tg R) (hC : yCI I) {x1 : Int32} (hE0 : ¬ (0 ≤ x1.toInt ∧ x1.toInt < (I 40 0).toInt) → Q (.inr "java/lang/IndexOutOfBoundsException") (n, tg, I, R) (c + 1) (s + 6)) (hE2 : (0 ≤ x1.toInt ∧ x1.toInt < (I 40 0).toInt) ∧ ¬ ((I 42 x1.toInt.toNat).toInt = 8 ∧ (I 43 x1.toInt.toNat).toInt = 0) → Q (.inr "java/lang/IllegalStateException") (n, tg, I, R) (c + 1) (s + 6)) (hQ : (0 ≤ x1.toInt ∧ x1.toInt < (I 40 0).toInt) ∧ ((I 42 x1.toInt.toNat).toInt = 8 ∧ (I 43 x1.toInt.toNat).toInt = 0) → ∀ (v : Int32) (I1 : Nat → Nat → Int32), yCI I1 → yFt I I1 → v = yFz (fun j : Nat => if (I1 42 j).toInt = 8 ∧ ¬ (I1 43 j).toInt = 0 then Int32.ofInt 1 else Int32.ofInt 0) (I1 40 0).toInt.toNat → yGc yTL I1 (upd2 I 43 x1.toInt.toNat (Int32.ofInt 1)) → I1 = (upd2 I 43 x1.toInt.toNat (Int32.ofInt 1)) → Q (.inl (some (.int v))) (n, tg, I1, R) c s) : yC 125 [.ref 34, .int x1] (n, tg, I, R) c s Q := by
  have hF : yFt I I := yFt.rf
  refine y_in (M := xm_X8_take) (ls := [some _, some _]) rfl rfl rfl ?_
  refine y_aload_n rfl rfl ?_
  refine y_getR rfl (ySh.t hS rfl) (ySh.n hS rfl) rfl rfl (ySh.r hS rfl) ?_
  refine y_iload_n rfl rfl ?_
  refine y_virt rfl rfl rfl rfl rfl (ySh.t hS rfl) (ySh.n hS rfl) ?_
  refine y_in (M := xm_X6_has) (ls := [some _, some _]) rfl rfl rfl ?_
  refine y_iload_n rfl rfl ?_
  refine y_if_lt rfl j_X6_has_16 (fun h_1 => ?_) (fun h_2 => ?_)
  · refine y_iconst rfl ?_
    refine y_ireturn rfl rfl rfl ?_
    refine y_ret1 ?_
    refine y_if_neF rfl (by decide) ?_
    refine y_throw rfl rfl rfl ?_
    exact hE0 (by omega)
  · refine y_iload_n rfl rfl ?_
    refine y_aload_n rfl rfl ?_
    refine y_getIv (v := I 40 0) rfl (ySh.t hS rfl) (ySh.n hS rfl) rfl rfl rfl ?_
    refine y_icmp_ge rfl j_X6_has_16 (fun h_3 => ?_) (fun h_4 => ?_)
    · refine y_iconst rfl ?_
      refine y_ireturn rfl rfl rfl ?_
      refine y_ret1 ?_
      refine y_if_neF rfl (by decide) ?_
      refine y_throw rfl rfl rfl ?_
      exact hE0 (by omega)
    · refine y_iconst rfl ?_
      refine y_goto rfl j_X6_has_17 ?_
      refine y_ireturn rfl rfl rfl ?_
      refine y_ret1 ?_
      refine y_if_neT rfl j_X8_take_21 (by decide) ?_
      refine y_aload_n rfl rfl ?_
      refine y_getR rfl (ySh.t hS rfl) (ySh.n hS rfl) rfl rfl (ySh.r hS rfl) ?_
      refine y_getR rfl (ySh.t hS rfl) (ySh.n hS rfl) rfl rfl (ySh.r hS rfl) ?_
      refine y_iload_n rfl rfl ?_
      refine y_ialoadv (J := I 42) rfl (ySh.t hS rfl) (ySh.n hS rfl) (by omega) (by omega) rfl ?_
      refine y_bip rfl (by decide) ?_
      refine y_icmp_ne rfl j_X8_take_47 (fun h_5 => ?_) (fun h_6 => ?_)
      · rw [yz_8] at h_5
        refine y_throw rfl rfl rfl ?_
        exact hE2 (by omega)
      · rw [yz_8] at h_6
        refine y_aload_n rfl rfl ?_
        refine y_getR rfl (ySh.t hS rfl) (ySh.n hS rfl) rfl rfl (ySh.r hS rfl) ?_
        refine y_getR rfl (ySh.t hS rfl) (ySh.n hS rfl) rfl rfl (ySh.r hS rfl) ?_
        refine y_iload_n rfl rfl ?_
        refine y_baloadv (J := I 43) rfl (ySh.t hS rfl) rfl (ySh.n hS rfl) (by omega) (by omega) rfl ?_
        refine y_if_eq rfl j_X8_take_57 (fun h_7 => ?_) (fun h_8 => ?_)
        · refine y_aload_n rfl rfl ?_
          refine y_getR rfl (ySh.t hS rfl) (ySh.n hS rfl) rfl rfl (ySh.r hS rfl) ?_
          refine y_getR rfl (ySh.t hS rfl) (ySh.n hS rfl) rfl rfl (ySh.r hS rfl) ?_
          refine y_iload_n rfl rfl ?_
          refine y_iconst rfl ?_
          refine y_zastore rfl (ySh.t hS rfl) (ySh.n hS rfl) (Nat.le_of_ble_eq_true rfl) (by omega) (by omega) rfl ?_
          refine y_nameI (fun I9 e9 => ?_)
          have hC : yCI I9 := by rw [e9]; exact hC
          have hF : yFt I I9 := by rw [e9]; exact hF.upd (by decide)
          refine y_aload_n rfl rfl ?_
          refine y_getR rfl (ySh.t hS rfl) (ySh.n hS rfl) rfl rfl (ySh.r hS rfl) ?_
          refine y_virt rfl rfl rfl rfl rfl (ySh.t hS rfl) (ySh.n hS rfl) ?_
          refine spx_held hS hC (fun v_h hv_h => ?_)
          refine y_ret1 ?_
          refine y_ireturn rfl rfl rfl ?_
          first | (exfalso; omega) | (exact hQ (by omega) _ _ hC hF hv_h (by rw [e9]; repeat (first | exact yGc.rf | refine yGc.skipC ?_ (by decide) | refine yGc.skip ?_ (by decide) | refine yGc.both ?_)) (by first | (rw [e9]; done) | (rw [e9]; rfl)))
        · refine y_throw rfl rfl rfl ?_
          exact hE2 (by omega)
theorem g_ruin (hS : ySh n tg R) (hC : yCI I) {x1 : Int32} (hE0 : ¬ (0 ≤ x1.toInt ∧ x1.toInt < (I 40 0).toInt) → Q (.inr "java/lang/IndexOutOfBoundsException") (n, tg, I, R) (c + 1) (s + 6)) (hE2 : (0 ≤ x1.toInt ∧ x1.toInt < (I 40 0).toInt) ∧ ¬ (I 44 x1.toInt.toNat).toInt = 0 → Q (.inr "java/lang/IllegalStateException") (n, tg, I, R) (c + 1) (s + 6)) (hQa : (0 ≤ x1.toInt ∧ x1.toInt < (I 40 0).toInt) ∧ (I 44 x1.toInt.toNat).toInt = 0 ∧ ¬ (0 ≤ (I 47 x1.toInt.toNat).toInt ∧ (I 47 x1.toInt.toNat).toInt < (I 59 0).toInt) → ∀ (v : Int32) (I1 : Nat → Nat → Int32), yCI I1 → yFt I I1 → v = I 41 x1.toInt.toNat → yGc yTL I1 (upd2 (upd2 I 47 x1.toInt.toNat (Int32.ofInt (-1))) 44 x1.toInt.toNat (Int32.ofInt 1)) → I1 = (upd2 (upd2 I 47 x1.toInt.toNat (Int32.ofInt (-1))) 44 x1.toInt.toNat (Int32.ofInt 1)) → Q (.inl (some (.int v))) (n, tg, I1, R) c s) (hQb : (0 ≤ x1.toInt ∧ x1.toInt < (I 40 0).toInt) ∧ (I 44 x1.toInt.toNat).toInt = 0 ∧ (0 ≤ (I 47 x1.toInt.toNat).toInt ∧ (I 47 x1.toInt.toNat).toInt < (I 59 0).toInt) → ∀ (v : Int32) (I1 : Nat → Nat → Int32), yCI I1 → yFt I I1 → v = I 41 x1.toInt.toNat → yGc yTL I1 (upd2 (upd2 (upd2 I 65 (I 47 x1.toInt.toNat).toInt.toNat (Int32.ofInt 1)) 47 x1.toInt.toNat (Int32.ofInt (-1))) 44 x1.toInt.toNat (Int32.ofInt 1)) → I1 = (upd2 (upd2 (upd2 I 65 (I 47 x1.toInt.toNat).toInt.toNat (Int32.ofInt 1)) 47 x1.toInt.toNat (Int32.ofInt (-1))) 44 x1.toInt.toNat (Int32.ofInt 1)) → Q (.inl (some (.int v))) (n, tg, I1, R) c s) : yC 126 [.ref 34, .int x1] (n, tg, I, R) c s Q := by
  have hF : yFt I I := yFt.rf
  refine y_in (M := xm_X8_ruin) (ls := [some _, some _]) rfl rfl rfl ?_
  refine y_aload_n rfl rfl ?_
  refine y_getR rfl (ySh.t hS rfl) (ySh.n hS rfl) rfl rfl (ySh.r hS rfl) ?_
  refine y_iload_n rfl rfl ?_
  refine y_virt rfl rfl rfl rfl rfl (ySh.t hS rfl) (ySh.n hS rfl) ?_
  refine y_in (M := xm_X6_has) (ls := [some _, some _]) rfl rfl rfl ?_
  refine y_iload_n rfl rfl ?_
  refine y_if_lt rfl j_X6_has_16 (fun h_1 => ?_) (fun h_2 => ?_)
  · refine y_iconst rfl ?_
    refine y_ireturn rfl rfl rfl ?_
    refine y_ret1 ?_
    refine y_if_neF rfl (by decide) ?_
    refine y_throw rfl rfl rfl ?_
    exact hE0 (by omega)
  · refine y_iload_n rfl rfl ?_
    refine y_aload_n rfl rfl ?_
    refine y_getIv (v := I 40 0) rfl (ySh.t hS rfl) (ySh.n hS rfl) rfl rfl rfl ?_
    refine y_icmp_ge rfl j_X6_has_16 (fun h_3 => ?_) (fun h_4 => ?_)
    · refine y_iconst rfl ?_
      refine y_ireturn rfl rfl rfl ?_
      refine y_ret1 ?_
      refine y_if_neF rfl (by decide) ?_
      refine y_throw rfl rfl rfl ?_
      exact hE0 (by omega)
    · refine y_iconst rfl ?_
      refine y_goto rfl j_X6_has_17 ?_
      refine y_ireturn rfl rfl rfl ?_
      refine y_ret1 ?_
      refine y_if_neT rfl j_X8_ruin_21 (by decide) ?_
      refine y_aload_n rfl rfl ?_
      refine y_getR rfl (ySh.t hS rfl) (ySh.n hS rfl) rfl rfl (ySh.r hS rfl) ?_
      refine y_getR rfl (ySh.t hS rfl) (ySh.n hS rfl) rfl rfl (ySh.r hS rfl) ?_
      refine y_iload_n rfl rfl ?_
      refine y_baloadv (J := I 44) rfl (ySh.t hS rfl) rfl (ySh.n hS rfl) (by omega) (by omega) rfl ?_
      refine y_if_eq rfl j_X8_ruin_43 (fun h_5 => ?_) (fun h_6 => ?_)
      · refine y_aload_n rfl rfl ?_
        refine y_getR rfl (ySh.t hS rfl) (ySh.n hS rfl) rfl rfl (ySh.r hS rfl) ?_
        refine y_aload_n rfl rfl ?_
        refine y_getR rfl (ySh.t hS rfl) (ySh.n hS rfl) rfl rfl (ySh.r hS rfl) ?_
        refine y_getR rfl (ySh.t hS rfl) (ySh.n hS rfl) rfl rfl (ySh.r hS rfl) ?_
        refine y_iload_n rfl rfl ?_
        refine y_ialoadv (J := I 47) rfl (ySh.t hS rfl) (ySh.n hS rfl) (by omega) (by omega) rfl ?_
        refine y_virt rfl rfl rfl rfl rfl (ySh.t hS rfl) (ySh.n hS rfl) ?_
        refine y_in (M := xm_X2_close) (ls := [some _, some _]) rfl rfl rfl ?_
        refine y_aload_n rfl rfl ?_
        refine y_iload_n rfl rfl ?_
        refine y_virt rfl rfl rfl rfl rfl (ySh.t hS rfl) (ySh.n hS rfl) ?_
        refine y_in (M := xm_X2_has) (ls := [some _, some _]) rfl rfl rfl ?_
        refine y_iload_n rfl rfl ?_
        refine y_if_lt rfl j_X2_has_16 (fun h_7 => ?_) (fun h_8 => ?_)
        · refine y_iconst rfl ?_
          refine y_ireturn rfl rfl rfl ?_
          refine y_ret1 ?_
          refine y_if_eqT rfl j_X2_close_15 (by decide) ?_
          refine y_return rfl ?_
          refine y_ret0 ?_
          refine y_aload_n rfl rfl ?_
          refine y_getR rfl (ySh.t hS rfl) (ySh.n hS rfl) rfl rfl (ySh.r hS rfl) ?_
          refine y_getR rfl (ySh.t hS rfl) (ySh.n hS rfl) rfl rfl (ySh.r hS rfl) ?_
          refine y_iload_n rfl rfl ?_
          refine y_iconst rfl ?_
          refine y_iastore rfl (ySh.t hS rfl) (ySh.n hS rfl) (Nat.le_of_ble_eq_true rfl) (by omega) (by omega) ?_
          refine y_nameI (fun I9 e9 => ?_)
          have hC : yCI I9 := by rw [e9]; exact hC
          have hF : yFt I I9 := by rw [e9]; exact hF.upd (by decide)
          refine y_aload_n rfl rfl ?_
          refine y_getR rfl (ySh.t hS rfl) (ySh.n hS rfl) rfl rfl (ySh.r hS rfl) ?_
          refine y_getR rfl (ySh.t hS rfl) (ySh.n hS rfl) rfl rfl (ySh.r hS rfl) ?_
          refine y_iload_n rfl rfl ?_
          refine y_iconst rfl ?_
          refine y_zastore rfl (ySh.t hS rfl) (ySh.n hS rfl) (Nat.le_of_ble_eq_true rfl) (by omega) (by omega) rfl ?_
          refine y_nameI (fun I10 e10 => ?_)
          have hC : yCI I10 := by rw [e10]; exact hC
          have hF : yFt I I10 := by rw [e10]; exact hF.upd (by decide)
          refine y_aload_n rfl rfl ?_
          refine y_getR rfl (ySh.t hS rfl) (ySh.n hS rfl) rfl rfl (ySh.r hS rfl) ?_
          refine y_getR rfl (ySh.t hS rfl) (ySh.n hS rfl) rfl rfl (ySh.r hS rfl) ?_
          refine y_iload_n rfl rfl ?_
          refine y_ialoadv (J := I 41) rfl (ySh.t hS rfl) (ySh.n hS rfl) (by omega) (by omega) (by rw [e10, upd2_row (by decide), e9, upd2_row (by decide)]) ?_
          refine y_ireturn rfl rfl rfl ?_
          first | (exfalso; omega) | (exact hQa (by omega) _ _ hC hF rfl (by rw [e10, e9]; repeat (first | exact yGc.rf | refine yGc.skipC ?_ (by decide) | refine yGc.skip ?_ (by decide) | refine yGc.both ?_)) (by first | (rw [e10, e9]; done) | (rw [e10, e9]; rfl)))
        · refine y_iload_n rfl rfl ?_
          refine y_aload_n rfl rfl ?_
          refine y_getIv (v := I 59 0) rfl (ySh.t hS rfl) (ySh.n hS rfl) rfl rfl rfl ?_
          refine y_icmp_ge rfl j_X2_has_16 (fun h_11 => ?_) (fun h_12 => ?_)
          · refine y_iconst rfl ?_
            refine y_ireturn rfl rfl rfl ?_
            refine y_ret1 ?_
            refine y_if_eqT rfl j_X2_close_15 (by decide) ?_
            refine y_return rfl ?_
            refine y_ret0 ?_
            refine y_aload_n rfl rfl ?_
            refine y_getR rfl (ySh.t hS rfl) (ySh.n hS rfl) rfl rfl (ySh.r hS rfl) ?_
            refine y_getR rfl (ySh.t hS rfl) (ySh.n hS rfl) rfl rfl (ySh.r hS rfl) ?_
            refine y_iload_n rfl rfl ?_
            refine y_iconst rfl ?_
            refine y_iastore rfl (ySh.t hS rfl) (ySh.n hS rfl) (Nat.le_of_ble_eq_true rfl) (by omega) (by omega) ?_
            refine y_nameI (fun I13 e13 => ?_)
            have hC : yCI I13 := by rw [e13]; exact hC
            have hF : yFt I I13 := by rw [e13]; exact hF.upd (by decide)
            refine y_aload_n rfl rfl ?_
            refine y_getR rfl (ySh.t hS rfl) (ySh.n hS rfl) rfl rfl (ySh.r hS rfl) ?_
            refine y_getR rfl (ySh.t hS rfl) (ySh.n hS rfl) rfl rfl (ySh.r hS rfl) ?_
            refine y_iload_n rfl rfl ?_
            refine y_iconst rfl ?_
            refine y_zastore rfl (ySh.t hS rfl) (ySh.n hS rfl) (Nat.le_of_ble_eq_true rfl) (by omega) (by omega) rfl ?_
            refine y_nameI (fun I14 e14 => ?_)
            have hC : yCI I14 := by rw [e14]; exact hC
            have hF : yFt I I14 := by rw [e14]; exact hF.upd (by decide)
            refine y_aload_n rfl rfl ?_
            refine y_getR rfl (ySh.t hS rfl) (ySh.n hS rfl) rfl rfl (ySh.r hS rfl) ?_
            refine y_getR rfl (ySh.t hS rfl) (ySh.n hS rfl) rfl rfl (ySh.r hS rfl) ?_
            refine y_iload_n rfl rfl ?_
            refine y_ialoadv (J := I 41) rfl (ySh.t hS rfl) (ySh.n hS rfl) (by omega) (by omega) (by rw [e14, upd2_row (by decide), e13, upd2_row (by decide)]) ?_
            refine y_ireturn rfl rfl rfl ?_
            first | (exfalso; omega) | (exact hQa (by omega) _ _ hC hF rfl (by rw [e14, e13]; repeat (first | exact yGc.rf | refine yGc.skipC ?_ (by decide) | refine yGc.skip ?_ (by decide) | refine yGc.both ?_)) (by first | (rw [e14, e13]; done) | (rw [e14, e13]; rfl)))
          · refine y_iconst rfl ?_
            refine y_goto rfl j_X2_has_17 ?_
            refine y_ireturn rfl rfl rfl ?_
            refine y_ret1 ?_
            refine y_if_eqF rfl (by decide) ?_
            refine y_aload_n rfl rfl ?_
            refine y_getR rfl (ySh.t hS rfl) (ySh.n hS rfl) rfl rfl (ySh.r hS rfl) ?_
            refine y_iload_n rfl rfl ?_
            refine y_iconst rfl ?_
            refine y_zastore rfl (ySh.t hS rfl) (ySh.n hS rfl) (Nat.le_of_ble_eq_true rfl) (by omega) (by omega) rfl ?_
            refine y_nameI (fun I15 e15 => ?_)
            have hC : yCI I15 := by rw [e15]; exact hC
            have hF : yFt I I15 := by rw [e15]; exact hF.upd (by decide)
            refine y_return rfl ?_
            refine y_ret0 ?_
            refine y_aload_n rfl rfl ?_
            refine y_getR rfl (ySh.t hS rfl) (ySh.n hS rfl) rfl rfl (ySh.r hS rfl) ?_
            refine y_getR rfl (ySh.t hS rfl) (ySh.n hS rfl) rfl rfl (ySh.r hS rfl) ?_
            refine y_iload_n rfl rfl ?_
            refine y_iconst rfl ?_
            refine y_iastore rfl (ySh.t hS rfl) (ySh.n hS rfl) (Nat.le_of_ble_eq_true rfl) (by omega) (by omega) ?_
            refine y_nameI (fun I16 e16 => ?_)
            have hC : yCI I16 := by rw [e16]; exact hC
            have hF : yFt I I16 := by rw [e16]; exact hF.upd (by decide)
            refine y_aload_n rfl rfl ?_
            refine y_getR rfl (ySh.t hS rfl) (ySh.n hS rfl) rfl rfl (ySh.r hS rfl) ?_
            refine y_getR rfl (ySh.t hS rfl) (ySh.n hS rfl) rfl rfl (ySh.r hS rfl) ?_
            refine y_iload_n rfl rfl ?_
            refine y_iconst rfl ?_
            refine y_zastore rfl (ySh.t hS rfl) (ySh.n hS rfl) (Nat.le_of_ble_eq_true rfl) (by omega) (by omega) rfl ?_
            refine y_nameI (fun I17 e17 => ?_)
            have hC : yCI I17 := by rw [e17]; exact hC
            have hF : yFt I I17 := by rw [e17]; exact hF.upd (by decide)
            refine y_aload_n rfl rfl ?_
            refine y_getR rfl (ySh.t hS rfl) (ySh.n hS rfl) rfl rfl (ySh.r hS rfl) ?_
            refine y_getR rfl (ySh.t hS rfl) (ySh.n hS rfl) rfl rfl (ySh.r hS rfl) ?_
            refine y_iload_n rfl rfl ?_
            refine y_ialoadv (J := I 41) rfl (ySh.t hS rfl) (ySh.n hS rfl) (by omega) (by omega) (by rw [e17, upd2_row (by decide), e16, upd2_row (by decide), e15, upd2_row (by decide)]) ?_
            refine y_ireturn rfl rfl rfl ?_
            first | (exfalso; omega) | (exact hQb (by omega) _ _ hC hF rfl (by rw [e17, e16, e15]; repeat (first | exact yGc.rf | refine yGc.skipC ?_ (by decide) | refine yGc.skip ?_ (by decide) | refine yGc.both ?_)) (by first | (rw [e17, e16, e15]; done) | (rw [e17, e16, e15]; rfl)))
      · refine y_throw rfl rfl rfl ?_
        exact hE2 (by omega)
theorem g_sell (hS : ySh n tg R) (hC : yCI I) {x1 x2 x3 x4 : Int32} (hE0 : ¬ ((0 ≤ x1.toInt ∧ x1.toInt < (I 40 0).toInt) ∧ (0 ≤ x2.toInt ∧ x2.toInt < (I 38 0).toInt)) → Q (.inr "java/lang/IndexOutOfBoundsException") (n, tg, I, R) (c + 1) (s + 6)) (hE1 : ((0 ≤ x1.toInt ∧ x1.toInt < (I 40 0).toInt) ∧ (0 ≤ x2.toInt ∧ x2.toInt < (I 38 0).toInt)) ∧ ¬ ((0 ≤ x3.toInt ∧ x3.toInt ≤ 99) ∧ (1 ≤ x4.toInt ∧ x4.toInt ≤ 12)) → Q (.inr "java/lang/IllegalArgumentException") (n, tg, I, R) (c + 1) (s + 6)) (hE2 : ((0 ≤ x1.toInt ∧ x1.toInt < (I 40 0).toInt) ∧ (0 ≤ x2.toInt ∧ x2.toInt < (I 38 0).toInt)) ∧ ((0 ≤ x3.toInt ∧ x3.toInt ≤ 99) ∧ (1 ≤ x4.toInt ∧ x4.toInt ≤ 12)) ∧ ¬ ((I 48 0).toInt < 12 ∧ (I 47 x1.toInt.toNat).toInt = -1) → Q (.inr "java/lang/IllegalStateException") (n, tg, I, R) (c + 1) (s + 6)) (hQa : ((0 ≤ x1.toInt ∧ x1.toInt < (I 40 0).toInt) ∧ (0 ≤ x2.toInt ∧ x2.toInt < (I 38 0).toInt)) ∧ ((0 ≤ x3.toInt ∧ x3.toInt ≤ 99) ∧ (1 ≤ x4.toInt ∧ x4.toInt ≤ 12)) ∧ ((I 48 0).toInt < 12 ∧ (I 47 x1.toInt.toNat).toInt = -1) → ∀ (v : Int32) (I1 : Nat → Nat → Int32) (ms : Int32), yCI I1 → yFt I I1 → ms.toInt = yMs (I 42 x1.toInt.toNat).toInt (I 43 x1.toInt.toNat).toInt (yBC (I 36 0)).toInt (I 44 x1.toInt.toNat).toInt (I 46 x1.toInt.toNat).toInt x2.toInt → v = I 48 0 → ms.toInt = 0 → yGc yTL I1 (upd2 (upd2 (upd2 (upd2 (upd2 (upd2 (upd2 (upd2 (upd2 (upd2 I 49 (I 48 0).toInt.toNat x1) 50 (I 48 0).toInt.toNat x2) 51 (I 48 0).toInt.toNat x3) 52 (I 48 0).toInt.toNat (I 45 x1.toInt.toNat + I 45 x1.toInt.toNat * x3 / Int32.ofInt 100)) 53 (I 48 0).toInt.toNat ms) 54 (I 48 0).toInt.toNat x4) 56 (I 48 0).toInt.toNat (I 34 8)) 48 0 (I 48 0 + Int32.ofInt 1)) 42 x1.toInt.toNat x2) 43 x1.toInt.toNat (Int32.ofInt 1)) → I1 = (upd2 (upd2 (upd2 (upd2 (upd2 (upd2 (upd2 (upd2 (upd2 (upd2 I 49 (I 48 0).toInt.toNat x1) 50 (I 48 0).toInt.toNat x2) 51 (I 48 0).toInt.toNat x3) 52 (I 48 0).toInt.toNat (I 45 x1.toInt.toNat + I 45 x1.toInt.toNat * x3 / Int32.ofInt 100)) 53 (I 48 0).toInt.toNat ms) 54 (I 48 0).toInt.toNat x4) 56 (I 48 0).toInt.toNat (I 34 8)) 48 0 (I 48 0 + Int32.ofInt 1)) 42 x1.toInt.toNat x2) 43 x1.toInt.toNat (Int32.ofInt 1)) → Q (.inl (some (.int v))) (n, tg, I1, R) c s) (hQb : ((0 ≤ x1.toInt ∧ x1.toInt < (I 40 0).toInt) ∧ (0 ≤ x2.toInt ∧ x2.toInt < (I 38 0).toInt)) ∧ ((0 ≤ x3.toInt ∧ x3.toInt ≤ 99) ∧ (1 ≤ x4.toInt ∧ x4.toInt ≤ 12)) ∧ ((I 48 0).toInt < 12 ∧ (I 47 x1.toInt.toNat).toInt = -1) → ∀ (v : Int32) (I1 : Nat → Nat → Int32) (ms : Int32), yCI I1 → yFt I I1 → ms.toInt = yMs (I 42 x1.toInt.toNat).toInt (I 43 x1.toInt.toNat).toInt (yBC (I 36 0)).toInt (I 44 x1.toInt.toNat).toInt (I 46 x1.toInt.toNat).toInt x2.toInt → v = I 48 0 → ¬ ms.toInt = 0 → yGc yTL I1 (upd2 (upd2 (upd2 (upd2 (upd2 (upd2 (upd2 (upd2 I 49 (I 48 0).toInt.toNat x1) 50 (I 48 0).toInt.toNat x2) 51 (I 48 0).toInt.toNat x3) 52 (I 48 0).toInt.toNat (I 45 x1.toInt.toNat + I 45 x1.toInt.toNat * x3 / Int32.ofInt 100)) 53 (I 48 0).toInt.toNat ms) 54 (I 48 0).toInt.toNat x4) 56 (I 48 0).toInt.toNat (I 34 8)) 48 0 (I 48 0 + Int32.ofInt 1)) → I1 = (upd2 (upd2 (upd2 (upd2 (upd2 (upd2 (upd2 (upd2 I 49 (I 48 0).toInt.toNat x1) 50 (I 48 0).toInt.toNat x2) 51 (I 48 0).toInt.toNat x3) 52 (I 48 0).toInt.toNat (I 45 x1.toInt.toNat + I 45 x1.toInt.toNat * x3 / Int32.ofInt 100)) 53 (I 48 0).toInt.toNat ms) 54 (I 48 0).toInt.toNat x4) 56 (I 48 0).toInt.toNat (I 34 8)) 48 0 (I 48 0 + Int32.ofInt 1)) → Q (.inl (some (.int v))) (n, tg, I1, R) c s) : yC 127 [.ref 34, .int x1, .int x2, .int x3, .int x4] (n, tg, I, R) c s Q := by
  have hF : yFt I I := yFt.rf
  refine y_in (M := xm_X8_sell) (ls := [some _, some _, some _, some _, some _, _, _]) rfl rfl rfl ?_
  refine y_aload_n rfl rfl ?_
  refine y_getR rfl (ySh.t hS rfl) (ySh.n hS rfl) rfl rfl (ySh.r hS rfl) ?_
  refine y_iload_n rfl rfl ?_
  refine y_virt rfl rfl rfl rfl rfl (ySh.t hS rfl) (ySh.n hS rfl) ?_
  refine y_in (M := xm_X6_has) (ls := [some _, some _]) rfl rfl rfl ?_
  refine y_iload_n rfl rfl ?_
  refine y_if_lt rfl j_X6_has_16 (fun h_1 => ?_) (fun h_2 => ?_)
  · refine y_iconst rfl ?_
    refine y_ireturn rfl rfl rfl ?_
    refine y_ret1 ?_
    refine y_if_eqT rfl j_X8_sell_22 (by decide) ?_
    refine y_throw rfl rfl rfl ?_
    exact hE0 (by omega)
  · refine y_iload_n rfl rfl ?_
    refine y_aload_n rfl rfl ?_
    refine y_getIv (v := I 40 0) rfl (ySh.t hS rfl) (ySh.n hS rfl) rfl rfl rfl ?_
    refine y_icmp_ge rfl j_X6_has_16 (fun h_3 => ?_) (fun h_4 => ?_)
    · refine y_iconst rfl ?_
      refine y_ireturn rfl rfl rfl ?_
      refine y_ret1 ?_
      refine y_if_eqT rfl j_X8_sell_22 (by decide) ?_
      refine y_throw rfl rfl rfl ?_
      exact hE0 (by omega)
    · refine y_iconst rfl ?_
      refine y_goto rfl j_X6_has_17 ?_
      refine y_ireturn rfl rfl rfl ?_
      refine y_ret1 ?_
      refine y_if_eqF rfl (by decide) ?_
      refine y_aload_n rfl rfl ?_
      refine y_getR rfl (ySh.t hS rfl) (ySh.n hS rfl) rfl rfl (ySh.r hS rfl) ?_
      refine y_iload_n rfl rfl ?_
      refine y_virt rfl rfl rfl rfl rfl (ySh.t hS rfl) (ySh.n hS rfl) ?_
      refine y_in (M := xm_X4_has) (ls := [some _, some _]) rfl rfl rfl ?_
      refine y_iload_n rfl rfl ?_
      refine y_if_lt rfl j_X4_has_16 (fun h_5 => ?_) (fun h_6 => ?_)
      · refine y_iconst rfl ?_
        refine y_ireturn rfl rfl rfl ?_
        refine y_ret1 ?_
        refine y_if_neF rfl (by decide) ?_
        refine y_throw rfl rfl rfl ?_
        exact hE0 (by omega)
      · refine y_iload_n rfl rfl ?_
        refine y_aload_n rfl rfl ?_
        refine y_getIv (v := I 38 0) rfl (ySh.t hS rfl) (ySh.n hS rfl) rfl rfl rfl ?_
        refine y_icmp_ge rfl j_X4_has_16 (fun h_7 => ?_) (fun h_8 => ?_)
        · refine y_iconst rfl ?_
          refine y_ireturn rfl rfl rfl ?_
          refine y_ret1 ?_
          refine y_if_neF rfl (by decide) ?_
          refine y_throw rfl rfl rfl ?_
          exact hE0 (by omega)
        · refine y_iconst rfl ?_
          refine y_goto rfl j_X4_has_17 ?_
          refine y_ireturn rfl rfl rfl ?_
          refine y_ret1 ?_
          refine y_if_neT rfl j_X8_sell_32 (by decide) ?_
          refine y_iload_n rfl rfl ?_
          refine y_iconst rfl ?_
          refine y_bip rfl (by decide) ?_
          refine y_static rfl rfl rfl rfl rfl ?_
          refine s_isIn (fun h_9 h_10 => ?_) (fun h_11 => ?_)
          · rw [yz_0] at h_9
            rw [yz_99] at h_10
            refine y_ret1 ?_
            refine y_if_eqF rfl (by decide) ?_
            refine y_iload rfl rfl ?_
            refine y_iconst rfl ?_
            refine y_bip rfl (by decide) ?_
            refine y_static rfl rfl rfl rfl rfl ?_
            refine s_isIn (fun h_12 h_13 => ?_) (fun h_14 => ?_)
            · rw [yz_1] at h_12
              rw [yz_12] at h_13
              refine y_ret1 ?_
              refine y_if_neT rfl j_X8_sell_63 (by decide) ?_
              refine y_aload_n rfl rfl ?_
              refine y_getR rfl (ySh.t hS rfl) (ySh.n hS rfl) rfl rfl (ySh.r hS rfl) ?_
              refine y_getIv (v := I 48 0) rfl (ySh.t hS rfl) (ySh.n hS rfl) rfl rfl rfl ?_
              refine y_bip rfl (by decide) ?_
              refine y_icmp_ge rfl j_X8_sell_86 (fun h_15 => ?_) (fun h_16 => ?_)
              · rw [yz_12] at h_15
                refine y_throw rfl rfl rfl ?_
                exact hE2 (by omega)
              · rw [yz_12] at h_16
                refine y_aload_n rfl rfl ?_
                refine y_getR rfl (ySh.t hS rfl) (ySh.n hS rfl) rfl rfl (ySh.r hS rfl) ?_
                refine y_iload_n rfl rfl ?_
                refine y_virt rfl rfl rfl rfl rfl (ySh.t hS rfl) (ySh.n hS rfl) ?_
                refine y_in (M := xm_X6_isLeased) (ls := [some _, some _]) rfl rfl rfl ?_
                refine y_aload_n rfl rfl ?_
                refine y_getR rfl (ySh.t hS rfl) (ySh.n hS rfl) rfl rfl (ySh.r hS rfl) ?_
                refine y_iload_n rfl rfl ?_
                refine y_ialoadv (J := I 47) rfl (ySh.t hS rfl) (ySh.n hS rfl) (by omega) (by omega) rfl ?_
                refine y_iconst rfl ?_
                refine y_icmp_eq rfl j_X6_isLeased_14 (fun h_17 => ?_) (fun h_18 => ?_)
                · rw [yz_m1] at h_17
                  refine y_iconst rfl ?_
                  refine y_ireturn rfl rfl rfl ?_
                  refine y_ret1 ?_
                  refine y_if_eqT rfl j_X8_sell_96 (by decide) ?_
                  refine y_aload_n rfl rfl ?_
                  refine y_iload_n rfl rfl ?_
                  refine y_iload_n rfl rfl ?_
                  refine y_virt rfl rfl rfl rfl rfl (ySh.t hS rfl) (ySh.n hS rfl) ?_
                  refine spx_missing hS hC (by omega) (by omega) (fun v_m hv_m => ?_)
                  refine y_ret1 ?_
                  refine y_istore (ls' := [some _, some _, some _, some _, some _, some _, _]) rfl rfl rfl ?_
                  refine y_aload_n rfl rfl ?_
                  refine y_getR rfl (ySh.t hS rfl) (ySh.n hS rfl) rfl rfl (ySh.r hS rfl) ?_
                  refine y_iload_n rfl rfl ?_
                  refine y_iload_n rfl rfl ?_
                  refine y_aload_n rfl rfl ?_
                  refine y_getR rfl (ySh.t hS rfl) (ySh.n hS rfl) rfl rfl (ySh.r hS rfl) ?_
                  refine y_getR rfl (ySh.t hS rfl) (ySh.n hS rfl) rfl rfl (ySh.r hS rfl) ?_
                  refine y_iload_n rfl rfl ?_
                  refine y_ialoadv (J := I 45) rfl (ySh.t hS rfl) (ySh.n hS rfl) (by omega) (by omega) rfl ?_
                  refine y_iload_n rfl rfl ?_
                  refine y_iload rfl rfl ?_
                  refine y_iload rfl rfl ?_
                  refine y_aload_n rfl rfl ?_
                  refine y_getIv (v := I 34 8) rfl (ySh.t hS rfl) (ySh.n hS rfl) rfl rfl rfl ?_
                  refine y_virt rfl rfl rfl rfl rfl (ySh.t hS rfl) (ySh.n hS rfl) ?_
                  refine y_in (M := xm_X5_add) (ls := [some _, some _, some _, some _, some _, some _, some _, some _]) rfl rfl rfl ?_
                  refine y_aload_n rfl rfl ?_
                  refine y_getR rfl (ySh.t hS rfl) (ySh.n hS rfl) rfl rfl (ySh.r hS rfl) ?_
                  refine y_aload_n rfl rfl ?_
                  refine y_getIv (v := I 48 0) rfl (ySh.t hS rfl) (ySh.n hS rfl) rfl rfl rfl ?_
                  refine y_iload_n rfl rfl ?_
                  refine y_iastore rfl (ySh.t hS rfl) (ySh.n hS rfl) (Nat.le_of_ble_eq_true rfl) (by omega) (by omega) ?_
                  refine y_nameI (fun I20 e20 => ?_)
                  have hC : yCI I20 := by rw [e20]; exact hC
                  have hF : yFt I I20 := by rw [e20]; exact hF.upd (by decide)
                  refine y_aload_n rfl rfl ?_
                  refine y_getR rfl (ySh.t hS rfl) (ySh.n hS rfl) rfl rfl (ySh.r hS rfl) ?_
                  refine y_aload_n rfl rfl ?_
                  refine y_getIv (v := I 48 0) rfl (ySh.t hS rfl) (ySh.n hS rfl) rfl rfl (by rw [e20, upd2_ne (.inl (by decide))]) ?_
                  refine y_iload_n rfl rfl ?_
                  refine y_iastore rfl (ySh.t hS rfl) (ySh.n hS rfl) (Nat.le_of_ble_eq_true rfl) (by omega) (by omega) ?_
                  refine y_nameI (fun I21 e21 => ?_)
                  have hC : yCI I21 := by rw [e21]; exact hC
                  have hF : yFt I I21 := by rw [e21]; exact hF.upd (by decide)
                  refine y_aload_n rfl rfl ?_
                  refine y_getR rfl (ySh.t hS rfl) (ySh.n hS rfl) rfl rfl (ySh.r hS rfl) ?_
                  refine y_aload_n rfl rfl ?_
                  refine y_getIv (v := I 48 0) rfl (ySh.t hS rfl) (ySh.n hS rfl) rfl rfl (by rw [e21, upd2_ne (.inl (by decide)), e20, upd2_ne (.inl (by decide))]) ?_
                  refine y_iload rfl rfl ?_
                  refine y_iastore rfl (ySh.t hS rfl) (ySh.n hS rfl) (Nat.le_of_ble_eq_true rfl) (by omega) (by omega) ?_
                  refine y_nameI (fun I22 e22 => ?_)
                  have hC : yCI I22 := by rw [e22]; exact hC
                  have hF : yFt I I22 := by rw [e22]; exact hF.upd (by decide)
                  refine y_aload_n rfl rfl ?_
                  refine y_getR rfl (ySh.t hS rfl) (ySh.n hS rfl) rfl rfl (ySh.r hS rfl) ?_
                  refine y_aload_n rfl rfl ?_
                  refine y_getIv (v := I 48 0) rfl (ySh.t hS rfl) (ySh.n hS rfl) rfl rfl (by rw [e22, upd2_ne (.inl (by decide)), e21, upd2_ne (.inl (by decide)), e20, upd2_ne (.inl (by decide))]) ?_
                  refine y_iload_n rfl rfl ?_
                  refine y_iload_n rfl rfl ?_
                  refine y_iload rfl rfl ?_
                  refine y_imul rfl ?_
                  refine y_bip rfl (by decide) ?_
                  refine y_idiv rfl (by decide) ?_
                  refine y_iadd rfl ?_
                  refine y_iastore rfl (ySh.t hS rfl) (ySh.n hS rfl) (Nat.le_of_ble_eq_true rfl) (by omega) (by omega) ?_
                  refine y_nameI (fun I23 e23 => ?_)
                  have hC : yCI I23 := by rw [e23]; exact hC
                  have hF : yFt I I23 := by rw [e23]; exact hF.upd (by decide)
                  refine y_aload_n rfl rfl ?_
                  refine y_getR rfl (ySh.t hS rfl) (ySh.n hS rfl) rfl rfl (ySh.r hS rfl) ?_
                  refine y_aload_n rfl rfl ?_
                  refine y_getIv (v := I 48 0) rfl (ySh.t hS rfl) (ySh.n hS rfl) rfl rfl (by rw [e23, upd2_ne (.inl (by decide)), e22, upd2_ne (.inl (by decide)), e21, upd2_ne (.inl (by decide)), e20, upd2_ne (.inl (by decide))]) ?_
                  refine y_iload rfl rfl ?_
                  refine y_iastore rfl (ySh.t hS rfl) (ySh.n hS rfl) (Nat.le_of_ble_eq_true rfl) (by omega) (by omega) ?_
                  refine y_nameI (fun I24 e24 => ?_)
                  have hC : yCI I24 := by rw [e24]; exact hC
                  have hF : yFt I I24 := by rw [e24]; exact hF.upd (by decide)
                  refine y_aload_n rfl rfl ?_
                  refine y_getR rfl (ySh.t hS rfl) (ySh.n hS rfl) rfl rfl (ySh.r hS rfl) ?_
                  refine y_aload_n rfl rfl ?_
                  refine y_getIv (v := I 48 0) rfl (ySh.t hS rfl) (ySh.n hS rfl) rfl rfl (by rw [e24, upd2_ne (.inl (by decide)), e23, upd2_ne (.inl (by decide)), e22, upd2_ne (.inl (by decide)), e21, upd2_ne (.inl (by decide)), e20, upd2_ne (.inl (by decide))]) ?_
                  refine y_iload rfl rfl ?_
                  refine y_iastore rfl (ySh.t hS rfl) (ySh.n hS rfl) (Nat.le_of_ble_eq_true rfl) (by omega) (by omega) ?_
                  refine y_nameI (fun I25 e25 => ?_)
                  have hC : yCI I25 := by rw [e25]; exact hC
                  have hF : yFt I I25 := by rw [e25]; exact hF.upd (by decide)
                  refine y_aload_n rfl rfl ?_
                  refine y_getR rfl (ySh.t hS rfl) (ySh.n hS rfl) rfl rfl (ySh.r hS rfl) ?_
                  refine y_aload_n rfl rfl ?_
                  refine y_getIv (v := I 48 0) rfl (ySh.t hS rfl) (ySh.n hS rfl) rfl rfl (by rw [e25, upd2_ne (.inl (by decide)), e24, upd2_ne (.inl (by decide)), e23, upd2_ne (.inl (by decide)), e22, upd2_ne (.inl (by decide)), e21, upd2_ne (.inl (by decide)), e20, upd2_ne (.inl (by decide))]) ?_
                  refine y_iload rfl rfl ?_
                  refine y_iastore rfl (ySh.t hS rfl) (ySh.n hS rfl) (Nat.le_of_ble_eq_true rfl) (by omega) (by omega) ?_
                  refine y_nameI (fun I26 e26 => ?_)
                  have hC : yCI I26 := by rw [e26]; exact hC
                  have hF : yFt I I26 := by rw [e26]; exact hF.upd (by decide)
                  refine y_aload_n rfl rfl ?_
                  refine y_dup rfl rfl ?_
                  refine y_getIv (v := I 48 0) rfl (ySh.t hS rfl) (ySh.n hS rfl) rfl rfl (by rw [e26, upd2_ne (.inl (by decide)), e25, upd2_ne (.inl (by decide)), e24, upd2_ne (.inl (by decide)), e23, upd2_ne (.inl (by decide)), e22, upd2_ne (.inl (by decide)), e21, upd2_ne (.inl (by decide)), e20, upd2_ne (.inl (by decide))]) ?_
                  refine y_dup_x1 rfl rfl rfl ?_
                  refine y_iconst rfl ?_
                  refine y_iadd rfl ?_
                  refine y_putI rfl (ySh.t hS rfl) (ySh.n hS rfl) rfl (Nat.le_of_ble_eq_true rfl) rfl rfl ?_
                  refine y_nameI (fun I27 e27 => ?_)
                  have hC : yCI I27 := by rw [e27]; exact yCI.inc48v hC (by rw [e26, upd2_ne (.inl (by decide)), e25, upd2_ne (.inl (by decide)), e24, upd2_ne (.inl (by decide)), e23, upd2_ne (.inl (by decide)), e22, upd2_ne (.inl (by decide)), e21, upd2_ne (.inl (by decide)), e20, upd2_ne (.inl (by decide))]) (by omega)
                  have hF : yFt I I27 := by rw [e27]; exact hF.upd (by decide)
                  refine y_ireturn rfl rfl rfl ?_
                  refine y_ret1 ?_
                  refine y_istore (ls' := [some _, some _, some _, some _, some _, some _, some _]) rfl rfl rfl ?_
                  refine y_iload rfl rfl ?_
                  refine y_if_ne rfl j_X8_sell_147 (fun h_28 => ?_) (fun h_29 => ?_)
                  · refine y_iload rfl rfl ?_
                    refine y_ireturn rfl rfl rfl ?_
                    first | (exfalso; omega) | (exact hQb (by omega) _ _ _ hC hF hv_m rfl (by omega) (by rw [e27, e26, e25, e24, e23, e22, e21, e20]; repeat (first | exact yGc.rf | refine yGc.skipC ?_ (by decide) | refine yGc.skip ?_ (by decide) | refine yGc.both ?_)) (by first | (rw [e27, e26, e25, e24, e23, e22, e21, e20]; done) | (rw [e27, e26, e25, e24, e23, e22, e21, e20]; rfl)))
                  · refine y_aload_n rfl rfl ?_
                    refine y_getR rfl (ySh.t hS rfl) (ySh.n hS rfl) rfl rfl (ySh.r hS rfl) ?_
                    refine y_iload_n rfl rfl ?_
                    refine y_iload_n rfl rfl ?_
                    refine y_virt rfl rfl rfl rfl rfl (ySh.t hS rfl) (ySh.n hS rfl) ?_
                    refine y_in (M := xm_X6_handOver) (ls := [some _, some _, some _]) rfl rfl rfl ?_
                    refine y_aload_n rfl rfl ?_
                    refine y_getR rfl (ySh.t hS rfl) (ySh.n hS rfl) rfl rfl (ySh.r hS rfl) ?_
                    refine y_iload_n rfl rfl ?_
                    refine y_iload_n rfl rfl ?_
                    refine y_iastore rfl (ySh.t hS rfl) (ySh.n hS rfl) (Nat.le_of_ble_eq_true rfl) (by omega) (by omega) ?_
                    refine y_nameI (fun I30 e30 => ?_)
                    have hC : yCI I30 := by rw [e30]; exact hC
                    have hF : yFt I I30 := by rw [e30]; exact hF.upd (by decide)
                    refine y_aload_n rfl rfl ?_
                    refine y_getR rfl (ySh.t hS rfl) (ySh.n hS rfl) rfl rfl (ySh.r hS rfl) ?_
                    refine y_iload_n rfl rfl ?_
                    refine y_iconst rfl ?_
                    refine y_zastore rfl (ySh.t hS rfl) (ySh.n hS rfl) (Nat.le_of_ble_eq_true rfl) (by omega) (by omega) rfl ?_
                    refine y_nameI (fun I31 e31 => ?_)
                    have hC : yCI I31 := by rw [e31]; exact hC
                    have hF : yFt I I31 := by rw [e31]; exact hF.upd (by decide)
                    refine y_return rfl ?_
                    refine y_ret0 ?_
                    refine y_iload rfl rfl ?_
                    refine y_ireturn rfl rfl rfl ?_
                    first | (exfalso; omega) | (exact hQa (by omega) _ _ _ hC hF hv_m rfl (by omega) (by rw [e31, e30, e27, e26, e25, e24, e23, e22, e21, e20]; repeat (first | exact yGc.rf | refine yGc.skipC ?_ (by decide) | refine yGc.skip ?_ (by decide) | refine yGc.both ?_)) (by first | (rw [e31, e30, e27, e26, e25, e24, e23, e22, e21, e20]; done) | (rw [e31, e30, e27, e26, e25, e24, e23, e22, e21, e20]; rfl)))
                · rw [yz_m1] at h_18
                  refine y_iconst rfl ?_
                  refine y_goto rfl j_X6_isLeased_15 ?_
                  refine y_ireturn rfl rfl rfl ?_
                  refine y_ret1 ?_
                  refine y_if_eqF rfl (by decide) ?_
                  refine y_throw rfl rfl rfl ?_
                  exact hE2 (by omega)
            · rw [yz_1] at h_14
              rw [yz_12] at h_14
              refine y_ret1 ?_
              refine y_if_neF rfl (by decide) ?_
              refine y_throw rfl rfl rfl ?_
              exact hE1 (by omega)
          · rw [yz_0] at h_11
            rw [yz_99] at h_11
            refine y_ret1 ?_
            refine y_if_eqT rfl j_X8_sell_53 (by decide) ?_
            refine y_throw rfl rfl rfl ?_
            exact hE1 (by omega)
theorem g_lease (hS : ySh n tg R) (hC : yCI I) {x1 x2 x3 x4 : Int32} (hE0 : ¬ ((0 ≤ x1.toInt ∧ x1.toInt < (I 40 0).toInt) ∧ (0 ≤ x2.toInt ∧ x2.toInt < (I 38 0).toInt)) → Q (.inr "java/lang/IndexOutOfBoundsException") (n, tg, I, R) (c + 1) (s + 6)) (hE1 : ((0 ≤ x1.toInt ∧ x1.toInt < (I 40 0).toInt) ∧ (0 ≤ x2.toInt ∧ x2.toInt < (I 38 0).toInt)) ∧ ¬ ((0 ≤ x3.toInt ∧ x3.toInt ≤ 99) ∧ (0 ≤ x4.toInt ∧ x4.toInt ≤ 99) ∧ x3.toInt ≤ x4.toInt) → Q (.inr "java/lang/IllegalArgumentException") (n, tg, I, R) (c + 1) (s + 6)) (hE2 : ((0 ≤ x1.toInt ∧ x1.toInt < (I 40 0).toInt) ∧ (0 ≤ x2.toInt ∧ x2.toInt < (I 38 0).toInt)) ∧ ((0 ≤ x3.toInt ∧ x3.toInt ≤ 99) ∧ (0 ≤ x4.toInt ∧ x4.toInt ≤ 99) ∧ x3.toInt ≤ x4.toInt) ∧ ¬ ((I 59 0).toInt < 8 ∧ ((I 42 x1.toInt.toNat).toInt = 8 ∧ ¬ (I 43 x1.toInt.toNat).toInt = 0 ∧ (I 44 x1.toInt.toNat).toInt = 0 ∧ (I 47 x1.toInt.toNat).toInt = -1 ∧ (¬ (I 46 x1.toInt.toNat).toInt = x2.toInt ∨ 3 ≤ (yBC (I 36 3)).toInt))) → Q (.inr "java/lang/IllegalStateException") (n, tg, I, R) (c + 1) (s + 6)) (hQ : ((0 ≤ x1.toInt ∧ x1.toInt < (I 40 0).toInt) ∧ (0 ≤ x2.toInt ∧ x2.toInt < (I 38 0).toInt)) ∧ ((0 ≤ x3.toInt ∧ x3.toInt ≤ 99) ∧ (0 ≤ x4.toInt ∧ x4.toInt ≤ 99) ∧ x3.toInt ≤ x4.toInt) ∧ ((I 59 0).toInt < 8 ∧ ((I 42 x1.toInt.toNat).toInt = 8 ∧ ¬ (I 43 x1.toInt.toNat).toInt = 0 ∧ (I 44 x1.toInt.toNat).toInt = 0 ∧ (I 47 x1.toInt.toNat).toInt = -1 ∧ (¬ (I 46 x1.toInt.toNat).toInt = x2.toInt ∨ 3 ≤ (yBC (I 36 3)).toInt))) → ∀ (v : Int32) (I1 : Nat → Nat → Int32), yCI I1 → yFt I I1 → v = I 59 0 → yGc yTL I1 (upd2 (upd2 (upd2 (upd2 (upd2 (upd2 (upd2 (upd2 I 60 (I 59 0).toInt.toNat x1) 61 (I 59 0).toInt.toNat (I 41 x1.toInt.toNat)) 62 (I 59 0).toInt.toNat x2) 63 (I 59 0).toInt.toNat x3) 64 (I 59 0).toInt.toNat x4) 66 (I 59 0).toInt.toNat (I 34 8 + Int32.ofInt 30)) 59 0 (I 59 0 + Int32.ofInt 1)) 47 x1.toInt.toNat (I 59 0)) → I1 = (upd2 (upd2 (upd2 (upd2 (upd2 (upd2 (upd2 (upd2 I 60 (I 59 0).toInt.toNat x1) 61 (I 59 0).toInt.toNat (I 41 x1.toInt.toNat)) 62 (I 59 0).toInt.toNat x2) 63 (I 59 0).toInt.toNat x3) 64 (I 59 0).toInt.toNat x4) 66 (I 59 0).toInt.toNat (I 34 8 + Int32.ofInt 30)) 59 0 (I 59 0 + Int32.ofInt 1)) 47 x1.toInt.toNat (I 59 0)) → Q (.inl (some (.int v))) (n, tg, I1, R) c s) : yC 130 [.ref 34, .int x1, .int x2, .int x3, .int x4] (n, tg, I, R) c s Q := by
  have hF : yFt I I := yFt.rf
  refine y_in (M := xm_X8_lease) (ls := [some _, some _, some _, some _, some _, _]) rfl rfl rfl ?_
  refine y_aload_n rfl rfl ?_
  refine y_getR rfl (ySh.t hS rfl) (ySh.n hS rfl) rfl rfl (ySh.r hS rfl) ?_
  refine y_iload_n rfl rfl ?_
  refine y_virt rfl rfl rfl rfl rfl (ySh.t hS rfl) (ySh.n hS rfl) ?_
  refine y_in (M := xm_X6_has) (ls := [some _, some _]) rfl rfl rfl ?_
  refine y_iload_n rfl rfl ?_
  refine y_if_lt rfl j_X6_has_16 (fun h_1 => ?_) (fun h_2 => ?_)
  · refine y_iconst rfl ?_
    refine y_ireturn rfl rfl rfl ?_
    refine y_ret1 ?_
    refine y_if_eqT rfl j_X8_lease_22 (by decide) ?_
    refine y_throw rfl rfl rfl ?_
    exact hE0 (by omega)
  · refine y_iload_n rfl rfl ?_
    refine y_aload_n rfl rfl ?_
    refine y_getIv (v := I 40 0) rfl (ySh.t hS rfl) (ySh.n hS rfl) rfl rfl rfl ?_
    refine y_icmp_ge rfl j_X6_has_16 (fun h_3 => ?_) (fun h_4 => ?_)
    · refine y_iconst rfl ?_
      refine y_ireturn rfl rfl rfl ?_
      refine y_ret1 ?_
      refine y_if_eqT rfl j_X8_lease_22 (by decide) ?_
      refine y_throw rfl rfl rfl ?_
      exact hE0 (by omega)
    · refine y_iconst rfl ?_
      refine y_goto rfl j_X6_has_17 ?_
      refine y_ireturn rfl rfl rfl ?_
      refine y_ret1 ?_
      refine y_if_eqF rfl (by decide) ?_
      refine y_aload_n rfl rfl ?_
      refine y_getR rfl (ySh.t hS rfl) (ySh.n hS rfl) rfl rfl (ySh.r hS rfl) ?_
      refine y_iload_n rfl rfl ?_
      refine y_virt rfl rfl rfl rfl rfl (ySh.t hS rfl) (ySh.n hS rfl) ?_
      refine y_in (M := xm_X4_has) (ls := [some _, some _]) rfl rfl rfl ?_
      refine y_iload_n rfl rfl ?_
      refine y_if_lt rfl j_X4_has_16 (fun h_5 => ?_) (fun h_6 => ?_)
      · refine y_iconst rfl ?_
        refine y_ireturn rfl rfl rfl ?_
        refine y_ret1 ?_
        refine y_if_neF rfl (by decide) ?_
        refine y_throw rfl rfl rfl ?_
        exact hE0 (by omega)
      · refine y_iload_n rfl rfl ?_
        refine y_aload_n rfl rfl ?_
        refine y_getIv (v := I 38 0) rfl (ySh.t hS rfl) (ySh.n hS rfl) rfl rfl rfl ?_
        refine y_icmp_ge rfl j_X4_has_16 (fun h_7 => ?_) (fun h_8 => ?_)
        · refine y_iconst rfl ?_
          refine y_ireturn rfl rfl rfl ?_
          refine y_ret1 ?_
          refine y_if_neF rfl (by decide) ?_
          refine y_throw rfl rfl rfl ?_
          exact hE0 (by omega)
        · refine y_iconst rfl ?_
          refine y_goto rfl j_X4_has_17 ?_
          refine y_ireturn rfl rfl rfl ?_
          refine y_ret1 ?_
          refine y_if_neT rfl j_X8_lease_32 (by decide) ?_
          refine y_iload_n rfl rfl ?_
          refine y_iconst rfl ?_
          refine y_bip rfl (by decide) ?_
          refine y_static rfl rfl rfl rfl rfl ?_
          refine s_isIn (fun h_9 h_10 => ?_) (fun h_11 => ?_)
          · rw [yz_0] at h_9
            rw [yz_99] at h_10
            refine y_ret1 ?_
            refine y_if_eqF rfl (by decide) ?_
            refine y_iload rfl rfl ?_
            refine y_iconst rfl ?_
            refine y_bip rfl (by decide) ?_
            refine y_static rfl rfl rfl rfl rfl ?_
            refine s_isIn (fun h_12 h_13 => ?_) (fun h_14 => ?_)
            · rw [yz_0] at h_12
              rw [yz_99] at h_13
              refine y_ret1 ?_
              refine y_if_eqF rfl (by decide) ?_
              refine y_iload rfl rfl ?_
              refine y_iload_n rfl rfl ?_
              refine y_icmp_ge rfl j_X8_lease_69 (fun h_15 => ?_) (fun h_16 => ?_)
              · refine y_aload_n rfl rfl ?_
                refine y_getR rfl (ySh.t hS rfl) (ySh.n hS rfl) rfl rfl (ySh.r hS rfl) ?_
                refine y_getIv (v := I 59 0) rfl (ySh.t hS rfl) (ySh.n hS rfl) rfl rfl rfl ?_
                refine y_bip rfl (by decide) ?_
                refine y_icmp_ge rfl j_X8_lease_90 (fun h_17 => ?_) (fun h_18 => ?_)
                · rw [yz_8] at h_17
                  refine y_throw rfl rfl rfl ?_
                  exact hE2 (by omega)
                · rw [yz_8] at h_18
                  refine y_aload_n rfl rfl ?_
                  refine y_iload_n rfl rfl ?_
                  refine y_iload_n rfl rfl ?_
                  refine y_virt rfl rfl rfl rfl rfl (ySh.t hS rfl) (ySh.n hS rfl) ?_
                  refine spx_canLease hS hC (by omega) (by omega) (fun h_19 => ?_) (fun h_20 => ?_)
                  · refine y_ret1 ?_
                    refine y_if_neT rfl j_X8_lease_100 (by decide) ?_
                    refine y_aload_n rfl rfl ?_
                    refine y_getR rfl (ySh.t hS rfl) (ySh.n hS rfl) rfl rfl (ySh.r hS rfl) ?_
                    refine y_iload_n rfl rfl ?_
                    refine y_aload_n rfl rfl ?_
                    refine y_getR rfl (ySh.t hS rfl) (ySh.n hS rfl) rfl rfl (ySh.r hS rfl) ?_
                    refine y_getR rfl (ySh.t hS rfl) (ySh.n hS rfl) rfl rfl (ySh.r hS rfl) ?_
                    refine y_iload_n rfl rfl ?_
                    refine y_ialoadv (J := I 41) rfl (ySh.t hS rfl) (ySh.n hS rfl) (by omega) (by omega) rfl ?_
                    refine y_iload_n rfl rfl ?_
                    refine y_iload_n rfl rfl ?_
                    refine y_iload rfl rfl ?_
                    refine y_aload_n rfl rfl ?_
                    refine y_getIv (v := I 34 8) rfl (ySh.t hS rfl) (ySh.n hS rfl) rfl rfl rfl ?_
                    refine y_virt rfl rfl rfl rfl rfl (ySh.t hS rfl) (ySh.n hS rfl) ?_
                    refine y_in (M := xm_X2_add) (ls := [some _, some _, some _, some _, some _, some _, some _]) rfl rfl rfl ?_
                    refine y_aload_n rfl rfl ?_
                    refine y_getR rfl (ySh.t hS rfl) (ySh.n hS rfl) rfl rfl (ySh.r hS rfl) ?_
                    refine y_aload_n rfl rfl ?_
                    refine y_getIv (v := I 59 0) rfl (ySh.t hS rfl) (ySh.n hS rfl) rfl rfl rfl ?_
                    refine y_iload_n rfl rfl ?_
                    refine y_iastore rfl (ySh.t hS rfl) (ySh.n hS rfl) (Nat.le_of_ble_eq_true rfl) (by omega) (by omega) ?_
                    refine y_nameI (fun I21 e21 => ?_)
                    have hC : yCI I21 := by rw [e21]; exact hC
                    have hF : yFt I I21 := by rw [e21]; exact hF.upd (by decide)
                    refine y_aload_n rfl rfl ?_
                    refine y_getR rfl (ySh.t hS rfl) (ySh.n hS rfl) rfl rfl (ySh.r hS rfl) ?_
                    refine y_aload_n rfl rfl ?_
                    refine y_getIv (v := I 59 0) rfl (ySh.t hS rfl) (ySh.n hS rfl) rfl rfl (by rw [e21, upd2_ne (.inl (by decide))]) ?_
                    refine y_iload_n rfl rfl ?_
                    refine y_iastore rfl (ySh.t hS rfl) (ySh.n hS rfl) (Nat.le_of_ble_eq_true rfl) (by omega) (by omega) ?_
                    refine y_nameI (fun I22 e22 => ?_)
                    have hC : yCI I22 := by rw [e22]; exact hC
                    have hF : yFt I I22 := by rw [e22]; exact hF.upd (by decide)
                    refine y_aload_n rfl rfl ?_
                    refine y_getR rfl (ySh.t hS rfl) (ySh.n hS rfl) rfl rfl (ySh.r hS rfl) ?_
                    refine y_aload_n rfl rfl ?_
                    refine y_getIv (v := I 59 0) rfl (ySh.t hS rfl) (ySh.n hS rfl) rfl rfl (by rw [e22, upd2_ne (.inl (by decide)), e21, upd2_ne (.inl (by decide))]) ?_
                    refine y_iload_n rfl rfl ?_
                    refine y_iastore rfl (ySh.t hS rfl) (ySh.n hS rfl) (Nat.le_of_ble_eq_true rfl) (by omega) (by omega) ?_
                    refine y_nameI (fun I23 e23 => ?_)
                    have hC : yCI I23 := by rw [e23]; exact hC
                    have hF : yFt I I23 := by rw [e23]; exact hF.upd (by decide)
                    refine y_aload_n rfl rfl ?_
                    refine y_getR rfl (ySh.t hS rfl) (ySh.n hS rfl) rfl rfl (ySh.r hS rfl) ?_
                    refine y_aload_n rfl rfl ?_
                    refine y_getIv (v := I 59 0) rfl (ySh.t hS rfl) (ySh.n hS rfl) rfl rfl (by rw [e23, upd2_ne (.inl (by decide)), e22, upd2_ne (.inl (by decide)), e21, upd2_ne (.inl (by decide))]) ?_
                    refine y_iload rfl rfl ?_
                    refine y_iastore rfl (ySh.t hS rfl) (ySh.n hS rfl) (Nat.le_of_ble_eq_true rfl) (by omega) (by omega) ?_
                    refine y_nameI (fun I24 e24 => ?_)
                    have hC : yCI I24 := by rw [e24]; exact hC
                    have hF : yFt I I24 := by rw [e24]; exact hF.upd (by decide)
                    refine y_aload_n rfl rfl ?_
                    refine y_getR rfl (ySh.t hS rfl) (ySh.n hS rfl) rfl rfl (ySh.r hS rfl) ?_
                    refine y_aload_n rfl rfl ?_
                    refine y_getIv (v := I 59 0) rfl (ySh.t hS rfl) (ySh.n hS rfl) rfl rfl (by rw [e24, upd2_ne (.inl (by decide)), e23, upd2_ne (.inl (by decide)), e22, upd2_ne (.inl (by decide)), e21, upd2_ne (.inl (by decide))]) ?_
                    refine y_iload rfl rfl ?_
                    refine y_iastore rfl (ySh.t hS rfl) (ySh.n hS rfl) (Nat.le_of_ble_eq_true rfl) (by omega) (by omega) ?_
                    refine y_nameI (fun I25 e25 => ?_)
                    have hC : yCI I25 := by rw [e25]; exact hC
                    have hF : yFt I I25 := by rw [e25]; exact hF.upd (by decide)
                    refine y_aload_n rfl rfl ?_
                    refine y_getR rfl (ySh.t hS rfl) (ySh.n hS rfl) rfl rfl (ySh.r hS rfl) ?_
                    refine y_aload_n rfl rfl ?_
                    refine y_getIv (v := I 59 0) rfl (ySh.t hS rfl) (ySh.n hS rfl) rfl rfl (by rw [e25, upd2_ne (.inl (by decide)), e24, upd2_ne (.inl (by decide)), e23, upd2_ne (.inl (by decide)), e22, upd2_ne (.inl (by decide)), e21, upd2_ne (.inl (by decide))]) ?_
                    refine y_iload rfl rfl ?_
                    refine y_bip rfl (by decide) ?_
                    refine y_iadd rfl ?_
                    refine y_iastore rfl (ySh.t hS rfl) (ySh.n hS rfl) (Nat.le_of_ble_eq_true rfl) (by omega) (by omega) ?_
                    refine y_nameI (fun I26 e26 => ?_)
                    have hC : yCI I26 := by rw [e26]; exact hC
                    have hF : yFt I I26 := by rw [e26]; exact hF.upd (by decide)
                    refine y_aload_n rfl rfl ?_
                    refine y_dup rfl rfl ?_
                    refine y_getIv (v := I 59 0) rfl (ySh.t hS rfl) (ySh.n hS rfl) rfl rfl (by rw [e26, upd2_ne (.inl (by decide)), e25, upd2_ne (.inl (by decide)), e24, upd2_ne (.inl (by decide)), e23, upd2_ne (.inl (by decide)), e22, upd2_ne (.inl (by decide)), e21, upd2_ne (.inl (by decide))]) ?_
                    refine y_dup_x1 rfl rfl rfl ?_
                    refine y_iconst rfl ?_
                    refine y_iadd rfl ?_
                    refine y_putI rfl (ySh.t hS rfl) (ySh.n hS rfl) rfl (Nat.le_of_ble_eq_true rfl) rfl rfl ?_
                    refine y_nameI (fun I27 e27 => ?_)
                    have hC : yCI I27 := by rw [e27]; exact yCI.inc59v hC (by rw [e26, upd2_ne (.inl (by decide)), e25, upd2_ne (.inl (by decide)), e24, upd2_ne (.inl (by decide)), e23, upd2_ne (.inl (by decide)), e22, upd2_ne (.inl (by decide)), e21, upd2_ne (.inl (by decide))]) (by omega)
                    have hF : yFt I I27 := by rw [e27]; exact hF.upd (by decide)
                    refine y_ireturn rfl rfl rfl ?_
                    refine y_ret1 ?_
                    refine y_istore (ls' := [some _, some _, some _, some _, some _, some _]) rfl rfl rfl ?_
                    refine y_aload_n rfl rfl ?_
                    refine y_getR rfl (ySh.t hS rfl) (ySh.n hS rfl) rfl rfl (ySh.r hS rfl) ?_
                    refine y_getR rfl (ySh.t hS rfl) (ySh.n hS rfl) rfl rfl (ySh.r hS rfl) ?_
                    refine y_iload_n rfl rfl ?_
                    refine y_iload rfl rfl ?_
                    refine y_iastore rfl (ySh.t hS rfl) (ySh.n hS rfl) (Nat.le_of_ble_eq_true rfl) (by omega) (by omega) ?_
                    refine y_nameI (fun I28 e28 => ?_)
                    have hC : yCI I28 := by rw [e28]; exact hC
                    have hF : yFt I I28 := by rw [e28]; exact hF.upd (by decide)
                    refine y_iload rfl rfl ?_
                    refine y_ireturn rfl rfl rfl ?_
                    first | (exfalso; omega) | (exact hQ (by omega) _ _ hC hF rfl (by rw [e28, e27, e26, e25, e24, e23, e22, e21]; repeat (first | exact yGc.rf | refine yGc.skipC ?_ (by decide) | refine yGc.skip ?_ (by decide) | refine yGc.both ?_)) (by first | (rw [e28, e27, e26, e25, e24, e23, e22, e21]; done) | (rw [e28, e27, e26, e25, e24, e23, e22, e21]; rfl)))
                  · refine y_ret1 ?_
                    refine y_if_neF rfl (by decide) ?_
                    refine y_throw rfl rfl rfl ?_
                    exact hE2 (by omega)
              · refine y_throw rfl rfl rfl ?_
                exact hE1 (by omega)
            · rw [yz_0] at h_14
              rw [yz_99] at h_14
              refine y_ret1 ?_
              refine y_if_eqT rfl j_X8_lease_59 (by decide) ?_
              refine y_throw rfl rfl rfl ?_
              exact hE1 (by omega)
          · rw [yz_0] at h_11
            rw [yz_99] at h_11
            refine y_ret1 ?_
            refine y_if_eqT rfl j_X8_lease_59 (by decide) ?_
            refine y_throw rfl rfl rfl ?_
            exact hE1 (by omega)
theorem g_end (hS : ySh n tg R) (hC : yCI I) {x1 x2 : Int32} (hT : (0 ≤ x1.toInt ∧ x1.toInt < (I 59 0).toInt) ∧ (I 65 x1.toInt.toNat).toInt = 0 → 0 ≤ (I 60 x1.toInt.toNat).toInt ∧ (I 60 x1.toInt.toNat).toInt < (I 40 0).toInt) (hE0 : ¬ (0 ≤ x1.toInt ∧ x1.toInt < (I 59 0).toInt) → Q (.inr "java/lang/IndexOutOfBoundsException") (n, tg, I, R) (c + 1) (s + 6)) (hE2 : (0 ≤ x1.toInt ∧ x1.toInt < (I 59 0).toInt) ∧ ¬ (I 65 x1.toInt.toNat).toInt = 0 → Q (.inr "java/lang/IllegalStateException") (n, tg, I, R) (c + 1) (s + 6)) (hQa : (0 ≤ x1.toInt ∧ x1.toInt < (I 59 0).toInt) ∧ (I 65 x1.toInt.toNat).toInt = 0 ∧ x2.toInt = 0 → ∀ (v : Int32) (I1 : Nat → Nat → Int32), yCI I1 → yFt I I1 → v = I 67 x1.toInt.toNat → yGc yTL I1 (upd2 (upd2 I 65 x1.toInt.toNat (Int32.ofInt 1)) 47 (I 60 x1.toInt.toNat).toInt.toNat (Int32.ofInt (-1))) → I1 = (upd2 (upd2 I 65 x1.toInt.toNat (Int32.ofInt 1)) 47 (I 60 x1.toInt.toNat).toInt.toNat (Int32.ofInt (-1))) → Q (.inl (some (.int v))) (n, tg, I1, R) c s) (hQb : (0 ≤ x1.toInt ∧ x1.toInt < (I 59 0).toInt) ∧ (I 65 x1.toInt.toNat).toInt = 0 ∧ ¬ x2.toInt = 0 → ∀ (v : Int32) (I1 : Nat → Nat → Int32), yCI I1 → yFt I I1 → v = I 67 x1.toInt.toNat → yGc yTL I1 (upd2 (upd2 (upd2 (upd2 I 65 x1.toInt.toNat (Int32.ofInt 1)) 47 (I 60 x1.toInt.toNat).toInt.toNat (Int32.ofInt (-1))) 42 (I 60 x1.toInt.toNat).toInt.toNat (I 62 x1.toInt.toNat)) 43 (I 60 x1.toInt.toNat).toInt.toNat (Int32.ofInt 1)) → I1 = (upd2 (upd2 (upd2 (upd2 I 65 x1.toInt.toNat (Int32.ofInt 1)) 47 (I 60 x1.toInt.toNat).toInt.toNat (Int32.ofInt (-1))) 42 (I 60 x1.toInt.toNat).toInt.toNat (I 62 x1.toInt.toNat)) 43 (I 60 x1.toInt.toNat).toInt.toNat (Int32.ofInt 1)) → Q (.inl (some (.int v))) (n, tg, I1, R) c s) : yC 131 [.ref 34, .int x1, .int x2] (n, tg, I, R) c s Q := by
  have hF : yFt I I := yFt.rf
  refine y_in (M := xm_X8_end) (ls := [some _, some _, some _, _]) rfl rfl rfl ?_
  refine y_aload_n rfl rfl ?_
  refine y_getR rfl (ySh.t hS rfl) (ySh.n hS rfl) rfl rfl (ySh.r hS rfl) ?_
  refine y_iload_n rfl rfl ?_
  refine y_virt rfl rfl rfl rfl rfl (ySh.t hS rfl) (ySh.n hS rfl) ?_
  refine y_in (M := xm_X2_has) (ls := [some _, some _]) rfl rfl rfl ?_
  refine y_iload_n rfl rfl ?_
  refine y_if_lt rfl j_X2_has_16 (fun h_1 => ?_) (fun h_2 => ?_)
  · refine y_iconst rfl ?_
    refine y_ireturn rfl rfl rfl ?_
    refine y_ret1 ?_
    refine y_if_neF rfl (by decide) ?_
    refine y_throw rfl rfl rfl ?_
    exact hE0 (by omega)
  · refine y_iload_n rfl rfl ?_
    refine y_aload_n rfl rfl ?_
    refine y_getIv (v := I 59 0) rfl (ySh.t hS rfl) (ySh.n hS rfl) rfl rfl rfl ?_
    refine y_icmp_ge rfl j_X2_has_16 (fun h_3 => ?_) (fun h_4 => ?_)
    · refine y_iconst rfl ?_
      refine y_ireturn rfl rfl rfl ?_
      refine y_ret1 ?_
      refine y_if_neF rfl (by decide) ?_
      refine y_throw rfl rfl rfl ?_
      exact hE0 (by omega)
    · refine y_iconst rfl ?_
      refine y_goto rfl j_X2_has_17 ?_
      refine y_ireturn rfl rfl rfl ?_
      refine y_ret1 ?_
      refine y_if_neT rfl j_X8_end_21 (by decide) ?_
      refine y_aload_n rfl rfl ?_
      refine y_getR rfl (ySh.t hS rfl) (ySh.n hS rfl) rfl rfl (ySh.r hS rfl) ?_
      refine y_getR rfl (ySh.t hS rfl) (ySh.n hS rfl) rfl rfl (ySh.r hS rfl) ?_
      refine y_iload_n rfl rfl ?_
      refine y_baloadv (J := I 65) rfl (ySh.t hS rfl) rfl (ySh.n hS rfl) (by omega) (by omega) rfl ?_
      refine y_if_eq rfl j_X8_end_43 (fun h_5 => ?_) (fun h_6 => ?_)
      · refine y_aload_n rfl rfl ?_
        refine y_getR rfl (ySh.t hS rfl) (ySh.n hS rfl) rfl rfl (ySh.r hS rfl) ?_
        refine y_iload_n rfl rfl ?_
        refine y_virt rfl rfl rfl rfl rfl (ySh.t hS rfl) (ySh.n hS rfl) ?_
        refine y_in (M := xm_X2_close) (ls := [some _, some _]) rfl rfl rfl ?_
        refine y_aload_n rfl rfl ?_
        refine y_iload_n rfl rfl ?_
        refine y_virt rfl rfl rfl rfl rfl (ySh.t hS rfl) (ySh.n hS rfl) ?_
        refine y_in (M := xm_X2_has) (ls := [some _, some _]) rfl rfl rfl ?_
        refine y_iload_n rfl rfl ?_
        refine y_if_lt rfl j_X2_has_16 (fun h_7 => ?_) (fun h_8 => ?_)
        · refine y_iconst rfl ?_
          refine y_ireturn rfl rfl rfl ?_
          refine y_ret1 ?_
          refine y_if_eqT rfl j_X2_close_15 (by decide) ?_
          refine y_return rfl ?_
          refine y_ret0 ?_
          refine y_aload_n rfl rfl ?_
          refine y_getR rfl (ySh.t hS rfl) (ySh.n hS rfl) rfl rfl (ySh.r hS rfl) ?_
          refine y_getR rfl (ySh.t hS rfl) (ySh.n hS rfl) rfl rfl (ySh.r hS rfl) ?_
          refine y_iload_n rfl rfl ?_
          refine y_ialoadv (J := I 60) rfl (ySh.t hS rfl) (ySh.n hS rfl) (by omega) (by omega) rfl ?_
          refine y_istore_n (ls' := [some _, some _, some _, some _]) rfl rfl rfl ?_
          refine y_aload_n rfl rfl ?_
          refine y_getR rfl (ySh.t hS rfl) (ySh.n hS rfl) rfl rfl (ySh.r hS rfl) ?_
          refine y_iload_n rfl rfl ?_
          refine y_virt rfl rfl rfl rfl rfl (ySh.t hS rfl) (ySh.n hS rfl) ?_
          refine y_in (M := xm_X6_has) (ls := [some _, some _]) rfl rfl rfl ?_
          refine y_iload_n rfl rfl ?_
          refine y_if_lt rfl j_X6_has_16 (fun h_9 => ?_) (fun h_10 => ?_)
          · refine y_iconst rfl ?_
            refine y_ireturn rfl rfl rfl ?_
            refine y_ret1 ?_
            refine y_if_eqT rfl j_X8_end_103 (by decide) ?_
            refine y_aload_n rfl rfl ?_
            refine y_getR rfl (ySh.t hS rfl) (ySh.n hS rfl) rfl rfl (ySh.r hS rfl) ?_
            refine y_getR rfl (ySh.t hS rfl) (ySh.n hS rfl) rfl rfl (ySh.r hS rfl) ?_
            refine y_iload_n rfl rfl ?_
            refine y_ialoadv (J := I 67) rfl (ySh.t hS rfl) (ySh.n hS rfl) (by omega) (by omega) rfl ?_
            refine y_ireturn rfl rfl rfl ?_
            first | (exfalso; omega) | (exfalso; omega)
          · refine y_iload_n rfl rfl ?_
            refine y_aload_n rfl rfl ?_
            refine y_getIv (v := I 40 0) rfl (ySh.t hS rfl) (ySh.n hS rfl) rfl rfl rfl ?_
            refine y_icmp_ge rfl j_X6_has_16 (fun h_11 => ?_) (fun h_12 => ?_)
            · refine y_iconst rfl ?_
              refine y_ireturn rfl rfl rfl ?_
              refine y_ret1 ?_
              refine y_if_eqT rfl j_X8_end_103 (by decide) ?_
              refine y_aload_n rfl rfl ?_
              refine y_getR rfl (ySh.t hS rfl) (ySh.n hS rfl) rfl rfl (ySh.r hS rfl) ?_
              refine y_getR rfl (ySh.t hS rfl) (ySh.n hS rfl) rfl rfl (ySh.r hS rfl) ?_
              refine y_iload_n rfl rfl ?_
              refine y_ialoadv (J := I 67) rfl (ySh.t hS rfl) (ySh.n hS rfl) (by omega) (by omega) rfl ?_
              refine y_ireturn rfl rfl rfl ?_
              first | (exfalso; omega) | (exfalso; omega)
            · refine y_iconst rfl ?_
              refine y_goto rfl j_X6_has_17 ?_
              refine y_ireturn rfl rfl rfl ?_
              refine y_ret1 ?_
              refine y_if_eqF rfl (by decide) ?_
              refine y_aload_n rfl rfl ?_
              refine y_getR rfl (ySh.t hS rfl) (ySh.n hS rfl) rfl rfl (ySh.r hS rfl) ?_
              refine y_getR rfl (ySh.t hS rfl) (ySh.n hS rfl) rfl rfl (ySh.r hS rfl) ?_
              refine y_iload_n rfl rfl ?_
              refine y_iconst rfl ?_
              refine y_iastore rfl (ySh.t hS rfl) (ySh.n hS rfl) (Nat.le_of_ble_eq_true rfl) (by omega) (by omega) ?_
              refine y_nameI (fun I13 e13 => ?_)
              have hC : yCI I13 := by rw [e13]; exact hC
              have hF : yFt I I13 := by rw [e13]; exact hF.upd (by decide)
              refine y_iload_n rfl rfl ?_
              refine y_if_eq rfl j_X8_end_103 (fun h_14 => ?_) (fun h_15 => ?_)
              · refine y_aload_n rfl rfl ?_
                refine y_getR rfl (ySh.t hS rfl) (ySh.n hS rfl) rfl rfl (ySh.r hS rfl) ?_
                refine y_getR rfl (ySh.t hS rfl) (ySh.n hS rfl) rfl rfl (ySh.r hS rfl) ?_
                refine y_iload_n rfl rfl ?_
                refine y_ialoadv (J := I 67) rfl (ySh.t hS rfl) (ySh.n hS rfl) (by omega) (by omega) (by rw [e13, upd2_row (by decide)]) ?_
                refine y_ireturn rfl rfl rfl ?_
                first | (exfalso; omega) | (exact hQa (by omega) _ _ hC hF rfl (by rw [e13]; repeat (first | exact yGc.rf | refine yGc.skipC ?_ (by decide) | refine yGc.skip ?_ (by decide) | refine yGc.both ?_)) (by first | (rw [e13]; done) | (rw [e13]; rfl)))
              · refine y_aload_n rfl rfl ?_
                refine y_getR rfl (ySh.t hS rfl) (ySh.n hS rfl) rfl rfl (ySh.r hS rfl) ?_
                refine y_iload_n rfl rfl ?_
                refine y_aload_n rfl rfl ?_
                refine y_getR rfl (ySh.t hS rfl) (ySh.n hS rfl) rfl rfl (ySh.r hS rfl) ?_
                refine y_getR rfl (ySh.t hS rfl) (ySh.n hS rfl) rfl rfl (ySh.r hS rfl) ?_
                refine y_iload_n rfl rfl ?_
                refine y_ialoadv (J := I 62) rfl (ySh.t hS rfl) (ySh.n hS rfl) (by omega) (by omega) (by rw [e13, upd2_row (by decide)]) ?_
                refine y_virt rfl rfl rfl rfl rfl (ySh.t hS rfl) (ySh.n hS rfl) ?_
                refine y_in (M := xm_X6_handOver) (ls := [some _, some _, some _]) rfl rfl rfl ?_
                refine y_aload_n rfl rfl ?_
                refine y_getR rfl (ySh.t hS rfl) (ySh.n hS rfl) rfl rfl (ySh.r hS rfl) ?_
                refine y_iload_n rfl rfl ?_
                refine y_iload_n rfl rfl ?_
                refine y_iastore rfl (ySh.t hS rfl) (ySh.n hS rfl) (Nat.le_of_ble_eq_true rfl) (by omega) (by omega) ?_
                refine y_nameI (fun I16 e16 => ?_)
                have hC : yCI I16 := by rw [e16]; exact hC
                have hF : yFt I I16 := by rw [e16]; exact hF.upd (by decide)
                refine y_aload_n rfl rfl ?_
                refine y_getR rfl (ySh.t hS rfl) (ySh.n hS rfl) rfl rfl (ySh.r hS rfl) ?_
                refine y_iload_n rfl rfl ?_
                refine y_iconst rfl ?_
                refine y_zastore rfl (ySh.t hS rfl) (ySh.n hS rfl) (Nat.le_of_ble_eq_true rfl) (by omega) (by omega) rfl ?_
                refine y_nameI (fun I17 e17 => ?_)
                have hC : yCI I17 := by rw [e17]; exact hC
                have hF : yFt I I17 := by rw [e17]; exact hF.upd (by decide)
                refine y_return rfl ?_
                refine y_ret0 ?_
                refine y_aload_n rfl rfl ?_
                refine y_getR rfl (ySh.t hS rfl) (ySh.n hS rfl) rfl rfl (ySh.r hS rfl) ?_
                refine y_getR rfl (ySh.t hS rfl) (ySh.n hS rfl) rfl rfl (ySh.r hS rfl) ?_
                refine y_iload_n rfl rfl ?_
                refine y_ialoadv (J := I 67) rfl (ySh.t hS rfl) (ySh.n hS rfl) (by omega) (by omega) (by rw [e17, upd2_row (by decide), e16, upd2_row (by decide), e13, upd2_row (by decide)]) ?_
                refine y_ireturn rfl rfl rfl ?_
                first | (exfalso; omega) | (exact hQb (by omega) _ _ hC hF rfl (by rw [e17, e16, e13]; repeat (first | exact yGc.rf | refine yGc.skipC ?_ (by decide) | refine yGc.skip ?_ (by decide) | refine yGc.both ?_)) (by first | (rw [e17, e16, e13]; done) | (rw [e17, e16, e13]; rfl)))
        · refine y_iload_n rfl rfl ?_
          refine y_aload_n rfl rfl ?_
          refine y_getIv (v := I 59 0) rfl (ySh.t hS rfl) (ySh.n hS rfl) rfl rfl rfl ?_
          refine y_icmp_ge rfl j_X2_has_16 (fun h_18 => ?_) (fun h_19 => ?_)
          · refine y_iconst rfl ?_
            refine y_ireturn rfl rfl rfl ?_
            refine y_ret1 ?_
            refine y_if_eqT rfl j_X2_close_15 (by decide) ?_
            refine y_return rfl ?_
            refine y_ret0 ?_
            refine y_aload_n rfl rfl ?_
            refine y_getR rfl (ySh.t hS rfl) (ySh.n hS rfl) rfl rfl (ySh.r hS rfl) ?_
            refine y_getR rfl (ySh.t hS rfl) (ySh.n hS rfl) rfl rfl (ySh.r hS rfl) ?_
            refine y_iload_n rfl rfl ?_
            refine y_ialoadv (J := I 60) rfl (ySh.t hS rfl) (ySh.n hS rfl) (by omega) (by omega) rfl ?_
            refine y_istore_n (ls' := [some _, some _, some _, some _]) rfl rfl rfl ?_
            refine y_aload_n rfl rfl ?_
            refine y_getR rfl (ySh.t hS rfl) (ySh.n hS rfl) rfl rfl (ySh.r hS rfl) ?_
            refine y_iload_n rfl rfl ?_
            refine y_virt rfl rfl rfl rfl rfl (ySh.t hS rfl) (ySh.n hS rfl) ?_
            refine y_in (M := xm_X6_has) (ls := [some _, some _]) rfl rfl rfl ?_
            refine y_iload_n rfl rfl ?_
            refine y_if_lt rfl j_X6_has_16 (fun h_20 => ?_) (fun h_21 => ?_)
            · refine y_iconst rfl ?_
              refine y_ireturn rfl rfl rfl ?_
              refine y_ret1 ?_
              refine y_if_eqT rfl j_X8_end_103 (by decide) ?_
              refine y_aload_n rfl rfl ?_
              refine y_getR rfl (ySh.t hS rfl) (ySh.n hS rfl) rfl rfl (ySh.r hS rfl) ?_
              refine y_getR rfl (ySh.t hS rfl) (ySh.n hS rfl) rfl rfl (ySh.r hS rfl) ?_
              refine y_iload_n rfl rfl ?_
              refine y_ialoadv (J := I 67) rfl (ySh.t hS rfl) (ySh.n hS rfl) (by omega) (by omega) rfl ?_
              refine y_ireturn rfl rfl rfl ?_
              first | (exfalso; omega) | (exfalso; omega)
            · refine y_iload_n rfl rfl ?_
              refine y_aload_n rfl rfl ?_
              refine y_getIv (v := I 40 0) rfl (ySh.t hS rfl) (ySh.n hS rfl) rfl rfl rfl ?_
              refine y_icmp_ge rfl j_X6_has_16 (fun h_22 => ?_) (fun h_23 => ?_)
              · refine y_iconst rfl ?_
                refine y_ireturn rfl rfl rfl ?_
                refine y_ret1 ?_
                refine y_if_eqT rfl j_X8_end_103 (by decide) ?_
                refine y_aload_n rfl rfl ?_
                refine y_getR rfl (ySh.t hS rfl) (ySh.n hS rfl) rfl rfl (ySh.r hS rfl) ?_
                refine y_getR rfl (ySh.t hS rfl) (ySh.n hS rfl) rfl rfl (ySh.r hS rfl) ?_
                refine y_iload_n rfl rfl ?_
                refine y_ialoadv (J := I 67) rfl (ySh.t hS rfl) (ySh.n hS rfl) (by omega) (by omega) rfl ?_
                refine y_ireturn rfl rfl rfl ?_
                first | (exfalso; omega) | (exfalso; omega)
              · refine y_iconst rfl ?_
                refine y_goto rfl j_X6_has_17 ?_
                refine y_ireturn rfl rfl rfl ?_
                refine y_ret1 ?_
                refine y_if_eqF rfl (by decide) ?_
                refine y_aload_n rfl rfl ?_
                refine y_getR rfl (ySh.t hS rfl) (ySh.n hS rfl) rfl rfl (ySh.r hS rfl) ?_
                refine y_getR rfl (ySh.t hS rfl) (ySh.n hS rfl) rfl rfl (ySh.r hS rfl) ?_
                refine y_iload_n rfl rfl ?_
                refine y_iconst rfl ?_
                refine y_iastore rfl (ySh.t hS rfl) (ySh.n hS rfl) (Nat.le_of_ble_eq_true rfl) (by omega) (by omega) ?_
                refine y_nameI (fun I24 e24 => ?_)
                have hC : yCI I24 := by rw [e24]; exact hC
                have hF : yFt I I24 := by rw [e24]; exact hF.upd (by decide)
                refine y_iload_n rfl rfl ?_
                refine y_if_eq rfl j_X8_end_103 (fun h_25 => ?_) (fun h_26 => ?_)
                · refine y_aload_n rfl rfl ?_
                  refine y_getR rfl (ySh.t hS rfl) (ySh.n hS rfl) rfl rfl (ySh.r hS rfl) ?_
                  refine y_getR rfl (ySh.t hS rfl) (ySh.n hS rfl) rfl rfl (ySh.r hS rfl) ?_
                  refine y_iload_n rfl rfl ?_
                  refine y_ialoadv (J := I 67) rfl (ySh.t hS rfl) (ySh.n hS rfl) (by omega) (by omega) (by rw [e24, upd2_row (by decide)]) ?_
                  refine y_ireturn rfl rfl rfl ?_
                  first | (exfalso; omega) | (exact hQa (by omega) _ _ hC hF rfl (by rw [e24]; repeat (first | exact yGc.rf | refine yGc.skipC ?_ (by decide) | refine yGc.skip ?_ (by decide) | refine yGc.both ?_)) (by first | (rw [e24]; done) | (rw [e24]; rfl)))
                · refine y_aload_n rfl rfl ?_
                  refine y_getR rfl (ySh.t hS rfl) (ySh.n hS rfl) rfl rfl (ySh.r hS rfl) ?_
                  refine y_iload_n rfl rfl ?_
                  refine y_aload_n rfl rfl ?_
                  refine y_getR rfl (ySh.t hS rfl) (ySh.n hS rfl) rfl rfl (ySh.r hS rfl) ?_
                  refine y_getR rfl (ySh.t hS rfl) (ySh.n hS rfl) rfl rfl (ySh.r hS rfl) ?_
                  refine y_iload_n rfl rfl ?_
                  refine y_ialoadv (J := I 62) rfl (ySh.t hS rfl) (ySh.n hS rfl) (by omega) (by omega) (by rw [e24, upd2_row (by decide)]) ?_
                  refine y_virt rfl rfl rfl rfl rfl (ySh.t hS rfl) (ySh.n hS rfl) ?_
                  refine y_in (M := xm_X6_handOver) (ls := [some _, some _, some _]) rfl rfl rfl ?_
                  refine y_aload_n rfl rfl ?_
                  refine y_getR rfl (ySh.t hS rfl) (ySh.n hS rfl) rfl rfl (ySh.r hS rfl) ?_
                  refine y_iload_n rfl rfl ?_
                  refine y_iload_n rfl rfl ?_
                  refine y_iastore rfl (ySh.t hS rfl) (ySh.n hS rfl) (Nat.le_of_ble_eq_true rfl) (by omega) (by omega) ?_
                  refine y_nameI (fun I27 e27 => ?_)
                  have hC : yCI I27 := by rw [e27]; exact hC
                  have hF : yFt I I27 := by rw [e27]; exact hF.upd (by decide)
                  refine y_aload_n rfl rfl ?_
                  refine y_getR rfl (ySh.t hS rfl) (ySh.n hS rfl) rfl rfl (ySh.r hS rfl) ?_
                  refine y_iload_n rfl rfl ?_
                  refine y_iconst rfl ?_
                  refine y_zastore rfl (ySh.t hS rfl) (ySh.n hS rfl) (Nat.le_of_ble_eq_true rfl) (by omega) (by omega) rfl ?_
                  refine y_nameI (fun I28 e28 => ?_)
                  have hC : yCI I28 := by rw [e28]; exact hC
                  have hF : yFt I I28 := by rw [e28]; exact hF.upd (by decide)
                  refine y_return rfl ?_
                  refine y_ret0 ?_
                  refine y_aload_n rfl rfl ?_
                  refine y_getR rfl (ySh.t hS rfl) (ySh.n hS rfl) rfl rfl (ySh.r hS rfl) ?_
                  refine y_getR rfl (ySh.t hS rfl) (ySh.n hS rfl) rfl rfl (ySh.r hS rfl) ?_
                  refine y_iload_n rfl rfl ?_
                  refine y_ialoadv (J := I 67) rfl (ySh.t hS rfl) (ySh.n hS rfl) (by omega) (by omega) (by rw [e28, upd2_row (by decide), e27, upd2_row (by decide), e24, upd2_row (by decide)]) ?_
                  refine y_ireturn rfl rfl rfl ?_
                  first | (exfalso; omega) | (exact hQb (by omega) _ _ hC hF rfl (by rw [e28, e27, e24]; repeat (first | exact yGc.rf | refine yGc.skipC ?_ (by decide) | refine yGc.skip ?_ (by decide) | refine yGc.both ?_)) (by first | (rw [e28, e27, e24]; done) | (rw [e28, e27, e24]; rfl)))
          · refine y_iconst rfl ?_
            refine y_goto rfl j_X2_has_17 ?_
            refine y_ireturn rfl rfl rfl ?_
            refine y_ret1 ?_
            refine y_if_eqF rfl (by decide) ?_
            refine y_aload_n rfl rfl ?_
            refine y_getR rfl (ySh.t hS rfl) (ySh.n hS rfl) rfl rfl (ySh.r hS rfl) ?_
            refine y_iload_n rfl rfl ?_
            refine y_iconst rfl ?_
            refine y_zastore rfl (ySh.t hS rfl) (ySh.n hS rfl) (Nat.le_of_ble_eq_true rfl) (by omega) (by omega) rfl ?_
            refine y_nameI (fun I29 e29 => ?_)
            have hC : yCI I29 := by rw [e29]; exact hC
            have hF : yFt I I29 := by rw [e29]; exact hF.upd (by decide)
            refine y_return rfl ?_
            refine y_ret0 ?_
            refine y_aload_n rfl rfl ?_
            refine y_getR rfl (ySh.t hS rfl) (ySh.n hS rfl) rfl rfl (ySh.r hS rfl) ?_
            refine y_getR rfl (ySh.t hS rfl) (ySh.n hS rfl) rfl rfl (ySh.r hS rfl) ?_
            refine y_iload_n rfl rfl ?_
            refine y_ialoadv (J := I 60) rfl (ySh.t hS rfl) (ySh.n hS rfl) (by omega) (by omega) (by rw [e29, upd2_row (by decide)]) ?_
            refine y_istore_n (ls' := [some _, some _, some _, some _]) rfl rfl rfl ?_
            refine y_aload_n rfl rfl ?_
            refine y_getR rfl (ySh.t hS rfl) (ySh.n hS rfl) rfl rfl (ySh.r hS rfl) ?_
            refine y_iload_n rfl rfl ?_
            refine y_virt rfl rfl rfl rfl rfl (ySh.t hS rfl) (ySh.n hS rfl) ?_
            refine y_in (M := xm_X6_has) (ls := [some _, some _]) rfl rfl rfl ?_
            refine y_iload_n rfl rfl ?_
            refine y_if_lt rfl j_X6_has_16 (fun h_30 => ?_) (fun h_31 => ?_)
            · refine y_iconst rfl ?_
              refine y_ireturn rfl rfl rfl ?_
              refine y_ret1 ?_
              refine y_if_eqT rfl j_X8_end_103 (by decide) ?_
              refine y_aload_n rfl rfl ?_
              refine y_getR rfl (ySh.t hS rfl) (ySh.n hS rfl) rfl rfl (ySh.r hS rfl) ?_
              refine y_getR rfl (ySh.t hS rfl) (ySh.n hS rfl) rfl rfl (ySh.r hS rfl) ?_
              refine y_iload_n rfl rfl ?_
              refine y_ialoadv (J := I 67) rfl (ySh.t hS rfl) (ySh.n hS rfl) (by omega) (by omega) (by rw [e29, upd2_row (by decide)]) ?_
              refine y_ireturn rfl rfl rfl ?_
              first | (exfalso; omega) | (exfalso; omega)
            · refine y_iload_n rfl rfl ?_
              refine y_aload_n rfl rfl ?_
              refine y_getIv (v := I 40 0) rfl (ySh.t hS rfl) (ySh.n hS rfl) rfl rfl (by rw [e29, upd2_ne (.inl (by decide))]) ?_
              refine y_icmp_ge rfl j_X6_has_16 (fun h_32 => ?_) (fun h_33 => ?_)
              · refine y_iconst rfl ?_
                refine y_ireturn rfl rfl rfl ?_
                refine y_ret1 ?_
                refine y_if_eqT rfl j_X8_end_103 (by decide) ?_
                refine y_aload_n rfl rfl ?_
                refine y_getR rfl (ySh.t hS rfl) (ySh.n hS rfl) rfl rfl (ySh.r hS rfl) ?_
                refine y_getR rfl (ySh.t hS rfl) (ySh.n hS rfl) rfl rfl (ySh.r hS rfl) ?_
                refine y_iload_n rfl rfl ?_
                refine y_ialoadv (J := I 67) rfl (ySh.t hS rfl) (ySh.n hS rfl) (by omega) (by omega) (by rw [e29, upd2_row (by decide)]) ?_
                refine y_ireturn rfl rfl rfl ?_
                first | (exfalso; omega) | (exfalso; omega)
              · refine y_iconst rfl ?_
                refine y_goto rfl j_X6_has_17 ?_
                refine y_ireturn rfl rfl rfl ?_
                refine y_ret1 ?_
                refine y_if_eqF rfl (by decide) ?_
                refine y_aload_n rfl rfl ?_
                refine y_getR rfl (ySh.t hS rfl) (ySh.n hS rfl) rfl rfl (ySh.r hS rfl) ?_
                refine y_getR rfl (ySh.t hS rfl) (ySh.n hS rfl) rfl rfl (ySh.r hS rfl) ?_
                refine y_iload_n rfl rfl ?_
                refine y_iconst rfl ?_
                refine y_iastore rfl (ySh.t hS rfl) (ySh.n hS rfl) (Nat.le_of_ble_eq_true rfl) (by omega) (by omega) ?_
                refine y_nameI (fun I34 e34 => ?_)
                have hC : yCI I34 := by rw [e34]; exact hC
                have hF : yFt I I34 := by rw [e34]; exact hF.upd (by decide)
                refine y_iload_n rfl rfl ?_
                refine y_if_eq rfl j_X8_end_103 (fun h_35 => ?_) (fun h_36 => ?_)
                · refine y_aload_n rfl rfl ?_
                  refine y_getR rfl (ySh.t hS rfl) (ySh.n hS rfl) rfl rfl (ySh.r hS rfl) ?_
                  refine y_getR rfl (ySh.t hS rfl) (ySh.n hS rfl) rfl rfl (ySh.r hS rfl) ?_
                  refine y_iload_n rfl rfl ?_
                  refine y_ialoadv (J := I 67) rfl (ySh.t hS rfl) (ySh.n hS rfl) (by omega) (by omega) (by rw [e34, upd2_row (by decide), e29, upd2_row (by decide)]) ?_
                  refine y_ireturn rfl rfl rfl ?_
                  first | (exfalso; omega) | (exact hQa (by omega) _ _ hC hF rfl (by rw [e34, e29]; repeat (first | exact yGc.rf | refine yGc.skipC ?_ (by decide) | refine yGc.skip ?_ (by decide) | refine yGc.both ?_)) (by first | (rw [e34, e29]; done) | (rw [e34, e29]; rfl)))
                · refine y_aload_n rfl rfl ?_
                  refine y_getR rfl (ySh.t hS rfl) (ySh.n hS rfl) rfl rfl (ySh.r hS rfl) ?_
                  refine y_iload_n rfl rfl ?_
                  refine y_aload_n rfl rfl ?_
                  refine y_getR rfl (ySh.t hS rfl) (ySh.n hS rfl) rfl rfl (ySh.r hS rfl) ?_
                  refine y_getR rfl (ySh.t hS rfl) (ySh.n hS rfl) rfl rfl (ySh.r hS rfl) ?_
                  refine y_iload_n rfl rfl ?_
                  refine y_ialoadv (J := I 62) rfl (ySh.t hS rfl) (ySh.n hS rfl) (by omega) (by omega) (by rw [e34, upd2_row (by decide), e29, upd2_row (by decide)]) ?_
                  refine y_virt rfl rfl rfl rfl rfl (ySh.t hS rfl) (ySh.n hS rfl) ?_
                  refine y_in (M := xm_X6_handOver) (ls := [some _, some _, some _]) rfl rfl rfl ?_
                  refine y_aload_n rfl rfl ?_
                  refine y_getR rfl (ySh.t hS rfl) (ySh.n hS rfl) rfl rfl (ySh.r hS rfl) ?_
                  refine y_iload_n rfl rfl ?_
                  refine y_iload_n rfl rfl ?_
                  refine y_iastore rfl (ySh.t hS rfl) (ySh.n hS rfl) (Nat.le_of_ble_eq_true rfl) (by omega) (by omega) ?_
                  refine y_nameI (fun I37 e37 => ?_)
                  have hC : yCI I37 := by rw [e37]; exact hC
                  have hF : yFt I I37 := by rw [e37]; exact hF.upd (by decide)
                  refine y_aload_n rfl rfl ?_
                  refine y_getR rfl (ySh.t hS rfl) (ySh.n hS rfl) rfl rfl (ySh.r hS rfl) ?_
                  refine y_iload_n rfl rfl ?_
                  refine y_iconst rfl ?_
                  refine y_zastore rfl (ySh.t hS rfl) (ySh.n hS rfl) (Nat.le_of_ble_eq_true rfl) (by omega) (by omega) rfl ?_
                  refine y_nameI (fun I38 e38 => ?_)
                  have hC : yCI I38 := by rw [e38]; exact hC
                  have hF : yFt I I38 := by rw [e38]; exact hF.upd (by decide)
                  refine y_return rfl ?_
                  refine y_ret0 ?_
                  refine y_aload_n rfl rfl ?_
                  refine y_getR rfl (ySh.t hS rfl) (ySh.n hS rfl) rfl rfl (ySh.r hS rfl) ?_
                  refine y_getR rfl (ySh.t hS rfl) (ySh.n hS rfl) rfl rfl (ySh.r hS rfl) ?_
                  refine y_iload_n rfl rfl ?_
                  refine y_ialoadv (J := I 67) rfl (ySh.t hS rfl) (ySh.n hS rfl) (by omega) (by omega) (by rw [e38, upd2_row (by decide), e37, upd2_row (by decide), e34, upd2_row (by decide), e29, upd2_row (by decide)]) ?_
                  refine y_ireturn rfl rfl rfl ?_
                  first | (exfalso; omega) | (exact hQb (by omega) _ _ hC hF rfl (by rw [e38, e37, e34, e29]; repeat (first | exact yGc.rf | refine yGc.skipC ?_ (by decide) | refine yGc.skip ?_ (by decide) | refine yGc.both ?_)) (by first | (rw [e38, e37, e34, e29]; done) | (rw [e38, e37, e34, e29]; rfl)))
      · refine y_throw rfl rfl rfl ?_
        exact hE2 (by omega)
theorem spx_isOpen (hS : ySh n tg R) (hC : yCI I) {x1 : Int32} (hv0 : 0 ≤ x1.toInt) (hv1 : x1.toInt < 12) (hQ1 : ((I 53 x1.toInt.toNat).toInt = 0 ∧ (I 55 x1.toInt.toNat).toInt < (I 54 x1.toInt.toNat).toInt) → Q (.inl (some (.int (Int32.ofInt 1)))) (n, tg, I, R) c s) (hQ0 : ¬ ((I 53 x1.toInt.toNat).toInt = 0 ∧ (I 55 x1.toInt.toNat).toInt < (I 54 x1.toInt.toNat).toInt) → Q (.inl (some (.int (Int32.ofInt 0)))) (n, tg, I, R) c s) : yC 81 [.ref 48, .int x1] (n, tg, I, R) c s Q := by
  have hF : yFt I I := yFt.rf
  refine y_in (M := xm_X5_isOpen) (ls := [some _, some _]) rfl rfl rfl ?_
  refine y_aload_n rfl rfl ?_
  refine y_iload_n rfl rfl ?_
  refine y_virt rfl rfl rfl rfl rfl (ySh.t hS rfl) (ySh.n hS rfl) ?_
  refine y_in (M := xm_X5_isVoid) (ls := [some _, some _]) rfl rfl rfl ?_
  refine y_aload_n rfl rfl ?_
  refine y_getR rfl (ySh.t hS rfl) (ySh.n hS rfl) rfl rfl (ySh.r hS rfl) ?_
  refine y_iload_n rfl rfl ?_
  refine y_ialoadv (J := I 53) rfl (ySh.t hS rfl) (ySh.n hS rfl) (by omega) (by omega) rfl ?_
  refine y_if_eq rfl j_X5_isVoid_13 (fun h_1 => ?_) (fun h_2 => ?_)
  · refine y_iconst rfl ?_
    refine y_ireturn rfl rfl rfl ?_
    refine y_ret1 ?_
    refine y_if_neF rfl (by decide) ?_
    refine y_aload_n rfl rfl ?_
    refine y_getR rfl (ySh.t hS rfl) (ySh.n hS rfl) rfl rfl (ySh.r hS rfl) ?_
    refine y_iload_n rfl rfl ?_
    refine y_ialoadv (J := I 55) rfl (ySh.t hS rfl) (ySh.n hS rfl) (by omega) (by omega) rfl ?_
    refine y_aload_n rfl rfl ?_
    refine y_getR rfl (ySh.t hS rfl) (ySh.n hS rfl) rfl rfl (ySh.r hS rfl) ?_
    refine y_iload_n rfl rfl ?_
    refine y_ialoadv (J := I 54) rfl (ySh.t hS rfl) (ySh.n hS rfl) (by omega) (by omega) rfl ?_
    refine y_icmp_ge rfl j_X5_isOpen_27 (fun h_3 => ?_) (fun h_4 => ?_)
    · refine y_iconst rfl ?_
      refine y_ireturn rfl rfl rfl ?_
      exact hQ0 (by omega)
    · refine y_iconst rfl ?_
      refine y_goto rfl j_X5_isOpen_28 ?_
      refine y_ireturn rfl rfl rfl ?_
      exact hQ1 (by omega)
  · refine y_iconst rfl ?_
    refine y_goto rfl j_X5_isVoid_14 ?_
    refine y_ireturn rfl rfl rfl ?_
    refine y_ret1 ?_
    refine y_if_neT rfl j_X5_isOpen_27 (by decide) ?_
    refine y_iconst rfl ?_
    refine y_ireturn rfl rfl rfl ?_
    exact hQ0 (by omega)
theorem spx_nextPart (hS : ySh n tg R) (hC : yCI I) {x1 : Int32} (hv0 : 0 ≤ x1.toInt) (hv1 : x1.toInt < 12) (hb : (1 ≤ (I 54 x1.toInt.toNat).toInt ∧ (I 54 x1.toInt.toNat).toInt ≤ 12 ∧ 0 ≤ (I 55 x1.toInt.toNat).toInt ∧ (I 55 x1.toInt.toNat).toInt ≤ 12)) (hQ : ∀ v : Int32, v = (if ((I 53 x1.toInt.toNat).toInt = 0 ∧ (I 55 x1.toInt.toNat).toInt < (I 54 x1.toInt.toNat).toInt) then yPa (I 52 x1.toInt.toNat) (I 54 x1.toInt.toNat) (I 55 x1.toInt.toNat) else Int32.ofInt 0) → Q (.inl (some (.int v))) (n, tg, I, R) c s) : yC 85 [.ref 48, .int x1] (n, tg, I, R) c s Q := by
  have hF : yFt I I := yFt.rf
  have hs_ := ysub (x := I 54 x1.toInt.toNat) (y := I 55 x1.toInt.toNat) (by omega) (by omega)
  refine y_in (M := xm_X5_nextPart) (ls := [some _, some _]) rfl rfl rfl ?_
  refine y_aload_n rfl rfl ?_
  refine y_iload_n rfl rfl ?_
  refine y_virt rfl rfl rfl rfl rfl (ySh.t hS rfl) (ySh.n hS rfl) ?_
  refine y_in (M := xm_X5_partsLeft) (ls := [some _, some _]) rfl rfl rfl ?_
  refine y_aload_n rfl rfl ?_
  refine y_iload_n rfl rfl ?_
  refine y_virt rfl rfl rfl rfl rfl (ySh.t hS rfl) (ySh.n hS rfl) ?_
  refine spx_isOpen hS hC (by omega) (by omega) (fun h_1 => ?_) (fun h_2 => ?_)
  · refine y_ret1 ?_
    refine y_if_eqF rfl (by decide) ?_
    refine y_aload_n rfl rfl ?_
    refine y_getR rfl (ySh.t hS rfl) (ySh.n hS rfl) rfl rfl (ySh.r hS rfl) ?_
    refine y_iload_n rfl rfl ?_
    refine y_ialoadv (J := I 54) rfl (ySh.t hS rfl) (ySh.n hS rfl) (by omega) (by omega) rfl ?_
    refine y_aload_n rfl rfl ?_
    refine y_getR rfl (ySh.t hS rfl) (ySh.n hS rfl) rfl rfl (ySh.r hS rfl) ?_
    refine y_iload_n rfl rfl ?_
    refine y_ialoadv (J := I 55) rfl (ySh.t hS rfl) (ySh.n hS rfl) (by omega) (by omega) rfl ?_
    refine y_isub rfl ?_
    refine y_goto rfl j_X5_partsLeft_25 ?_
    refine y_ireturn rfl rfl rfl ?_
    refine y_ret1 ?_
    refine y_iconst rfl ?_
    refine y_icmp_le rfl j_X5_nextPart_17 (fun h_3 => ?_) (fun h_4 => ?_)
    · rw [yz_1] at h_3
      refine y_aload_n rfl rfl ?_
      refine y_iload_n rfl rfl ?_
      refine y_virt rfl rfl rfl rfl rfl (ySh.t hS rfl) (ySh.n hS rfl) ?_
      refine y_in (M := xm_X5_debt) (ls := [some _, some _]) rfl rfl rfl ?_
      refine y_aload_n rfl rfl ?_
      refine y_iload_n rfl rfl ?_
      refine y_virt rfl rfl rfl rfl rfl (ySh.t hS rfl) (ySh.n hS rfl) ?_
      refine spx_isOpen hS hC (by omega) (by omega) (fun _ => ?_) (fun h_ => absurd h_1 h_)
      refine y_ret1 ?_
      refine y_if_eqF rfl (by decide) ?_
      refine y_aload_n rfl rfl ?_
      refine y_getR rfl (ySh.t hS rfl) (ySh.n hS rfl) rfl rfl (ySh.r hS rfl) ?_
      refine y_iload_n rfl rfl ?_
      refine y_ialoadv (J := I 52) rfl (ySh.t hS rfl) (ySh.n hS rfl) (by omega) (by omega) rfl ?_
      refine y_aload_n rfl rfl ?_
      refine y_getR rfl (ySh.t hS rfl) (ySh.n hS rfl) rfl rfl (ySh.r hS rfl) ?_
      refine y_iload_n rfl rfl ?_
      refine y_ialoadv (J := I 55) rfl (ySh.t hS rfl) (ySh.n hS rfl) (by omega) (by omega) rfl ?_
      refine y_aload_n rfl rfl ?_
      refine y_iload_n rfl rfl ?_
      refine y_virt rfl rfl rfl rfl rfl (ySh.t hS rfl) (ySh.n hS rfl) ?_
      refine y_in (M := xm_X5_plainPart) (ls := [some _, some _]) rfl rfl rfl ?_
      refine y_aload_n rfl rfl ?_
      refine y_getR rfl (ySh.t hS rfl) (ySh.n hS rfl) rfl rfl (ySh.r hS rfl) ?_
      refine y_iload_n rfl rfl ?_
      refine y_ialoadv (J := I 52) rfl (ySh.t hS rfl) (ySh.n hS rfl) (by omega) (by omega) rfl ?_
      refine y_i2l rfl ?_
      refine y_lconst rfl ?_
      refine y_aload_n rfl rfl ?_
      refine y_getR rfl (ySh.t hS rfl) (ySh.n hS rfl) rfl rfl (ySh.r hS rfl) ?_
      refine y_iload_n rfl rfl ?_
      refine y_ialoadv (J := I 54) rfl (ySh.t hS rfl) (ySh.n hS rfl) (by omega) (by omega) rfl ?_
      refine y_i2l rfl ?_
      refine y_static rfl rfl rfl rfl rfl ?_
      refine sp_portion ?_
      refine y_ret1 ?_
      refine y_ireturn rfl rfl rfl ?_
      refine y_ret1 ?_
      refine y_imul rfl ?_
      refine y_isub rfl ?_
      refine y_goto rfl j_X5_debt_31 ?_
      refine y_ireturn rfl rfl rfl ?_
      refine y_ret1 ?_
      refine y_ireturn rfl rfl rfl ?_
      first | (exfalso; omega) | exact hQ _ ((yPor_pl (by omega)).trans ((if_pos (by omega)).symm.trans (if_pos h_1).symm)) | exact hQ _ ((by rw [yPor_pl (by omega)]; exact yPa_last (by omega) (by omega) (by omega) : _ = yPa (I 52 x1.toInt.toNat) (I 54 x1.toInt.toNat) (I 55 x1.toInt.toNat)).trans (if_pos h_1).symm)
    · rw [yz_1] at h_4
      refine y_aload_n rfl rfl ?_
      refine y_iload_n rfl rfl ?_
      refine y_virt rfl rfl rfl rfl rfl (ySh.t hS rfl) (ySh.n hS rfl) ?_
      refine y_in (M := xm_X5_plainPart) (ls := [some _, some _]) rfl rfl rfl ?_
      refine y_aload_n rfl rfl ?_
      refine y_getR rfl (ySh.t hS rfl) (ySh.n hS rfl) rfl rfl (ySh.r hS rfl) ?_
      refine y_iload_n rfl rfl ?_
      refine y_ialoadv (J := I 52) rfl (ySh.t hS rfl) (ySh.n hS rfl) (by omega) (by omega) rfl ?_
      refine y_i2l rfl ?_
      refine y_lconst rfl ?_
      refine y_aload_n rfl rfl ?_
      refine y_getR rfl (ySh.t hS rfl) (ySh.n hS rfl) rfl rfl (ySh.r hS rfl) ?_
      refine y_iload_n rfl rfl ?_
      refine y_ialoadv (J := I 54) rfl (ySh.t hS rfl) (ySh.n hS rfl) (by omega) (by omega) rfl ?_
      refine y_i2l rfl ?_
      refine y_static rfl rfl rfl rfl rfl ?_
      refine sp_portion ?_
      refine y_ret1 ?_
      refine y_ireturn rfl rfl rfl ?_
      refine y_ret1 ?_
      refine y_goto rfl j_X5_nextPart_22 ?_
      refine y_ireturn rfl rfl rfl ?_
      first | (exfalso; omega) | exact hQ _ ((yPor_pl (by omega)).trans ((if_pos (by omega)).symm.trans (if_pos h_1).symm)) | exact hQ _ ((by rw [yPor_pl (by omega)]; exact yPa_last (by omega) (by omega) (by omega) : _ = yPa (I 52 x1.toInt.toNat) (I 54 x1.toInt.toNat) (I 55 x1.toInt.toNat)).trans (if_pos h_1).symm)
  · refine y_ret1 ?_
    refine y_if_eqT rfl j_X5_partsLeft_24 (by decide) ?_
    refine y_iconst rfl ?_
    refine y_ireturn rfl rfl rfl ?_
    refine y_ret1 ?_
    refine y_iconst rfl ?_
    refine y_icmp_leT rfl j_X5_nextPart_17 (by decide) ?_
    refine y_aload_n rfl rfl ?_
    refine y_iload_n rfl rfl ?_
    refine y_virt rfl rfl rfl rfl rfl (ySh.t hS rfl) (ySh.n hS rfl) ?_
    refine y_in (M := xm_X5_debt) (ls := [some _, some _]) rfl rfl rfl ?_
    refine y_aload_n rfl rfl ?_
    refine y_iload_n rfl rfl ?_
    refine y_virt rfl rfl rfl rfl rfl (ySh.t hS rfl) (ySh.n hS rfl) ?_
    refine spx_isOpen hS hC (by omega) (by omega) (fun h_ => absurd h_ h_2) (fun _ => ?_)
    refine y_ret1 ?_
    refine y_if_eqT rfl j_X5_debt_30 (by decide) ?_
    refine y_iconst rfl ?_
    refine y_ireturn rfl rfl rfl ?_
    refine y_ret1 ?_
    refine y_ireturn rfl rfl rfl ?_
    exact hQ _ (if_neg h_2).symm
theorem g_pay (hS : ySh n tg R) (hC : yCI I) {x1 : Int32} (hT : (0 ≤ x1.toInt ∧ x1.toInt < (I 48 0).toInt) → ((1 ≤ (I 54 x1.toInt.toNat).toInt ∧ (I 54 x1.toInt.toNat).toInt ≤ 12 ∧ 0 ≤ (I 55 x1.toInt.toNat).toInt ∧ (I 55 x1.toInt.toNat).toInt ≤ 12) ∧ 0 ≤ (I 51 x1.toInt.toNat).toInt ∧ (I 51 x1.toInt.toNat).toInt ≤ 99 ∧ 0 ≤ (I 52 x1.toInt.toNat).toInt ∧ (I 52 x1.toInt.toNat).toInt ≤ 2000)) (hE0 : ¬ (0 ≤ x1.toInt ∧ x1.toInt < (I 48 0).toInt) → Q (.inr "java/lang/IndexOutOfBoundsException") (n, tg, I, R) (c + 1) (s + 6)) (hE2 : (0 ≤ x1.toInt ∧ x1.toInt < (I 48 0).toInt) ∧ ¬ ((I 53 x1.toInt.toNat).toInt = 0 ∧ (I 55 x1.toInt.toNat).toInt < (I 54 x1.toInt.toNat).toInt) → Q (.inr "java/lang/IllegalStateException") (n, tg, I, R) (c + 1) (s + 6)) (hQ : (0 ≤ x1.toInt ∧ x1.toInt < (I 48 0).toInt) ∧ ((I 53 x1.toInt.toNat).toInt = 0 ∧ (I 55 x1.toInt.toNat).toInt < (I 54 x1.toInt.toNat).toInt) → ∀ (v : Int32) (I1 : Nat → Nat → Int32) (pt : Int32) (fe : Int32) (re : Int32), yCI I1 → yFt I I1 → pt = yPa (I 52 x1.toInt.toNat) (I 54 x1.toInt.toNat) (I 55 x1.toInt.toNat) → fe = yFe (I 34 8 - (I 56 x1.toInt.toNat + Int32.ofInt 30 * (I 55 x1.toInt.toNat + Int32.ofInt 1))) pt (yBC (I 36 2)).toInt → re = yRb (I 34 8 - (I 56 x1.toInt.toNat + Int32.ofInt 30 * (I 55 x1.toInt.toNat + Int32.ofInt 1))) pt (I 51 x1.toInt.toNat) (yBC (I 36 1)).toInt → v = pt - re → yGc yTL I1 (upd2 (upd2 (upd2 I 55 x1.toInt.toNat (I 55 x1.toInt.toNat + Int32.ofInt 1)) 57 x1.toInt.toNat (I 57 x1.toInt.toNat + fe)) 58 x1.toInt.toNat (I 58 x1.toInt.toNat + re)) → I1 = (upd2 (upd2 (upd2 (upd2 (yAddC (yAddC (yAddC I (I 50 x1.toInt.toNat) (-(pt - re))) (Int32.ofInt 8) (pt - re)) (I 50 x1.toInt.toNat) (-fe)) 38 1 (I 38 1 + fe)) 55 x1.toInt.toNat (I 55 x1.toInt.toNat + Int32.ofInt 1)) 57 x1.toInt.toNat (I 57 x1.toInt.toNat + fe)) 58 x1.toInt.toNat (I 58 x1.toInt.toNat + re)) → Q (.inl (some (.int v))) (n, tg, I1, R) c s) : yC 128 [.ref 34, .int x1] (n, tg, I, R) c s Q := by
  have hF : yFt I I := yFt.rf
  refine y_in (M := xm_X8_pay) (ls := [some _, some _, _, _, _, _, _]) rfl rfl rfl ?_
  refine y_aload_n rfl rfl ?_
  refine y_getR rfl (ySh.t hS rfl) (ySh.n hS rfl) rfl rfl (ySh.r hS rfl) ?_
  refine y_iload_n rfl rfl ?_
  refine y_virt rfl rfl rfl rfl rfl (ySh.t hS rfl) (ySh.n hS rfl) ?_
  refine y_in (M := xm_X5_has) (ls := [some _, some _]) rfl rfl rfl ?_
  refine y_iload_n rfl rfl ?_
  refine y_if_lt rfl j_X5_has_16 (fun h_1 => ?_) (fun h_2 => ?_)
  · refine y_iconst rfl ?_
    refine y_ireturn rfl rfl rfl ?_
    refine y_ret1 ?_
    refine y_if_neF rfl (by decide) ?_
    refine y_throw rfl rfl rfl ?_
    exact hE0 (by omega)
  · refine y_iload_n rfl rfl ?_
    refine y_aload_n rfl rfl ?_
    refine y_getIv (v := I 48 0) rfl (ySh.t hS rfl) (ySh.n hS rfl) rfl rfl rfl ?_
    refine y_icmp_ge rfl j_X5_has_16 (fun h_3 => ?_) (fun h_4 => ?_)
    · refine y_iconst rfl ?_
      refine y_ireturn rfl rfl rfl ?_
      refine y_ret1 ?_
      refine y_if_neF rfl (by decide) ?_
      refine y_throw rfl rfl rfl ?_
      exact hE0 (by omega)
    · refine y_iconst rfl ?_
      refine y_goto rfl j_X5_has_17 ?_
      refine y_ireturn rfl rfl rfl ?_
      refine y_ret1 ?_
      refine y_if_neT rfl j_X8_pay_21 (by decide) ?_
      refine y_aload_n rfl rfl ?_
      refine y_getR rfl (ySh.t hS rfl) (ySh.n hS rfl) rfl rfl (ySh.r hS rfl) ?_
      refine y_iload_n rfl rfl ?_
      refine y_virt rfl rfl rfl rfl rfl (ySh.t hS rfl) (ySh.n hS rfl) ?_
      refine spx_isOpen hS hC (by omega) (by omega) (fun h_5 => ?_) (fun h_6 => ?_)
      · refine y_ret1 ?_
        refine y_if_neT rfl j_X8_pay_42 (by decide) ?_
        refine y_aload_n rfl rfl ?_
        refine y_getR rfl (ySh.t hS rfl) (ySh.n hS rfl) rfl rfl (ySh.r hS rfl) ?_
        refine y_iload_n rfl rfl ?_
        refine y_virt rfl rfl rfl rfl rfl (ySh.t hS rfl) (ySh.n hS rfl) ?_
        refine spx_nextPart hS hC (by omega) (by omega) (by omega) (fun v_7 hv_7 => ?_)
        rw [if_pos h_5] at hv_7
        refine y_ret1 ?_
        refine y_istore_n (ls' := [some _, some _, some _, _, _, _, _]) rfl rfl rfl ?_
        refine y_aload_n rfl rfl ?_
        refine y_getIv (v := I 34 8) rfl (ySh.t hS rfl) (ySh.n hS rfl) rfl rfl rfl ?_
        refine y_aload_n rfl rfl ?_
        refine y_getR rfl (ySh.t hS rfl) (ySh.n hS rfl) rfl rfl (ySh.r hS rfl) ?_
        refine y_iload_n rfl rfl ?_
        refine y_virt rfl rfl rfl rfl rfl (ySh.t hS rfl) (ySh.n hS rfl) ?_
        refine y_in (M := xm_X5_nextDay) (ls := [some _, some _]) rfl rfl rfl ?_
        refine y_aload_n rfl rfl ?_
        refine y_iload_n rfl rfl ?_
        refine y_virt rfl rfl rfl rfl rfl (ySh.t hS rfl) (ySh.n hS rfl) ?_
        refine spx_isOpen hS hC (by omega) (by omega) (fun _ => ?_) (fun h_ => absurd h_5 h_)
        refine y_ret1 ?_
        refine y_if_eqF rfl (by decide) ?_
        refine y_aload_n rfl rfl ?_
        refine y_getR rfl (ySh.t hS rfl) (ySh.n hS rfl) rfl rfl (ySh.r hS rfl) ?_
        refine y_iload_n rfl rfl ?_
        refine y_ialoadv (J := I 56) rfl (ySh.t hS rfl) (ySh.n hS rfl) (by omega) (by omega) rfl ?_
        refine y_bip rfl (by decide) ?_
        refine y_aload_n rfl rfl ?_
        refine y_getR rfl (ySh.t hS rfl) (ySh.n hS rfl) rfl rfl (ySh.r hS rfl) ?_
        refine y_iload_n rfl rfl ?_
        refine y_ialoadv (J := I 55) rfl (ySh.t hS rfl) (ySh.n hS rfl) (by omega) (by omega) rfl ?_
        refine y_iconst rfl ?_
        refine y_iadd rfl ?_
        refine y_imul rfl ?_
        refine y_iadd rfl ?_
        refine y_goto rfl j_X5_nextDay_30 ?_
        refine y_ireturn rfl rfl rfl ?_
        refine y_ret1 ?_
        refine y_isub rfl ?_
        refine y_istore_n (ls' := [some _, some _, some _, some _, _, _, _]) rfl rfl rfl ?_
        refine y_iload_n rfl rfl ?_
        refine y_bip rfl (by decide) ?_
        refine y_icmp_le rfl j_X8_pay_95 (fun h_8 => ?_) (fun h_9 => ?_)
        · rw [yz_10] at h_8
          refine y_iconst rfl ?_
          refine y_istore (ls' := [some _, some _, some _, some _, some _, _, _]) rfl rfl rfl ?_
          refine y_iload_n rfl rfl ?_
          refine y_bip rfl (by decide) ?_
          refine y_icmp_gt rfl j_X8_pay_127 (fun h_10 => ?_) (fun h_11 => ?_)
          · rw [yz_m10] at h_10
            refine y_iconst rfl ?_
            refine y_istore (ls' := [some _, some _, some _, some _, some _, some _, _]) rfl rfl rfl ?_
            refine y_aload_n rfl rfl ?_
            refine y_getR rfl (ySh.t hS rfl) (ySh.n hS rfl) rfl rfl (ySh.r hS rfl) ?_
            refine y_getR rfl (ySh.t hS rfl) (ySh.n hS rfl) rfl rfl (ySh.r hS rfl) ?_
            refine y_iload_n rfl rfl ?_
            refine y_ialoadv (J := I 50) rfl (ySh.t hS rfl) (ySh.n hS rfl) (by omega) (by omega) rfl ?_
            refine y_istore (ls' := [some _, some _, some _, some _, some _, some _, some _]) rfl rfl rfl ?_
            refine y_aload_n rfl rfl ?_
            refine y_getR rfl (ySh.t hS rfl) (ySh.n hS rfl) rfl rfl (ySh.r hS rfl) ?_
            refine y_iload rfl rfl ?_
            refine y_bip rfl (by decide) ?_
            refine y_iload_n rfl rfl ?_
            refine y_iload rfl rfl ?_
            refine y_isub rfl ?_
            refine y_virt rfl rfl rfl rfl rfl (ySh.t hS rfl) (ySh.n hS rfl) ?_
            refine y_in (M := xm_X4_move) (ls := [some _, some _, some _, some _]) rfl rfl rfl ?_
            refine y_aload_n rfl rfl ?_
            refine y_iload_n rfl rfl ?_
            refine y_iload_n rfl rfl ?_
            refine y_ineg rfl ?_
            refine y_virt rfl rfl rfl rfl rfl (ySh.t hS rfl) (ySh.n hS rfl) ?_
            refine spx_add hS ?_
            refine y_ret0 ?_
            refine y_nameI (fun I12 e12 => ?_)
            have hC : yCI I12 := by rw [e12]; exact yCI.addC hC
            have hF : yFt I I12 := by rw [e12]; exact hF.addC
            refine y_aload_n rfl rfl ?_
            refine y_iload_n rfl rfl ?_
            refine y_iload_n rfl rfl ?_
            refine y_virt rfl rfl rfl rfl rfl (ySh.t hS rfl) (ySh.n hS rfl) ?_
            refine spx_add hS ?_
            refine y_ret0 ?_
            refine y_nameI (fun I13 e13 => ?_)
            have hC : yCI I13 := by rw [e13]; exact yCI.addC hC
            have hF : yFt I I13 := by rw [e13]; exact hF.addC
            refine y_return rfl ?_
            refine y_ret0 ?_
            refine y_aload_n rfl rfl ?_
            refine y_getR rfl (ySh.t hS rfl) (ySh.n hS rfl) rfl rfl (ySh.r hS rfl) ?_
            refine y_iload rfl rfl ?_
            refine y_iload rfl rfl ?_
            refine y_virt rfl rfl rfl rfl rfl (ySh.t hS rfl) (ySh.n hS rfl) ?_
            refine y_in (M := xm_X4_giveAway) (ls := [some _, some _, some _]) rfl rfl rfl ?_
            refine y_aload_n rfl rfl ?_
            refine y_iload_n rfl rfl ?_
            refine y_iload_n rfl rfl ?_
            refine y_ineg rfl ?_
            refine y_virt rfl rfl rfl rfl rfl (ySh.t hS rfl) (ySh.n hS rfl) ?_
            refine spx_add hS ?_
            refine y_ret0 ?_
            refine y_nameI (fun I14 e14 => ?_)
            have hC : yCI I14 := by rw [e14]; exact yCI.addC hC
            have hF : yFt I I14 := by rw [e14]; exact hF.addC
            refine y_aload_n rfl rfl ?_
            refine y_dup rfl rfl ?_
            refine y_getIv (v := I 38 1) rfl (ySh.t hS rfl) (ySh.n hS rfl) rfl rfl (by rw [e14, yAddC_row (by decide), e13, yAddC_row (by decide), e12, yAddC_row (by decide)]) ?_
            refine y_iload_n rfl rfl ?_
            refine y_iadd rfl ?_
            refine y_putI rfl (ySh.t hS rfl) (ySh.n hS rfl) rfl (Nat.le_of_ble_eq_true rfl) rfl rfl ?_
            refine y_nameI (fun I15 e15 => ?_)
            have hC : yCI I15 := by rw [e15]; exact hC
            have hF : yFt I I15 := by rw [e15]; exact hF.upd (by decide)
            refine y_return rfl ?_
            refine y_ret0 ?_
            refine y_aload_n rfl rfl ?_
            refine y_getR rfl (ySh.t hS rfl) (ySh.n hS rfl) rfl rfl (ySh.r hS rfl) ?_
            refine y_iload_n rfl rfl ?_
            refine y_iload rfl rfl ?_
            refine y_iload rfl rfl ?_
            refine y_virt rfl rfl rfl rfl rfl (ySh.t hS rfl) (ySh.n hS rfl) ?_
            refine y_in (M := xm_X5_settlePart) (ls := [some _, some _, some _, some _]) rfl rfl rfl ?_
            refine y_aload_n rfl rfl ?_
            refine y_getR rfl (ySh.t hS rfl) (ySh.n hS rfl) rfl rfl (ySh.r hS rfl) ?_
            refine y_iload_n rfl rfl ?_
            refine y_dup2 rfl rfl rfl ?_
            refine y_ialoadv (J := I 55) rfl (ySh.t hS rfl) (ySh.n hS rfl) (by omega) (by omega) (by rw [e15, upd2_row (by decide), e14, yAddC_row (by decide), e13, yAddC_row (by decide), e12, yAddC_row (by decide)]) ?_
            refine y_iconst rfl ?_
            refine y_iadd rfl ?_
            refine y_iastore rfl (ySh.t hS rfl) (ySh.n hS rfl) (Nat.le_of_ble_eq_true rfl) (by omega) (by omega) ?_
            refine y_nameI (fun I16 e16 => ?_)
            have hC : yCI I16 := by rw [e16]; exact hC
            have hF : yFt I I16 := by rw [e16]; exact hF.upd (by decide)
            refine y_aload_n rfl rfl ?_
            refine y_getR rfl (ySh.t hS rfl) (ySh.n hS rfl) rfl rfl (ySh.r hS rfl) ?_
            refine y_iload_n rfl rfl ?_
            refine y_dup2 rfl rfl rfl ?_
            refine y_ialoadv (J := I 57) rfl (ySh.t hS rfl) (ySh.n hS rfl) (by omega) (by omega) (by rw [e16, upd2_row (by decide), e15, upd2_row (by decide), e14, yAddC_row (by decide), e13, yAddC_row (by decide), e12, yAddC_row (by decide)]) ?_
            refine y_iload_n rfl rfl ?_
            refine y_iadd rfl ?_
            refine y_iastore rfl (ySh.t hS rfl) (ySh.n hS rfl) (Nat.le_of_ble_eq_true rfl) (by omega) (by omega) ?_
            refine y_nameI (fun I17 e17 => ?_)
            have hC : yCI I17 := by rw [e17]; exact hC
            have hF : yFt I I17 := by rw [e17]; exact hF.upd (by decide)
            refine y_aload_n rfl rfl ?_
            refine y_getR rfl (ySh.t hS rfl) (ySh.n hS rfl) rfl rfl (ySh.r hS rfl) ?_
            refine y_iload_n rfl rfl ?_
            refine y_dup2 rfl rfl rfl ?_
            refine y_ialoadv (J := I 58) rfl (ySh.t hS rfl) (ySh.n hS rfl) (by omega) (by omega) (by rw [e17, upd2_row (by decide), e16, upd2_row (by decide), e15, upd2_row (by decide), e14, yAddC_row (by decide), e13, yAddC_row (by decide), e12, yAddC_row (by decide)]) ?_
            refine y_iload_n rfl rfl ?_
            refine y_iadd rfl ?_
            refine y_iastore rfl (ySh.t hS rfl) (ySh.n hS rfl) (Nat.le_of_ble_eq_true rfl) (by omega) (by omega) ?_
            refine y_nameI (fun I18 e18 => ?_)
            have hC : yCI I18 := by rw [e18]; exact hC
            have hF : yFt I I18 := by rw [e18]; exact hF.upd (by decide)
            refine y_return rfl ?_
            refine y_ret0 ?_
            refine y_iload_n rfl rfl ?_
            refine y_iload rfl rfl ?_
            refine y_isub rfl ?_
            refine y_ireturn rfl rfl rfl ?_
            first | (exfalso; omega) | (exact hQ (by omega) _ _ _ _ _ hC hF hv_7 (show Int32.ofInt 0 = yFe (I 34 8 - (I 56 x1.toInt.toNat + Int32.ofInt 30 * (I 55 x1.toInt.toNat + Int32.ofInt 1))) v_7 (yBC (I 36 2)).toInt from (if_neg (by omega)).symm) (show Int32.ofInt 0 = yRb (I 34 8 - (I 56 x1.toInt.toNat + Int32.ofInt 30 * (I 55 x1.toInt.toNat + Int32.ofInt 1))) v_7 (I 51 x1.toInt.toNat) (yBC (I 36 1)).toInt from (if_neg (by omega)).symm) rfl (by rw [e18, e17, e16, e15, e14, e13, e12]; repeat (first | exact yGc.rf | refine yGc.skipC ?_ (by decide) | refine yGc.skip ?_ (by decide) | refine yGc.both ?_)) (by first | (rw [e18, e17, e16, e15, e14, e13, e12]; done) | (rw [e18, e17, e16, e15, e14, e13, e12]; rfl)))
          · rw [yz_m10] at h_11
            refine y_aload_n rfl rfl ?_
            refine y_getR rfl (ySh.t hS rfl) (ySh.n hS rfl) rfl rfl (ySh.r hS rfl) ?_
            refine y_iconst rfl ?_
            refine y_virt rfl rfl rfl rfl rfl (ySh.t hS rfl) (ySh.n hS rfl) ?_
            refine sp_isAllowedNow hS (by decide) (by decide) (fun h_19 => ?_) (fun h_20 => ?_)
            · rw [show (Int32.ofInt 1).toInt.toNat = 1 by decide] at h_19
              refine y_ret1 ?_
              refine y_if_eqF rfl (by decide) ?_
              refine y_aload_n rfl rfl ?_
              refine y_getR rfl (ySh.t hS rfl) (ySh.n hS rfl) rfl rfl (ySh.r hS rfl) ?_
              refine y_iload_n rfl rfl ?_
              refine y_iload_n rfl rfl ?_
              refine y_virt rfl rfl rfl rfl rfl (ySh.t hS rfl) (ySh.n hS rfl) ?_
              refine y_in (M := xm_X5_rebate) (ls := [some _, some _, some _]) rfl rfl rfl ?_
              refine y_aload_n rfl rfl ?_
              refine y_getR rfl (ySh.t hS rfl) (ySh.n hS rfl) rfl rfl (ySh.r hS rfl) ?_
              refine y_iload_n rfl rfl ?_
              refine y_ialoadv (J := I 51) rfl (ySh.t hS rfl) (ySh.n hS rfl) (by omega) (by omega) rfl ?_
              refine y_i2l rfl ?_
              refine y_iload_n rfl rfl ?_
              refine y_i2l rfl ?_
              refine y_bip rfl (by decide) ?_
              refine y_aload_n rfl rfl ?_
              refine y_getR rfl (ySh.t hS rfl) (ySh.n hS rfl) rfl rfl (ySh.r hS rfl) ?_
              refine y_iload_n rfl rfl ?_
              refine y_ialoadv (J := I 51) rfl (ySh.t hS rfl) (ySh.n hS rfl) (by omega) (by omega) rfl ?_
              refine y_iadd rfl ?_
              refine y_i2l rfl ?_
              refine y_static rfl rfl rfl rfl rfl ?_
              refine sp_portion ?_
              refine y_ret1 ?_
              refine y_iconst rfl ?_
              refine y_idiv rfl (by decide) ?_
              refine y_ireturn rfl rfl rfl ?_
              refine y_ret1 ?_
              refine y_goto rfl j_X8_pay_128 ?_
              refine y_istore (ls' := [some _, some _, some _, some _, some _, some _, _]) rfl rfl rfl ?_
              refine y_aload_n rfl rfl ?_
              refine y_getR rfl (ySh.t hS rfl) (ySh.n hS rfl) rfl rfl (ySh.r hS rfl) ?_
              refine y_getR rfl (ySh.t hS rfl) (ySh.n hS rfl) rfl rfl (ySh.r hS rfl) ?_
              refine y_iload_n rfl rfl ?_
              refine y_ialoadv (J := I 50) rfl (ySh.t hS rfl) (ySh.n hS rfl) (by omega) (by omega) rfl ?_
              refine y_istore (ls' := [some _, some _, some _, some _, some _, some _, some _]) rfl rfl rfl ?_
              refine y_aload_n rfl rfl ?_
              refine y_getR rfl (ySh.t hS rfl) (ySh.n hS rfl) rfl rfl (ySh.r hS rfl) ?_
              refine y_iload rfl rfl ?_
              refine y_bip rfl (by decide) ?_
              refine y_iload_n rfl rfl ?_
              refine y_iload rfl rfl ?_
              refine y_isub rfl ?_
              refine y_virt rfl rfl rfl rfl rfl (ySh.t hS rfl) (ySh.n hS rfl) ?_
              refine y_in (M := xm_X4_move) (ls := [some _, some _, some _, some _]) rfl rfl rfl ?_
              refine y_aload_n rfl rfl ?_
              refine y_iload_n rfl rfl ?_
              refine y_iload_n rfl rfl ?_
              refine y_ineg rfl ?_
              refine y_virt rfl rfl rfl rfl rfl (ySh.t hS rfl) (ySh.n hS rfl) ?_
              refine spx_add hS ?_
              refine y_ret0 ?_
              refine y_nameI (fun I21 e21 => ?_)
              have hC : yCI I21 := by rw [e21]; exact yCI.addC hC
              have hF : yFt I I21 := by rw [e21]; exact hF.addC
              refine y_aload_n rfl rfl ?_
              refine y_iload_n rfl rfl ?_
              refine y_iload_n rfl rfl ?_
              refine y_virt rfl rfl rfl rfl rfl (ySh.t hS rfl) (ySh.n hS rfl) ?_
              refine spx_add hS ?_
              refine y_ret0 ?_
              refine y_nameI (fun I22 e22 => ?_)
              have hC : yCI I22 := by rw [e22]; exact yCI.addC hC
              have hF : yFt I I22 := by rw [e22]; exact hF.addC
              refine y_return rfl ?_
              refine y_ret0 ?_
              refine y_aload_n rfl rfl ?_
              refine y_getR rfl (ySh.t hS rfl) (ySh.n hS rfl) rfl rfl (ySh.r hS rfl) ?_
              refine y_iload rfl rfl ?_
              refine y_iload rfl rfl ?_
              refine y_virt rfl rfl rfl rfl rfl (ySh.t hS rfl) (ySh.n hS rfl) ?_
              refine y_in (M := xm_X4_giveAway) (ls := [some _, some _, some _]) rfl rfl rfl ?_
              refine y_aload_n rfl rfl ?_
              refine y_iload_n rfl rfl ?_
              refine y_iload_n rfl rfl ?_
              refine y_ineg rfl ?_
              refine y_virt rfl rfl rfl rfl rfl (ySh.t hS rfl) (ySh.n hS rfl) ?_
              refine spx_add hS ?_
              refine y_ret0 ?_
              refine y_nameI (fun I23 e23 => ?_)
              have hC : yCI I23 := by rw [e23]; exact yCI.addC hC
              have hF : yFt I I23 := by rw [e23]; exact hF.addC
              refine y_aload_n rfl rfl ?_
              refine y_dup rfl rfl ?_
              refine y_getIv (v := I 38 1) rfl (ySh.t hS rfl) (ySh.n hS rfl) rfl rfl (by rw [e23, yAddC_row (by decide), e22, yAddC_row (by decide), e21, yAddC_row (by decide)]) ?_
              refine y_iload_n rfl rfl ?_
              refine y_iadd rfl ?_
              refine y_putI rfl (ySh.t hS rfl) (ySh.n hS rfl) rfl (Nat.le_of_ble_eq_true rfl) rfl rfl ?_
              refine y_nameI (fun I24 e24 => ?_)
              have hC : yCI I24 := by rw [e24]; exact hC
              have hF : yFt I I24 := by rw [e24]; exact hF.upd (by decide)
              refine y_return rfl ?_
              refine y_ret0 ?_
              refine y_aload_n rfl rfl ?_
              refine y_getR rfl (ySh.t hS rfl) (ySh.n hS rfl) rfl rfl (ySh.r hS rfl) ?_
              refine y_iload_n rfl rfl ?_
              refine y_iload rfl rfl ?_
              refine y_iload rfl rfl ?_
              refine y_virt rfl rfl rfl rfl rfl (ySh.t hS rfl) (ySh.n hS rfl) ?_
              refine y_in (M := xm_X5_settlePart) (ls := [some _, some _, some _, some _]) rfl rfl rfl ?_
              refine y_aload_n rfl rfl ?_
              refine y_getR rfl (ySh.t hS rfl) (ySh.n hS rfl) rfl rfl (ySh.r hS rfl) ?_
              refine y_iload_n rfl rfl ?_
              refine y_dup2 rfl rfl rfl ?_
              refine y_ialoadv (J := I 55) rfl (ySh.t hS rfl) (ySh.n hS rfl) (by omega) (by omega) (by rw [e24, upd2_row (by decide), e23, yAddC_row (by decide), e22, yAddC_row (by decide), e21, yAddC_row (by decide)]) ?_
              refine y_iconst rfl ?_
              refine y_iadd rfl ?_
              refine y_iastore rfl (ySh.t hS rfl) (ySh.n hS rfl) (Nat.le_of_ble_eq_true rfl) (by omega) (by omega) ?_
              refine y_nameI (fun I25 e25 => ?_)
              have hC : yCI I25 := by rw [e25]; exact hC
              have hF : yFt I I25 := by rw [e25]; exact hF.upd (by decide)
              refine y_aload_n rfl rfl ?_
              refine y_getR rfl (ySh.t hS rfl) (ySh.n hS rfl) rfl rfl (ySh.r hS rfl) ?_
              refine y_iload_n rfl rfl ?_
              refine y_dup2 rfl rfl rfl ?_
              refine y_ialoadv (J := I 57) rfl (ySh.t hS rfl) (ySh.n hS rfl) (by omega) (by omega) (by rw [e25, upd2_row (by decide), e24, upd2_row (by decide), e23, yAddC_row (by decide), e22, yAddC_row (by decide), e21, yAddC_row (by decide)]) ?_
              refine y_iload_n rfl rfl ?_
              refine y_iadd rfl ?_
              refine y_iastore rfl (ySh.t hS rfl) (ySh.n hS rfl) (Nat.le_of_ble_eq_true rfl) (by omega) (by omega) ?_
              refine y_nameI (fun I26 e26 => ?_)
              have hC : yCI I26 := by rw [e26]; exact hC
              have hF : yFt I I26 := by rw [e26]; exact hF.upd (by decide)
              refine y_aload_n rfl rfl ?_
              refine y_getR rfl (ySh.t hS rfl) (ySh.n hS rfl) rfl rfl (ySh.r hS rfl) ?_
              refine y_iload_n rfl rfl ?_
              refine y_dup2 rfl rfl rfl ?_
              refine y_ialoadv (J := I 58) rfl (ySh.t hS rfl) (ySh.n hS rfl) (by omega) (by omega) (by rw [e26, upd2_row (by decide), e25, upd2_row (by decide), e24, upd2_row (by decide), e23, yAddC_row (by decide), e22, yAddC_row (by decide), e21, yAddC_row (by decide)]) ?_
              refine y_iload_n rfl rfl ?_
              refine y_iadd rfl ?_
              refine y_iastore rfl (ySh.t hS rfl) (ySh.n hS rfl) (Nat.le_of_ble_eq_true rfl) (by omega) (by omega) ?_
              refine y_nameI (fun I27 e27 => ?_)
              have hC : yCI I27 := by rw [e27]; exact hC
              have hF : yFt I I27 := by rw [e27]; exact hF.upd (by decide)
              refine y_return rfl ?_
              refine y_ret0 ?_
              refine y_iload_n rfl rfl ?_
              refine y_iload rfl rfl ?_
              refine y_isub rfl ?_
              refine y_ireturn rfl rfl rfl ?_
              first | (exfalso; omega) | (exact hQ (by omega) _ _ _ _ _ hC hF hv_7 (show Int32.ofInt 0 = yFe (I 34 8 - (I 56 x1.toInt.toNat + Int32.ofInt 30 * (I 55 x1.toInt.toNat + Int32.ofInt 1))) v_7 (yBC (I 36 2)).toInt from (if_neg (by omega)).symm) ((congrArg (· / Int32.ofInt 2) (yPor_rb (by omega) (by omega) (by rw [hv_7]; exact (yPa_bd (by omega) (by omega) (by omega) (by omega)).1) (by rw [hv_7]; exact (yPa_bd (by omega) (by omega) (by omega) (by omega)).2))).trans (show _ = yRb (I 34 8 - (I 56 x1.toInt.toNat + Int32.ofInt 30 * (I 55 x1.toInt.toNat + Int32.ofInt 1))) v_7 (I 51 x1.toInt.toNat) (yBC (I 36 1)).toInt from (if_pos (by omega)).symm)) rfl (by rw [e27, e26, e25, e24, e23, e22, e21]; repeat (first | exact yGc.rf | refine yGc.skipC ?_ (by decide) | refine yGc.skip ?_ (by decide) | refine yGc.both ?_)) (by first | (rw [e27, e26, e25, e24, e23, e22, e21]; done) | (rw [e27, e26, e25, e24, e23, e22, e21]; rfl)))
            · rw [show (Int32.ofInt 1).toInt.toNat = 1 by decide] at h_20
              refine y_ret1 ?_
              refine y_if_eqT rfl j_X8_pay_127 (by decide) ?_
              refine y_iconst rfl ?_
              refine y_istore (ls' := [some _, some _, some _, some _, some _, some _, _]) rfl rfl rfl ?_
              refine y_aload_n rfl rfl ?_
              refine y_getR rfl (ySh.t hS rfl) (ySh.n hS rfl) rfl rfl (ySh.r hS rfl) ?_
              refine y_getR rfl (ySh.t hS rfl) (ySh.n hS rfl) rfl rfl (ySh.r hS rfl) ?_
              refine y_iload_n rfl rfl ?_
              refine y_ialoadv (J := I 50) rfl (ySh.t hS rfl) (ySh.n hS rfl) (by omega) (by omega) rfl ?_
              refine y_istore (ls' := [some _, some _, some _, some _, some _, some _, some _]) rfl rfl rfl ?_
              refine y_aload_n rfl rfl ?_
              refine y_getR rfl (ySh.t hS rfl) (ySh.n hS rfl) rfl rfl (ySh.r hS rfl) ?_
              refine y_iload rfl rfl ?_
              refine y_bip rfl (by decide) ?_
              refine y_iload_n rfl rfl ?_
              refine y_iload rfl rfl ?_
              refine y_isub rfl ?_
              refine y_virt rfl rfl rfl rfl rfl (ySh.t hS rfl) (ySh.n hS rfl) ?_
              refine y_in (M := xm_X4_move) (ls := [some _, some _, some _, some _]) rfl rfl rfl ?_
              refine y_aload_n rfl rfl ?_
              refine y_iload_n rfl rfl ?_
              refine y_iload_n rfl rfl ?_
              refine y_ineg rfl ?_
              refine y_virt rfl rfl rfl rfl rfl (ySh.t hS rfl) (ySh.n hS rfl) ?_
              refine spx_add hS ?_
              refine y_ret0 ?_
              refine y_nameI (fun I28 e28 => ?_)
              have hC : yCI I28 := by rw [e28]; exact yCI.addC hC
              have hF : yFt I I28 := by rw [e28]; exact hF.addC
              refine y_aload_n rfl rfl ?_
              refine y_iload_n rfl rfl ?_
              refine y_iload_n rfl rfl ?_
              refine y_virt rfl rfl rfl rfl rfl (ySh.t hS rfl) (ySh.n hS rfl) ?_
              refine spx_add hS ?_
              refine y_ret0 ?_
              refine y_nameI (fun I29 e29 => ?_)
              have hC : yCI I29 := by rw [e29]; exact yCI.addC hC
              have hF : yFt I I29 := by rw [e29]; exact hF.addC
              refine y_return rfl ?_
              refine y_ret0 ?_
              refine y_aload_n rfl rfl ?_
              refine y_getR rfl (ySh.t hS rfl) (ySh.n hS rfl) rfl rfl (ySh.r hS rfl) ?_
              refine y_iload rfl rfl ?_
              refine y_iload rfl rfl ?_
              refine y_virt rfl rfl rfl rfl rfl (ySh.t hS rfl) (ySh.n hS rfl) ?_
              refine y_in (M := xm_X4_giveAway) (ls := [some _, some _, some _]) rfl rfl rfl ?_
              refine y_aload_n rfl rfl ?_
              refine y_iload_n rfl rfl ?_
              refine y_iload_n rfl rfl ?_
              refine y_ineg rfl ?_
              refine y_virt rfl rfl rfl rfl rfl (ySh.t hS rfl) (ySh.n hS rfl) ?_
              refine spx_add hS ?_
              refine y_ret0 ?_
              refine y_nameI (fun I30 e30 => ?_)
              have hC : yCI I30 := by rw [e30]; exact yCI.addC hC
              have hF : yFt I I30 := by rw [e30]; exact hF.addC
              refine y_aload_n rfl rfl ?_
              refine y_dup rfl rfl ?_
              refine y_getIv (v := I 38 1) rfl (ySh.t hS rfl) (ySh.n hS rfl) rfl rfl (by rw [e30, yAddC_row (by decide), e29, yAddC_row (by decide), e28, yAddC_row (by decide)]) ?_
              refine y_iload_n rfl rfl ?_
              refine y_iadd rfl ?_
              refine y_putI rfl (ySh.t hS rfl) (ySh.n hS rfl) rfl (Nat.le_of_ble_eq_true rfl) rfl rfl ?_
              refine y_nameI (fun I31 e31 => ?_)
              have hC : yCI I31 := by rw [e31]; exact hC
              have hF : yFt I I31 := by rw [e31]; exact hF.upd (by decide)
              refine y_return rfl ?_
              refine y_ret0 ?_
              refine y_aload_n rfl rfl ?_
              refine y_getR rfl (ySh.t hS rfl) (ySh.n hS rfl) rfl rfl (ySh.r hS rfl) ?_
              refine y_iload_n rfl rfl ?_
              refine y_iload rfl rfl ?_
              refine y_iload rfl rfl ?_
              refine y_virt rfl rfl rfl rfl rfl (ySh.t hS rfl) (ySh.n hS rfl) ?_
              refine y_in (M := xm_X5_settlePart) (ls := [some _, some _, some _, some _]) rfl rfl rfl ?_
              refine y_aload_n rfl rfl ?_
              refine y_getR rfl (ySh.t hS rfl) (ySh.n hS rfl) rfl rfl (ySh.r hS rfl) ?_
              refine y_iload_n rfl rfl ?_
              refine y_dup2 rfl rfl rfl ?_
              refine y_ialoadv (J := I 55) rfl (ySh.t hS rfl) (ySh.n hS rfl) (by omega) (by omega) (by rw [e31, upd2_row (by decide), e30, yAddC_row (by decide), e29, yAddC_row (by decide), e28, yAddC_row (by decide)]) ?_
              refine y_iconst rfl ?_
              refine y_iadd rfl ?_
              refine y_iastore rfl (ySh.t hS rfl) (ySh.n hS rfl) (Nat.le_of_ble_eq_true rfl) (by omega) (by omega) ?_
              refine y_nameI (fun I32 e32 => ?_)
              have hC : yCI I32 := by rw [e32]; exact hC
              have hF : yFt I I32 := by rw [e32]; exact hF.upd (by decide)
              refine y_aload_n rfl rfl ?_
              refine y_getR rfl (ySh.t hS rfl) (ySh.n hS rfl) rfl rfl (ySh.r hS rfl) ?_
              refine y_iload_n rfl rfl ?_
              refine y_dup2 rfl rfl rfl ?_
              refine y_ialoadv (J := I 57) rfl (ySh.t hS rfl) (ySh.n hS rfl) (by omega) (by omega) (by rw [e32, upd2_row (by decide), e31, upd2_row (by decide), e30, yAddC_row (by decide), e29, yAddC_row (by decide), e28, yAddC_row (by decide)]) ?_
              refine y_iload_n rfl rfl ?_
              refine y_iadd rfl ?_
              refine y_iastore rfl (ySh.t hS rfl) (ySh.n hS rfl) (Nat.le_of_ble_eq_true rfl) (by omega) (by omega) ?_
              refine y_nameI (fun I33 e33 => ?_)
              have hC : yCI I33 := by rw [e33]; exact hC
              have hF : yFt I I33 := by rw [e33]; exact hF.upd (by decide)
              refine y_aload_n rfl rfl ?_
              refine y_getR rfl (ySh.t hS rfl) (ySh.n hS rfl) rfl rfl (ySh.r hS rfl) ?_
              refine y_iload_n rfl rfl ?_
              refine y_dup2 rfl rfl rfl ?_
              refine y_ialoadv (J := I 58) rfl (ySh.t hS rfl) (ySh.n hS rfl) (by omega) (by omega) (by rw [e33, upd2_row (by decide), e32, upd2_row (by decide), e31, upd2_row (by decide), e30, yAddC_row (by decide), e29, yAddC_row (by decide), e28, yAddC_row (by decide)]) ?_
              refine y_iload_n rfl rfl ?_
              refine y_iadd rfl ?_
              refine y_iastore rfl (ySh.t hS rfl) (ySh.n hS rfl) (Nat.le_of_ble_eq_true rfl) (by omega) (by omega) ?_
              refine y_nameI (fun I34 e34 => ?_)
              have hC : yCI I34 := by rw [e34]; exact hC
              have hF : yFt I I34 := by rw [e34]; exact hF.upd (by decide)
              refine y_return rfl ?_
              refine y_ret0 ?_
              refine y_iload_n rfl rfl ?_
              refine y_iload rfl rfl ?_
              refine y_isub rfl ?_
              refine y_ireturn rfl rfl rfl ?_
              first | (exfalso; omega) | (exact hQ (by omega) _ _ _ _ _ hC hF hv_7 (show Int32.ofInt 0 = yFe (I 34 8 - (I 56 x1.toInt.toNat + Int32.ofInt 30 * (I 55 x1.toInt.toNat + Int32.ofInt 1))) v_7 (yBC (I 36 2)).toInt from (if_neg (by omega)).symm) (show Int32.ofInt 0 = yRb (I 34 8 - (I 56 x1.toInt.toNat + Int32.ofInt 30 * (I 55 x1.toInt.toNat + Int32.ofInt 1))) v_7 (I 51 x1.toInt.toNat) (yBC (I 36 1)).toInt from (if_neg (by omega)).symm) rfl (by rw [e34, e33, e32, e31, e30, e29, e28]; repeat (first | exact yGc.rf | refine yGc.skipC ?_ (by decide) | refine yGc.skip ?_ (by decide) | refine yGc.both ?_)) (by first | (rw [e34, e33, e32, e31, e30, e29, e28]; done) | (rw [e34, e33, e32, e31, e30, e29, e28]; rfl)))
        · rw [yz_10] at h_9
          refine y_aload_n rfl rfl ?_
          refine y_getR rfl (ySh.t hS rfl) (ySh.n hS rfl) rfl rfl (ySh.r hS rfl) ?_
          refine y_iconst rfl ?_
          refine y_virt rfl rfl rfl rfl rfl (ySh.t hS rfl) (ySh.n hS rfl) ?_
          refine sp_isAllowedNow hS (by decide) (by decide) (fun h_35 => ?_) (fun h_36 => ?_)
          · rw [show (Int32.ofInt 2).toInt.toNat = 2 by decide] at h_35
            refine y_ret1 ?_
            refine y_if_eqF rfl (by decide) ?_
            refine y_iload_n rfl rfl ?_
            refine y_iconst rfl ?_
            refine y_imul rfl ?_
            refine y_bip rfl (by decide) ?_
            refine y_idiv rfl (by decide) ?_
            refine y_iconst rfl ?_
            refine y_max rfl rfl ?_
            refine y_goto rfl j_X8_pay_96 ?_
            refine y_istore (ls' := [some _, some _, some _, some _, some _, _, _]) rfl rfl rfl ?_
            refine y_iload_n rfl rfl ?_
            refine y_bip rfl (by decide) ?_
            refine y_icmp_gt rfl j_X8_pay_127 (fun h_37 => ?_) (fun h_38 => ?_)
            · rw [yz_m10] at h_37
              refine y_iconst rfl ?_
              refine y_istore (ls' := [some _, some _, some _, some _, some _, some _, _]) rfl rfl rfl ?_
              refine y_aload_n rfl rfl ?_
              refine y_getR rfl (ySh.t hS rfl) (ySh.n hS rfl) rfl rfl (ySh.r hS rfl) ?_
              refine y_getR rfl (ySh.t hS rfl) (ySh.n hS rfl) rfl rfl (ySh.r hS rfl) ?_
              refine y_iload_n rfl rfl ?_
              refine y_ialoadv (J := I 50) rfl (ySh.t hS rfl) (ySh.n hS rfl) (by omega) (by omega) rfl ?_
              refine y_istore (ls' := [some _, some _, some _, some _, some _, some _, some _]) rfl rfl rfl ?_
              refine y_aload_n rfl rfl ?_
              refine y_getR rfl (ySh.t hS rfl) (ySh.n hS rfl) rfl rfl (ySh.r hS rfl) ?_
              refine y_iload rfl rfl ?_
              refine y_bip rfl (by decide) ?_
              refine y_iload_n rfl rfl ?_
              refine y_iload rfl rfl ?_
              refine y_isub rfl ?_
              refine y_virt rfl rfl rfl rfl rfl (ySh.t hS rfl) (ySh.n hS rfl) ?_
              refine y_in (M := xm_X4_move) (ls := [some _, some _, some _, some _]) rfl rfl rfl ?_
              refine y_aload_n rfl rfl ?_
              refine y_iload_n rfl rfl ?_
              refine y_iload_n rfl rfl ?_
              refine y_ineg rfl ?_
              refine y_virt rfl rfl rfl rfl rfl (ySh.t hS rfl) (ySh.n hS rfl) ?_
              refine spx_add hS ?_
              refine y_ret0 ?_
              refine y_nameI (fun I39 e39 => ?_)
              have hC : yCI I39 := by rw [e39]; exact yCI.addC hC
              have hF : yFt I I39 := by rw [e39]; exact hF.addC
              refine y_aload_n rfl rfl ?_
              refine y_iload_n rfl rfl ?_
              refine y_iload_n rfl rfl ?_
              refine y_virt rfl rfl rfl rfl rfl (ySh.t hS rfl) (ySh.n hS rfl) ?_
              refine spx_add hS ?_
              refine y_ret0 ?_
              refine y_nameI (fun I40 e40 => ?_)
              have hC : yCI I40 := by rw [e40]; exact yCI.addC hC
              have hF : yFt I I40 := by rw [e40]; exact hF.addC
              refine y_return rfl ?_
              refine y_ret0 ?_
              refine y_aload_n rfl rfl ?_
              refine y_getR rfl (ySh.t hS rfl) (ySh.n hS rfl) rfl rfl (ySh.r hS rfl) ?_
              refine y_iload rfl rfl ?_
              refine y_iload rfl rfl ?_
              refine y_virt rfl rfl rfl rfl rfl (ySh.t hS rfl) (ySh.n hS rfl) ?_
              refine y_in (M := xm_X4_giveAway) (ls := [some _, some _, some _]) rfl rfl rfl ?_
              refine y_aload_n rfl rfl ?_
              refine y_iload_n rfl rfl ?_
              refine y_iload_n rfl rfl ?_
              refine y_ineg rfl ?_
              refine y_virt rfl rfl rfl rfl rfl (ySh.t hS rfl) (ySh.n hS rfl) ?_
              refine spx_add hS ?_
              refine y_ret0 ?_
              refine y_nameI (fun I41 e41 => ?_)
              have hC : yCI I41 := by rw [e41]; exact yCI.addC hC
              have hF : yFt I I41 := by rw [e41]; exact hF.addC
              refine y_aload_n rfl rfl ?_
              refine y_dup rfl rfl ?_
              refine y_getIv (v := I 38 1) rfl (ySh.t hS rfl) (ySh.n hS rfl) rfl rfl (by rw [e41, yAddC_row (by decide), e40, yAddC_row (by decide), e39, yAddC_row (by decide)]) ?_
              refine y_iload_n rfl rfl ?_
              refine y_iadd rfl ?_
              refine y_putI rfl (ySh.t hS rfl) (ySh.n hS rfl) rfl (Nat.le_of_ble_eq_true rfl) rfl rfl ?_
              refine y_nameI (fun I42 e42 => ?_)
              have hC : yCI I42 := by rw [e42]; exact hC
              have hF : yFt I I42 := by rw [e42]; exact hF.upd (by decide)
              refine y_return rfl ?_
              refine y_ret0 ?_
              refine y_aload_n rfl rfl ?_
              refine y_getR rfl (ySh.t hS rfl) (ySh.n hS rfl) rfl rfl (ySh.r hS rfl) ?_
              refine y_iload_n rfl rfl ?_
              refine y_iload rfl rfl ?_
              refine y_iload rfl rfl ?_
              refine y_virt rfl rfl rfl rfl rfl (ySh.t hS rfl) (ySh.n hS rfl) ?_
              refine y_in (M := xm_X5_settlePart) (ls := [some _, some _, some _, some _]) rfl rfl rfl ?_
              refine y_aload_n rfl rfl ?_
              refine y_getR rfl (ySh.t hS rfl) (ySh.n hS rfl) rfl rfl (ySh.r hS rfl) ?_
              refine y_iload_n rfl rfl ?_
              refine y_dup2 rfl rfl rfl ?_
              refine y_ialoadv (J := I 55) rfl (ySh.t hS rfl) (ySh.n hS rfl) (by omega) (by omega) (by rw [e42, upd2_row (by decide), e41, yAddC_row (by decide), e40, yAddC_row (by decide), e39, yAddC_row (by decide)]) ?_
              refine y_iconst rfl ?_
              refine y_iadd rfl ?_
              refine y_iastore rfl (ySh.t hS rfl) (ySh.n hS rfl) (Nat.le_of_ble_eq_true rfl) (by omega) (by omega) ?_
              refine y_nameI (fun I43 e43 => ?_)
              have hC : yCI I43 := by rw [e43]; exact hC
              have hF : yFt I I43 := by rw [e43]; exact hF.upd (by decide)
              refine y_aload_n rfl rfl ?_
              refine y_getR rfl (ySh.t hS rfl) (ySh.n hS rfl) rfl rfl (ySh.r hS rfl) ?_
              refine y_iload_n rfl rfl ?_
              refine y_dup2 rfl rfl rfl ?_
              refine y_ialoadv (J := I 57) rfl (ySh.t hS rfl) (ySh.n hS rfl) (by omega) (by omega) (by rw [e43, upd2_row (by decide), e42, upd2_row (by decide), e41, yAddC_row (by decide), e40, yAddC_row (by decide), e39, yAddC_row (by decide)]) ?_
              refine y_iload_n rfl rfl ?_
              refine y_iadd rfl ?_
              refine y_iastore rfl (ySh.t hS rfl) (ySh.n hS rfl) (Nat.le_of_ble_eq_true rfl) (by omega) (by omega) ?_
              refine y_nameI (fun I44 e44 => ?_)
              have hC : yCI I44 := by rw [e44]; exact hC
              have hF : yFt I I44 := by rw [e44]; exact hF.upd (by decide)
              refine y_aload_n rfl rfl ?_
              refine y_getR rfl (ySh.t hS rfl) (ySh.n hS rfl) rfl rfl (ySh.r hS rfl) ?_
              refine y_iload_n rfl rfl ?_
              refine y_dup2 rfl rfl rfl ?_
              refine y_ialoadv (J := I 58) rfl (ySh.t hS rfl) (ySh.n hS rfl) (by omega) (by omega) (by rw [e44, upd2_row (by decide), e43, upd2_row (by decide), e42, upd2_row (by decide), e41, yAddC_row (by decide), e40, yAddC_row (by decide), e39, yAddC_row (by decide)]) ?_
              refine y_iload_n rfl rfl ?_
              refine y_iadd rfl ?_
              refine y_iastore rfl (ySh.t hS rfl) (ySh.n hS rfl) (Nat.le_of_ble_eq_true rfl) (by omega) (by omega) ?_
              refine y_nameI (fun I45 e45 => ?_)
              have hC : yCI I45 := by rw [e45]; exact hC
              have hF : yFt I I45 := by rw [e45]; exact hF.upd (by decide)
              refine y_return rfl ?_
              refine y_ret0 ?_
              refine y_iload_n rfl rfl ?_
              refine y_iload rfl rfl ?_
              refine y_isub rfl ?_
              refine y_ireturn rfl rfl rfl ?_
              first | (exfalso; omega) | (exact hQ (by omega) _ _ _ _ _ hC hF hv_7 (show _ = yFe (I 34 8 - (I 56 x1.toInt.toNat + Int32.ofInt 30 * (I 55 x1.toInt.toNat + Int32.ofInt 1))) v_7 (yBC (I 36 2)).toInt from (if_pos (by omega)).symm) (show Int32.ofInt 0 = yRb (I 34 8 - (I 56 x1.toInt.toNat + Int32.ofInt 30 * (I 55 x1.toInt.toNat + Int32.ofInt 1))) v_7 (I 51 x1.toInt.toNat) (yBC (I 36 1)).toInt from (if_neg (by omega)).symm) rfl (by rw [e45, e44, e43, e42, e41, e40, e39]; repeat (first | exact yGc.rf | refine yGc.skipC ?_ (by decide) | refine yGc.skip ?_ (by decide) | refine yGc.both ?_)) (by first | (rw [e45, e44, e43, e42, e41, e40, e39]; done) | (rw [e45, e44, e43, e42, e41, e40, e39]; rfl)))
            · rw [yz_m10] at h_38
              refine y_aload_n rfl rfl ?_
              refine y_getR rfl (ySh.t hS rfl) (ySh.n hS rfl) rfl rfl (ySh.r hS rfl) ?_
              refine y_iconst rfl ?_
              refine y_virt rfl rfl rfl rfl rfl (ySh.t hS rfl) (ySh.n hS rfl) ?_
              refine sp_isAllowedNow hS (by decide) (by decide) (fun h_46 => ?_) (fun h_47 => ?_)
              · rw [show (Int32.ofInt 1).toInt.toNat = 1 by decide] at h_46
                refine y_ret1 ?_
                refine y_if_eqF rfl (by decide) ?_
                refine y_aload_n rfl rfl ?_
                refine y_getR rfl (ySh.t hS rfl) (ySh.n hS rfl) rfl rfl (ySh.r hS rfl) ?_
                refine y_iload_n rfl rfl ?_
                refine y_iload_n rfl rfl ?_
                refine y_virt rfl rfl rfl rfl rfl (ySh.t hS rfl) (ySh.n hS rfl) ?_
                refine y_in (M := xm_X5_rebate) (ls := [some _, some _, some _]) rfl rfl rfl ?_
                refine y_aload_n rfl rfl ?_
                refine y_getR rfl (ySh.t hS rfl) (ySh.n hS rfl) rfl rfl (ySh.r hS rfl) ?_
                refine y_iload_n rfl rfl ?_
                refine y_ialoadv (J := I 51) rfl (ySh.t hS rfl) (ySh.n hS rfl) (by omega) (by omega) rfl ?_
                refine y_i2l rfl ?_
                refine y_iload_n rfl rfl ?_
                refine y_i2l rfl ?_
                refine y_bip rfl (by decide) ?_
                refine y_aload_n rfl rfl ?_
                refine y_getR rfl (ySh.t hS rfl) (ySh.n hS rfl) rfl rfl (ySh.r hS rfl) ?_
                refine y_iload_n rfl rfl ?_
                refine y_ialoadv (J := I 51) rfl (ySh.t hS rfl) (ySh.n hS rfl) (by omega) (by omega) rfl ?_
                refine y_iadd rfl ?_
                refine y_i2l rfl ?_
                refine y_static rfl rfl rfl rfl rfl ?_
                refine sp_portion ?_
                refine y_ret1 ?_
                refine y_iconst rfl ?_
                refine y_idiv rfl (by decide) ?_
                refine y_ireturn rfl rfl rfl ?_
                refine y_ret1 ?_
                refine y_goto rfl j_X8_pay_128 ?_
                refine y_istore (ls' := [some _, some _, some _, some _, some _, some _, _]) rfl rfl rfl ?_
                refine y_aload_n rfl rfl ?_
                refine y_getR rfl (ySh.t hS rfl) (ySh.n hS rfl) rfl rfl (ySh.r hS rfl) ?_
                refine y_getR rfl (ySh.t hS rfl) (ySh.n hS rfl) rfl rfl (ySh.r hS rfl) ?_
                refine y_iload_n rfl rfl ?_
                refine y_ialoadv (J := I 50) rfl (ySh.t hS rfl) (ySh.n hS rfl) (by omega) (by omega) rfl ?_
                refine y_istore (ls' := [some _, some _, some _, some _, some _, some _, some _]) rfl rfl rfl ?_
                refine y_aload_n rfl rfl ?_
                refine y_getR rfl (ySh.t hS rfl) (ySh.n hS rfl) rfl rfl (ySh.r hS rfl) ?_
                refine y_iload rfl rfl ?_
                refine y_bip rfl (by decide) ?_
                refine y_iload_n rfl rfl ?_
                refine y_iload rfl rfl ?_
                refine y_isub rfl ?_
                refine y_virt rfl rfl rfl rfl rfl (ySh.t hS rfl) (ySh.n hS rfl) ?_
                refine y_in (M := xm_X4_move) (ls := [some _, some _, some _, some _]) rfl rfl rfl ?_
                refine y_aload_n rfl rfl ?_
                refine y_iload_n rfl rfl ?_
                refine y_iload_n rfl rfl ?_
                refine y_ineg rfl ?_
                refine y_virt rfl rfl rfl rfl rfl (ySh.t hS rfl) (ySh.n hS rfl) ?_
                refine spx_add hS ?_
                refine y_ret0 ?_
                refine y_nameI (fun I48 e48 => ?_)
                have hC : yCI I48 := by rw [e48]; exact yCI.addC hC
                have hF : yFt I I48 := by rw [e48]; exact hF.addC
                refine y_aload_n rfl rfl ?_
                refine y_iload_n rfl rfl ?_
                refine y_iload_n rfl rfl ?_
                refine y_virt rfl rfl rfl rfl rfl (ySh.t hS rfl) (ySh.n hS rfl) ?_
                refine spx_add hS ?_
                refine y_ret0 ?_
                refine y_nameI (fun I49 e49 => ?_)
                have hC : yCI I49 := by rw [e49]; exact yCI.addC hC
                have hF : yFt I I49 := by rw [e49]; exact hF.addC
                refine y_return rfl ?_
                refine y_ret0 ?_
                refine y_aload_n rfl rfl ?_
                refine y_getR rfl (ySh.t hS rfl) (ySh.n hS rfl) rfl rfl (ySh.r hS rfl) ?_
                refine y_iload rfl rfl ?_
                refine y_iload rfl rfl ?_
                refine y_virt rfl rfl rfl rfl rfl (ySh.t hS rfl) (ySh.n hS rfl) ?_
                refine y_in (M := xm_X4_giveAway) (ls := [some _, some _, some _]) rfl rfl rfl ?_
                refine y_aload_n rfl rfl ?_
                refine y_iload_n rfl rfl ?_
                refine y_iload_n rfl rfl ?_
                refine y_ineg rfl ?_
                refine y_virt rfl rfl rfl rfl rfl (ySh.t hS rfl) (ySh.n hS rfl) ?_
                refine spx_add hS ?_
                refine y_ret0 ?_
                refine y_nameI (fun I50 e50 => ?_)
                have hC : yCI I50 := by rw [e50]; exact yCI.addC hC
                have hF : yFt I I50 := by rw [e50]; exact hF.addC
                refine y_aload_n rfl rfl ?_
                refine y_dup rfl rfl ?_
                refine y_getIv (v := I 38 1) rfl (ySh.t hS rfl) (ySh.n hS rfl) rfl rfl (by rw [e50, yAddC_row (by decide), e49, yAddC_row (by decide), e48, yAddC_row (by decide)]) ?_
                refine y_iload_n rfl rfl ?_
                refine y_iadd rfl ?_
                refine y_putI rfl (ySh.t hS rfl) (ySh.n hS rfl) rfl (Nat.le_of_ble_eq_true rfl) rfl rfl ?_
                refine y_nameI (fun I51 e51 => ?_)
                have hC : yCI I51 := by rw [e51]; exact hC
                have hF : yFt I I51 := by rw [e51]; exact hF.upd (by decide)
                refine y_return rfl ?_
                refine y_ret0 ?_
                refine y_aload_n rfl rfl ?_
                refine y_getR rfl (ySh.t hS rfl) (ySh.n hS rfl) rfl rfl (ySh.r hS rfl) ?_
                refine y_iload_n rfl rfl ?_
                refine y_iload rfl rfl ?_
                refine y_iload rfl rfl ?_
                refine y_virt rfl rfl rfl rfl rfl (ySh.t hS rfl) (ySh.n hS rfl) ?_
                refine y_in (M := xm_X5_settlePart) (ls := [some _, some _, some _, some _]) rfl rfl rfl ?_
                refine y_aload_n rfl rfl ?_
                refine y_getR rfl (ySh.t hS rfl) (ySh.n hS rfl) rfl rfl (ySh.r hS rfl) ?_
                refine y_iload_n rfl rfl ?_
                refine y_dup2 rfl rfl rfl ?_
                refine y_ialoadv (J := I 55) rfl (ySh.t hS rfl) (ySh.n hS rfl) (by omega) (by omega) (by rw [e51, upd2_row (by decide), e50, yAddC_row (by decide), e49, yAddC_row (by decide), e48, yAddC_row (by decide)]) ?_
                refine y_iconst rfl ?_
                refine y_iadd rfl ?_
                refine y_iastore rfl (ySh.t hS rfl) (ySh.n hS rfl) (Nat.le_of_ble_eq_true rfl) (by omega) (by omega) ?_
                refine y_nameI (fun I52 e52 => ?_)
                have hC : yCI I52 := by rw [e52]; exact hC
                have hF : yFt I I52 := by rw [e52]; exact hF.upd (by decide)
                refine y_aload_n rfl rfl ?_
                refine y_getR rfl (ySh.t hS rfl) (ySh.n hS rfl) rfl rfl (ySh.r hS rfl) ?_
                refine y_iload_n rfl rfl ?_
                refine y_dup2 rfl rfl rfl ?_
                refine y_ialoadv (J := I 57) rfl (ySh.t hS rfl) (ySh.n hS rfl) (by omega) (by omega) (by rw [e52, upd2_row (by decide), e51, upd2_row (by decide), e50, yAddC_row (by decide), e49, yAddC_row (by decide), e48, yAddC_row (by decide)]) ?_
                refine y_iload_n rfl rfl ?_
                refine y_iadd rfl ?_
                refine y_iastore rfl (ySh.t hS rfl) (ySh.n hS rfl) (Nat.le_of_ble_eq_true rfl) (by omega) (by omega) ?_
                refine y_nameI (fun I53 e53 => ?_)
                have hC : yCI I53 := by rw [e53]; exact hC
                have hF : yFt I I53 := by rw [e53]; exact hF.upd (by decide)
                refine y_aload_n rfl rfl ?_
                refine y_getR rfl (ySh.t hS rfl) (ySh.n hS rfl) rfl rfl (ySh.r hS rfl) ?_
                refine y_iload_n rfl rfl ?_
                refine y_dup2 rfl rfl rfl ?_
                refine y_ialoadv (J := I 58) rfl (ySh.t hS rfl) (ySh.n hS rfl) (by omega) (by omega) (by rw [e53, upd2_row (by decide), e52, upd2_row (by decide), e51, upd2_row (by decide), e50, yAddC_row (by decide), e49, yAddC_row (by decide), e48, yAddC_row (by decide)]) ?_
                refine y_iload_n rfl rfl ?_
                refine y_iadd rfl ?_
                refine y_iastore rfl (ySh.t hS rfl) (ySh.n hS rfl) (Nat.le_of_ble_eq_true rfl) (by omega) (by omega) ?_
                refine y_nameI (fun I54 e54 => ?_)
                have hC : yCI I54 := by rw [e54]; exact hC
                have hF : yFt I I54 := by rw [e54]; exact hF.upd (by decide)
                refine y_return rfl ?_
                refine y_ret0 ?_
                refine y_iload_n rfl rfl ?_
                refine y_iload rfl rfl ?_
                refine y_isub rfl ?_
                refine y_ireturn rfl rfl rfl ?_
                first | (exfalso; omega) | (exact hQ (by omega) _ _ _ _ _ hC hF hv_7 (show _ = yFe (I 34 8 - (I 56 x1.toInt.toNat + Int32.ofInt 30 * (I 55 x1.toInt.toNat + Int32.ofInt 1))) v_7 (yBC (I 36 2)).toInt from (if_pos (by omega)).symm) ((congrArg (· / Int32.ofInt 2) (yPor_rb (by omega) (by omega) (by rw [hv_7]; exact (yPa_bd (by omega) (by omega) (by omega) (by omega)).1) (by rw [hv_7]; exact (yPa_bd (by omega) (by omega) (by omega) (by omega)).2))).trans (show _ = yRb (I 34 8 - (I 56 x1.toInt.toNat + Int32.ofInt 30 * (I 55 x1.toInt.toNat + Int32.ofInt 1))) v_7 (I 51 x1.toInt.toNat) (yBC (I 36 1)).toInt from (if_pos (by omega)).symm)) rfl (by rw [e54, e53, e52, e51, e50, e49, e48]; repeat (first | exact yGc.rf | refine yGc.skipC ?_ (by decide) | refine yGc.skip ?_ (by decide) | refine yGc.both ?_)) (by first | (rw [e54, e53, e52, e51, e50, e49, e48]; done) | (rw [e54, e53, e52, e51, e50, e49, e48]; rfl)))
              · rw [show (Int32.ofInt 1).toInt.toNat = 1 by decide] at h_47
                refine y_ret1 ?_
                refine y_if_eqT rfl j_X8_pay_127 (by decide) ?_
                refine y_iconst rfl ?_
                refine y_istore (ls' := [some _, some _, some _, some _, some _, some _, _]) rfl rfl rfl ?_
                refine y_aload_n rfl rfl ?_
                refine y_getR rfl (ySh.t hS rfl) (ySh.n hS rfl) rfl rfl (ySh.r hS rfl) ?_
                refine y_getR rfl (ySh.t hS rfl) (ySh.n hS rfl) rfl rfl (ySh.r hS rfl) ?_
                refine y_iload_n rfl rfl ?_
                refine y_ialoadv (J := I 50) rfl (ySh.t hS rfl) (ySh.n hS rfl) (by omega) (by omega) rfl ?_
                refine y_istore (ls' := [some _, some _, some _, some _, some _, some _, some _]) rfl rfl rfl ?_
                refine y_aload_n rfl rfl ?_
                refine y_getR rfl (ySh.t hS rfl) (ySh.n hS rfl) rfl rfl (ySh.r hS rfl) ?_
                refine y_iload rfl rfl ?_
                refine y_bip rfl (by decide) ?_
                refine y_iload_n rfl rfl ?_
                refine y_iload rfl rfl ?_
                refine y_isub rfl ?_
                refine y_virt rfl rfl rfl rfl rfl (ySh.t hS rfl) (ySh.n hS rfl) ?_
                refine y_in (M := xm_X4_move) (ls := [some _, some _, some _, some _]) rfl rfl rfl ?_
                refine y_aload_n rfl rfl ?_
                refine y_iload_n rfl rfl ?_
                refine y_iload_n rfl rfl ?_
                refine y_ineg rfl ?_
                refine y_virt rfl rfl rfl rfl rfl (ySh.t hS rfl) (ySh.n hS rfl) ?_
                refine spx_add hS ?_
                refine y_ret0 ?_
                refine y_nameI (fun I55 e55 => ?_)
                have hC : yCI I55 := by rw [e55]; exact yCI.addC hC
                have hF : yFt I I55 := by rw [e55]; exact hF.addC
                refine y_aload_n rfl rfl ?_
                refine y_iload_n rfl rfl ?_
                refine y_iload_n rfl rfl ?_
                refine y_virt rfl rfl rfl rfl rfl (ySh.t hS rfl) (ySh.n hS rfl) ?_
                refine spx_add hS ?_
                refine y_ret0 ?_
                refine y_nameI (fun I56 e56 => ?_)
                have hC : yCI I56 := by rw [e56]; exact yCI.addC hC
                have hF : yFt I I56 := by rw [e56]; exact hF.addC
                refine y_return rfl ?_
                refine y_ret0 ?_
                refine y_aload_n rfl rfl ?_
                refine y_getR rfl (ySh.t hS rfl) (ySh.n hS rfl) rfl rfl (ySh.r hS rfl) ?_
                refine y_iload rfl rfl ?_
                refine y_iload rfl rfl ?_
                refine y_virt rfl rfl rfl rfl rfl (ySh.t hS rfl) (ySh.n hS rfl) ?_
                refine y_in (M := xm_X4_giveAway) (ls := [some _, some _, some _]) rfl rfl rfl ?_
                refine y_aload_n rfl rfl ?_
                refine y_iload_n rfl rfl ?_
                refine y_iload_n rfl rfl ?_
                refine y_ineg rfl ?_
                refine y_virt rfl rfl rfl rfl rfl (ySh.t hS rfl) (ySh.n hS rfl) ?_
                refine spx_add hS ?_
                refine y_ret0 ?_
                refine y_nameI (fun I57 e57 => ?_)
                have hC : yCI I57 := by rw [e57]; exact yCI.addC hC
                have hF : yFt I I57 := by rw [e57]; exact hF.addC
                refine y_aload_n rfl rfl ?_
                refine y_dup rfl rfl ?_
                refine y_getIv (v := I 38 1) rfl (ySh.t hS rfl) (ySh.n hS rfl) rfl rfl (by rw [e57, yAddC_row (by decide), e56, yAddC_row (by decide), e55, yAddC_row (by decide)]) ?_
                refine y_iload_n rfl rfl ?_
                refine y_iadd rfl ?_
                refine y_putI rfl (ySh.t hS rfl) (ySh.n hS rfl) rfl (Nat.le_of_ble_eq_true rfl) rfl rfl ?_
                refine y_nameI (fun I58 e58 => ?_)
                have hC : yCI I58 := by rw [e58]; exact hC
                have hF : yFt I I58 := by rw [e58]; exact hF.upd (by decide)
                refine y_return rfl ?_
                refine y_ret0 ?_
                refine y_aload_n rfl rfl ?_
                refine y_getR rfl (ySh.t hS rfl) (ySh.n hS rfl) rfl rfl (ySh.r hS rfl) ?_
                refine y_iload_n rfl rfl ?_
                refine y_iload rfl rfl ?_
                refine y_iload rfl rfl ?_
                refine y_virt rfl rfl rfl rfl rfl (ySh.t hS rfl) (ySh.n hS rfl) ?_
                refine y_in (M := xm_X5_settlePart) (ls := [some _, some _, some _, some _]) rfl rfl rfl ?_
                refine y_aload_n rfl rfl ?_
                refine y_getR rfl (ySh.t hS rfl) (ySh.n hS rfl) rfl rfl (ySh.r hS rfl) ?_
                refine y_iload_n rfl rfl ?_
                refine y_dup2 rfl rfl rfl ?_
                refine y_ialoadv (J := I 55) rfl (ySh.t hS rfl) (ySh.n hS rfl) (by omega) (by omega) (by rw [e58, upd2_row (by decide), e57, yAddC_row (by decide), e56, yAddC_row (by decide), e55, yAddC_row (by decide)]) ?_
                refine y_iconst rfl ?_
                refine y_iadd rfl ?_
                refine y_iastore rfl (ySh.t hS rfl) (ySh.n hS rfl) (Nat.le_of_ble_eq_true rfl) (by omega) (by omega) ?_
                refine y_nameI (fun I59 e59 => ?_)
                have hC : yCI I59 := by rw [e59]; exact hC
                have hF : yFt I I59 := by rw [e59]; exact hF.upd (by decide)
                refine y_aload_n rfl rfl ?_
                refine y_getR rfl (ySh.t hS rfl) (ySh.n hS rfl) rfl rfl (ySh.r hS rfl) ?_
                refine y_iload_n rfl rfl ?_
                refine y_dup2 rfl rfl rfl ?_
                refine y_ialoadv (J := I 57) rfl (ySh.t hS rfl) (ySh.n hS rfl) (by omega) (by omega) (by rw [e59, upd2_row (by decide), e58, upd2_row (by decide), e57, yAddC_row (by decide), e56, yAddC_row (by decide), e55, yAddC_row (by decide)]) ?_
                refine y_iload_n rfl rfl ?_
                refine y_iadd rfl ?_
                refine y_iastore rfl (ySh.t hS rfl) (ySh.n hS rfl) (Nat.le_of_ble_eq_true rfl) (by omega) (by omega) ?_
                refine y_nameI (fun I60 e60 => ?_)
                have hC : yCI I60 := by rw [e60]; exact hC
                have hF : yFt I I60 := by rw [e60]; exact hF.upd (by decide)
                refine y_aload_n rfl rfl ?_
                refine y_getR rfl (ySh.t hS rfl) (ySh.n hS rfl) rfl rfl (ySh.r hS rfl) ?_
                refine y_iload_n rfl rfl ?_
                refine y_dup2 rfl rfl rfl ?_
                refine y_ialoadv (J := I 58) rfl (ySh.t hS rfl) (ySh.n hS rfl) (by omega) (by omega) (by rw [e60, upd2_row (by decide), e59, upd2_row (by decide), e58, upd2_row (by decide), e57, yAddC_row (by decide), e56, yAddC_row (by decide), e55, yAddC_row (by decide)]) ?_
                refine y_iload_n rfl rfl ?_
                refine y_iadd rfl ?_
                refine y_iastore rfl (ySh.t hS rfl) (ySh.n hS rfl) (Nat.le_of_ble_eq_true rfl) (by omega) (by omega) ?_
                refine y_nameI (fun I61 e61 => ?_)
                have hC : yCI I61 := by rw [e61]; exact hC
                have hF : yFt I I61 := by rw [e61]; exact hF.upd (by decide)
                refine y_return rfl ?_
                refine y_ret0 ?_
                refine y_iload_n rfl rfl ?_
                refine y_iload rfl rfl ?_
                refine y_isub rfl ?_
                refine y_ireturn rfl rfl rfl ?_
                first | (exfalso; omega) | (exact hQ (by omega) _ _ _ _ _ hC hF hv_7 (show _ = yFe (I 34 8 - (I 56 x1.toInt.toNat + Int32.ofInt 30 * (I 55 x1.toInt.toNat + Int32.ofInt 1))) v_7 (yBC (I 36 2)).toInt from (if_pos (by omega)).symm) (show Int32.ofInt 0 = yRb (I 34 8 - (I 56 x1.toInt.toNat + Int32.ofInt 30 * (I 55 x1.toInt.toNat + Int32.ofInt 1))) v_7 (I 51 x1.toInt.toNat) (yBC (I 36 1)).toInt from (if_neg (by omega)).symm) rfl (by rw [e61, e60, e59, e58, e57, e56, e55]; repeat (first | exact yGc.rf | refine yGc.skipC ?_ (by decide) | refine yGc.skip ?_ (by decide) | refine yGc.both ?_)) (by first | (rw [e61, e60, e59, e58, e57, e56, e55]; done) | (rw [e61, e60, e59, e58, e57, e56, e55]; rfl)))
          · rw [show (Int32.ofInt 2).toInt.toNat = 2 by decide] at h_36
            refine y_ret1 ?_
            refine y_if_eqT rfl j_X8_pay_95 (by decide) ?_
            refine y_iconst rfl ?_
            refine y_istore (ls' := [some _, some _, some _, some _, some _, _, _]) rfl rfl rfl ?_
            refine y_iload_n rfl rfl ?_
            refine y_bip rfl (by decide) ?_
            refine y_icmp_gt rfl j_X8_pay_127 (fun h_62 => ?_) (fun h_63 => ?_)
            · rw [yz_m10] at h_62
              refine y_iconst rfl ?_
              refine y_istore (ls' := [some _, some _, some _, some _, some _, some _, _]) rfl rfl rfl ?_
              refine y_aload_n rfl rfl ?_
              refine y_getR rfl (ySh.t hS rfl) (ySh.n hS rfl) rfl rfl (ySh.r hS rfl) ?_
              refine y_getR rfl (ySh.t hS rfl) (ySh.n hS rfl) rfl rfl (ySh.r hS rfl) ?_
              refine y_iload_n rfl rfl ?_
              refine y_ialoadv (J := I 50) rfl (ySh.t hS rfl) (ySh.n hS rfl) (by omega) (by omega) rfl ?_
              refine y_istore (ls' := [some _, some _, some _, some _, some _, some _, some _]) rfl rfl rfl ?_
              refine y_aload_n rfl rfl ?_
              refine y_getR rfl (ySh.t hS rfl) (ySh.n hS rfl) rfl rfl (ySh.r hS rfl) ?_
              refine y_iload rfl rfl ?_
              refine y_bip rfl (by decide) ?_
              refine y_iload_n rfl rfl ?_
              refine y_iload rfl rfl ?_
              refine y_isub rfl ?_
              refine y_virt rfl rfl rfl rfl rfl (ySh.t hS rfl) (ySh.n hS rfl) ?_
              refine y_in (M := xm_X4_move) (ls := [some _, some _, some _, some _]) rfl rfl rfl ?_
              refine y_aload_n rfl rfl ?_
              refine y_iload_n rfl rfl ?_
              refine y_iload_n rfl rfl ?_
              refine y_ineg rfl ?_
              refine y_virt rfl rfl rfl rfl rfl (ySh.t hS rfl) (ySh.n hS rfl) ?_
              refine spx_add hS ?_
              refine y_ret0 ?_
              refine y_nameI (fun I64 e64 => ?_)
              have hC : yCI I64 := by rw [e64]; exact yCI.addC hC
              have hF : yFt I I64 := by rw [e64]; exact hF.addC
              refine y_aload_n rfl rfl ?_
              refine y_iload_n rfl rfl ?_
              refine y_iload_n rfl rfl ?_
              refine y_virt rfl rfl rfl rfl rfl (ySh.t hS rfl) (ySh.n hS rfl) ?_
              refine spx_add hS ?_
              refine y_ret0 ?_
              refine y_nameI (fun I65 e65 => ?_)
              have hC : yCI I65 := by rw [e65]; exact yCI.addC hC
              have hF : yFt I I65 := by rw [e65]; exact hF.addC
              refine y_return rfl ?_
              refine y_ret0 ?_
              refine y_aload_n rfl rfl ?_
              refine y_getR rfl (ySh.t hS rfl) (ySh.n hS rfl) rfl rfl (ySh.r hS rfl) ?_
              refine y_iload rfl rfl ?_
              refine y_iload rfl rfl ?_
              refine y_virt rfl rfl rfl rfl rfl (ySh.t hS rfl) (ySh.n hS rfl) ?_
              refine y_in (M := xm_X4_giveAway) (ls := [some _, some _, some _]) rfl rfl rfl ?_
              refine y_aload_n rfl rfl ?_
              refine y_iload_n rfl rfl ?_
              refine y_iload_n rfl rfl ?_
              refine y_ineg rfl ?_
              refine y_virt rfl rfl rfl rfl rfl (ySh.t hS rfl) (ySh.n hS rfl) ?_
              refine spx_add hS ?_
              refine y_ret0 ?_
              refine y_nameI (fun I66 e66 => ?_)
              have hC : yCI I66 := by rw [e66]; exact yCI.addC hC
              have hF : yFt I I66 := by rw [e66]; exact hF.addC
              refine y_aload_n rfl rfl ?_
              refine y_dup rfl rfl ?_
              refine y_getIv (v := I 38 1) rfl (ySh.t hS rfl) (ySh.n hS rfl) rfl rfl (by rw [e66, yAddC_row (by decide), e65, yAddC_row (by decide), e64, yAddC_row (by decide)]) ?_
              refine y_iload_n rfl rfl ?_
              refine y_iadd rfl ?_
              refine y_putI rfl (ySh.t hS rfl) (ySh.n hS rfl) rfl (Nat.le_of_ble_eq_true rfl) rfl rfl ?_
              refine y_nameI (fun I67 e67 => ?_)
              have hC : yCI I67 := by rw [e67]; exact hC
              have hF : yFt I I67 := by rw [e67]; exact hF.upd (by decide)
              refine y_return rfl ?_
              refine y_ret0 ?_
              refine y_aload_n rfl rfl ?_
              refine y_getR rfl (ySh.t hS rfl) (ySh.n hS rfl) rfl rfl (ySh.r hS rfl) ?_
              refine y_iload_n rfl rfl ?_
              refine y_iload rfl rfl ?_
              refine y_iload rfl rfl ?_
              refine y_virt rfl rfl rfl rfl rfl (ySh.t hS rfl) (ySh.n hS rfl) ?_
              refine y_in (M := xm_X5_settlePart) (ls := [some _, some _, some _, some _]) rfl rfl rfl ?_
              refine y_aload_n rfl rfl ?_
              refine y_getR rfl (ySh.t hS rfl) (ySh.n hS rfl) rfl rfl (ySh.r hS rfl) ?_
              refine y_iload_n rfl rfl ?_
              refine y_dup2 rfl rfl rfl ?_
              refine y_ialoadv (J := I 55) rfl (ySh.t hS rfl) (ySh.n hS rfl) (by omega) (by omega) (by rw [e67, upd2_row (by decide), e66, yAddC_row (by decide), e65, yAddC_row (by decide), e64, yAddC_row (by decide)]) ?_
              refine y_iconst rfl ?_
              refine y_iadd rfl ?_
              refine y_iastore rfl (ySh.t hS rfl) (ySh.n hS rfl) (Nat.le_of_ble_eq_true rfl) (by omega) (by omega) ?_
              refine y_nameI (fun I68 e68 => ?_)
              have hC : yCI I68 := by rw [e68]; exact hC
              have hF : yFt I I68 := by rw [e68]; exact hF.upd (by decide)
              refine y_aload_n rfl rfl ?_
              refine y_getR rfl (ySh.t hS rfl) (ySh.n hS rfl) rfl rfl (ySh.r hS rfl) ?_
              refine y_iload_n rfl rfl ?_
              refine y_dup2 rfl rfl rfl ?_
              refine y_ialoadv (J := I 57) rfl (ySh.t hS rfl) (ySh.n hS rfl) (by omega) (by omega) (by rw [e68, upd2_row (by decide), e67, upd2_row (by decide), e66, yAddC_row (by decide), e65, yAddC_row (by decide), e64, yAddC_row (by decide)]) ?_
              refine y_iload_n rfl rfl ?_
              refine y_iadd rfl ?_
              refine y_iastore rfl (ySh.t hS rfl) (ySh.n hS rfl) (Nat.le_of_ble_eq_true rfl) (by omega) (by omega) ?_
              refine y_nameI (fun I69 e69 => ?_)
              have hC : yCI I69 := by rw [e69]; exact hC
              have hF : yFt I I69 := by rw [e69]; exact hF.upd (by decide)
              refine y_aload_n rfl rfl ?_
              refine y_getR rfl (ySh.t hS rfl) (ySh.n hS rfl) rfl rfl (ySh.r hS rfl) ?_
              refine y_iload_n rfl rfl ?_
              refine y_dup2 rfl rfl rfl ?_
              refine y_ialoadv (J := I 58) rfl (ySh.t hS rfl) (ySh.n hS rfl) (by omega) (by omega) (by rw [e69, upd2_row (by decide), e68, upd2_row (by decide), e67, upd2_row (by decide), e66, yAddC_row (by decide), e65, yAddC_row (by decide), e64, yAddC_row (by decide)]) ?_
              refine y_iload_n rfl rfl ?_
              refine y_iadd rfl ?_
              refine y_iastore rfl (ySh.t hS rfl) (ySh.n hS rfl) (Nat.le_of_ble_eq_true rfl) (by omega) (by omega) ?_
              refine y_nameI (fun I70 e70 => ?_)
              have hC : yCI I70 := by rw [e70]; exact hC
              have hF : yFt I I70 := by rw [e70]; exact hF.upd (by decide)
              refine y_return rfl ?_
              refine y_ret0 ?_
              refine y_iload_n rfl rfl ?_
              refine y_iload rfl rfl ?_
              refine y_isub rfl ?_
              refine y_ireturn rfl rfl rfl ?_
              first | (exfalso; omega) | (exact hQ (by omega) _ _ _ _ _ hC hF hv_7 (show Int32.ofInt 0 = yFe (I 34 8 - (I 56 x1.toInt.toNat + Int32.ofInt 30 * (I 55 x1.toInt.toNat + Int32.ofInt 1))) v_7 (yBC (I 36 2)).toInt from (if_neg (by omega)).symm) (show Int32.ofInt 0 = yRb (I 34 8 - (I 56 x1.toInt.toNat + Int32.ofInt 30 * (I 55 x1.toInt.toNat + Int32.ofInt 1))) v_7 (I 51 x1.toInt.toNat) (yBC (I 36 1)).toInt from (if_neg (by omega)).symm) rfl (by rw [e70, e69, e68, e67, e66, e65, e64]; repeat (first | exact yGc.rf | refine yGc.skipC ?_ (by decide) | refine yGc.skip ?_ (by decide) | refine yGc.both ?_)) (by first | (rw [e70, e69, e68, e67, e66, e65, e64]; done) | (rw [e70, e69, e68, e67, e66, e65, e64]; rfl)))
            · rw [yz_m10] at h_63
              refine y_aload_n rfl rfl ?_
              refine y_getR rfl (ySh.t hS rfl) (ySh.n hS rfl) rfl rfl (ySh.r hS rfl) ?_
              refine y_iconst rfl ?_
              refine y_virt rfl rfl rfl rfl rfl (ySh.t hS rfl) (ySh.n hS rfl) ?_
              refine sp_isAllowedNow hS (by decide) (by decide) (fun h_71 => ?_) (fun h_72 => ?_)
              · rw [show (Int32.ofInt 1).toInt.toNat = 1 by decide] at h_71
                refine y_ret1 ?_
                refine y_if_eqF rfl (by decide) ?_
                refine y_aload_n rfl rfl ?_
                refine y_getR rfl (ySh.t hS rfl) (ySh.n hS rfl) rfl rfl (ySh.r hS rfl) ?_
                refine y_iload_n rfl rfl ?_
                refine y_iload_n rfl rfl ?_
                refine y_virt rfl rfl rfl rfl rfl (ySh.t hS rfl) (ySh.n hS rfl) ?_
                refine y_in (M := xm_X5_rebate) (ls := [some _, some _, some _]) rfl rfl rfl ?_
                refine y_aload_n rfl rfl ?_
                refine y_getR rfl (ySh.t hS rfl) (ySh.n hS rfl) rfl rfl (ySh.r hS rfl) ?_
                refine y_iload_n rfl rfl ?_
                refine y_ialoadv (J := I 51) rfl (ySh.t hS rfl) (ySh.n hS rfl) (by omega) (by omega) rfl ?_
                refine y_i2l rfl ?_
                refine y_iload_n rfl rfl ?_
                refine y_i2l rfl ?_
                refine y_bip rfl (by decide) ?_
                refine y_aload_n rfl rfl ?_
                refine y_getR rfl (ySh.t hS rfl) (ySh.n hS rfl) rfl rfl (ySh.r hS rfl) ?_
                refine y_iload_n rfl rfl ?_
                refine y_ialoadv (J := I 51) rfl (ySh.t hS rfl) (ySh.n hS rfl) (by omega) (by omega) rfl ?_
                refine y_iadd rfl ?_
                refine y_i2l rfl ?_
                refine y_static rfl rfl rfl rfl rfl ?_
                refine sp_portion ?_
                refine y_ret1 ?_
                refine y_iconst rfl ?_
                refine y_idiv rfl (by decide) ?_
                refine y_ireturn rfl rfl rfl ?_
                refine y_ret1 ?_
                refine y_goto rfl j_X8_pay_128 ?_
                refine y_istore (ls' := [some _, some _, some _, some _, some _, some _, _]) rfl rfl rfl ?_
                refine y_aload_n rfl rfl ?_
                refine y_getR rfl (ySh.t hS rfl) (ySh.n hS rfl) rfl rfl (ySh.r hS rfl) ?_
                refine y_getR rfl (ySh.t hS rfl) (ySh.n hS rfl) rfl rfl (ySh.r hS rfl) ?_
                refine y_iload_n rfl rfl ?_
                refine y_ialoadv (J := I 50) rfl (ySh.t hS rfl) (ySh.n hS rfl) (by omega) (by omega) rfl ?_
                refine y_istore (ls' := [some _, some _, some _, some _, some _, some _, some _]) rfl rfl rfl ?_
                refine y_aload_n rfl rfl ?_
                refine y_getR rfl (ySh.t hS rfl) (ySh.n hS rfl) rfl rfl (ySh.r hS rfl) ?_
                refine y_iload rfl rfl ?_
                refine y_bip rfl (by decide) ?_
                refine y_iload_n rfl rfl ?_
                refine y_iload rfl rfl ?_
                refine y_isub rfl ?_
                refine y_virt rfl rfl rfl rfl rfl (ySh.t hS rfl) (ySh.n hS rfl) ?_
                refine y_in (M := xm_X4_move) (ls := [some _, some _, some _, some _]) rfl rfl rfl ?_
                refine y_aload_n rfl rfl ?_
                refine y_iload_n rfl rfl ?_
                refine y_iload_n rfl rfl ?_
                refine y_ineg rfl ?_
                refine y_virt rfl rfl rfl rfl rfl (ySh.t hS rfl) (ySh.n hS rfl) ?_
                refine spx_add hS ?_
                refine y_ret0 ?_
                refine y_nameI (fun I73 e73 => ?_)
                have hC : yCI I73 := by rw [e73]; exact yCI.addC hC
                have hF : yFt I I73 := by rw [e73]; exact hF.addC
                refine y_aload_n rfl rfl ?_
                refine y_iload_n rfl rfl ?_
                refine y_iload_n rfl rfl ?_
                refine y_virt rfl rfl rfl rfl rfl (ySh.t hS rfl) (ySh.n hS rfl) ?_
                refine spx_add hS ?_
                refine y_ret0 ?_
                refine y_nameI (fun I74 e74 => ?_)
                have hC : yCI I74 := by rw [e74]; exact yCI.addC hC
                have hF : yFt I I74 := by rw [e74]; exact hF.addC
                refine y_return rfl ?_
                refine y_ret0 ?_
                refine y_aload_n rfl rfl ?_
                refine y_getR rfl (ySh.t hS rfl) (ySh.n hS rfl) rfl rfl (ySh.r hS rfl) ?_
                refine y_iload rfl rfl ?_
                refine y_iload rfl rfl ?_
                refine y_virt rfl rfl rfl rfl rfl (ySh.t hS rfl) (ySh.n hS rfl) ?_
                refine y_in (M := xm_X4_giveAway) (ls := [some _, some _, some _]) rfl rfl rfl ?_
                refine y_aload_n rfl rfl ?_
                refine y_iload_n rfl rfl ?_
                refine y_iload_n rfl rfl ?_
                refine y_ineg rfl ?_
                refine y_virt rfl rfl rfl rfl rfl (ySh.t hS rfl) (ySh.n hS rfl) ?_
                refine spx_add hS ?_
                refine y_ret0 ?_
                refine y_nameI (fun I75 e75 => ?_)
                have hC : yCI I75 := by rw [e75]; exact yCI.addC hC
                have hF : yFt I I75 := by rw [e75]; exact hF.addC
                refine y_aload_n rfl rfl ?_
                refine y_dup rfl rfl ?_
                refine y_getIv (v := I 38 1) rfl (ySh.t hS rfl) (ySh.n hS rfl) rfl rfl (by rw [e75, yAddC_row (by decide), e74, yAddC_row (by decide), e73, yAddC_row (by decide)]) ?_
                refine y_iload_n rfl rfl ?_
                refine y_iadd rfl ?_
                refine y_putI rfl (ySh.t hS rfl) (ySh.n hS rfl) rfl (Nat.le_of_ble_eq_true rfl) rfl rfl ?_
                refine y_nameI (fun I76 e76 => ?_)
                have hC : yCI I76 := by rw [e76]; exact hC
                have hF : yFt I I76 := by rw [e76]; exact hF.upd (by decide)
                refine y_return rfl ?_
                refine y_ret0 ?_
                refine y_aload_n rfl rfl ?_
                refine y_getR rfl (ySh.t hS rfl) (ySh.n hS rfl) rfl rfl (ySh.r hS rfl) ?_
                refine y_iload_n rfl rfl ?_
                refine y_iload rfl rfl ?_
                refine y_iload rfl rfl ?_
                refine y_virt rfl rfl rfl rfl rfl (ySh.t hS rfl) (ySh.n hS rfl) ?_
                refine y_in (M := xm_X5_settlePart) (ls := [some _, some _, some _, some _]) rfl rfl rfl ?_
                refine y_aload_n rfl rfl ?_
                refine y_getR rfl (ySh.t hS rfl) (ySh.n hS rfl) rfl rfl (ySh.r hS rfl) ?_
                refine y_iload_n rfl rfl ?_
                refine y_dup2 rfl rfl rfl ?_
                refine y_ialoadv (J := I 55) rfl (ySh.t hS rfl) (ySh.n hS rfl) (by omega) (by omega) (by rw [e76, upd2_row (by decide), e75, yAddC_row (by decide), e74, yAddC_row (by decide), e73, yAddC_row (by decide)]) ?_
                refine y_iconst rfl ?_
                refine y_iadd rfl ?_
                refine y_iastore rfl (ySh.t hS rfl) (ySh.n hS rfl) (Nat.le_of_ble_eq_true rfl) (by omega) (by omega) ?_
                refine y_nameI (fun I77 e77 => ?_)
                have hC : yCI I77 := by rw [e77]; exact hC
                have hF : yFt I I77 := by rw [e77]; exact hF.upd (by decide)
                refine y_aload_n rfl rfl ?_
                refine y_getR rfl (ySh.t hS rfl) (ySh.n hS rfl) rfl rfl (ySh.r hS rfl) ?_
                refine y_iload_n rfl rfl ?_
                refine y_dup2 rfl rfl rfl ?_
                refine y_ialoadv (J := I 57) rfl (ySh.t hS rfl) (ySh.n hS rfl) (by omega) (by omega) (by rw [e77, upd2_row (by decide), e76, upd2_row (by decide), e75, yAddC_row (by decide), e74, yAddC_row (by decide), e73, yAddC_row (by decide)]) ?_
                refine y_iload_n rfl rfl ?_
                refine y_iadd rfl ?_
                refine y_iastore rfl (ySh.t hS rfl) (ySh.n hS rfl) (Nat.le_of_ble_eq_true rfl) (by omega) (by omega) ?_
                refine y_nameI (fun I78 e78 => ?_)
                have hC : yCI I78 := by rw [e78]; exact hC
                have hF : yFt I I78 := by rw [e78]; exact hF.upd (by decide)
                refine y_aload_n rfl rfl ?_
                refine y_getR rfl (ySh.t hS rfl) (ySh.n hS rfl) rfl rfl (ySh.r hS rfl) ?_
                refine y_iload_n rfl rfl ?_
                refine y_dup2 rfl rfl rfl ?_
                refine y_ialoadv (J := I 58) rfl (ySh.t hS rfl) (ySh.n hS rfl) (by omega) (by omega) (by rw [e78, upd2_row (by decide), e77, upd2_row (by decide), e76, upd2_row (by decide), e75, yAddC_row (by decide), e74, yAddC_row (by decide), e73, yAddC_row (by decide)]) ?_
                refine y_iload_n rfl rfl ?_
                refine y_iadd rfl ?_
                refine y_iastore rfl (ySh.t hS rfl) (ySh.n hS rfl) (Nat.le_of_ble_eq_true rfl) (by omega) (by omega) ?_
                refine y_nameI (fun I79 e79 => ?_)
                have hC : yCI I79 := by rw [e79]; exact hC
                have hF : yFt I I79 := by rw [e79]; exact hF.upd (by decide)
                refine y_return rfl ?_
                refine y_ret0 ?_
                refine y_iload_n rfl rfl ?_
                refine y_iload rfl rfl ?_
                refine y_isub rfl ?_
                refine y_ireturn rfl rfl rfl ?_
                first | (exfalso; omega) | (exact hQ (by omega) _ _ _ _ _ hC hF hv_7 (show Int32.ofInt 0 = yFe (I 34 8 - (I 56 x1.toInt.toNat + Int32.ofInt 30 * (I 55 x1.toInt.toNat + Int32.ofInt 1))) v_7 (yBC (I 36 2)).toInt from (if_neg (by omega)).symm) ((congrArg (· / Int32.ofInt 2) (yPor_rb (by omega) (by omega) (by rw [hv_7]; exact (yPa_bd (by omega) (by omega) (by omega) (by omega)).1) (by rw [hv_7]; exact (yPa_bd (by omega) (by omega) (by omega) (by omega)).2))).trans (show _ = yRb (I 34 8 - (I 56 x1.toInt.toNat + Int32.ofInt 30 * (I 55 x1.toInt.toNat + Int32.ofInt 1))) v_7 (I 51 x1.toInt.toNat) (yBC (I 36 1)).toInt from (if_pos (by omega)).symm)) rfl (by rw [e79, e78, e77, e76, e75, e74, e73]; repeat (first | exact yGc.rf | refine yGc.skipC ?_ (by decide) | refine yGc.skip ?_ (by decide) | refine yGc.both ?_)) (by first | (rw [e79, e78, e77, e76, e75, e74, e73]; done) | (rw [e79, e78, e77, e76, e75, e74, e73]; rfl)))
              · rw [show (Int32.ofInt 1).toInt.toNat = 1 by decide] at h_72
                refine y_ret1 ?_
                refine y_if_eqT rfl j_X8_pay_127 (by decide) ?_
                refine y_iconst rfl ?_
                refine y_istore (ls' := [some _, some _, some _, some _, some _, some _, _]) rfl rfl rfl ?_
                refine y_aload_n rfl rfl ?_
                refine y_getR rfl (ySh.t hS rfl) (ySh.n hS rfl) rfl rfl (ySh.r hS rfl) ?_
                refine y_getR rfl (ySh.t hS rfl) (ySh.n hS rfl) rfl rfl (ySh.r hS rfl) ?_
                refine y_iload_n rfl rfl ?_
                refine y_ialoadv (J := I 50) rfl (ySh.t hS rfl) (ySh.n hS rfl) (by omega) (by omega) rfl ?_
                refine y_istore (ls' := [some _, some _, some _, some _, some _, some _, some _]) rfl rfl rfl ?_
                refine y_aload_n rfl rfl ?_
                refine y_getR rfl (ySh.t hS rfl) (ySh.n hS rfl) rfl rfl (ySh.r hS rfl) ?_
                refine y_iload rfl rfl ?_
                refine y_bip rfl (by decide) ?_
                refine y_iload_n rfl rfl ?_
                refine y_iload rfl rfl ?_
                refine y_isub rfl ?_
                refine y_virt rfl rfl rfl rfl rfl (ySh.t hS rfl) (ySh.n hS rfl) ?_
                refine y_in (M := xm_X4_move) (ls := [some _, some _, some _, some _]) rfl rfl rfl ?_
                refine y_aload_n rfl rfl ?_
                refine y_iload_n rfl rfl ?_
                refine y_iload_n rfl rfl ?_
                refine y_ineg rfl ?_
                refine y_virt rfl rfl rfl rfl rfl (ySh.t hS rfl) (ySh.n hS rfl) ?_
                refine spx_add hS ?_
                refine y_ret0 ?_
                refine y_nameI (fun I80 e80 => ?_)
                have hC : yCI I80 := by rw [e80]; exact yCI.addC hC
                have hF : yFt I I80 := by rw [e80]; exact hF.addC
                refine y_aload_n rfl rfl ?_
                refine y_iload_n rfl rfl ?_
                refine y_iload_n rfl rfl ?_
                refine y_virt rfl rfl rfl rfl rfl (ySh.t hS rfl) (ySh.n hS rfl) ?_
                refine spx_add hS ?_
                refine y_ret0 ?_
                refine y_nameI (fun I81 e81 => ?_)
                have hC : yCI I81 := by rw [e81]; exact yCI.addC hC
                have hF : yFt I I81 := by rw [e81]; exact hF.addC
                refine y_return rfl ?_
                refine y_ret0 ?_
                refine y_aload_n rfl rfl ?_
                refine y_getR rfl (ySh.t hS rfl) (ySh.n hS rfl) rfl rfl (ySh.r hS rfl) ?_
                refine y_iload rfl rfl ?_
                refine y_iload rfl rfl ?_
                refine y_virt rfl rfl rfl rfl rfl (ySh.t hS rfl) (ySh.n hS rfl) ?_
                refine y_in (M := xm_X4_giveAway) (ls := [some _, some _, some _]) rfl rfl rfl ?_
                refine y_aload_n rfl rfl ?_
                refine y_iload_n rfl rfl ?_
                refine y_iload_n rfl rfl ?_
                refine y_ineg rfl ?_
                refine y_virt rfl rfl rfl rfl rfl (ySh.t hS rfl) (ySh.n hS rfl) ?_
                refine spx_add hS ?_
                refine y_ret0 ?_
                refine y_nameI (fun I82 e82 => ?_)
                have hC : yCI I82 := by rw [e82]; exact yCI.addC hC
                have hF : yFt I I82 := by rw [e82]; exact hF.addC
                refine y_aload_n rfl rfl ?_
                refine y_dup rfl rfl ?_
                refine y_getIv (v := I 38 1) rfl (ySh.t hS rfl) (ySh.n hS rfl) rfl rfl (by rw [e82, yAddC_row (by decide), e81, yAddC_row (by decide), e80, yAddC_row (by decide)]) ?_
                refine y_iload_n rfl rfl ?_
                refine y_iadd rfl ?_
                refine y_putI rfl (ySh.t hS rfl) (ySh.n hS rfl) rfl (Nat.le_of_ble_eq_true rfl) rfl rfl ?_
                refine y_nameI (fun I83 e83 => ?_)
                have hC : yCI I83 := by rw [e83]; exact hC
                have hF : yFt I I83 := by rw [e83]; exact hF.upd (by decide)
                refine y_return rfl ?_
                refine y_ret0 ?_
                refine y_aload_n rfl rfl ?_
                refine y_getR rfl (ySh.t hS rfl) (ySh.n hS rfl) rfl rfl (ySh.r hS rfl) ?_
                refine y_iload_n rfl rfl ?_
                refine y_iload rfl rfl ?_
                refine y_iload rfl rfl ?_
                refine y_virt rfl rfl rfl rfl rfl (ySh.t hS rfl) (ySh.n hS rfl) ?_
                refine y_in (M := xm_X5_settlePart) (ls := [some _, some _, some _, some _]) rfl rfl rfl ?_
                refine y_aload_n rfl rfl ?_
                refine y_getR rfl (ySh.t hS rfl) (ySh.n hS rfl) rfl rfl (ySh.r hS rfl) ?_
                refine y_iload_n rfl rfl ?_
                refine y_dup2 rfl rfl rfl ?_
                refine y_ialoadv (J := I 55) rfl (ySh.t hS rfl) (ySh.n hS rfl) (by omega) (by omega) (by rw [e83, upd2_row (by decide), e82, yAddC_row (by decide), e81, yAddC_row (by decide), e80, yAddC_row (by decide)]) ?_
                refine y_iconst rfl ?_
                refine y_iadd rfl ?_
                refine y_iastore rfl (ySh.t hS rfl) (ySh.n hS rfl) (Nat.le_of_ble_eq_true rfl) (by omega) (by omega) ?_
                refine y_nameI (fun I84 e84 => ?_)
                have hC : yCI I84 := by rw [e84]; exact hC
                have hF : yFt I I84 := by rw [e84]; exact hF.upd (by decide)
                refine y_aload_n rfl rfl ?_
                refine y_getR rfl (ySh.t hS rfl) (ySh.n hS rfl) rfl rfl (ySh.r hS rfl) ?_
                refine y_iload_n rfl rfl ?_
                refine y_dup2 rfl rfl rfl ?_
                refine y_ialoadv (J := I 57) rfl (ySh.t hS rfl) (ySh.n hS rfl) (by omega) (by omega) (by rw [e84, upd2_row (by decide), e83, upd2_row (by decide), e82, yAddC_row (by decide), e81, yAddC_row (by decide), e80, yAddC_row (by decide)]) ?_
                refine y_iload_n rfl rfl ?_
                refine y_iadd rfl ?_
                refine y_iastore rfl (ySh.t hS rfl) (ySh.n hS rfl) (Nat.le_of_ble_eq_true rfl) (by omega) (by omega) ?_
                refine y_nameI (fun I85 e85 => ?_)
                have hC : yCI I85 := by rw [e85]; exact hC
                have hF : yFt I I85 := by rw [e85]; exact hF.upd (by decide)
                refine y_aload_n rfl rfl ?_
                refine y_getR rfl (ySh.t hS rfl) (ySh.n hS rfl) rfl rfl (ySh.r hS rfl) ?_
                refine y_iload_n rfl rfl ?_
                refine y_dup2 rfl rfl rfl ?_
                refine y_ialoadv (J := I 58) rfl (ySh.t hS rfl) (ySh.n hS rfl) (by omega) (by omega) (by rw [e85, upd2_row (by decide), e84, upd2_row (by decide), e83, upd2_row (by decide), e82, yAddC_row (by decide), e81, yAddC_row (by decide), e80, yAddC_row (by decide)]) ?_
                refine y_iload_n rfl rfl ?_
                refine y_iadd rfl ?_
                refine y_iastore rfl (ySh.t hS rfl) (ySh.n hS rfl) (Nat.le_of_ble_eq_true rfl) (by omega) (by omega) ?_
                refine y_nameI (fun I86 e86 => ?_)
                have hC : yCI I86 := by rw [e86]; exact hC
                have hF : yFt I I86 := by rw [e86]; exact hF.upd (by decide)
                refine y_return rfl ?_
                refine y_ret0 ?_
                refine y_iload_n rfl rfl ?_
                refine y_iload rfl rfl ?_
                refine y_isub rfl ?_
                refine y_ireturn rfl rfl rfl ?_
                first | (exfalso; omega) | (exact hQ (by omega) _ _ _ _ _ hC hF hv_7 (show Int32.ofInt 0 = yFe (I 34 8 - (I 56 x1.toInt.toNat + Int32.ofInt 30 * (I 55 x1.toInt.toNat + Int32.ofInt 1))) v_7 (yBC (I 36 2)).toInt from (if_neg (by omega)).symm) (show Int32.ofInt 0 = yRb (I 34 8 - (I 56 x1.toInt.toNat + Int32.ofInt 30 * (I 55 x1.toInt.toNat + Int32.ofInt 1))) v_7 (I 51 x1.toInt.toNat) (yBC (I 36 1)).toInt from (if_neg (by omega)).symm) rfl (by rw [e86, e85, e84, e83, e82, e81, e80]; repeat (first | exact yGc.rf | refine yGc.skipC ?_ (by decide) | refine yGc.skip ?_ (by decide) | refine yGc.both ?_)) (by first | (rw [e86, e85, e84, e83, e82, e81, e80]; done) | (rw [e86, e85, e84, e83, e82, e81, e80]; rfl)))
      · refine y_ret1 ?_
        refine y_if_neF rfl (by decide) ?_
        refine y_throw rfl rfl rfl ?_
        exact hE2 (by omega)
theorem g_person (hS : ySh n tg R) (hC : yCI I) {x1 : Int32} (hE1 : ¬ (0 ≤ x1.toInt ∧ x1.toInt ≤ 9999) → Q (.inr "java/lang/IllegalArgumentException") (n, tg, I, R) (c + 1) (s + 6)) (hE2 : (0 ≤ x1.toInt ∧ x1.toInt ≤ 9999) ∧ (I 38 0).toInt = 8 → Q (.inr "java/lang/IllegalStateException") (n, tg, I, R) (c + 1) (s + 6)) (hQ : (0 ≤ x1.toInt ∧ x1.toInt ≤ 9999) ∧ (I 38 0).toInt < 8 → ∀ (v : Int32) (I1 : Nat → Nat → Int32), yCI I1 → yFt I I1 → v = I 38 0 → yGc yTL I1 I → I1 = (upd2 (upd2 I 39 (I 38 0).toInt.toNat x1) 38 0 (I 38 0 + Int32.ofInt 1)) → Q (.inl (some (.int v))) (n, tg, I1, R) c s) : yC 122 [.ref 34, .int x1] (n, tg, I, R) c s Q := by
  have hF : yFt I I := yFt.rf
  refine y_in (M := xm_X8_person) (ls := [some _, some _]) rfl rfl rfl ?_
  refine y_iload_n rfl rfl ?_
  refine y_iconst rfl ?_
  refine y_sip rfl (by decide) ?_
  refine y_static rfl rfl rfl rfl rfl ?_
  refine s_isIn (fun h_1 h_2 => ?_) (fun h_3 => ?_)
  · rw [yz_0] at h_1
    rw [yz_9999] at h_2
    refine y_ret1 ?_
    refine y_if_neT rfl j_X8_person_21 (by decide) ?_
    refine y_aload_n rfl rfl ?_
    refine y_getR rfl (ySh.t hS rfl) (ySh.n hS rfl) rfl rfl (ySh.r hS rfl) ?_
    refine y_getIv (v := I 38 0) rfl (ySh.t hS rfl) (ySh.n hS rfl) rfl rfl rfl ?_
    refine y_bip rfl (by decide) ?_
    refine y_icmp_lt rfl j_X8_person_43 (fun h_4 => ?_) (fun h_5 => ?_)
    · rw [yz_8] at h_4
      refine y_aload_n rfl rfl ?_
      refine y_getR rfl (ySh.t hS rfl) (ySh.n hS rfl) rfl rfl (ySh.r hS rfl) ?_
      refine y_iload_n rfl rfl ?_
      refine y_virt rfl rfl rfl rfl rfl (ySh.t hS rfl) (ySh.n hS rfl) ?_
      refine y_in (M := xm_X4_open) (ls := [some _, some _]) rfl rfl rfl ?_
      refine y_aload_n rfl rfl ?_
      refine y_getR rfl (ySh.t hS rfl) (ySh.n hS rfl) rfl rfl (ySh.r hS rfl) ?_
      refine y_aload_n rfl rfl ?_
      refine y_getIv (v := I 38 0) rfl (ySh.t hS rfl) (ySh.n hS rfl) rfl rfl rfl ?_
      refine y_iload_n rfl rfl ?_
      refine y_iastore rfl (ySh.t hS rfl) (ySh.n hS rfl) (Nat.le_of_ble_eq_true rfl) (by omega) (by omega) ?_
      refine y_nameI (fun I6 e6 => ?_)
      have hC : yCI I6 := by rw [e6]; exact hC
      have hF : yFt I I6 := by rw [e6]; exact hF.upd (by decide)
      refine y_aload_n rfl rfl ?_
      refine y_dup rfl rfl ?_
      refine y_getIv (v := I 38 0) rfl (ySh.t hS rfl) (ySh.n hS rfl) rfl rfl (by rw [e6, upd2_ne (.inl (by decide))]) ?_
      refine y_dup_x1 rfl rfl rfl ?_
      refine y_iconst rfl ?_
      refine y_iadd rfl ?_
      refine y_putI rfl (ySh.t hS rfl) (ySh.n hS rfl) rfl (Nat.le_of_ble_eq_true rfl) rfl rfl ?_
      refine y_nameI (fun I7 e7 => ?_)
      have hC : yCI I7 := by rw [e7]; exact yCI.inc38v hC (by rw [e6, upd2_ne (.inl (by decide))]) (by omega)
      have hF : yFt I I7 := by rw [e7]; exact hF.upd (by decide)
      refine y_ireturn rfl rfl rfl ?_
      refine y_ret1 ?_
      refine y_ireturn rfl rfl rfl ?_
      first | (exfalso; omega) | (exact hQ (by omega) _ _ hC hF rfl (by rw [e7, e6]; repeat (first | exact yGc.rf | refine yGc.skipC ?_ (by decide) | refine yGc.skip ?_ (by decide) | refine yGc.both ?_)) (by first | (rw [e7, e6]; done) | (rw [e7, e6]; rfl)))
    · rw [yz_8] at h_5
      refine y_throw rfl rfl rfl ?_
      exact hE2 (by omega)
  · rw [yz_0] at h_3
    rw [yz_9999] at h_3
    refine y_ret1 ?_
    refine y_if_neF rfl (by decide) ?_
    refine y_throw rfl rfl rfl ?_
    exact hE1 (by omega)
theorem g_benchmark (hS : ySh n tg R) (hC : yCI I) {x1 : Int32} (hE1 : ¬ (0 ≤ x1.toInt ∧ x1.toInt ≤ 99) → Q (.inr "java/lang/IllegalArgumentException") (n, tg, I, R) (c + 1) (s + 6)) (hQ : (0 ≤ x1.toInt ∧ x1.toInt ≤ 99) → ∀ (v : Int32) (I1 : Nat → Nat → Int32), yCI I1 → yFt I I1 → v = I 34 9 → yGc yTL I1 I → I1 = (upd2 I 34 9 x1) → Q (.inl (some (.int v))) (n, tg, I1, R) c s) : yC 129 [.ref 34, .int x1] (n, tg, I, R) c s Q := by
  have hF : yFt I I := yFt.rf
  refine y_in (M := xm_X8_benchmark) (ls := [some _, some _, _]) rfl rfl rfl ?_
  refine y_iload_n rfl rfl ?_
  refine y_iconst rfl ?_
  refine y_bip rfl (by decide) ?_
  refine y_static rfl rfl rfl rfl rfl ?_
  refine s_isIn (fun h_1 h_2 => ?_) (fun h_3 => ?_)
  · rw [yz_0] at h_1
    rw [yz_99] at h_2
    refine y_ret1 ?_
    refine y_if_neT rfl j_X8_benchmark_20 (by decide) ?_
    refine y_aload_n rfl rfl ?_
    refine y_getIv (v := I 34 9) rfl (ySh.t hS rfl) (ySh.n hS rfl) rfl rfl rfl ?_
    refine y_istore_n (ls' := [some _, some _, some _]) rfl rfl rfl ?_
    refine y_aload_n rfl rfl ?_
    refine y_iload_n rfl rfl ?_
    refine y_putI rfl (ySh.t hS rfl) (ySh.n hS rfl) rfl (Nat.le_of_ble_eq_true rfl) rfl rfl ?_
    refine y_nameI (fun I4 e4 => ?_)
    have hC : yCI I4 := by rw [e4]; exact hC
    have hF : yFt I I4 := by rw [e4]; exact hF.upd (by decide)
    refine y_iload_n rfl rfl ?_
    refine y_ireturn rfl rfl rfl ?_
    first | (exfalso; omega) | (exact hQ (by omega) _ _ hC hF rfl (by rw [e4]; repeat (first | exact yGc.rf | refine yGc.skipC ?_ (by decide) | refine yGc.skip ?_ (by decide) | refine yGc.both ?_)) (by first | (rw [e4]; done) | (rw [e4]; rfl)))
  · rw [yz_0] at h_3
    rw [yz_99] at h_3
    refine y_ret1 ?_
    refine y_if_neF rfl (by decide) ?_
    refine y_throw rfl rfl rfl ?_
    exact hE1 (by omega)
theorem g_venture (hS : ySh n tg R) (hC : yCI I) (hE2 : (I 69 0).toInt = 6 → Q (.inr "java/lang/IllegalStateException") (n, tg, I, R) (c + 1) (s + 6)) (hQ : (I 69 0).toInt < 6 → ∀ (v : Int32) (I1 : Nat → Nat → Int32), yCI I1 → yFt I I1 → v = I 69 0 → yGc yTL I1 I → I1 = (upd2 I 69 0 (I 69 0 + Int32.ofInt 1)) → Q (.inl (some (.int v))) (n, tg, I1, R) c s) : yC 132 [.ref 34] (n, tg, I, R) c s Q := by
  have hF : yFt I I := yFt.rf
  refine y_in (M := xm_X8_venture) (ls := [some _]) rfl rfl rfl ?_
  refine y_aload_n rfl rfl ?_
  refine y_getR rfl (ySh.t hS rfl) (ySh.n hS rfl) rfl rfl (ySh.r hS rfl) ?_
  refine y_getIv (v := I 69 0) rfl (ySh.t hS rfl) (ySh.n hS rfl) rfl rfl rfl ?_
  refine y_bip rfl (by decide) ?_
  refine y_icmp_lt rfl j_X8_venture_22 (fun h_1 => ?_) (fun h_2 => ?_)
  · rw [yz_6] at h_1
    refine y_aload_n rfl rfl ?_
    refine y_getR rfl (ySh.t hS rfl) (ySh.n hS rfl) rfl rfl (ySh.r hS rfl) ?_
    refine y_virt rfl rfl rfl rfl rfl (ySh.t hS rfl) (ySh.n hS rfl) ?_
    refine y_in (M := xm_X7_begin) (ls := [some _]) rfl rfl rfl ?_
    refine y_aload_n rfl rfl ?_
    refine y_dup rfl rfl ?_
    refine y_getIv (v := I 69 0) rfl (ySh.t hS rfl) (ySh.n hS rfl) rfl rfl rfl ?_
    refine y_dup_x1 rfl rfl rfl ?_
    refine y_iconst rfl ?_
    refine y_iadd rfl ?_
    refine y_putI rfl (ySh.t hS rfl) (ySh.n hS rfl) rfl (Nat.le_of_ble_eq_true rfl) rfl rfl ?_
    refine y_nameI (fun I3 e3 => ?_)
    have hC : yCI I3 := by rw [e3]; exact yCI.inc69v hC rfl (by omega)
    have hF : yFt I I3 := by rw [e3]; exact hF.upd (by decide)
    refine y_ireturn rfl rfl rfl ?_
    refine y_ret1 ?_
    refine y_ireturn rfl rfl rfl ?_
    first | (exfalso; omega) | (exact hQ (by omega) _ _ hC hF rfl (by rw [e3]; repeat (first | exact yGc.rf | refine yGc.skipC ?_ (by decide) | refine yGc.skip ?_ (by decide) | refine yGc.both ?_)) (by first | (rw [e3]; done) | (rw [e3]; rfl)))
  · rw [yz_6] at h_2
    refine y_throw rfl rfl rfl ?_
    exact hE2 (by omega)
theorem g_deposit (hS : ySh n tg R) (hC : yCI I) {x1 x2 : Int32} (hE0 : ¬ (0 ≤ x1.toInt ∧ x1.toInt < (I 38 0).toInt) → Q (.inr "java/lang/IndexOutOfBoundsException") (n, tg, I, R) (c + 1) (s + 6)) (hE1 : (0 ≤ x1.toInt ∧ x1.toInt < (I 38 0).toInt) ∧ ¬ (¬ x2.toInt = 0 ∧ -9999 ≤ x2.toInt ∧ x2.toInt ≤ 9999) → Q (.inr "java/lang/IllegalArgumentException") (n, tg, I, R) (c + 1) (s + 6)) (hE2 : (0 ≤ x1.toInt ∧ x1.toInt < (I 38 0).toInt) ∧ (¬ x2.toInt = 0 ∧ -9999 ≤ x2.toInt ∧ x2.toInt ≤ 9999) ∧ ¬ ((x2.toInt ≤ 0 ∨ x2.toInt ≤ (I 39 x1.toInt.toNat).toInt) ∧ 0 ≤ (I 75 x1.toInt.toNat + x2).toInt ∧ (I 75 x1.toInt.toNat + x2).toInt ≤ 99999) → Q (.inr "java/lang/IllegalStateException") (n, tg, I, R) (c + 1) (s + 6)) (hQ : (0 ≤ x1.toInt ∧ x1.toInt < (I 38 0).toInt) ∧ (¬ x2.toInt = 0 ∧ -9999 ≤ x2.toInt ∧ x2.toInt ≤ 9999) ∧ ((x2.toInt ≤ 0 ∨ x2.toInt ≤ (I 39 x1.toInt.toNat).toInt) ∧ 0 ≤ (I 75 x1.toInt.toNat + x2).toInt ∧ (I 75 x1.toInt.toNat + x2).toInt ≤ 99999) → ∀ (v : Int32) (I1 : Nat → Nat → Int32), yCI I1 → yFt I I1 → v = I 75 x1.toInt.toNat + x2 → yGc yTL I1 I → I1 = (upd2 (yAddC I x1 (-x2)) 75 x1.toInt.toNat (I 75 x1.toInt.toNat + x2)) → Q (.inl (some (.int v))) (n, tg, I1, R) c s) : yC 136 [.ref 34, .int x1, .int x2] (n, tg, I, R) c s Q := by
  have hF : yFt I I := yFt.rf
  refine y_in (M := xm_X8_deposit) (ls := [some _, some _, some _, _]) rfl rfl rfl ?_
  refine y_aload_n rfl rfl ?_
  refine y_getR rfl (ySh.t hS rfl) (ySh.n hS rfl) rfl rfl (ySh.r hS rfl) ?_
  refine y_iload_n rfl rfl ?_
  refine y_virt rfl rfl rfl rfl rfl (ySh.t hS rfl) (ySh.n hS rfl) ?_
  refine y_in (M := xm_X4_has) (ls := [some _, some _]) rfl rfl rfl ?_
  refine y_iload_n rfl rfl ?_
  refine y_if_lt rfl j_X4_has_16 (fun h_1 => ?_) (fun h_2 => ?_)
  · refine y_iconst rfl ?_
    refine y_ireturn rfl rfl rfl ?_
    refine y_ret1 ?_
    refine y_if_neF rfl (by decide) ?_
    refine y_throw rfl rfl rfl ?_
    exact hE0 (by omega)
  · refine y_iload_n rfl rfl ?_
    refine y_aload_n rfl rfl ?_
    refine y_getIv (v := I 38 0) rfl (ySh.t hS rfl) (ySh.n hS rfl) rfl rfl rfl ?_
    refine y_icmp_ge rfl j_X4_has_16 (fun h_3 => ?_) (fun h_4 => ?_)
    · refine y_iconst rfl ?_
      refine y_ireturn rfl rfl rfl ?_
      refine y_ret1 ?_
      refine y_if_neF rfl (by decide) ?_
      refine y_throw rfl rfl rfl ?_
      exact hE0 (by omega)
    · refine y_iconst rfl ?_
      refine y_goto rfl j_X4_has_17 ?_
      refine y_ireturn rfl rfl rfl ?_
      refine y_ret1 ?_
      refine y_if_neT rfl j_X8_deposit_22 (by decide) ?_
      refine y_iload_n rfl rfl ?_
      refine y_if_eq rfl j_X8_deposit_39 (fun h_5 => ?_) (fun h_6 => ?_)
      · refine y_throw rfl rfl rfl ?_
        exact hE1 (by omega)
      · refine y_iload_n rfl rfl ?_
        refine y_sip rfl (by decide) ?_
        refine y_sip rfl (by decide) ?_
        refine y_static rfl rfl rfl rfl rfl ?_
        refine s_isIn (fun h_7 h_8 => ?_) (fun h_9 => ?_)
        · rw [yz_m9999] at h_7
          rw [yz_9999] at h_8
          refine y_ret1 ?_
          refine y_if_neT rfl j_X8_deposit_50 (by decide) ?_
          refine y_iload_n rfl rfl ?_
          refine y_if_le rfl j_X8_deposit_71 (fun h_10 => ?_) (fun h_11 => ?_)
          · refine y_iconst rfl ?_
            refine y_istore_n (ls' := [some _, some _, some _, some _]) rfl rfl rfl ?_
            refine y_iload_n rfl rfl ?_
            refine y_if_neF rfl (by decide) ?_
            refine y_aload_n rfl rfl ?_
            refine y_getR rfl (ySh.t hS rfl) (ySh.n hS rfl) rfl rfl (ySh.r hS rfl) ?_
            refine y_getR rfl (ySh.t hS rfl) (ySh.n hS rfl) rfl rfl (ySh.r hS rfl) ?_
            refine y_iload_n rfl rfl ?_
            refine y_ialoadv (J := I 75) rfl (ySh.t hS rfl) (ySh.n hS rfl) (by omega) (by omega) rfl ?_
            refine y_iload_n rfl rfl ?_
            refine y_iadd rfl ?_
            refine y_iconst rfl ?_
            refine y_ldc_wI (v := (99999 : Int)) rfl rfl rfl (by decide) ?_
            refine y_static rfl rfl rfl rfl rfl ?_
            refine s_isIn (fun h_12 h_13 => ?_) (fun h_14 => ?_)
            · rw [yz_0] at h_12
              rw [yz_99999] at h_13
              refine y_ret1 ?_
              refine y_if_neT rfl j_X8_deposit_109 (by decide) ?_
              refine y_aload_n rfl rfl ?_
              refine y_getR rfl (ySh.t hS rfl) (ySh.n hS rfl) rfl rfl (ySh.r hS rfl) ?_
              refine y_iload_n rfl rfl ?_
              refine y_iload_n rfl rfl ?_
              refine y_ineg rfl ?_
              refine y_virt rfl rfl rfl rfl rfl (ySh.t hS rfl) (ySh.n hS rfl) ?_
              refine spx_add hS ?_
              refine y_ret0 ?_
              refine y_nameI (fun I15 e15 => ?_)
              have hC : yCI I15 := by rw [e15]; exact yCI.addC hC
              have hF : yFt I I15 := by rw [e15]; exact hF.addC
              refine y_aload_n rfl rfl ?_
              refine y_getR rfl (ySh.t hS rfl) (ySh.n hS rfl) rfl rfl (ySh.r hS rfl) ?_
              refine y_getR rfl (ySh.t hS rfl) (ySh.n hS rfl) rfl rfl (ySh.r hS rfl) ?_
              refine y_iload_n rfl rfl ?_
              refine y_dup2 rfl rfl rfl ?_
              refine y_ialoadv (J := I 75) rfl (ySh.t hS rfl) (ySh.n hS rfl) (by omega) (by omega) (by rw [e15, yAddC_row (by decide)]) ?_
              refine y_iload_n rfl rfl ?_
              refine y_iadd rfl ?_
              refine y_iastore rfl (ySh.t hS rfl) (ySh.n hS rfl) (Nat.le_of_ble_eq_true rfl) (by omega) (by omega) ?_
              refine y_nameI (fun I16 e16 => ?_)
              have hC : yCI I16 := by rw [e16]; exact hC
              have hF : yFt I I16 := by rw [e16]; exact hF.upd (by decide)
              refine y_aload_n rfl rfl ?_
              refine y_getR rfl (ySh.t hS rfl) (ySh.n hS rfl) rfl rfl (ySh.r hS rfl) ?_
              refine y_getR rfl (ySh.t hS rfl) (ySh.n hS rfl) rfl rfl (ySh.r hS rfl) ?_
              refine y_iload_n rfl rfl ?_
              refine y_iaload rfl (ySh.t hS rfl) (ySh.n hS rfl) (by omega) (by omega) ?_
              refine y_ireturn rfl rfl rfl ?_
              first | (exfalso; omega) | (exact hQ (by omega) _ _ hC hF (by rw [e16, e15]; first | exact upd2_self | rfl) (by rw [e16, e15]; repeat (first | exact yGc.rf | refine yGc.skipC ?_ (by decide) | refine yGc.skip ?_ (by decide) | refine yGc.both ?_)) (by first | (rw [e16, e15]; done) | (rw [e16, e15]; rfl)))
            · rw [yz_0] at h_14
              rw [yz_99999] at h_14
              refine y_ret1 ?_
              refine y_if_neF rfl (by decide) ?_
              refine y_throw rfl rfl rfl ?_
              exact hE2 (by omega)
          · refine y_aload_n rfl rfl ?_
            refine y_getR rfl (ySh.t hS rfl) (ySh.n hS rfl) rfl rfl (ySh.r hS rfl) ?_
            refine y_getR rfl (ySh.t hS rfl) (ySh.n hS rfl) rfl rfl (ySh.r hS rfl) ?_
            refine y_iload_n rfl rfl ?_
            refine y_ialoadv (J := I 39) rfl (ySh.t hS rfl) (ySh.n hS rfl) (by omega) (by omega) rfl ?_
            refine y_iload_n rfl rfl ?_
            refine y_icmp_ge rfl j_X8_deposit_71 (fun h_17 => ?_) (fun h_18 => ?_)
            · refine y_iconst rfl ?_
              refine y_istore_n (ls' := [some _, some _, some _, some _]) rfl rfl rfl ?_
              refine y_iload_n rfl rfl ?_
              refine y_if_neF rfl (by decide) ?_
              refine y_aload_n rfl rfl ?_
              refine y_getR rfl (ySh.t hS rfl) (ySh.n hS rfl) rfl rfl (ySh.r hS rfl) ?_
              refine y_getR rfl (ySh.t hS rfl) (ySh.n hS rfl) rfl rfl (ySh.r hS rfl) ?_
              refine y_iload_n rfl rfl ?_
              refine y_ialoadv (J := I 75) rfl (ySh.t hS rfl) (ySh.n hS rfl) (by omega) (by omega) rfl ?_
              refine y_iload_n rfl rfl ?_
              refine y_iadd rfl ?_
              refine y_iconst rfl ?_
              refine y_ldc_wI (v := (99999 : Int)) rfl rfl rfl (by decide) ?_
              refine y_static rfl rfl rfl rfl rfl ?_
              refine s_isIn (fun h_19 h_20 => ?_) (fun h_21 => ?_)
              · rw [yz_0] at h_19
                rw [yz_99999] at h_20
                refine y_ret1 ?_
                refine y_if_neT rfl j_X8_deposit_109 (by decide) ?_
                refine y_aload_n rfl rfl ?_
                refine y_getR rfl (ySh.t hS rfl) (ySh.n hS rfl) rfl rfl (ySh.r hS rfl) ?_
                refine y_iload_n rfl rfl ?_
                refine y_iload_n rfl rfl ?_
                refine y_ineg rfl ?_
                refine y_virt rfl rfl rfl rfl rfl (ySh.t hS rfl) (ySh.n hS rfl) ?_
                refine spx_add hS ?_
                refine y_ret0 ?_
                refine y_nameI (fun I22 e22 => ?_)
                have hC : yCI I22 := by rw [e22]; exact yCI.addC hC
                have hF : yFt I I22 := by rw [e22]; exact hF.addC
                refine y_aload_n rfl rfl ?_
                refine y_getR rfl (ySh.t hS rfl) (ySh.n hS rfl) rfl rfl (ySh.r hS rfl) ?_
                refine y_getR rfl (ySh.t hS rfl) (ySh.n hS rfl) rfl rfl (ySh.r hS rfl) ?_
                refine y_iload_n rfl rfl ?_
                refine y_dup2 rfl rfl rfl ?_
                refine y_ialoadv (J := I 75) rfl (ySh.t hS rfl) (ySh.n hS rfl) (by omega) (by omega) (by rw [e22, yAddC_row (by decide)]) ?_
                refine y_iload_n rfl rfl ?_
                refine y_iadd rfl ?_
                refine y_iastore rfl (ySh.t hS rfl) (ySh.n hS rfl) (Nat.le_of_ble_eq_true rfl) (by omega) (by omega) ?_
                refine y_nameI (fun I23 e23 => ?_)
                have hC : yCI I23 := by rw [e23]; exact hC
                have hF : yFt I I23 := by rw [e23]; exact hF.upd (by decide)
                refine y_aload_n rfl rfl ?_
                refine y_getR rfl (ySh.t hS rfl) (ySh.n hS rfl) rfl rfl (ySh.r hS rfl) ?_
                refine y_getR rfl (ySh.t hS rfl) (ySh.n hS rfl) rfl rfl (ySh.r hS rfl) ?_
                refine y_iload_n rfl rfl ?_
                refine y_iaload rfl (ySh.t hS rfl) (ySh.n hS rfl) (by omega) (by omega) ?_
                refine y_ireturn rfl rfl rfl ?_
                first | (exfalso; omega) | (exact hQ (by omega) _ _ hC hF (by rw [e23, e22]; first | exact upd2_self | rfl) (by rw [e23, e22]; repeat (first | exact yGc.rf | refine yGc.skipC ?_ (by decide) | refine yGc.skip ?_ (by decide) | refine yGc.both ?_)) (by first | (rw [e23, e22]; done) | (rw [e23, e22]; rfl)))
              · rw [yz_0] at h_21
                rw [yz_99999] at h_21
                refine y_ret1 ?_
                refine y_if_neF rfl (by decide) ?_
                refine y_throw rfl rfl rfl ?_
                exact hE2 (by omega)
            · refine y_iconst rfl ?_
              refine y_goto rfl j_X8_deposit_72 ?_
              refine y_istore_n (ls' := [some _, some _, some _, some _]) rfl rfl rfl ?_
              refine y_iload_n rfl rfl ?_
              refine y_if_neT rfl j_X8_deposit_98 (by decide) ?_
              refine y_throw rfl rfl rfl ?_
              exact hE2 (by omega)
        · rw [yz_m9999] at h_9
          rw [yz_9999] at h_9
          refine y_ret1 ?_
          refine y_if_neF rfl (by decide) ?_
          refine y_throw rfl rfl rfl ?_
          exact hE1 (by omega)
end YXC
