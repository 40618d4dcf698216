/-! THE CLASS'S DIGEST, EXACTLY (by ex9d.py) -/
/-- a step of the digest, a row of them, a row of rows -/
def dAdd (s v : Int64) : Int64 := s * Int64.ofNat 31 + v
def dF (s : Int64) (f : Nat → Int64) : Nat → Int64
  | 0 => s
  | k + 1 => dAdd (dF s f k) (f k)
def dN (s : Int64) (g : Nat → Int64 → Int64) : Nat → Int64
  | 0 => s
  | k + 1 => g k (dN s g k)
theorem dF_nx {s t v : Int64} {f : Nat → Int64} {x : Int32} {lo : Int} (h0 : 0 ≤ lo ∧ lo ≤ x.toInt ∧ x.toInt < 2147483647) (h : t = dF s f (x.toInt - lo).toNat) (hv : v = f (x.toInt - lo).toNat) : t * Int64.ofNat 31 + v = dF s f ((x + Int32.ofInt 1).toInt - lo).toNat := by
  rw [yinc h0.2.2, show (x.toInt + 1 - lo).toNat = (x.toInt - lo).toNat + 1 by omega]
  show _ = dAdd (dF s f (x.toInt - lo).toNat) (f (x.toInt - lo).toNat)
  rw [h, hv]; rfl
theorem dN_nx {s t t' : Int64} {g : Nat → Int64 → Int64} {x : Int32} (h0 : 0 ≤ x.toInt ∧ x.toInt < 2147483647) (h : t = dN s g x.toInt.toNat) (hv : t' = g x.toInt.toNat t) : t' = dN s g (x + Int32.ofInt 1).toInt.toNat := by
  rw [yinc h0.2, show (x.toInt + 1).toNat = x.toInt.toNat + 1 by omega]
  show t' = g x.toInt.toNat (dN s g x.toInt.toNat)
  rw [hv, h]
theorem dF_z {s : Int64} {f : Nat → Int64} {x : Int32} {lo : Int} (h : x.toInt = lo) : s = dF s f (x.toInt - lo).toNat := by rw [h, Int.sub_self]; rfl
theorem dN_z {s : Int64} {g : Nat → Int64 → Int64} {x : Int32} (h : x.toInt = 0) : s = dN s g x.toInt.toNat := by rw [h]; rfl
theorem dV {v : Int32} {z : Int} (h : v.toInt = z) : v.toInt64 = (Int32.ofInt z).toInt64 := by rw [← h, Int32.ofInt_toInt]
def yDH (I : Nat → Nat → Int32) (w : Nat) : Int64 := (yHo I (w : Int)).toInt64
def yDP (I : Nat → Nat → Int32) (p : Nat) (t : Int64) : Int64 := dF t (fun w => (yOPv I (Int32.ofInt (p : Int)) (w : Int)).toInt64) 8
def yDT (I : Nat → Nat → Int32) (i : Nat) (t : Int64) : Int64 := dF t (fun w => (Int32.ofInt (yOT (fun f => I (41 + f) i) (I 47 i).toInt ((w : Int) + 1))).toInt64) 6
def yDS (I : Nat → Nat → Int32) (i : Nat) (t : Int64) : Int64 := dF t (fun w => (yOS (fun f => I (ySc f) i) ((w : Int) + 2)).toInt64) 8
def yDL (I : Nat → Nat → Int32) (i : Nat) (t : Int64) : Int64 := dF t (fun w => (Int32.ofInt (yOL (fun f => I (yLc f) i) (I 66 i) ((w : Int) + 2))).toInt64) 4
def yDV (I : Nat → Nat → Int32) (v p : Nat) (t : Int64) : Int64 := dF t (fun w => (I (70 + yOVf (w : Int)) (v * 9 + p)).toInt64) 3
def yDW (I : Nat → Nat → Int32) (v : Nat) (t : Int64) : Int64 := yDV I v 8 (dN t (fun p u => yDV I v p u) (I 38 0).toInt.toNat)
def yDF (I : Nat → Nat → Int32) (i : Nat) (t : Int64) : Int64 := dF t (fun w => (Int32.ofInt (yOF (((I 77 1 >>> (Int32.ofInt (i : Int) &&& 31)) &&& Int32.ofInt 1).toInt = 1) (((I 77 2 >>> (Int32.ofInt (i : Int) &&& 31)) &&& Int32.ofInt 1).toInt = 1) (I 80 i) (I 81 (Int32.ofInt 1 <<< (Int32.ofInt (i : Int) &&& 31)).toInt.toNat) (I 82 (Int32.ofInt 1 <<< (Int32.ofInt (i : Int) &&& 31)).toInt.toNat) (w : Int))).toInt64) 3
def yDQ (I : Nat → Nat → Int32) (q : Nat) : Int64 := (if 3 ≤ (yBC (I 36 q)).toInt then Int32.ofInt 1 else Int32.ofInt 0).toInt64
/-- all but whether it is sound -/
def yDgt (I : Nat → Nat → Int32) : Int64 := dAdd (dAdd (dF (dN (dN (dN (dN (dN (dN (dF (Int64.ofNat 7307) (yDH I) 16) (yDP I) (I 38 0).toInt.toNat) (yDT I) (I 40 0).toInt.toNat) (yDS I) (I 48 0).toInt.toNat) (yDL I) (I 59 0).toInt.toNat) (yDW I) (I 69 0).toInt.toNat) (yDF I) (I 77 0).toInt.toNat) (yDQ I) 5) (yBv I (Int32.ofInt 100) (Int32.ofInt 0)).toInt64) (yBv I (Int32.ofInt 100) (Int32.ofInt 1)).toInt64
section YD9
variable {n : Nat} {tg : Nat → yT} {I : Nat → Nat → Int32} {R : Nat → Nat → Value} {c s : Nat} {Q : yQ}
theorem lp_dP2 (hS : ySh n tg R) (hC : yCI I) {x1 x0 : Int64} {x5 : Int32} (h50 : 0 ≤ x5.toInt) (h51 : x5.toInt < (I 38 0).toInt) (hx : yW xm_X8_addPeople xc_X8_addPeople_49 [some (.ref 34), some (.long x1), none, some (.long (yDP I x5.toInt.toNat x0)), none, some (.int x5), none] [] (n, tg, I, R) c s Q) : ∀ (m : Nat) (x3 : Int64) (x6 : Int32), (0 ≤ x6.toInt) → (x6.toInt ≤ 8) → (x3 = dF x0 (fun w => (yOPv I (Int32.ofInt (x5.toInt.toNat : Int)) (w : Int)).toInt64) (x6.toInt - 0).toNat) → 8 - x6.toInt < m → yW xm_X8_addPeople xc_X8_addPeople_20 [some (.ref 34), some (.long x1), none, some (.long x3), none, some (.int x5), some (.int x6)] [] (n, tg, I, R) c s Q := by
  intro m
  induction m with
  | zero => intro x3 x6 i0 i1 i2 hm; exfalso; omega
  | succ m ih =>
    intro x3 x6 i0 i1 i2 hm
    refine y_iload rfl rfl ?_
    refine y_bip rfl (by decide) ?_
    refine y_icmp_gt rfl j_X8_addPeople_49 (fun h_1 => ?_) (fun h_2 => ?_)
    · rw [yz_7] at h_1
      refine y_fgt (ls := [some _, some _, none, some _, none, some _, none]) ⟨rfl, rfl, rfl, rfl, trivial⟩ ?_
      have e_ : x3 = yDP I x5.toInt.toNat x0 := by rw [i2, show (x6.toInt - 0).toNat = 8 by omega]; rfl
      subst e_
      exact hx
    · rw [yz_7] at h_2
      refine y_lload_n rfl rfl ?_
      refine y_ldc2 rfl ?_
      refine y_lmul rfl ?_
      refine y_aload_n rfl rfl ?_
      refine y_iload rfl rfl ?_
      refine y_iload rfl rfl ?_
      refine y_virt rfl rfl rfl rfl rfl (ySh.t hS rfl) (ySh.n hS rfl) ?_
      refine g_ofPerson hS hC (fun h_ => by exfalso; omega) (fun h_ => by exfalso; omega) (fun _ v_p hv_p => ?_)
      refine y_ret1 ?_
      refine y_i2l rfl ?_
      refine y_ladd rfl ?_
      refine y_lstore_n (ls' := [some _, some _, _, some _, _, some _, some _]) rfl rfl rfl ?_
      refine y_iinc (ls' := [some _, some _, _, some _, _, some _, some _]) rfl rfl rfl rfl ?_
      refine y_goto rfl j_X8_addPeople_20 ?_
      exact ih _ _ (by first | omega | (rw [yinc (by omega)]; omega)) (by first | omega | (rw [yinc (by omega)]; omega)) (dF_nx (by omega) (by assumption) (by rw [hv_p, xofn h50]; exact congrArg (fun z => (yOPv I x5 z).toInt64) (by omega))) (by first | omega | (rw [yinc (by omega)]; omega))
theorem lp_dP1 (hS : ySh n tg R) (hC : yCI I) {x1 : Int64} (hQ : Q (.inl (some (.long (dN x1 (yDP I) (I 38 0).toInt.toNat)))) (n, tg, I, R) c s) : ∀ (m : Nat) (x3 : Int64) (x5 : Int32), (0 ≤ x5.toInt) → (x5.toInt ≤ (I 38 0).toInt) → (x3 = dN x1 (yDP I) x5.toInt.toNat) → (I 38 0).toInt - x5.toInt < m → yW xm_X8_addPeople xc_X8_addPeople_5 [some (.ref 34), some (.long x1), none, some (.long x3), none, some (.int x5), none] [] (n, tg, I, R) c s Q := by
  intro m
  induction m with
  | zero => intro x3 x5 i0 i1 i2 hm; exfalso; omega
  | succ m ih =>
    intro x3 x5 i0 i1 i2 hm
    refine y_iload rfl rfl ?_
    refine y_aload_n rfl rfl ?_
    refine y_getR rfl (ySh.t hS rfl) (ySh.n hS rfl) rfl rfl (ySh.r hS rfl) ?_
    refine y_getI rfl (ySh.t hS rfl) (ySh.n hS rfl) rfl rfl ?_
    refine y_icmp_ge rfl j_X8_addPeople_55 (fun h_1 => ?_) (fun h_2 => ?_)
    · refine y_lload_n rfl rfl ?_
      refine y_lreturn rfl ?_
      rw [show (I 38 0).toInt.toNat = x5.toInt.toNat by omega, ← i2] at hQ; exact hQ
    · refine y_iconst rfl ?_
      refine y_istore (ls' := [some _, some _, _, some _, _, some _, some _]) rfl rfl rfl ?_
      refine lp_dP2 hS hC (x0 := x3) (by omega) (by omega) ?_ 100 _ _ (by decide) (by decide) rfl (by decide)
      refine y_iinc (ls' := [some _, some _, _, some _, _, some _, _]) rfl rfl rfl rfl ?_
      refine y_goto rfl j_X8_addPeople_5 ?_
      exact ih _ _ (by first | omega | (rw [yinc (by omega)]; omega)) (by first | omega | (rw [yinc (by omega)]; omega)) (dN_nx (by omega) (by assumption) rfl) (by first | omega | (rw [yinc (by omega)]; omega))
theorem sd_P (hS : ySh n tg R) (hC : yCI I) {x1 : Int64} (hQ : Q (.inl (some (.long (dN x1 (yDP I) (I 38 0).toInt.toNat)))) (n, tg, I, R) c s) : yC 156 [.ref 34, .long x1] (n, tg, I, R) c s Q := by
  refine y_in (M := xm_X8_addPeople) (ls := [some _, some _, _, _, _, _, _]) rfl rfl rfl ?_
  refine y_lload_n rfl rfl ?_
  refine y_lstore_n (ls' := [some _, some _, _, some _, _, _, _]) rfl rfl rfl ?_
  refine y_iconst rfl ?_
  refine y_istore (ls' := [some _, some _, _, some _, _, some _, _]) rfl rfl rfl ?_
  exact lp_dP1 hS hC hQ 100 _ _ (by decide) (by rw [yz_0]; omega) rfl (by rw [yz_0]; omega)
theorem lp_dT2 (hS : ySh n tg R) (hC : yCI I) {x1 x0 : Int64} {x5 : Int32} (h50 : 0 ≤ x5.toInt) (h51 : x5.toInt < (I 40 0).toInt) (hx : yW xm_X8_addThings xc_X8_addThings_49 [some (.ref 34), some (.long x1), none, some (.long (yDT I x5.toInt.toNat x0)), none, some (.int x5), none] [] (n, tg, I, R) c s Q) : ∀ (m : Nat) (x3 : Int64) (x6 : Int32), (1 ≤ x6.toInt) → (x6.toInt ≤ 7) → (x3 = dF x0 (fun w => (Int32.ofInt (yOT (fun f => I (41 + f) x5.toInt.toNat) (I 47 x5.toInt.toNat).toInt ((w : Int) + 1))).toInt64) (x6.toInt - 1).toNat) → 7 - x6.toInt < m → yW xm_X8_addThings xc_X8_addThings_20 [some (.ref 34), some (.long x1), none, some (.long x3), none, some (.int x5), some (.int x6)] [] (n, tg, I, R) c s Q := by
  intro m
  induction m with
  | zero => intro x3 x6 i0 i1 i2 hm; exfalso; omega
  | succ m ih =>
    intro x3 x6 i0 i1 i2 hm
    refine y_iload rfl rfl ?_
    refine y_bip rfl (by decide) ?_
    refine y_icmp_gt rfl j_X8_addThings_49 (fun h_1 => ?_) (fun h_2 => ?_)
    · rw [yz_6] at h_1
      refine y_fgt (ls := [some _, some _, none, some _, none, some _, none]) ⟨rfl, rfl, rfl, rfl, trivial⟩ ?_
      have e_ : x3 = yDT I x5.toInt.toNat x0 := by rw [i2, show (x6.toInt - 1).toNat = 6 by omega]; rfl
      subst e_
      exact hx
    · rw [yz_6] at h_2
      refine y_lload_n rfl rfl ?_
      refine y_ldc2 rfl ?_
      refine y_lmul rfl ?_
      refine y_aload_n rfl rfl ?_
      refine y_iload rfl rfl ?_
      refine y_iload rfl rfl ?_
      refine y_virt rfl rfl rfl rfl rfl (ySh.t hS rfl) (ySh.n hS rfl) ?_
      refine g_ofThing hS hC (fun h_ => by exfalso; omega) (fun h_ => by exfalso; omega) (fun _ v_p hv_p => ?_)
      refine y_ret1 ?_
      refine y_i2l rfl ?_
      refine y_ladd rfl ?_
      refine y_lstore_n (ls' := [some _, some _, _, some _, _, some _, some _]) rfl rfl rfl ?_
      refine y_iinc (ls' := [some _, some _, _, some _, _, some _, some _]) rfl rfl rfl rfl ?_
      refine y_goto rfl j_X8_addThings_20 ?_
      exact ih _ _ (by first | omega | (rw [yinc (by omega)]; omega)) (by first | omega | (rw [yinc (by omega)]; omega)) (dF_nx (by omega) (by assumption) (by rw [dV hv_p]; exact congrArg (fun z => (Int32.ofInt (yOT (fun f => I (41 + f) x5.toInt.toNat) (I 47 x5.toInt.toNat).toInt z)).toInt64) (by omega))) (by first | omega | (rw [yinc (by omega)]; omega))
theorem lp_dT1 (hS : ySh n tg R) (hC : yCI I) {x1 : Int64} (hQ : Q (.inl (some (.long (dN x1 (yDT I) (I 40 0).toInt.toNat)))) (n, tg, I, R) c s) : ∀ (m : Nat) (x3 : Int64) (x5 : Int32), (0 ≤ x5.toInt) → (x5.toInt ≤ (I 40 0).toInt) → (x3 = dN x1 (yDT I) x5.toInt.toNat) → (I 40 0).toInt - x5.toInt < m → yW xm_X8_addThings xc_X8_addThings_5 [some (.ref 34), some (.long x1), none, some (.long x3), none, some (.int x5), none] [] (n, tg, I, R) c s Q := by
  intro m
  induction m with
  | zero => intro x3 x5 i0 i1 i2 hm; exfalso; omega
  | succ m ih =>
    intro x3 x5 i0 i1 i2 hm
    refine y_iload rfl rfl ?_
    refine y_aload_n rfl rfl ?_
    refine y_getR rfl (ySh.t hS rfl) (ySh.n hS rfl) rfl rfl (ySh.r hS rfl) ?_
    refine y_getI rfl (ySh.t hS rfl) (ySh.n hS rfl) rfl rfl ?_
    refine y_icmp_ge rfl j_X8_addThings_55 (fun h_1 => ?_) (fun h_2 => ?_)
    · refine y_lload_n rfl rfl ?_
      refine y_lreturn rfl ?_
      rw [show (I 40 0).toInt.toNat = x5.toInt.toNat by omega, ← i2] at hQ; exact hQ
    · refine y_iconst rfl ?_
      refine y_istore (ls' := [some _, some _, _, some _, _, some _, some _]) rfl rfl rfl ?_
      refine lp_dT2 hS hC (x0 := x3) (by omega) (by omega) ?_ 100 _ _ (by decide) (by decide) rfl (by decide)
      refine y_iinc (ls' := [some _, some _, _, some _, _, some _, _]) rfl rfl rfl rfl ?_
      refine y_goto rfl j_X8_addThings_5 ?_
      exact ih _ _ (by first | omega | (rw [yinc (by omega)]; omega)) (by first | omega | (rw [yinc (by omega)]; omega)) (dN_nx (by omega) (by assumption) rfl) (by first | omega | (rw [yinc (by omega)]; omega))
theorem sd_T (hS : ySh n tg R) (hC : yCI I) {x1 : Int64} (hQ : Q (.inl (some (.long (dN x1 (yDT I) (I 40 0).toInt.toNat)))) (n, tg, I, R) c s) : yC 157 [.ref 34, .long x1] (n, tg, I, R) c s Q := by
  refine y_in (M := xm_X8_addThings) (ls := [some _, some _, _, _, _, _, _]) rfl rfl rfl ?_
  refine y_lload_n rfl rfl ?_
  refine y_lstore_n (ls' := [some _, some _, _, some _, _, _, _]) rfl rfl rfl ?_
  refine y_iconst rfl ?_
  refine y_istore (ls' := [some _, some _, _, some _, _, some _, _]) rfl rfl rfl ?_
  exact lp_dT1 hS hC hQ 100 _ _ (by decide) (by rw [yz_0]; omega) rfl (by rw [yz_0]; omega)
theorem lp_dS2 (hS : ySh n tg R) (hC : yCI I) (hTs : ∀ x1 : Int32, (0 ≤ x1.toInt ∧ x1.toInt < (I 48 0).toInt) → (1 ≤ (I 54 x1.toInt.toNat).toInt ∧ (I 54 x1.toInt.toNat).toInt ≤ 12 ∧ 0 ≤ (I 55 x1.toInt.toNat).toInt ∧ (I 55 x1.toInt.toNat).toInt ≤ 12)) {x1 x0 : Int64} {x5 : Int32} (h50 : 0 ≤ x5.toInt) (h51 : x5.toInt < (I 48 0).toInt) (hx : yW xm_X8_addSales xc_X8_addSales_49 [some (.ref 34), some (.long x1), none, some (.long (yDS I x5.toInt.toNat x0)), none, some (.int x5), none] [] (n, tg, I, R) c s Q) : ∀ (m : Nat) (x3 : Int64) (x6 : Int32), (2 ≤ x6.toInt) → (x6.toInt ≤ 10) → (x3 = dF x0 (fun w => (yOS (fun f => I (ySc f) x5.toInt.toNat) ((w : Int) + 2)).toInt64) (x6.toInt - 2).toNat) → 10 - x6.toInt < m → yW xm_X8_addSales xc_X8_addSales_20 [some (.ref 34), some (.long x1), none, some (.long x3), none, some (.int x5), some (.int x6)] [] (n, tg, I, R) c s Q := by
  intro m
  induction m with
  | zero => intro x3 x6 i0 i1 i2 hm; exfalso; omega
  | succ m ih =>
    intro x3 x6 i0 i1 i2 hm
    refine y_iload rfl rfl ?_
    refine y_bip rfl (by decide) ?_
    refine y_icmp_gt rfl j_X8_addSales_49 (fun h_1 => ?_) (fun h_2 => ?_)
    · rw [yz_9] at h_1
      refine y_fgt (ls := [some _, some _, none, some _, none, some _, none]) ⟨rfl, rfl, rfl, rfl, trivial⟩ ?_
      have e_ : x3 = yDS I x5.toInt.toNat x0 := by rw [i2, show (x6.toInt - 2).toNat = 8 by omega]; rfl
      subst e_
      exact hx
    · rw [yz_9] at h_2
      refine y_lload_n rfl rfl ?_
      refine y_ldc2 rfl ?_
      refine y_lmul rfl ?_
      refine y_aload_n rfl rfl ?_
      refine y_iload rfl rfl ?_
      refine y_iload rfl rfl ?_
      refine y_virt rfl rfl rfl rfl rfl (ySh.t hS rfl) (ySh.n hS rfl) ?_
      refine g_ofSale hS hC (hTs _) (fun h_ => by exfalso; omega) (fun h_ => by exfalso; omega) (fun _ v_p hv_p => ?_)
      refine y_ret1 ?_
      refine y_i2l rfl ?_
      refine y_ladd rfl ?_
      refine y_lstore_n (ls' := [some _, some _, _, some _, _, some _, some _]) rfl rfl rfl ?_
      refine y_iinc (ls' := [some _, some _, _, some _, _, some _, some _]) rfl rfl rfl rfl ?_
      refine y_goto rfl j_X8_addSales_20 ?_
      exact ih _ _ (by first | omega | (rw [yinc (by omega)]; omega)) (by first | omega | (rw [yinc (by omega)]; omega)) (dF_nx (by omega) (by assumption) (by rw [hv_p]; exact congrArg (fun z => (yOS (fun f => I (ySc f) x5.toInt.toNat) z).toInt64) (by omega))) (by first | omega | (rw [yinc (by omega)]; omega))
theorem lp_dS1 (hS : ySh n tg R) (hC : yCI I) (hTs : ∀ x1 : Int32, (0 ≤ x1.toInt ∧ x1.toInt < (I 48 0).toInt) → (1 ≤ (I 54 x1.toInt.toNat).toInt ∧ (I 54 x1.toInt.toNat).toInt ≤ 12 ∧ 0 ≤ (I 55 x1.toInt.toNat).toInt ∧ (I 55 x1.toInt.toNat).toInt ≤ 12)) {x1 : Int64} (hQ : Q (.inl (some (.long (dN x1 (yDS I) (I 48 0).toInt.toNat)))) (n, tg, I, R) c s) : ∀ (m : Nat) (x3 : Int64) (x5 : Int32), (0 ≤ x5.toInt) → (x5.toInt ≤ (I 48 0).toInt) → (x3 = dN x1 (yDS I) x5.toInt.toNat) → (I 48 0).toInt - x5.toInt < m → yW xm_X8_addSales xc_X8_addSales_5 [some (.ref 34), some (.long x1), none, some (.long x3), none, some (.int x5), none] [] (n, tg, I, R) c s Q := by
  intro m
  induction m with
  | zero => intro x3 x5 i0 i1 i2 hm; exfalso; omega
  | succ m ih =>
    intro x3 x5 i0 i1 i2 hm
    refine y_iload rfl rfl ?_
    refine y_aload_n rfl rfl ?_
    refine y_getR rfl (ySh.t hS rfl) (ySh.n hS rfl) rfl rfl (ySh.r hS rfl) ?_
    refine y_getI rfl (ySh.t hS rfl) (ySh.n hS rfl) rfl rfl ?_
    refine y_icmp_ge rfl j_X8_addSales_55 (fun h_1 => ?_) (fun h_2 => ?_)
    · refine y_lload_n rfl rfl ?_
      refine y_lreturn rfl ?_
      rw [show (I 48 0).toInt.toNat = x5.toInt.toNat by omega, ← i2] at hQ; exact hQ
    · refine y_iconst rfl ?_
      refine y_istore (ls' := [some _, some _, _, some _, _, some _, some _]) rfl rfl rfl ?_
      refine lp_dS2 hS hC hTs (x0 := x3) (by omega) (by omega) ?_ 100 _ _ (by decide) (by decide) rfl (by decide)
      refine y_iinc (ls' := [some _, some _, _, some _, _, some _, _]) rfl rfl rfl rfl ?_
      refine y_goto rfl j_X8_addSales_5 ?_
      exact ih _ _ (by first | omega | (rw [yinc (by omega)]; omega)) (by first | omega | (rw [yinc (by omega)]; omega)) (dN_nx (by omega) (by assumption) rfl) (by first | omega | (rw [yinc (by omega)]; omega))
theorem sd_S (hS : ySh n tg R) (hC : yCI I) (hTs : ∀ x1 : Int32, (0 ≤ x1.toInt ∧ x1.toInt < (I 48 0).toInt) → (1 ≤ (I 54 x1.toInt.toNat).toInt ∧ (I 54 x1.toInt.toNat).toInt ≤ 12 ∧ 0 ≤ (I 55 x1.toInt.toNat).toInt ∧ (I 55 x1.toInt.toNat).toInt ≤ 12)) {x1 : Int64} (hQ : Q (.inl (some (.long (dN x1 (yDS I) (I 48 0).toInt.toNat)))) (n, tg, I, R) c s) : yC 158 [.ref 34, .long x1] (n, tg, I, R) c s Q := by
  refine y_in (M := xm_X8_addSales) (ls := [some _, some _, _, _, _, _, _]) rfl rfl rfl ?_
  refine y_lload_n rfl rfl ?_
  refine y_lstore_n (ls' := [some _, some _, _, some _, _, _, _]) rfl rfl rfl ?_
  refine y_iconst rfl ?_
  refine y_istore (ls' := [some _, some _, _, some _, _, some _, _]) rfl rfl rfl ?_
  exact lp_dS1 hS hC hTs hQ 100 _ _ (by decide) (by rw [yz_0]; omega) rfl (by rw [yz_0]; omega)
theorem lp_dL2 (hS : ySh n tg R) (hC : yCI I) {x1 x0 : Int64} {x5 : Int32} (h50 : 0 ≤ x5.toInt) (h51 : x5.toInt < (I 59 0).toInt) (hx : yW xm_X8_addLeases xc_X8_addLeases_48 [some (.ref 34), some (.long x1), none, some (.long (yDL I x5.toInt.toNat x0)), none, some (.int x5), none] [] (n, tg, I, R) c s Q) : ∀ (m : Nat) (x3 : Int64) (x6 : Int32), (2 ≤ x6.toInt) → (x6.toInt ≤ 6) → (x3 = dF x0 (fun w => (Int32.ofInt (yOL (fun f => I (yLc f) x5.toInt.toNat) (I 66 x5.toInt.toNat) ((w : Int) + 2))).toInt64) (x6.toInt - 2).toNat) → 6 - x6.toInt < m → yW xm_X8_addLeases xc_X8_addLeases_20 [some (.ref 34), some (.long x1), none, some (.long x3), none, some (.int x5), some (.int x6)] [] (n, tg, I, R) c s Q := by
  intro m
  induction m with
  | zero => intro x3 x6 i0 i1 i2 hm; exfalso; omega
  | succ m ih =>
    intro x3 x6 i0 i1 i2 hm
    refine y_iload rfl rfl ?_
    refine y_iconst rfl ?_
    refine y_icmp_gt rfl j_X8_addLeases_48 (fun h_1 => ?_) (fun h_2 => ?_)
    · rw [yz_5] at h_1
      refine y_fgt (ls := [some _, some _, none, some _, none, some _, none]) ⟨rfl, rfl, rfl, rfl, trivial⟩ ?_
      have e_ : x3 = yDL I x5.toInt.toNat x0 := by rw [i2, show (x6.toInt - 2).toNat = 4 by omega]; rfl
      subst e_
      exact hx
    · rw [yz_5] at h_2
      refine y_lload_n rfl rfl ?_
      refine y_ldc2 rfl ?_
      refine y_lmul rfl ?_
      refine y_aload_n rfl rfl ?_
      refine y_iload rfl rfl ?_
      refine y_iload rfl rfl ?_
      refine y_virt rfl rfl rfl rfl rfl (ySh.t hS rfl) (ySh.n hS rfl) ?_
      refine g_ofLease hS hC (fun h_ => by exfalso; omega) (fun h_ => by exfalso; omega) (fun _ v_p hv_p => ?_)
      refine y_ret1 ?_
      refine y_i2l rfl ?_
      refine y_ladd rfl ?_
      refine y_lstore_n (ls' := [some _, some _, _, some _, _, some _, some _]) rfl rfl rfl ?_
      refine y_iinc (ls' := [some _, some _, _, some _, _, some _, some _]) rfl rfl rfl rfl ?_
      refine y_goto rfl j_X8_addLeases_20 ?_
      exact ih _ _ (by first | omega | (rw [yinc (by omega)]; omega)) (by first | omega | (rw [yinc (by omega)]; omega)) (dF_nx (by omega) (by assumption) (by rw [dV hv_p]; exact congrArg (fun z => (Int32.ofInt (yOL (fun f => I (yLc f) x5.toInt.toNat) (I 66 x5.toInt.toNat) z)).toInt64) (by omega))) (by first | omega | (rw [yinc (by omega)]; omega))
theorem lp_dL1 (hS : ySh n tg R) (hC : yCI I) {x1 : Int64} (hQ : Q (.inl (some (.long (dN x1 (yDL I) (I 59 0).toInt.toNat)))) (n, tg, I, R) c s) : ∀ (m : Nat) (x3 : Int64) (x5 : Int32), (0 ≤ x5.toInt) → (x5.toInt ≤ (I 59 0).toInt) → (x3 = dN x1 (yDL I) x5.toInt.toNat) → (I 59 0).toInt - x5.toInt < m → yW xm_X8_addLeases xc_X8_addLeases_5 [some (.ref 34), some (.long x1), none, some (.long x3), none, some (.int x5), none] [] (n, tg, I, R) c s Q := by
  intro m
  induction m with
  | zero => intro x3 x5 i0 i1 i2 hm; exfalso; omega
  | succ m ih =>
    intro x3 x5 i0 i1 i2 hm
    refine y_iload rfl rfl ?_
    refine y_aload_n rfl rfl ?_
    refine y_getR rfl (ySh.t hS rfl) (ySh.n hS rfl) rfl rfl (ySh.r hS rfl) ?_
    refine y_getI rfl (ySh.t hS rfl) (ySh.n hS rfl) rfl rfl ?_
    refine y_icmp_ge rfl j_X8_addLeases_54 (fun h_1 => ?_) (fun h_2 => ?_)
    · refine y_lload_n rfl rfl ?_
      refine y_lreturn rfl ?_
      rw [show (I 59 0).toInt.toNat = x5.toInt.toNat by omega, ← i2] at hQ; exact hQ
    · refine y_iconst rfl ?_
      refine y_istore (ls' := [some _, some _, _, some _, _, some _, some _]) rfl rfl rfl ?_
      refine lp_dL2 hS hC (x0 := x3) (by omega) (by omega) ?_ 100 _ _ (by decide) (by decide) rfl (by decide)
      refine y_iinc (ls' := [some _, some _, _, some _, _, some _, _]) rfl rfl rfl rfl ?_
      refine y_goto rfl j_X8_addLeases_5 ?_
      exact ih _ _ (by first | omega | (rw [yinc (by omega)]; omega)) (by first | omega | (rw [yinc (by omega)]; omega)) (dN_nx (by omega) (by assumption) rfl) (by first | omega | (rw [yinc (by omega)]; omega))
theorem sd_L (hS : ySh n tg R) (hC : yCI I) {x1 : Int64} (hQ : Q (.inl (some (.long (dN x1 (yDL I) (I 59 0).toInt.toNat)))) (n, tg, I, R) c s) : yC 159 [.ref 34, .long x1] (n, tg, I, R) c s Q := by
  refine y_in (M := xm_X8_addLeases) (ls := [some _, some _, _, _, _, _, _]) rfl rfl rfl ?_
  refine y_lload_n rfl rfl ?_
  refine y_lstore_n (ls' := [some _, some _, _, some _, _, _, _]) rfl rfl rfl ?_
  refine y_iconst rfl ?_
  refine y_istore (ls' := [some _, some _, _, some _, _, some _, _]) rfl rfl rfl ?_
  exact lp_dL1 hS hC hQ 100 _ _ (by decide) (by rw [yz_0]; omega) rfl (by rw [yz_0]; omega)
theorem lp_dF2 (hS : ySh n tg R) (hC : yCI I) (hTf : ∀ x1 : Int32, (0 ≤ x1.toInt ∧ x1.toInt < (I 77 0).toInt) → 0 ≤ (Int32.ofInt 1 <<< (x1 &&& 31)).toInt ∧ (Int32.ofInt 1 <<< (x1 &&& 31)).toInt < (Int32.ofInt 1 <<< (I 77 0 &&& 31)).toInt) {x1 x0 : Int64} {x5 : Int32} (h50 : 0 ≤ x5.toInt) (h51 : x5.toInt < (I 77 0).toInt) (hx : yW xm_X8_addFirms xc_X8_addFirms_48 [some (.ref 34), some (.long x1), none, some (.long (yDF I x5.toInt.toNat x0)), none, some (.int x5), none] [] (n, tg, I, R) c s Q) : ∀ (m : Nat) (x3 : Int64) (x6 : Int32), (0 ≤ x6.toInt) → (x6.toInt ≤ 3) → (x3 = dF x0 (fun w => (Int32.ofInt (yOF (((I 77 1 >>> (Int32.ofInt (x5.toInt.toNat : Int) &&& 31)) &&& Int32.ofInt 1).toInt = 1) (((I 77 2 >>> (Int32.ofInt (x5.toInt.toNat : Int) &&& 31)) &&& Int32.ofInt 1).toInt = 1) (I 80 x5.toInt.toNat) (I 81 (Int32.ofInt 1 <<< (Int32.ofInt (x5.toInt.toNat : Int) &&& 31)).toInt.toNat) (I 82 (Int32.ofInt 1 <<< (Int32.ofInt (x5.toInt.toNat : Int) &&& 31)).toInt.toNat) (w : Int))).toInt64) (x6.toInt - 0).toNat) → 3 - x6.toInt < m → yW xm_X8_addFirms xc_X8_addFirms_20 [some (.ref 34), some (.long x1), none, some (.long x3), none, some (.int x5), some (.int x6)] [] (n, tg, I, R) c s Q := by
  intro m
  induction m with
  | zero => intro x3 x6 i0 i1 i2 hm; exfalso; omega
  | succ m ih =>
    intro x3 x6 i0 i1 i2 hm
    refine y_iload rfl rfl ?_
    refine y_iconst rfl ?_
    refine y_icmp_gt rfl j_X8_addFirms_48 (fun h_1 => ?_) (fun h_2 => ?_)
    · rw [yz_2] at h_1
      refine y_fgt (ls := [some _, some _, none, some _, none, some _, none]) ⟨rfl, rfl, rfl, rfl, trivial⟩ ?_
      have e_ : x3 = yDF I x5.toInt.toNat x0 := by rw [i2, show (x6.toInt - 0).toNat = 3 by omega]; rfl
      subst e_
      exact hx
    · rw [yz_2] at h_2
      refine y_lload_n rfl rfl ?_
      refine y_ldc2 rfl ?_
      refine y_lmul rfl ?_
      refine y_aload_n rfl rfl ?_
      refine y_iload rfl rfl ?_
      refine y_iload rfl rfl ?_
      refine y_virt rfl rfl rfl rfl rfl (ySh.t hS rfl) (ySh.n hS rfl) ?_
      refine g_ofFirm hS hC (hTf _) (fun h_ => by exfalso; omega) (fun h_ => by exfalso; omega) (fun _ v_p hv_p => ?_)
      refine y_ret1 ?_
      refine y_i2l rfl ?_
      refine y_ladd rfl ?_
      refine y_lstore_n (ls' := [some _, some _, _, some _, _, some _, some _]) rfl rfl rfl ?_
      refine y_iinc (ls' := [some _, some _, _, some _, _, some _, some _]) rfl rfl rfl rfl ?_
      refine y_goto rfl j_X8_addFirms_20 ?_
      exact ih _ _ (by first | omega | (rw [yinc (by omega)]; omega)) (by first | omega | (rw [yinc (by omega)]; omega)) (dF_nx (by omega) (by assumption) (by rw [dV hv_p, xofn h50]; exact congrArg (fun z => (Int32.ofInt (yOF (((I 77 1 >>> (x5 &&& 31)) &&& Int32.ofInt 1).toInt = 1) (((I 77 2 >>> (x5 &&& 31)) &&& Int32.ofInt 1).toInt = 1) (I 80 x5.toInt.toNat) (I 81 (Int32.ofInt 1 <<< (x5 &&& 31)).toInt.toNat) (I 82 (Int32.ofInt 1 <<< (x5 &&& 31)).toInt.toNat) z)).toInt64) (by omega))) (by first | omega | (rw [yinc (by omega)]; omega))
theorem lp_dF1 (hS : ySh n tg R) (hC : yCI I) (hTf : ∀ x1 : Int32, (0 ≤ x1.toInt ∧ x1.toInt < (I 77 0).toInt) → 0 ≤ (Int32.ofInt 1 <<< (x1 &&& 31)).toInt ∧ (Int32.ofInt 1 <<< (x1 &&& 31)).toInt < (Int32.ofInt 1 <<< (I 77 0 &&& 31)).toInt) {x1 : Int64} (hQ : Q (.inl (some (.long (dN x1 (yDF I) (I 77 0).toInt.toNat)))) (n, tg, I, R) c s) : ∀ (m : Nat) (x3 : Int64) (x5 : Int32), (0 ≤ x5.toInt) → (x5.toInt ≤ (I 77 0).toInt) → (x3 = dN x1 (yDF I) x5.toInt.toNat) → (I 77 0).toInt - x5.toInt < m → yW xm_X8_addFirms xc_X8_addFirms_5 [some (.ref 34), some (.long x1), none, some (.long x3), none, some (.int x5), none] [] (n, tg, I, R) c s Q := by
  intro m
  induction m with
  | zero => intro x3 x5 i0 i1 i2 hm; exfalso; omega
  | succ m ih =>
    intro x3 x5 i0 i1 i2 hm
    refine y_iload rfl rfl ?_
    refine y_aload_n rfl rfl ?_
    refine y_getR rfl (ySh.t hS rfl) (ySh.n hS rfl) rfl rfl (ySh.r hS rfl) ?_
    refine y_getI rfl (ySh.t hS rfl) (ySh.n hS rfl) rfl rfl ?_
    refine y_icmp_ge rfl j_X8_addFirms_54 (fun h_1 => ?_) (fun h_2 => ?_)
    · refine y_lload_n rfl rfl ?_
      refine y_lreturn rfl ?_
      rw [show (I 77 0).toInt.toNat = x5.toInt.toNat by omega, ← i2] at hQ; exact hQ
    · refine y_iconst rfl ?_
      refine y_istore (ls' := [some _, some _, _, some _, _, some _, some _]) rfl rfl rfl ?_
      refine lp_dF2 hS hC hTf (x0 := x3) (by omega) (by omega) ?_ 100 _ _ (by decide) (by decide) rfl (by decide)
      refine y_iinc (ls' := [some _, some _, _, some _, _, some _, _]) rfl rfl rfl rfl ?_
      refine y_goto rfl j_X8_addFirms_5 ?_
      exact ih _ _ (by first | omega | (rw [yinc (by omega)]; omega)) (by first | omega | (rw [yinc (by omega)]; omega)) (dN_nx (by omega) (by assumption) rfl) (by first | omega | (rw [yinc (by omega)]; omega))
theorem sd_F (hS : ySh n tg R) (hC : yCI I) (hTf : ∀ x1 : Int32, (0 ≤ x1.toInt ∧ x1.toInt < (I 77 0).toInt) → 0 ≤ (Int32.ofInt 1 <<< (x1 &&& 31)).toInt ∧ (Int32.ofInt 1 <<< (x1 &&& 31)).toInt < (Int32.ofInt 1 <<< (I 77 0 &&& 31)).toInt) {x1 : Int64} (hQ : Q (.inl (some (.long (dN x1 (yDF I) (I 77 0).toInt.toNat)))) (n, tg, I, R) c s) : yC 162 [.ref 34, .long x1] (n, tg, I, R) c s Q := by
  refine y_in (M := xm_X8_addFirms) (ls := [some _, some _, _, _, _, _, _]) rfl rfl rfl ?_
  refine y_lload_n rfl rfl ?_
  refine y_lstore_n (ls' := [some _, some _, _, some _, _, _, _]) rfl rfl rfl ?_
  refine y_iconst rfl ?_
  refine y_istore (ls' := [some _, some _, _, some _, _, some _, _]) rfl rfl rfl ?_
  exact lp_dF1 hS hC hTf hQ 100 _ _ (by decide) (by rw [yz_0]; omega) rfl (by rw [yz_0]; omega)
theorem lp_dPt (hS : ySh n tg R) (hC : yCI I) {x1 : Int64} {x3 x4 : Int32} (hv0 : 0 ≤ x3.toInt) (hv1 : x3.toInt < (I 69 0).toInt) (hp : x4.toInt = -1 ∨ 0 ≤ x4.toInt ∧ x4.toInt < (I 38 0).toInt) (hQ : ∀ u : Int64, u = dF x1 (fun w => (I (70 + yOVf (w : Int)) (yAtI x3 (ySeat x4)).toInt.toNat).toInt64) 3 → Q (.inl (some (.long u))) (n, tg, I, R) c s) : ∀ (m : Nat) (x5 : Int64) (x7 : Int32), (0 ≤ x7.toInt) → (x7.toInt ≤ 3) → (x5 = dF x1 (fun w => (I (70 + yOVf (w : Int)) (yAtI x3 (ySeat x4)).toInt.toNat).toInt64) (x7.toInt - 0).toNat) → 3 - x7.toInt < m → yW xm_X8_addPartner xc_X8_addPartner_6 [some (.ref 34), some (.long x1), none, some (.int x3), some (.int x4), some (.long x5), none, some (.int x7)] [] (n, tg, I, R) c s Q := by
  intro m
  induction m with
  | zero => intro x5 x7 i0 i1 i2 hm; exfalso; omega
  | succ m ih =>
    intro x5 x7 i0 i1 i2 hm
    refine y_iload rfl rfl ?_
    refine y_iconst rfl ?_
    refine y_icmp_gt rfl j_X8_addPartner_37 (fun h_1 => ?_) (fun h_2 => ?_)
    · rw [yz_2] at h_1
      refine y_lload rfl rfl ?_
      refine y_lreturn rfl ?_
      exact hQ _ (by rw [i2, show (x7.toInt - 0).toNat = 3 by omega])
    · rw [yz_2] at h_2
      refine y_lload rfl rfl ?_
      refine y_ldc2 rfl ?_
      refine y_lmul rfl ?_
      refine y_aload_n rfl rfl ?_
      refine y_iload_n rfl rfl ?_
      refine y_iload rfl rfl ?_
      refine y_iload rfl rfl ?_
      refine y_virt rfl rfl rfl rfl rfl (ySh.t hS rfl) (ySh.n hS rfl) ?_
      refine g_ofVenture hS hC (fun h_ => by exfalso; omega) (fun h_ => by exfalso; omega) (fun _ v_p hv_p => ?_)
      refine y_ret1 ?_
      refine y_i2l rfl ?_
      refine y_ladd rfl ?_
      refine y_lstore (ls' := [some _, some _, _, some _, some _, some _, _, some _]) rfl rfl rfl ?_
      refine y_iinc (ls' := [some _, some _, _, some _, some _, some _, _, some _]) rfl rfl rfl rfl ?_
      refine y_goto rfl j_X8_addPartner_6 ?_
      exact ih _ _ (by first | omega | (rw [yinc (by omega)]; omega)) (by first | omega | (rw [yinc (by omega)]; omega)) (dF_nx (by omega) (by assumption) (by rw [hv_p]; exact congrArg (fun z => (I (70 + yOVf z) (yAtI x3 (ySeat x4)).toInt.toNat).toInt64) (by omega))) (by first | omega | (rw [yinc (by omega)]; omega))
theorem sd_pt (hS : ySh n tg R) (hC : yCI I) {x1 : Int64} {x3 x4 : Int32} (hv0 : 0 ≤ x3.toInt) (hv1 : x3.toInt < (I 69 0).toInt) (hp : x4.toInt = -1 ∨ 0 ≤ x4.toInt ∧ x4.toInt < (I 38 0).toInt) (hQ : ∀ u : Int64, u = dF x1 (fun w => (I (70 + yOVf (w : Int)) (yAtI x3 (ySeat x4)).toInt.toNat).toInt64) 3 → Q (.inl (some (.long u))) (n, tg, I, R) c s) : yC 161 [.ref 34, .long x1, .int x3, .int x4] (n, tg, I, R) c s Q := by
  refine y_in (M := xm_X8_addPartner) (ls := [some _, some _, _, some _, some _, _, _, _]) rfl rfl rfl ?_
  refine y_lload_n rfl rfl ?_
  refine y_lstore (ls' := [some _, some _, _, some _, some _, some _, _, _]) rfl rfl rfl ?_
  refine y_iconst rfl ?_
  refine y_istore (ls' := [some _, some _, _, some _, some _, some _, _, some _]) rfl rfl rfl ?_
  exact lp_dPt hS hC hv0 hv1 hp hQ 100 _ _ (by decide) (by decide) rfl (by decide)
theorem dPt_at {v p : Int32} {t : Int64} (h0 : 0 ≤ v.toInt) (h1 : v.toInt < 6) (h2 : 0 ≤ p.toInt) (h3 : p.toInt < 9) : dF t (fun w => (I (70 + yOVf (w : Int)) (yAtI v (ySeat p)).toInt.toNat).toInt64) 3 = yDV I v.toInt.toNat p.toInt.toNat t := by
  have e := yAtI_v h0 h1 h2 h3
  have e2 : ySeat p = p := if_neg (by omega)
  have e3 : (yAtI v p).toInt.toNat = v.toInt.toNat * 9 + p.toInt.toNat := by omega
  rw [e2, e3]
  rfl
theorem dPt_no {v : Int32} {t : Int64} (h0 : 0 ≤ v.toInt) (h1 : v.toInt < 6) : dF t (fun w => (I (70 + yOVf (w : Int)) (yAtI v (ySeat (Int32.ofInt (-1)))).toInt.toNat).toInt64) 3 = yDV I v.toInt.toNat 8 t := by
  have e := yAtI_v (p := Int32.ofInt 8) h0 h1 (by decide) (by decide)
  have e8 : (Int32.ofInt 8).toInt = 8 := by decide
  have e2 : ySeat (Int32.ofInt (-1)) = Int32.ofInt 8 := if_pos (by decide)
  have e3 : (yAtI v (Int32.ofInt 8)).toInt.toNat = v.toInt.toNat * 9 + 8 := by omega
  rw [e2, e3]
  rfl
theorem lp_dV2 (hS : ySh n tg R) (hC : yCI I) {x1 x0 : Int64} {x5 : Int32} (h50 : 0 ≤ x5.toInt) (h51 : x5.toInt < (I 69 0).toInt) (hx : yW xm_X8_addVentures xc_X8_addVentures_48 [some (.ref 34), some (.long x1), none, some (.long (dN x0 (fun p u => yDV I x5.toInt.toNat p u) (I 38 0).toInt.toNat)), none, some (.int x5), none] [] (n, tg, I, R) c s Q) : ∀ (m : Nat) (x3 : Int64) (x6 : Int32), (0 ≤ x6.toInt) → (x6.toInt ≤ (I 38 0).toInt) → (x3 = dN x0 (fun p u => yDV I x5.toInt.toNat p u) x6.toInt.toNat) → (I 38 0).toInt - x6.toInt < m → yW xm_X8_addVentures xc_X8_addVentures_20 [some (.ref 34), some (.long x1), none, some (.long x3), none, some (.int x5), some (.int x6)] [] (n, tg, I, R) c s Q := by
  intro m
  induction m with
  | zero => intro x3 x6 i0 i1 i2 hm; exfalso; omega
  | succ m ih =>
    intro x3 x6 i0 i1 i2 hm
    refine y_iload rfl rfl ?_
    refine y_aload_n rfl rfl ?_
    refine y_getR rfl (ySh.t hS rfl) (ySh.n hS rfl) rfl rfl (ySh.r hS rfl) ?_
    refine y_getI rfl (ySh.t hS rfl) (ySh.n hS rfl) rfl rfl ?_
    refine y_icmp_ge rfl j_X8_addVentures_48 (fun h_1 => ?_) (fun h_2 => ?_)
    · refine y_fgt (ls := [some _, some _, none, some _, none, some _, none]) ⟨rfl, rfl, rfl, rfl, trivial⟩ ?_
      have e_ : x3 = dN x0 (fun p u => yDV I x5.toInt.toNat p u) (I 38 0).toInt.toNat := by rw [i2, show x6.toInt.toNat = (I 38 0).toInt.toNat by omega]
      subst e_
      exact hx
    · refine y_aload_n rfl rfl ?_
      refine y_lload_n rfl rfl ?_
      refine y_iload rfl rfl ?_
      refine y_iload rfl rfl ?_
      refine y_virt rfl rfl rfl rfl rfl (ySh.t hS rfl) (ySh.n hS rfl) ?_
      refine sd_pt hS hC (by omega) (by omega) (by omega) (fun u_p hu_p => ?_)
      refine y_ret1 ?_
      refine y_lstore_n (ls' := [some _, some _, _, some _, _, some _, some _]) rfl rfl rfl ?_
      refine y_iinc (ls' := [some _, some _, _, some _, _, some _, some _]) rfl rfl rfl rfl ?_
      refine y_goto rfl j_X8_addVentures_20 ?_
      exact ih _ _ (by first | omega | (rw [yinc (by omega)]; omega)) (by first | omega | (rw [yinc (by omega)]; omega)) (dN_nx (by omega) (by assumption) (hu_p.trans (dPt_at (by omega) (by omega) (by omega) (by omega)))) (by first | omega | (rw [yinc (by omega)]; omega))
theorem lp_dV1 (hS : ySh n tg R) (hC : yCI I) {x1 : Int64} (hQ : Q (.inl (some (.long (dN x1 (yDW I) (I 69 0).toInt.toNat)))) (n, tg, I, R) c s) : ∀ (m : Nat) (x3 : Int64) (x5 : Int32), (0 ≤ x5.toInt) → (x5.toInt ≤ (I 69 0).toInt) → (x3 = dN x1 (yDW I) x5.toInt.toNat) → (I 69 0).toInt - x5.toInt < m → yW xm_X8_addVentures xc_X8_addVentures_5 [some (.ref 34), some (.long x1), none, some (.long x3), none, some (.int x5), none] [] (n, tg, I, R) c s Q := by
  intro m
  induction m with
  | zero => intro x3 x5 i0 i1 i2 hm; exfalso; omega
  | succ m ih =>
    intro x3 x5 i0 i1 i2 hm
    refine y_iload rfl rfl ?_
    refine y_aload_n rfl rfl ?_
    refine y_getR rfl (ySh.t hS rfl) (ySh.n hS rfl) rfl rfl (ySh.r hS rfl) ?_
    refine y_getI rfl (ySh.t hS rfl) (ySh.n hS rfl) rfl rfl ?_
    refine y_icmp_ge rfl j_X8_addVentures_63 (fun h_1 => ?_) (fun h_2 => ?_)
    · refine y_lload_n rfl rfl ?_
      refine y_lreturn rfl ?_
      rw [show (I 69 0).toInt.toNat = x5.toInt.toNat by omega, ← i2] at hQ; exact hQ
    · refine y_iconst rfl ?_
      refine y_istore (ls' := [some _, some _, _, some _, _, some _, some _]) rfl rfl rfl ?_
      refine lp_dV2 hS hC (x0 := x3) (by omega) (by omega) ?_ 100 _ _ (by decide) (by rw [yz_0]; omega) rfl (by rw [yz_0]; omega)
      refine y_aload_n rfl rfl ?_
      refine y_lload_n rfl rfl ?_
      refine y_iload rfl rfl ?_
      refine y_iconst rfl ?_
      refine y_virt rfl rfl rfl rfl rfl (ySh.t hS rfl) (ySh.n hS rfl) ?_
      refine sd_pt hS hC (by omega) (by omega) (.inl (by decide)) (fun u_p hu_p => ?_)
      refine y_ret1 ?_
      refine y_lstore_n (ls' := [some _, some _, _, some _, _, some _, _]) rfl rfl rfl ?_
      refine y_iinc (ls' := [some _, some _, _, some _, _, some _, _]) rfl rfl rfl rfl ?_
      refine y_goto rfl j_X8_addVentures_5 ?_
      exact ih _ _ (by first | omega | (rw [yinc (by omega)]; omega)) (by first | omega | (rw [yinc (by omega)]; omega)) (dN_nx (by omega) (by assumption) (hu_p.trans (dPt_no (by omega) (by omega)))) (by first | omega | (rw [yinc (by omega)]; omega))
theorem sd_V (hS : ySh n tg R) (hC : yCI I) {x1 : Int64} (hQ : Q (.inl (some (.long (dN x1 (yDW I) (I 69 0).toInt.toNat)))) (n, tg, I, R) c s) : yC 160 [.ref 34, .long x1] (n, tg, I, R) c s Q := by
  refine y_in (M := xm_X8_addVentures) (ls := [some _, some _, _, _, _, _, _]) rfl rfl rfl ?_
  refine y_lload_n rfl rfl ?_
  refine y_lstore_n (ls' := [some _, some _, _, some _, _, _, _]) rfl rfl rfl ?_
  refine y_iconst rfl ?_
  refine y_istore (ls' := [some _, some _, _, some _, _, some _, _]) rfl rfl rfl ?_
  exact lp_dV1 hS hC hQ 100 _ _ (by decide) (by rw [yz_0]; omega) rfl (by rw [yz_0]; omega)
theorem lp_dg1 (hS : ySh n tg R) (hC : yCI I) (hx : yW xm_X8_digest xc_X8_digest_31 [some (.ref 34), some (.long (dF (Int64.ofNat 7307) (yDH I) 16)), none, none] [] (n, tg, I, R) c s Q) : ∀ (m : Nat) (x1 : Int64) (x3 : Int32), (0 ≤ x3.toInt) → (x3.toInt ≤ 16) → (x1 = dF (Int64.ofNat 7307) (yDH I) (x3.toInt - 0).toNat) → 16 - x3.toInt < m → yW xm_X8_digest xc_X8_digest_6 [some (.ref 34), some (.long x1), none, some (.int x3)] [] (n, tg, I, R) c s Q := by
  intro m
  induction m with
  | zero => intro x1 x3 i0 i1 i2 hm; exfalso; omega
  | succ m ih =>
    intro x1 x3 i0 i1 i2 hm
    refine y_iload_n rfl rfl ?_
    refine y_bip rfl (by decide) ?_
    refine y_icmp_gt rfl j_X8_digest_31 (fun h_1 => ?_) (fun h_2 => ?_)
    · rw [yz_15] at h_1
      refine y_fgt (ls := [some _, some _, none, none]) ⟨rfl, rfl, trivial⟩ ?_
      have e_ : x1 = dF (Int64.ofNat 7307) (yDH I) 16 := by rw [i2, show (x3.toInt - 0).toNat = 16 by omega]
      subst e_
      exact hx
    · rw [yz_15] at h_2
      refine y_lload_n rfl rfl ?_
      refine y_ldc2 rfl ?_
      refine y_lmul rfl ?_
      refine y_aload_n rfl rfl ?_
      refine y_iload_n rfl rfl ?_
      refine y_virt rfl rfl rfl rfl rfl (ySh.t hS rfl) (ySh.n hS rfl) ?_
      refine g_house hS hC (fun h_ => by exfalso; omega) (fun _ v_p hv_p => ?_)
      refine y_ret1 ?_
      refine y_i2l rfl ?_
      refine y_ladd rfl ?_
      refine y_lstore_n (ls' := [some _, some _, _, some _]) rfl rfl rfl ?_
      refine y_iinc (ls' := [some _, some _, _, some _]) rfl rfl rfl rfl ?_
      refine y_goto rfl j_X8_digest_6 ?_
      exact ih _ _ (by first | omega | (rw [yinc (by omega)]; omega)) (by first | omega | (rw [yinc (by omega)]; omega)) (dF_nx (by omega) (by assumption) (by rw [hv_p]; exact congrArg (fun z => (yHo I z).toInt64) (by omega))) (by first | omega | (rw [yinc (by omega)]; omega))
theorem lp_dg2 (hS : ySh n tg R) (hC : yCI I) {x0 : Int64} (hx : yW xm_X8_digest xc_X8_digest_104 [some (.ref 34), some (.long (dF x0 (yDQ I) 5)), none, none] [] (n, tg, I, R) c s Q) : ∀ (m : Nat) (x1 : Int64) (x3 : Int32), (0 ≤ x3.toInt) → (x3.toInt ≤ 5) → (x1 = dF x0 (yDQ I) (x3.toInt - 0).toNat) → 5 - x3.toInt < m → yW xm_X8_digest xc_X8_digest_69 [some (.ref 34), some (.long x1), none, some (.int x3)] [] (n, tg, I, R) c s Q := by
  intro m
  induction m with
  | zero => intro x1 x3 i0 i1 i2 hm; exfalso; omega
  | succ m ih =>
    intro x1 x3 i0 i1 i2 hm
    refine y_iload_n rfl rfl ?_
    refine y_iconst rfl ?_
    refine y_icmp_ge rfl j_X8_digest_104 (fun h_1 => ?_) (fun h_2 => ?_)
    · rw [yz_5] at h_1
      refine y_fgt (ls := [some _, some _, none, none]) ⟨rfl, rfl, trivial⟩ ?_
      have e_ : x1 = dF x0 (yDQ I) 5 := by rw [i2, show (x3.toInt - 0).toNat = 5 by omega]
      subst e_
      exact hx
    · rw [yz_5] at h_2
      refine y_lload_n rfl rfl ?_
      refine y_ldc2 rfl ?_
      refine y_lmul rfl ?_
      refine y_aload_n rfl rfl ?_
      refine y_getR rfl (ySh.t hS rfl) (ySh.n hS rfl) rfl rfl (ySh.r hS rfl) ?_
      refine y_iload_n rfl rfl ?_
      refine y_virt rfl rfl rfl rfl rfl (ySh.t hS rfl) (ySh.n hS rfl) ?_
      refine sp_isAllowedNow hS (by omega) (by omega) (fun h_3 => ?_) (fun h_4 => ?_)
      · refine y_ret1 ?_
        refine y_if_eqF rfl (by decide) ?_
        refine y_iconst rfl ?_
        refine y_goto rfl j_X8_digest_95 ?_
        refine y_i2l rfl ?_
        refine y_ladd rfl ?_
        refine y_lstore_n (ls' := [some _, some _, _, some _]) rfl rfl rfl ?_
        refine y_iinc (ls' := [some _, some _, _, some _]) rfl rfl rfl rfl ?_
        refine y_goto rfl j_X8_digest_69 ?_
        exact ih _ _ (by first | omega | (rw [yinc (by omega)]; omega)) (by first | omega | (rw [yinc (by omega)]; omega)) (dF_nx (by omega) (by assumption) (by rw [show (x3.toInt - 0).toNat = x3.toInt.toNat by omega]; unfold yDQ; first | exact congrArg Int32.toInt64 (if_pos (by omega)).symm | exact congrArg Int32.toInt64 (if_neg (by omega)).symm)) (by first | omega | (rw [yinc (by omega)]; omega))
      · refine y_ret1 ?_
        refine y_if_eqT rfl j_X8_digest_94 (by decide) ?_
        refine y_iconst rfl ?_
        refine y_i2l rfl ?_
        refine y_ladd rfl ?_
        refine y_lstore_n (ls' := [some _, some _, _, some _]) rfl rfl rfl ?_
        refine y_iinc (ls' := [some _, some _, _, some _]) rfl rfl rfl rfl ?_
        refine y_goto rfl j_X8_digest_69 ?_
        exact ih _ _ (by first | omega | (rw [yinc (by omega)]; omega)) (by first | omega | (rw [yinc (by omega)]; omega)) (dF_nx (by omega) (by assumption) (by rw [show (x3.toInt - 0).toNat = x3.toInt.toNat by omega]; unfold yDQ; first | exact congrArg Int32.toInt64 (if_pos (by omega)).symm | exact congrArg Int32.toInt64 (if_neg (by omega)).symm)) (by first | omega | (rw [yinc (by omega)]; omega))
theorem g_digest (hS : ySh n tg R) (hC : yCI I) (hTs : ∀ x1 : Int32, (0 ≤ x1.toInt ∧ x1.toInt < (I 48 0).toInt) → (1 ≤ (I 54 x1.toInt.toNat).toInt ∧ (I 54 x1.toInt.toNat).toInt ≤ 12 ∧ 0 ≤ (I 55 x1.toInt.toNat).toInt ∧ (I 55 x1.toInt.toNat).toInt ≤ 12)) (hTf : ∀ x1 : Int32, (0 ≤ x1.toInt ∧ x1.toInt < (I 77 0).toInt) → 0 ≤ (Int32.ofInt 1 <<< (x1 &&& 31)).toInt ∧ (Int32.ofInt 1 <<< (x1 &&& 31)).toInt < (Int32.ofInt 1 <<< (I 77 0 &&& 31)).toInt) (hQ1 : ySnd I → ∀ v : Int64, v = dAdd (yDgt I) (Int32.ofInt 1).toInt64 → Q (.inl (some (.long v))) (n, tg, I, R) c s) (hQ0 : ¬ ySnd I → ∀ v : Int64, v = dAdd (yDgt I) (Int32.ofInt 0).toInt64 → Q (.inl (some (.long v))) (n, tg, I, R) c s) : yC 155 [.ref 34] (n, tg, I, R) c s Q := by
  refine y_in (M := xm_X8_digest) (ls := [some _, _, _, _]) rfl rfl rfl ?_
  refine y_ldc2 rfl ?_
  refine y_lstore_n (ls' := [some _, some _, _, _]) rfl rfl rfl ?_
  refine y_iconst rfl ?_
  refine y_istore_n (ls' := [some _, some _, _, some _]) rfl rfl rfl ?_
  refine lp_dg1 hS hC ?_ 100 _ _ (by decide) (by decide) rfl (by decide)
  refine y_aload_n rfl rfl ?_
  refine y_lload_n rfl rfl ?_
  refine y_virt rfl rfl rfl rfl rfl (ySh.t hS rfl) (ySh.n hS rfl) ?_
  refine sd_P hS hC ?_
  refine y_ret1 ?_
  refine y_lstore_n (ls' := [some _, some _, _, _]) rfl rfl rfl ?_
  refine y_aload_n rfl rfl ?_
  refine y_lload_n rfl rfl ?_
  refine y_virt rfl rfl rfl rfl rfl (ySh.t hS rfl) (ySh.n hS rfl) ?_
  refine sd_T hS hC ?_
  refine y_ret1 ?_
  refine y_lstore_n (ls' := [some _, some _, _, _]) rfl rfl rfl ?_
  refine y_aload_n rfl rfl ?_
  refine y_lload_n rfl rfl ?_
  refine y_virt rfl rfl rfl rfl rfl (ySh.t hS rfl) (ySh.n hS rfl) ?_
  refine sd_S hS hC hTs ?_
  refine y_ret1 ?_
  refine y_lstore_n (ls' := [some _, some _, _, _]) rfl rfl rfl ?_
  refine y_aload_n rfl rfl ?_
  refine y_lload_n rfl rfl ?_
  refine y_virt rfl rfl rfl rfl rfl (ySh.t hS rfl) (ySh.n hS rfl) ?_
  refine sd_L hS hC ?_
  refine y_ret1 ?_
  refine y_lstore_n (ls' := [some _, some _, _, _]) rfl rfl rfl ?_
  refine y_aload_n rfl rfl ?_
  refine y_lload_n rfl rfl ?_
  refine y_virt rfl rfl rfl rfl rfl (ySh.t hS rfl) (ySh.n hS rfl) ?_
  refine sd_V hS hC ?_
  refine y_ret1 ?_
  refine y_lstore_n (ls' := [some _, some _, _, _]) rfl rfl rfl ?_
  refine y_aload_n rfl rfl ?_
  refine y_lload_n rfl rfl ?_
  refine y_virt rfl rfl rfl rfl rfl (ySh.t hS rfl) (ySh.n hS rfl) ?_
  refine sd_F hS hC hTf ?_
  refine y_ret1 ?_
  refine y_lstore_n (ls' := [some _, some _, _, _]) rfl rfl rfl ?_
  refine y_iconst rfl ?_
  refine y_istore_n (ls' := [some _, some _, _, some _]) rfl rfl rfl ?_
  refine lp_dg2 hS hC ?_ 100 _ _ (by decide) (by decide) rfl (by decide)
  refine y_lload_n rfl rfl ?_
  refine y_ldc2 rfl ?_
  refine y_lmul rfl ?_
  refine y_aload_n rfl rfl ?_
  refine y_bip rfl (by decide) ?_
  refine y_iconst rfl ?_
  refine y_virt rfl rfl rfl rfl rfl (ySh.t hS rfl) (ySh.n hS rfl) ?_
  refine g_best1 hS hC (fun h_ => absurd (by decide) h_) (fun _ v_b1 hv_b1 => ?_)
  refine y_ret1 ?_
  refine y_i2l rfl ?_
  refine y_ladd rfl ?_
  refine y_lstore_n (ls' := [some _, some _, _, _]) rfl rfl rfl ?_
  refine y_lload_n rfl rfl ?_
  refine y_ldc2 rfl ?_
  refine y_lmul rfl ?_
  refine y_aload_n rfl rfl ?_
  refine y_bip rfl (by decide) ?_
  refine y_iconst rfl ?_
  refine y_virt rfl rfl rfl rfl rfl (ySh.t hS rfl) (ySh.n hS rfl) ?_
  refine g_best1 hS hC (fun h_ => absurd (by decide) h_) (fun _ v_b2 hv_b2 => ?_)
  refine y_ret1 ?_
  refine y_i2l rfl ?_
  refine y_ladd rfl ?_
  refine y_lstore_n (ls' := [some _, some _, _, _]) rfl rfl rfl ?_
  refine y_lload_n rfl rfl ?_
  refine y_ldc2 rfl ?_
  refine y_lmul rfl ?_
  refine y_aload_n rfl rfl ?_
  refine y_virt rfl rfl rfl rfl rfl (ySh.t hS rfl) (ySh.n hS rfl) ?_
  refine g_isSound hS hC (fun hs_ => ?_) (fun hs_ => ?_)
  · refine y_ret1 ?_
    refine y_if_eqF rfl (by decide) ?_
    refine y_iconst rfl ?_
    refine y_goto rfl j_X8_digest_151 ?_
    refine y_i2l rfl ?_
    refine y_ladd rfl ?_
    refine y_lreturn rfl ?_
    first | exact hQ1 hs_ _ (by rw [hv_b1, hv_b2]; unfold yDgt dAdd; rfl) | exact hQ0 hs_ _ (by rw [hv_b1, hv_b2]; unfold yDgt dAdd; rfl)
  · refine y_ret1 ?_
    refine y_if_eqT rfl j_X8_digest_150 (by decide) ?_
    refine y_iconst rfl ?_
    refine y_i2l rfl ?_
    refine y_ladd rfl ?_
    refine y_lreturn rfl ?_
    first | exact hQ1 hs_ _ (by rw [hv_b1, hv_b2]; unfold yDgt dAdd; rfl) | exact hQ0 hs_ _ (by rw [hv_b1, hv_b2]; unfold yDgt dAdd; rfl)
end YD9
