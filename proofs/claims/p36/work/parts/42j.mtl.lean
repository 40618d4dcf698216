/-! WHAT THE REFERENCE TELLS, EXACTLY (by ex9m.py) -/
/-- what the reference tells, as the class's side tells it (yOw ..) -/
def mOw (I : Nat → Nat → Int32) (R : Nat → Nat → Value) (p : Int) : Int32 := yFz (fun j => if (I (yAd R 88 j) 1).toInt = p then Int32.ofInt 1 else Int32.ofInt 0) (I 88 2).toInt.toNat
def mPl (I : Nat → Nat → Int32) (R : Nat → Nat → Value) (p : Int) : Int32 := yFz (fun j => if (I (yAd R 89 j) 1).toInt = p ∧ (I (yAd R 89 j) 5).toInt = 0 then I (yAd R 89 j) 4 - I (yAd R 89 j) 7 else Int32.ofInt 0) (I 89 2).toInt.toNat
/-- what is left of a sale -/
def mLt (pr pa k : Int32) : Int32 := if k.toInt < pa.toInt then pr - k * (pr / pa) else Int32.ofInt 0
def mDb (I : Nat → Nat → Int32) (R : Nat → Nat → Value) (p : Int) : Int32 := yFz (fun j => if (I (yAd R 89 j) 1).toInt = p ∧ (I (yAd R 89 j) 5).toInt = 0 then mLt (I (yAd R 89 j) 2) (I (yAd R 89 j) 4) (I (yAd R 89 j) 7) else Int32.ofInt 0) (I 89 2).toInt.toNat
def mOl (I : Nat → Nat → Int32) (R : Nat → Nat → Value) (p : Int) : Int32 := yFz (fun j => if (I (yAd R 90 j) 1).toInt = p ∧ (I (yAd R 90 j) 5).toInt = 0 then Int32.ofInt 1 else Int32.ofInt 0) (I 90 2).toInt.toNat
def mCe (I : Nat → Nat → Int32) (R : Nat → Nat → Value) (p : Nat) : Int32 := yFz (fun j => I (yAd R 91 j + 1 + 1) p) (I 91 2).toInt.toNat
def mVd (I : Nat → Nat → Int32) (R : Nat → Nat → Value) : Int32 := yFz (fun j => if (I (yAd R 89 j) 5).toInt = 0 then Int32.ofInt 0 else Int32.ofInt 1) (I 89 2).toInt.toNat
def mDn (I : Nat → Nat → Int32) (R : Nat → Nat → Value) : Int32 := yFz (fun j => if (I (yAd R 89 j) 5).toInt = 0 ∧ (I (yAd R 89 j) 7).toInt = (I (yAd R 89 j) 4).toInt then Int32.ofInt 1 else Int32.ofInt 0) (I 89 2).toInt.toNat
def mLo (I : Nat → Nat → Int32) (R : Nat → Nat → Value) : Int32 := yFz (fun j => if (I (yAd R 90 j) 5).toInt = 0 then Int32.ofInt 1 else Int32.ofInt 0) (I 90 2).toInt.toNat
def mOPv (I : Nat → Nat → Int32) (R : Nat → Nat → Value) (p : Int32) (w : Int) : Int32 := if w = 0 then I 84 p.toInt.toNat else if w = 1 then mOw I R p.toInt else if w = 2 then I 85 p.toInt.toNat else if w = 3 then I 86 p.toInt.toNat else if w = 4 then mPl I R p.toInt else if w = 5 then mDb I R p.toInt else if w = 6 then mOl I R p.toInt else mCe I R p.toInt.toNat
def mHo (I : Nat → Nat → Int32) (R : Nat → Nat → Value) (w : Int) : Int32 := if w = 0 then I 83 1 else if w = 1 then I 84 8 else if w = 2 then I 83 2 else if w = 3 then I 83 3 else if w = 4 then yFz (I 85) 8 else if w = 5 then I 83 4 else if w = 6 then I 89 2 else if w = 7 then mVd I R else if w = 8 then mDn I R else if w = 9 then mLo I R else if w = 10 then I 91 2 else if w = 11 then I 83 7 else if w = 12 then mOw I R 8 else if w = 13 then yFz (I 84) (I 83 8).toInt.toNat else if w = 14 then I 83 5 else I 83 6
/-- whether it is sound, part by part -/
def mSs (I : Nat → Nat → Int32) (R : Nat → Nat → Value) : Prop := ∀ j : Nat, (j : Int) < (I 89 2).toInt → (I (yAd R 89 j) 5).toInt = 0 ∨ (I (yAd R 89 j) 7).toInt ≤ 0
def mSw (I : Nat → Nat → Int32) (R : Nat → Nat → Value) (v : Nat) : Prop := (yFz (I (yAd R 91 v + 1 + 2)) 9).toInt ≤ 100 ∧ ∀ p : Nat, (p : Int) < 9 → 0 ≤ (I (yAd R 91 v + 1 + 1) p).toInt
def mSv (I : Nat → Nat → Int32) (R : Nat → Nat → Value) : Prop := ∀ v : Nat, (v : Int) < (I 91 2).toInt → mSw I R v
def mSq (I : Nat → Nat → Int32) (R : Nat → Nat → Value) (j : Nat) : Prop := ¬ (I (yAd R 90 j) 5).toInt = 0 ∨ (I (yAd R 88 (I (yAd R 90 j) 0).toInt.toNat) 1).toInt = 8 ∧ (I (yAd R 88 (I (yAd R 90 j) 0).toInt.toNat) 3).toInt = 0
def mSl (I : Nat → Nat → Int32) (R : Nat → Nat → Value) : Prop := ∀ j : Nat, (j : Int) < (I 90 2).toInt → mSq I R j
def mSd (I : Nat → Nat → Int32) : Prop := ∀ p : Nat, (p : Int) < 8 → 0 ≤ (I 85 p).toInt
def mFl (I : Nat → Nat → Int32) (R : Nat → Nat → Value) : Int32 := yFz (fun j => I (yAd R 89 j) 8) (I 89 2).toInt.toNat
def mSnd (I : Nat → Nat → Int32) (R : Nat → Nat → Value) : Prop := mSs I R ∧ mSv I R ∧ mSl I R ∧ mSd I ∧ 0 ≤ (I 83 3).toInt ∧ (mFl I R).toInt ≤ (I 83 2).toInt
/-- what is answered of a day -/
def mAw (I : Nat → Nat → Int32) (R : Nat → Nat → Value) (x1 x2 : Int32) : Int32 := if 3 ≤ ySum (fun j => yHw I R x1.toInt x2.toInt j (I 87 2).toInt.toNat) 5 then Int32.ofInt 1 else Int32.ofInt 0
theorem mAll_nx {P : Nat → Prop} {z : Int} (h0 : 0 ≤ z) (h : ∀ j : Nat, (j : Int) < z → P j) (hx : P z.toNat) : ∀ j : Nat, (j : Int) < z + 1 → P j := fun j hj => by
  by_cases e : (j : Int) < z
  · exact h j e
  · rw [show j = z.toNat by omega]; exact hx
theorem yFz_s0 {f : Nat → Int32} {x : Int32} {z : Int} (h0 : 0 ≤ z) (hx : x = yFz f z.toNat) (hv : f z.toNat = Int32.ofInt 0) : x = yFz f (z + 1).toNat := by
  rw [show (z + 1).toNat = z.toNat + 1 by omega]
  show x = yFz f z.toNat + f z.toNat
  rw [hv, hx]; exact (Int32.add_zero _).symm
/-- the sum of what is left, step by step -/
theorem mLt_st {pr pa p0 k s v : Int32} (h1 : 1 ≤ pa.toInt) (h2 : pa.toInt ≤ 12) (hk0 : 0 ≤ k.toInt) (hk : k.toInt < pa.toInt) (hs : s = (k - p0) * (pr / pa)) (hv : v = yPa pr pa k) : (k.toInt + 1 < pa.toInt → s + v = (k + Int32.ofInt 1 - p0) * (pr / pa)) ∧ (k.toInt + 1 = pa.toInt → s + v = pr - p0 * (pr / pa)) := by
  have e1 : (Int32.ofInt 1 : Int32) = 1 := rfl
  constructor
  · intro h
    have e : v = pr / pa := by rw [hv]; unfold yPa; exact if_pos (by omega)
    rw [hs, e, e1]; generalize pr / pa = q; grind
  · intro h
    have e : v = pr - k * (pr / pa) := by rw [hv, yPa_last h h1 h2]
    rw [hs, e]; generalize pr / pa = q; grind
/-- the loop of what is left: s so far, k the next part -/
def mLD (pr pa p0 s k : Int32) : Prop := (k.toInt < pa.toInt ∧ p0.toInt ≤ k.toInt ∧ s = (k - p0) * (pr / pa)) ∨ (pa.toInt ≤ k.toInt ∧ s = mLt pr pa p0)
theorem mLD_0 {pr pa p0 : Int32} : mLD pr pa p0 (Int32.ofInt 0) p0 := by
  unfold mLD mLt
  by_cases h : p0.toInt < pa.toInt
  · refine .inl ⟨h, Int.le_refl _, ?_⟩
    have e : (Int32.ofInt 0 : Int32) = 0 := rfl
    rw [e]; generalize pr / pa = q; grind
  · exact .inr ⟨by omega, (if_neg h).symm⟩
theorem mLD_nx {pr pa p0 s k v : Int32} (h1 : 1 ≤ pa.toInt) (h2 : pa.toInt ≤ 12) (hk0 : 0 ≤ k.toInt) (hk : k.toInt < pa.toInt) (h : mLD pr pa p0 s k) (hv : v = yPa pr pa k) : mLD pr pa p0 (s + v) (k + Int32.ofInt 1) := by
  unfold mLD at h ⊢
  rcases h with ⟨a1, a2, a3⟩ | ⟨a1, -⟩
  · obtain ⟨b1, b2⟩ := mLt_st (p0 := p0) h1 h2 hk0 hk a3 hv
    rw [yinc (by omega)]
    by_cases e : k.toInt + 1 < pa.toInt
    · exact .inl ⟨e, by omega, b1 e⟩
    · refine .inr ⟨by omega, ?_⟩
      unfold mLt
      rw [if_pos (by omega)]; exact b2 (by omega)
  · omega
/-- parts paid are not below nothing -/
def mPd (I : Nat → Nat → Int32) (R : Nat → Nat → Value) : Prop := ∀ j : Nat, (j : Int) < (I 89 2).toInt → 0 ≤ (I (yAd R 89 j) 7).toInt
section YM9
variable {K nb n : Nat} {tg : Nat → yT} {I : Nat → Nat → Int32} {R : Nat → Nat → Value} {c s : Nat} {Q : yQ}
theorem lp_r_leftX (hS0 : ySh n tg R) (hR0 : yRI K nb tg I R) (hn : nb ≤ n) {b : Nat} (hlo_b : 94 ≤ b) (hb0_b : b < nb) (ht_b : tg b = (19, 0)) (hQ : ∀ v : Int32, ((I b 5).toInt = 0 → v = mLt (I b 2) (I b 4) (I b 7)) → Q (.inl (some (.int v))) (n, tg, I, R) c s) : ∀ (m : Nat) (x1 : Int32) (x2 : Int32), (0 ≤ x2.toInt) → (mLD (I b 2) (I b 4) (I b 7) x1 x2) → 4294967296 + (I b 4).toInt - x2.toInt < m → yW xm_X11_left xc_X11_left_7 [some (.ref b), some (.int x1), some (.int x2)] [] (n, tg, I, R) c s Q := by
  intro m
  induction m with
  | zero =>
    intro x1 x2 i0 i1 hm
    have hX : yX n tg I R n tg I R := yX.rf
    have hS := hS0
    have hR := hR0
    have h94 : 94 ≤ n := hS0.1
    have hz : ySz I I := hX.sz h94
    have hxn := hX.1
    have hN := hR0.1
    have hnb : 94 ≤ nb := hR0.2.2.2.2.2.2
    have hb_b := Nat.lt_of_lt_of_le hb0_b hn
    have hpb := (hR0.sal hlo_b hb0_b ht_b).2.2
    have q1 := x2.toInt_lt
    have q2 := x2.le_toInt
    exfalso; omega
  | succ m ih =>
    intro x1 x2 i0 i1 hm
    have hX : yX n tg I R n tg I R := yX.rf
    have hS := hS0
    have hR := hR0
    have h94 : 94 ≤ n := hS0.1
    have hz : ySz I I := hX.sz h94
    have hxn := hX.1
    have hN := hR0.1
    have hnb : 94 ≤ nb := hR0.2.2.2.2.2.2
    have hb_b := Nat.lt_of_lt_of_le hb0_b hn
    have hpb := (hR0.sal hlo_b hb0_b ht_b).2.2
    have q1 := x2.toInt_lt
    have q2 := x2.le_toInt
    refine y_iload_n rfl rfl ?_
    refine y_aload_n rfl rfl ?_
    refine y_getI rfl ((hX.2.1 _ hb_b).1.trans ht_b) (Nat.lt_of_lt_of_le hb_b hX.1) rfl rfl ?_
    refine y_icmp_ge rfl j_X11_left_36 (fun h_1 => ?_) (fun h_2 => ?_)
    · refine y_iload_n rfl rfl ?_
      refine y_ireturn rfl rfl rfl ?_
      exact hQ _ (fun h5 => by first | (exfalso; omega) | (unfold mLD at i1; rcases i1 with ⟨a_, -, -⟩ | ⟨-, b_⟩ <;> first | (exfalso; omega) | exact b_))
    · refine y_aload_n rfl rfl ?_
      refine y_getI rfl ((hX.2.1 _ hb_b).1.trans ht_b) (Nat.lt_of_lt_of_le hb_b hX.1) rfl rfl ?_
      refine y_if_ne rfl j_X11_left_36 (fun h_3 => ?_) (fun h_4 => ?_)
      · refine y_iload_n rfl rfl ?_
        refine y_ireturn rfl rfl rfl ?_
        exact hQ _ (fun h5 => by first | (exfalso; omega) | (unfold mLD at i1; rcases i1 with ⟨a_, -, -⟩ | ⟨-, b_⟩ <;> first | (exfalso; omega) | exact b_))
      · refine y_iload_n rfl rfl ?_
        refine y_aload_n rfl rfl ?_
        refine y_iload_n rfl rfl ?_
        refine y_virt rfl rfl rfl rfl rfl ((hX.2.1 _ hb_b).1.trans ht_b) (Nat.lt_of_lt_of_le hb_b hX.1) ?_
        refine s_part hS hR (Nat.le_trans hn hX.1) hlo_b hb0_b ((hX.2.1 _ hb_b).1.trans ht_b) (by omega) (by omega) (fun v_p hv_p => ?_)
        refine y_ret1 ?_
        refine y_iadd rfl ?_
        refine y_istore_n (ls' := [some _, some _, some _]) rfl rfl rfl ?_
        refine y_iinc (ls' := [some _, some _, some _]) rfl rfl rfl rfl ?_
        refine y_goto rfl j_X11_left_7 ?_
        exact ih _ _ (by first | omega | (rw [yinc (by omega)]; omega)) (mLD_nx (by omega) (by omega) (by omega) (by omega) (by assumption) hv_p) (by first | omega | (rw [yinc (by omega)]; omega))
theorem r_leftX (hS0 : ySh n tg R) (hR0 : yRI K nb tg I R) (hn : nb ≤ n) {b : Nat} (hlo_b : 94 ≤ b) (hb0_b : b < nb) (ht_b : tg b = (19, 0)) (h70 : 0 ≤ (I b 7).toInt) (hQ : ∀ v : Int32, ((I b 5).toInt = 0 → v = mLt (I b 2) (I b 4) (I b 7)) → Q (.inl (some (.int v))) (n, tg, I, R) c s) : yC 178 [.ref b] (n, tg, I, R) c s Q := by
  have hX : yX n tg I R n tg I R := yX.rf
  have hS := hS0
  have hR := hR0
  have h94 : 94 ≤ n := hS0.1
  have hz : ySz I I := hX.sz h94
  have hxn := hX.1
  have hN := hR0.1
  have hnb : 94 ≤ nb := hR0.2.2.2.2.2.2
  have hb_b := Nat.lt_of_lt_of_le hb0_b hn
  have hpb := (hR0.sal hlo_b hb0_b ht_b).2.2
  refine y_in (M := xm_X11_left) (ls := [some _, _, _]) rfl rfl rfl ?_
  refine y_iconst rfl ?_
  refine y_istore_n (ls' := [some _, some _, _]) rfl rfl rfl ?_
  refine y_aload_n rfl rfl ?_
  refine y_getI rfl ((hX.2.1 _ hb_b).1.trans ht_b) (Nat.lt_of_lt_of_le hb_b hX.1) rfl rfl ?_
  refine y_istore_n (ls' := [some _, some _, some _]) rfl rfl rfl ?_
  exact lp_r_leftX hS0 hR0 hn hlo_b hb0_b ht_b hQ 9000000000 _ _ h70 mLD_0 (by omega)
theorem e_h_person23 (hS0 : ySh n tg R) (hR0 : yRI K nb tg I R) (hn : nb ≤ n) {x1 x2 x4 x5 x6 x7 : Int32} (hp0 : 0 ≤ x1.toInt) (hp1 : x1.toInt < 8) (hx : ∀ (x3 : Int32) n1 tg1 I1 R1, yX n tg I R n1 tg1 I1 R1 → x3 = yFz (fun j => if (I (yAd R 88 j) 1).toInt = x1.toInt then Int32.ofInt 1 else Int32.ofInt 0) (I 88 2).toInt.toNat → yW xm_X14_personTold xc_X14_personTold_68 [some (.ref 83), some (.int x1), some (.int x2), some (.int x3), some (.int x4), some (.int x5), some (.int x6), some (.int x7), none, none] [] (n1, tg1, I1, R1) c s Q) : ∀ (m : Nat) (z : Int) (it : Nat) (x3 : Int32) (n1 : Nat) (tg1 : Nat → yT) (I1 : Nat → Nat → Int32) (R1 : Nat → Nat → Value), yX n tg I R n1 tg1 I1 R1 → n ≤ it → yIt nb n1 tg1 I1 R1 it 88 z → x3 = yFz (fun j => if (I (yAd R 88 j) 1).toInt = x1.toInt then Int32.ofInt 1 else Int32.ofInt 0) z.toNat → (I 88 2).toInt - z < m → yW xm_X14_personTold xc_X14_personTold_23 [some (.ref 83), some (.int x1), some (.int x2), some (.int x3), some (.int x4), some (.int x5), some (.int x6), some (.int x7), some (.ref it), none] [] (n1, tg1, I1, R1) c s Q := by
  intro m
  induction m with
  | zero =>
    intro z it x3 n1 tg1 I1 R1 hX hit hI_it hac_3 hm
    have hz := hX.sz hS0.1
    have h7 := hI_it.2.2.2.2.2.2.1
    exfalso; omega
  | succ m ih =>
    intro z it x3 n1 tg1 I1 R1 hX hit hI_it hac_3 hm
    have hS := hS0.x hX
    have hR := hR0.x hn hX
    have h94 : 94 ≤ n := hS0.1
    have hz := hX.sz h94
    have hxn := hX.1
    have hN := hR0.1
    have hnb : 94 ≤ nb := hR0.2.2.2.2.2.2
    refine y_aload rfl rfl ?_
    refine y_intf rfl rfl rfl rfl rfl hI_it.2.2.1 hI_it.2.1 ?_
    refine i_hasNext hI_it (fun h_1 => ?_) (fun h_2 => ?_)
    · refine y_ret1 ?_
      refine y_if_eqF rfl (by decide) ?_
      refine y_aload rfl rfl ?_
      refine y_intf rfl rfl rfl rfl rfl hI_it.2.2.1 hI_it.2.1 ?_
      have hz0 := hI_it.2.2.2.2.2.1
      refine i_next (nb := nb) (Nat.le_trans (by decide) (by have := hI_it.1; omega : 94 ≤ _)) (Nat.le_trans hn hX.1) hI_it hR.l88 (by omega) h_1 (fun b3 I3 eb_b3 hlo_b3 hb0_b3 ht_b3 hI1 hIe => ?_)
      have hfb : b3 = yAd R 88 z.toNat := eb_b3.trans (yAd_eq (hX.2.1 88 (by omega)).2.2 (hX.2.1 _ (by have := hR0.lt6 88 (by decide) (by decide); omega)).2.2)
      have hb_b3 := Nat.lt_of_lt_of_le hb0_b3 hn
      replace ht_b3 := (hX.2.1 _ hb_b3).1.symm.trans ht_b3
      have hI_it := hI1
      have hX := hX.upI (by omega) hIe
      have hS := hS0.x hX
      have hR := hR0.x hn hX
      have hz := hX.sz h94
      have hxn := hX.1
      have hw_b3 := hR.thi hlo_b3 hb0_b3 ((hX.2.1 _ hb_b3).1.trans ht_b3)
      rw [(hX.2.1 _ hb_b3).2.1] at hw_b3
      refine y_ret1 ?_
      refine y_cast rfl ((hX.2.1 _ hb_b3).1.trans ht_b3) (Nat.lt_of_lt_of_le hb_b3 hX.1) ?_
      refine y_astore (ls' := [some _, some _, some _, some _, some _, some _, some _, some _, some _, some _]) rfl rfl rfl ?_
      refine y_iload_n rfl rfl ?_
      refine y_aload rfl rfl ?_
      refine y_getIv (v := I b3 1) rfl ((hX.2.1 _ hb_b3).1.trans ht_b3) (Nat.lt_of_lt_of_le hb_b3 hX.1) rfl rfl (congrFun (hX.2.1 _ hb_b3).2.1 1) ?_
      refine y_iload_n rfl rfl ?_
      refine y_icmp_ne rfl j_X14_personTold_59 (fun h_4 => ?_) (fun h_5 => ?_)
      · refine y_iconst rfl ?_
        refine y_static rfl rfl rfl rfl rfl ?_
        refine r_oneE (fun v_6 hv_6 => ?_)
        refine y_ret1 ?_
        refine y_iadd rfl ?_
        refine y_istore_n (ls' := [some _, some _, some _, some _, some _, some _, some _, some _, some _, some _]) rfl rfl rfl ?_
        refine y_goto rfl j_X14_personTold_23 ?_
        refine y_fgt (ls := [some _, some _, some _, some _, some _, some _, some _, some _, some _, none]) ⟨rfl, rfl, rfl, rfl, rfl, rfl, rfl, rfl, rfl, trivial⟩ ?_
        exact ih _ _ _ _ _ _ _ hX (by omega) hI_it (by first | exact yFz_st hz0 hac_3 rfl | exact yFz_st hz0 hac_3 (by show _ = (if (I (yAd R 88 z.toNat) 1).toInt = x1.toInt then Int32.ofInt 1 else Int32.ofInt 0); rw [← hfb]; first | done | rfl | exact (if_pos (by omega)).symm | exact (if_neg (by omega)).symm | exact (yext (hv_6.trans (by decide))).trans (if_pos (by omega)).symm | exact (yext (hv_6.trans (by decide))).trans (if_neg (by omega)).symm) | exact yFz_s0 hz0 hac_3 (by show (if (I (yAd R 88 z.toNat) 1).toInt = x1.toInt then Int32.ofInt 1 else Int32.ofInt 0) = _; rw [← hfb]; first | exact if_neg (by omega) | exact if_pos (by omega))) (by omega)
      · refine y_iconst rfl ?_
        refine y_goto rfl j_X14_personTold_60 ?_
        refine y_static rfl rfl rfl rfl rfl ?_
        refine r_oneE (fun v_7 hv_7 => ?_)
        refine y_ret1 ?_
        refine y_iadd rfl ?_
        refine y_istore_n (ls' := [some _, some _, some _, some _, some _, some _, some _, some _, some _, some _]) rfl rfl rfl ?_
        refine y_goto rfl j_X14_personTold_23 ?_
        refine y_fgt (ls := [some _, some _, some _, some _, some _, some _, some _, some _, some _, none]) ⟨rfl, rfl, rfl, rfl, rfl, rfl, rfl, rfl, rfl, trivial⟩ ?_
        exact ih _ _ _ _ _ _ _ hX (by omega) hI_it (by first | exact yFz_st hz0 hac_3 rfl | exact yFz_st hz0 hac_3 (by show _ = (if (I (yAd R 88 z.toNat) 1).toInt = x1.toInt then Int32.ofInt 1 else Int32.ofInt 0); rw [← hfb]; first | done | rfl | exact (if_pos (by omega)).symm | exact (if_neg (by omega)).symm | exact (yext (hv_7.trans (by decide))).trans (if_pos (by omega)).symm | exact (yext (hv_7.trans (by decide))).trans (if_neg (by omega)).symm) | exact yFz_s0 hz0 hac_3 (by show (if (I (yAd R 88 z.toNat) 1).toInt = x1.toInt then Int32.ofInt 1 else Int32.ofInt 0) = _; rw [← hfb]; first | exact if_neg (by omega) | exact if_pos (by omega))) (by omega)
    · refine y_ret1 ?_
      refine y_if_eqT rfl j_X14_personTold_68 (by decide) ?_
      refine y_fgt (ls := [some _, some _, some _, some _, some _, some _, some _, some _, none, none]) ⟨rfl, rfl, rfl, rfl, rfl, rfl, rfl, rfl, trivial⟩ ?_
      exact hx _ _ _ _ _ hX (by have h7_ := hI_it.2.2.2.2.2.2.1; have h6_ := hI_it.2.2.2.2.2.1; rw [show (I 88 2).toInt.toNat = z.toNat by omega]; exact hac_3)
theorem e_h_person77 (hS0 : ySh n tg R) (hR0 : yRI K nb tg I R) (hn : nb ≤ n) {x1 x2 x3 x6 x7 : Int32} (hp0 : 0 ≤ x1.toInt) (hp1 : x1.toInt < 8) (hTs : mPd I R) (hx : ∀ (x4 : Int32) (x5 : Int32) n1 tg1 I1 R1, yX n tg I R n1 tg1 I1 R1 → x4 = yFz (fun j => if (I (yAd R 89 j) 1).toInt = x1.toInt ∧ (I (yAd R 89 j) 5).toInt = 0 then I (yAd R 89 j) 4 - I (yAd R 89 j) 7 else Int32.ofInt 0) (I 89 2).toInt.toNat → x5 = yFz (fun j => if (I (yAd R 89 j) 1).toInt = x1.toInt ∧ (I (yAd R 89 j) 5).toInt = 0 then mLt (I (yAd R 89 j) 2) (I (yAd R 89 j) 4) (I (yAd R 89 j) 7) else Int32.ofInt 0) (I 89 2).toInt.toNat → yW xm_X14_personTold xc_X14_personTold_148 [some (.ref 83), some (.int x1), some (.int x2), some (.int x3), some (.int x4), some (.int x5), some (.int x6), some (.int x7), none, none] [] (n1, tg1, I1, R1) c s Q) : ∀ (m : Nat) (z : Int) (it : Nat) (x4 : Int32) (x5 : Int32) (n1 : Nat) (tg1 : Nat → yT) (I1 : Nat → Nat → Int32) (R1 : Nat → Nat → Value), yX n tg I R n1 tg1 I1 R1 → n ≤ it → yIt nb n1 tg1 I1 R1 it 89 z → x4 = yFz (fun j => if (I (yAd R 89 j) 1).toInt = x1.toInt ∧ (I (yAd R 89 j) 5).toInt = 0 then I (yAd R 89 j) 4 - I (yAd R 89 j) 7 else Int32.ofInt 0) z.toNat → x5 = yFz (fun j => if (I (yAd R 89 j) 1).toInt = x1.toInt ∧ (I (yAd R 89 j) 5).toInt = 0 then mLt (I (yAd R 89 j) 2) (I (yAd R 89 j) 4) (I (yAd R 89 j) 7) else Int32.ofInt 0) z.toNat → (I 89 2).toInt - z < m → yW xm_X14_personTold xc_X14_personTold_77 [some (.ref 83), some (.int x1), some (.int x2), some (.int x3), some (.int x4), some (.int x5), some (.int x6), some (.int x7), some (.ref it), none] [] (n1, tg1, I1, R1) c s Q := by
  intro m
  induction m with
  | zero =>
    intro z it x4 x5 n1 tg1 I1 R1 hX hit hI_it hac_4 hac_5 hm
    have hz := hX.sz hS0.1
    have h7 := hI_it.2.2.2.2.2.2.1
    exfalso; omega
  | succ m ih =>
    intro z it x4 x5 n1 tg1 I1 R1 hX hit hI_it hac_4 hac_5 hm
    have hS := hS0.x hX
    have hR := hR0.x hn hX
    have h94 : 94 ≤ n := hS0.1
    have hz := hX.sz h94
    have hxn := hX.1
    have hN := hR0.1
    have hnb : 94 ≤ nb := hR0.2.2.2.2.2.2
    refine y_aload rfl rfl ?_
    refine y_intf rfl rfl rfl rfl rfl hI_it.2.2.1 hI_it.2.1 ?_
    refine i_hasNext hI_it (fun h_1 => ?_) (fun h_2 => ?_)
    · refine y_ret1 ?_
      refine y_if_eqF rfl (by decide) ?_
      refine y_aload rfl rfl ?_
      refine y_intf rfl rfl rfl rfl rfl hI_it.2.2.1 hI_it.2.1 ?_
      have hz0 := hI_it.2.2.2.2.2.1
      refine i_next (nb := nb) (Nat.le_trans (by decide) (by have := hI_it.1; omega : 94 ≤ _)) (Nat.le_trans hn hX.1) hI_it hR.l89 (by omega) h_1 (fun b3 I3 eb_b3 hlo_b3 hb0_b3 ht_b3 hI1 hIe => ?_)
      have hfb : b3 = yAd R 89 z.toNat := eb_b3.trans (yAd_eq (hX.2.1 89 (by omega)).2.2 (hX.2.1 _ (by have := hR0.lt6 89 (by decide) (by decide); omega)).2.2)
      have hb_b3 := Nat.lt_of_lt_of_le hb0_b3 hn
      replace ht_b3 := (hX.2.1 _ hb_b3).1.symm.trans ht_b3
      have hI_it := hI1
      have hX := hX.upI (by omega) hIe
      have hS := hS0.x hX
      have hR := hR0.x hn hX
      have hz := hX.sz h94
      have hxn := hX.1
      have hw_b3 := hR.sal hlo_b3 hb0_b3 ((hX.2.1 _ hb_b3).1.trans ht_b3)
      rw [(hX.2.1 _ hb_b3).2.1] at hw_b3
      refine y_ret1 ?_
      refine y_cast rfl ((hX.2.1 _ hb_b3).1.trans ht_b3) (Nat.lt_of_lt_of_le hb_b3 hX.1) ?_
      refine y_astore (ls' := [some _, some _, some _, some _, some _, some _, some _, some _, some _, some _]) rfl rfl rfl ?_
      refine y_aload rfl rfl ?_
      refine y_getIv (v := I b3 1) rfl ((hX.2.1 _ hb_b3).1.trans ht_b3) (Nat.lt_of_lt_of_le hb_b3 hX.1) rfl rfl (congrFun (hX.2.1 _ hb_b3).2.1 1) ?_
      refine y_iload_n rfl rfl ?_
      refine y_icmp_ne rfl j_X14_personTold_77 (fun h_4 => ?_) (fun h_5 => ?_)
      · refine y_fgt (ls := [some _, some _, some _, some _, some _, some _, some _, some _, some _, none]) ⟨rfl, rfl, rfl, rfl, rfl, rfl, rfl, rfl, rfl, trivial⟩ ?_
        exact ih _ _ _ _ _ _ _ _ hX (by omega) hI_it (by first | exact yFz_st hz0 hac_4 rfl | exact yFz_st hz0 hac_4 (by show _ = (if (I (yAd R 89 z.toNat) 1).toInt = x1.toInt ∧ (I (yAd R 89 z.toNat) 5).toInt = 0 then I (yAd R 89 z.toNat) 4 - I (yAd R 89 z.toNat) 7 else Int32.ofInt 0); rw [← hfb]; first | done | rfl | exact (if_pos (by omega)).symm | exact (if_neg (by omega)).symm) | exact yFz_s0 hz0 hac_4 (by show (if (I (yAd R 89 z.toNat) 1).toInt = x1.toInt ∧ (I (yAd R 89 z.toNat) 5).toInt = 0 then I (yAd R 89 z.toNat) 4 - I (yAd R 89 z.toNat) 7 else Int32.ofInt 0) = _; rw [← hfb]; first | exact if_neg (by omega) | exact if_pos (by omega))) (by first | exact yFz_st hz0 hac_5 rfl | exact yFz_st hz0 hac_5 (by show _ = (if (I (yAd R 89 z.toNat) 1).toInt = x1.toInt ∧ (I (yAd R 89 z.toNat) 5).toInt = 0 then mLt (I (yAd R 89 z.toNat) 2) (I (yAd R 89 z.toNat) 4) (I (yAd R 89 z.toNat) 7) else Int32.ofInt 0); rw [← hfb]; first | done | rfl | exact (if_pos (by omega)).symm | exact (if_neg (by omega)).symm) | exact yFz_s0 hz0 hac_5 (by show (if (I (yAd R 89 z.toNat) 1).toInt = x1.toInt ∧ (I (yAd R 89 z.toNat) 5).toInt = 0 then mLt (I (yAd R 89 z.toNat) 2) (I (yAd R 89 z.toNat) 4) (I (yAd R 89 z.toNat) 7) else Int32.ofInt 0) = _; rw [← hfb]; first | exact if_neg (by omega) | exact if_pos (by omega))) (by omega)
      · refine y_aload rfl rfl ?_
        refine y_getIv (v := I b3 5) rfl ((hX.2.1 _ hb_b3).1.trans ht_b3) (Nat.lt_of_lt_of_le hb_b3 hX.1) rfl rfl (congrFun (hX.2.1 _ hb_b3).2.1 5) ?_
        refine y_if_eq rfl j_X14_personTold_119 (fun h_6 => ?_) (fun h_7 => ?_)
        · refine y_iload rfl rfl ?_
          refine y_aload rfl rfl ?_
          refine y_getIv (v := I b3 4) rfl ((hX.2.1 _ hb_b3).1.trans ht_b3) (Nat.lt_of_lt_of_le hb_b3 hX.1) rfl rfl (congrFun (hX.2.1 _ hb_b3).2.1 4) ?_
          refine y_aload rfl rfl ?_
          refine y_getIv (v := I b3 7) rfl ((hX.2.1 _ hb_b3).1.trans ht_b3) (Nat.lt_of_lt_of_le hb_b3 hX.1) rfl rfl (congrFun (hX.2.1 _ hb_b3).2.1 7) ?_
          refine y_isub rfl ?_
          refine y_iadd rfl ?_
          refine y_istore (ls' := [some _, some _, some _, some _, some _, some _, some _, some _, some _, some _]) rfl rfl rfl ?_
          refine y_iload rfl rfl ?_
          refine y_aload rfl rfl ?_
          refine y_virt rfl rfl rfl rfl rfl ((hX.2.1 _ hb_b3).1.trans ht_b3) (Nat.lt_of_lt_of_le hb_b3 hX.1) ?_
          refine r_leftX hS hR (Nat.le_trans hn hX.1) hlo_b3 hb0_b3 ((hX.2.1 _ hb_b3).1.trans ht_b3) (by rw [(hX.2.1 _ hb_b3).2.1, hfb]; exact hTs z.toNat (by omega)) (fun v_8 hv_8 => ?_)
          rw [(hX.2.1 _ hb_b3).2.1] at hv_8
          refine y_ret1 ?_
          refine y_iadd rfl ?_
          refine y_istore (ls' := [some _, some _, some _, some _, some _, some _, some _, some _, some _, some _]) rfl rfl rfl ?_
          refine y_goto rfl j_X14_personTold_77 ?_
          refine y_fgt (ls := [some _, some _, some _, some _, some _, some _, some _, some _, some _, none]) ⟨rfl, rfl, rfl, rfl, rfl, rfl, rfl, rfl, rfl, trivial⟩ ?_
          exact ih _ _ _ _ _ _ _ _ hX (by omega) hI_it (by first | exact yFz_st hz0 hac_4 rfl | exact yFz_st hz0 hac_4 (by show _ = (if (I (yAd R 89 z.toNat) 1).toInt = x1.toInt ∧ (I (yAd R 89 z.toNat) 5).toInt = 0 then I (yAd R 89 z.toNat) 4 - I (yAd R 89 z.toNat) 7 else Int32.ofInt 0); rw [← hfb]; first | done | rfl | exact (if_pos (by omega)).symm | exact (if_neg (by omega)).symm | exact (hv_8 (by omega)).trans (if_pos (by omega)).symm) | exact yFz_s0 hz0 hac_4 (by show (if (I (yAd R 89 z.toNat) 1).toInt = x1.toInt ∧ (I (yAd R 89 z.toNat) 5).toInt = 0 then I (yAd R 89 z.toNat) 4 - I (yAd R 89 z.toNat) 7 else Int32.ofInt 0) = _; rw [← hfb]; first | exact if_neg (by omega) | exact if_pos (by omega))) (by first | exact yFz_st hz0 hac_5 rfl | exact yFz_st hz0 hac_5 (by show _ = (if (I (yAd R 89 z.toNat) 1).toInt = x1.toInt ∧ (I (yAd R 89 z.toNat) 5).toInt = 0 then mLt (I (yAd R 89 z.toNat) 2) (I (yAd R 89 z.toNat) 4) (I (yAd R 89 z.toNat) 7) else Int32.ofInt 0); rw [← hfb]; first | done | rfl | exact (if_pos (by omega)).symm | exact (if_neg (by omega)).symm | exact (hv_8 (by omega)).trans (if_pos (by omega)).symm) | exact yFz_s0 hz0 hac_5 (by show (if (I (yAd R 89 z.toNat) 1).toInt = x1.toInt ∧ (I (yAd R 89 z.toNat) 5).toInt = 0 then mLt (I (yAd R 89 z.toNat) 2) (I (yAd R 89 z.toNat) 4) (I (yAd R 89 z.toNat) 7) else Int32.ofInt 0) = _; rw [← hfb]; first | exact if_neg (by omega) | exact if_pos (by omega))) (by omega)
        · refine y_goto rfl j_X14_personTold_77 ?_
          refine y_fgt (ls := [some _, some _, some _, some _, some _, some _, some _, some _, some _, none]) ⟨rfl, rfl, rfl, rfl, rfl, rfl, rfl, rfl, rfl, trivial⟩ ?_
          exact ih _ _ _ _ _ _ _ _ hX (by omega) hI_it (by first | exact yFz_st hz0 hac_4 rfl | exact yFz_st hz0 hac_4 (by show _ = (if (I (yAd R 89 z.toNat) 1).toInt = x1.toInt ∧ (I (yAd R 89 z.toNat) 5).toInt = 0 then I (yAd R 89 z.toNat) 4 - I (yAd R 89 z.toNat) 7 else Int32.ofInt 0); rw [← hfb]; first | done | rfl | exact (if_pos (by omega)).symm | exact (if_neg (by omega)).symm) | exact yFz_s0 hz0 hac_4 (by show (if (I (yAd R 89 z.toNat) 1).toInt = x1.toInt ∧ (I (yAd R 89 z.toNat) 5).toInt = 0 then I (yAd R 89 z.toNat) 4 - I (yAd R 89 z.toNat) 7 else Int32.ofInt 0) = _; rw [← hfb]; first | exact if_neg (by omega) | exact if_pos (by omega))) (by first | exact yFz_st hz0 hac_5 rfl | exact yFz_st hz0 hac_5 (by show _ = (if (I (yAd R 89 z.toNat) 1).toInt = x1.toInt ∧ (I (yAd R 89 z.toNat) 5).toInt = 0 then mLt (I (yAd R 89 z.toNat) 2) (I (yAd R 89 z.toNat) 4) (I (yAd R 89 z.toNat) 7) else Int32.ofInt 0); rw [← hfb]; first | done | rfl | exact (if_pos (by omega)).symm | exact (if_neg (by omega)).symm) | exact yFz_s0 hz0 hac_5 (by show (if (I (yAd R 89 z.toNat) 1).toInt = x1.toInt ∧ (I (yAd R 89 z.toNat) 5).toInt = 0 then mLt (I (yAd R 89 z.toNat) 2) (I (yAd R 89 z.toNat) 4) (I (yAd R 89 z.toNat) 7) else Int32.ofInt 0) = _; rw [← hfb]; first | exact if_neg (by omega) | exact if_pos (by omega))) (by omega)
    · refine y_ret1 ?_
      refine y_if_eqT rfl j_X14_personTold_148 (by decide) ?_
      refine y_fgt (ls := [some _, some _, some _, some _, some _, some _, some _, some _, none, none]) ⟨rfl, rfl, rfl, rfl, rfl, rfl, rfl, rfl, trivial⟩ ?_
      exact hx _ _ _ _ _ _ hX (by have h7_ := hI_it.2.2.2.2.2.2.1; have h6_ := hI_it.2.2.2.2.2.1; rw [show (I 89 2).toInt.toNat = z.toNat by omega]; exact hac_4) (by have h7_ := hI_it.2.2.2.2.2.2.1; have h6_ := hI_it.2.2.2.2.2.1; rw [show (I 89 2).toInt.toNat = z.toNat by omega]; exact hac_5)
theorem e_h_person157 (hS0 : ySh n tg R) (hR0 : yRI K nb tg I R) (hn : nb ≤ n) {x1 x2 x3 x4 x5 x7 : Int32} (hp0 : 0 ≤ x1.toInt) (hp1 : x1.toInt < 8) (hx : ∀ (x6 : Int32) n1 tg1 I1 R1, yX n tg I R n1 tg1 I1 R1 → x6 = yFz (fun j => if (I (yAd R 90 j) 1).toInt = x1.toInt ∧ (I (yAd R 90 j) 5).toInt = 0 then Int32.ofInt 1 else Int32.ofInt 0) (I 90 2).toInt.toNat → yW xm_X14_personTold xc_X14_personTold_212 [some (.ref 83), some (.int x1), some (.int x2), some (.int x3), some (.int x4), some (.int x5), some (.int x6), some (.int x7), none, none] [] (n1, tg1, I1, R1) c s Q) : ∀ (m : Nat) (z : Int) (it : Nat) (x6 : Int32) (n1 : Nat) (tg1 : Nat → yT) (I1 : Nat → Nat → Int32) (R1 : Nat → Nat → Value), yX n tg I R n1 tg1 I1 R1 → n ≤ it → yIt nb n1 tg1 I1 R1 it 90 z → x6 = yFz (fun j => if (I (yAd R 90 j) 1).toInt = x1.toInt ∧ (I (yAd R 90 j) 5).toInt = 0 then Int32.ofInt 1 else Int32.ofInt 0) z.toNat → (I 90 2).toInt - z < m → yW xm_X14_personTold xc_X14_personTold_157 [some (.ref 83), some (.int x1), some (.int x2), some (.int x3), some (.int x4), some (.int x5), some (.int x6), some (.int x7), some (.ref it), none] [] (n1, tg1, I1, R1) c s Q := by
  intro m
  induction m with
  | zero =>
    intro z it x6 n1 tg1 I1 R1 hX hit hI_it hac_6 hm
    have hz := hX.sz hS0.1
    have h7 := hI_it.2.2.2.2.2.2.1
    exfalso; omega
  | succ m ih =>
    intro z it x6 n1 tg1 I1 R1 hX hit hI_it hac_6 hm
    have hS := hS0.x hX
    have hR := hR0.x hn hX
    have h94 : 94 ≤ n := hS0.1
    have hz := hX.sz h94
    have hxn := hX.1
    have hN := hR0.1
    have hnb : 94 ≤ nb := hR0.2.2.2.2.2.2
    refine y_aload rfl rfl ?_
    refine y_intf rfl rfl rfl rfl rfl hI_it.2.2.1 hI_it.2.1 ?_
    refine i_hasNext hI_it (fun h_1 => ?_) (fun h_2 => ?_)
    · refine y_ret1 ?_
      refine y_if_eqF rfl (by decide) ?_
      refine y_aload rfl rfl ?_
      refine y_intf rfl rfl rfl rfl rfl hI_it.2.2.1 hI_it.2.1 ?_
      have hz0 := hI_it.2.2.2.2.2.1
      refine i_next (nb := nb) (Nat.le_trans (by decide) (by have := hI_it.1; omega : 94 ≤ _)) (Nat.le_trans hn hX.1) hI_it hR.l90 (by omega) h_1 (fun b3 I3 eb_b3 hlo_b3 hb0_b3 ht_b3 hI1 hIe => ?_)
      have hfb : b3 = yAd R 90 z.toNat := eb_b3.trans (yAd_eq (hX.2.1 90 (by omega)).2.2 (hX.2.1 _ (by have := hR0.lt6 90 (by decide) (by decide); omega)).2.2)
      have hb_b3 := Nat.lt_of_lt_of_le hb0_b3 hn
      replace ht_b3 := (hX.2.1 _ hb_b3).1.symm.trans ht_b3
      have hI_it := hI1
      have hX := hX.upI (by omega) hIe
      have hS := hS0.x hX
      have hR := hR0.x hn hX
      have hz := hX.sz h94
      have hxn := hX.1
      have hw_b3 := hR.lea hlo_b3 hb0_b3 ((hX.2.1 _ hb_b3).1.trans ht_b3)
      rw [(hX.2.1 _ hb_b3).2.1] at hw_b3
      refine y_ret1 ?_
      refine y_cast rfl ((hX.2.1 _ hb_b3).1.trans ht_b3) (Nat.lt_of_lt_of_le hb_b3 hX.1) ?_
      refine y_astore (ls' := [some _, some _, some _, some _, some _, some _, some _, some _, some _, some _]) rfl rfl rfl ?_
      refine y_iload rfl rfl ?_
      refine y_aload rfl rfl ?_
      refine y_getIv (v := I b3 1) rfl ((hX.2.1 _ hb_b3).1.trans ht_b3) (Nat.lt_of_lt_of_le hb_b3 hX.1) rfl rfl (congrFun (hX.2.1 _ hb_b3).2.1 1) ?_
      refine y_iload_n rfl rfl ?_
      refine y_icmp_ne rfl j_X14_personTold_202 (fun h_4 => ?_) (fun h_5 => ?_)
      · refine y_iconst rfl ?_
        refine y_static rfl rfl rfl rfl rfl ?_
        refine r_oneE (fun v_6 hv_6 => ?_)
        refine y_ret1 ?_
        refine y_iadd rfl ?_
        refine y_istore (ls' := [some _, some _, some _, some _, some _, some _, some _, some _, some _, some _]) rfl rfl rfl ?_
        refine y_goto rfl j_X14_personTold_157 ?_
        refine y_fgt (ls := [some _, some _, some _, some _, some _, some _, some _, some _, some _, none]) ⟨rfl, rfl, rfl, rfl, rfl, rfl, rfl, rfl, rfl, trivial⟩ ?_
        exact ih _ _ _ _ _ _ _ hX (by omega) hI_it (by first | exact yFz_st hz0 hac_6 rfl | exact yFz_st hz0 hac_6 (by show _ = (if (I (yAd R 90 z.toNat) 1).toInt = x1.toInt ∧ (I (yAd R 90 z.toNat) 5).toInt = 0 then Int32.ofInt 1 else Int32.ofInt 0); rw [← hfb]; first | done | rfl | exact (if_pos (by omega)).symm | exact (if_neg (by omega)).symm | exact (yext (hv_6.trans (by decide))).trans (if_pos (by omega)).symm | exact (yext (hv_6.trans (by decide))).trans (if_neg (by omega)).symm) | exact yFz_s0 hz0 hac_6 (by show (if (I (yAd R 90 z.toNat) 1).toInt = x1.toInt ∧ (I (yAd R 90 z.toNat) 5).toInt = 0 then Int32.ofInt 1 else Int32.ofInt 0) = _; rw [← hfb]; first | exact if_neg (by omega) | exact if_pos (by omega))) (by omega)
      · refine y_aload rfl rfl ?_
        refine y_getIv (v := I b3 5) rfl ((hX.2.1 _ hb_b3).1.trans ht_b3) (Nat.lt_of_lt_of_le hb_b3 hX.1) rfl rfl (congrFun (hX.2.1 _ hb_b3).2.1 5) ?_
        refine y_if_ne rfl j_X14_personTold_202 (fun h_7 => ?_) (fun h_8 => ?_)
        · refine y_iconst rfl ?_
          refine y_static rfl rfl rfl rfl rfl ?_
          refine r_oneE (fun v_9 hv_9 => ?_)
          refine y_ret1 ?_
          refine y_iadd rfl ?_
          refine y_istore (ls' := [some _, some _, some _, some _, some _, some _, some _, some _, some _, some _]) rfl rfl rfl ?_
          refine y_goto rfl j_X14_personTold_157 ?_
          refine y_fgt (ls := [some _, some _, some _, some _, some _, some _, some _, some _, some _, none]) ⟨rfl, rfl, rfl, rfl, rfl, rfl, rfl, rfl, rfl, trivial⟩ ?_
          exact ih _ _ _ _ _ _ _ hX (by omega) hI_it (by first | exact yFz_st hz0 hac_6 rfl | exact yFz_st hz0 hac_6 (by show _ = (if (I (yAd R 90 z.toNat) 1).toInt = x1.toInt ∧ (I (yAd R 90 z.toNat) 5).toInt = 0 then Int32.ofInt 1 else Int32.ofInt 0); rw [← hfb]; first | done | rfl | exact (if_pos (by omega)).symm | exact (if_neg (by omega)).symm | exact (yext (hv_9.trans (by decide))).trans (if_pos (by omega)).symm | exact (yext (hv_9.trans (by decide))).trans (if_neg (by omega)).symm) | exact yFz_s0 hz0 hac_6 (by show (if (I (yAd R 90 z.toNat) 1).toInt = x1.toInt ∧ (I (yAd R 90 z.toNat) 5).toInt = 0 then Int32.ofInt 1 else Int32.ofInt 0) = _; rw [← hfb]; first | exact if_neg (by omega) | exact if_pos (by omega))) (by omega)
        · refine y_iconst rfl ?_
          refine y_goto rfl j_X14_personTold_203 ?_
          refine y_static rfl rfl rfl rfl rfl ?_
          refine r_oneE (fun v_10 hv_10 => ?_)
          refine y_ret1 ?_
          refine y_iadd rfl ?_
          refine y_istore (ls' := [some _, some _, some _, some _, some _, some _, some _, some _, some _, some _]) rfl rfl rfl ?_
          refine y_goto rfl j_X14_personTold_157 ?_
          refine y_fgt (ls := [some _, some _, some _, some _, some _, some _, some _, some _, some _, none]) ⟨rfl, rfl, rfl, rfl, rfl, rfl, rfl, rfl, rfl, trivial⟩ ?_
          exact ih _ _ _ _ _ _ _ hX (by omega) hI_it (by first | exact yFz_st hz0 hac_6 rfl | exact yFz_st hz0 hac_6 (by show _ = (if (I (yAd R 90 z.toNat) 1).toInt = x1.toInt ∧ (I (yAd R 90 z.toNat) 5).toInt = 0 then Int32.ofInt 1 else Int32.ofInt 0); rw [← hfb]; first | done | rfl | exact (if_pos (by omega)).symm | exact (if_neg (by omega)).symm | exact (yext (hv_10.trans (by decide))).trans (if_pos (by omega)).symm | exact (yext (hv_10.trans (by decide))).trans (if_neg (by omega)).symm) | exact yFz_s0 hz0 hac_6 (by show (if (I (yAd R 90 z.toNat) 1).toInt = x1.toInt ∧ (I (yAd R 90 z.toNat) 5).toInt = 0 then Int32.ofInt 1 else Int32.ofInt 0) = _; rw [← hfb]; first | exact if_neg (by omega) | exact if_pos (by omega))) (by omega)
    · refine y_ret1 ?_
      refine y_if_eqT rfl j_X14_personTold_212 (by decide) ?_
      refine y_fgt (ls := [some _, some _, some _, some _, some _, some _, some _, some _, none, none]) ⟨rfl, rfl, rfl, rfl, rfl, rfl, rfl, rfl, trivial⟩ ?_
      exact hx _ _ _ _ _ hX (by have h7_ := hI_it.2.2.2.2.2.2.1; have h6_ := hI_it.2.2.2.2.2.1; rw [show (I 90 2).toInt.toNat = z.toNat by omega]; exact hac_6)
theorem e_h_person221 (hS0 : ySh n tg R) (hR0 : yRI K nb tg I R) (hn : nb ≤ n) {x1 x2 x3 x4 x5 x6 : Int32} (hp0 : 0 ≤ x1.toInt) (hp1 : x1.toInt < 8) (hx : ∀ (x7 : Int32) n1 tg1 I1 R1, yX n tg I R n1 tg1 I1 R1 → x7 = yFz (fun j => I (yAd R 91 j + 1 + 1) x1.toInt.toNat) (I 91 2).toInt.toNat → yW xm_X14_personTold xc_X14_personTold_258 [some (.ref 83), some (.int x1), some (.int x2), some (.int x3), some (.int x4), some (.int x5), some (.int x6), some (.int x7), none, none] [] (n1, tg1, I1, R1) c s Q) : ∀ (m : Nat) (z : Int) (it : Nat) (x7 : Int32) (n1 : Nat) (tg1 : Nat → yT) (I1 : Nat → Nat → Int32) (R1 : Nat → Nat → Value), yX n tg I R n1 tg1 I1 R1 → n ≤ it → yIt nb n1 tg1 I1 R1 it 91 z → x7 = yFz (fun j => I (yAd R 91 j + 1 + 1) x1.toInt.toNat) z.toNat → (I 91 2).toInt - z < m → yW xm_X14_personTold xc_X14_personTold_221 [some (.ref 83), some (.int x1), some (.int x2), some (.int x3), some (.int x4), some (.int x5), some (.int x6), some (.int x7), some (.ref it), none] [] (n1, tg1, I1, R1) c s Q := by
  intro m
  induction m with
  | zero =>
    intro z it x7 n1 tg1 I1 R1 hX hit hI_it hac_7 hm
    have hz := hX.sz hS0.1
    have h7 := hI_it.2.2.2.2.2.2.1
    exfalso; omega
  | succ m ih =>
    intro z it x7 n1 tg1 I1 R1 hX hit hI_it hac_7 hm
    have hS := hS0.x hX
    have hR := hR0.x hn hX
    have h94 : 94 ≤ n := hS0.1
    have hz := hX.sz h94
    have hxn := hX.1
    have hN := hR0.1
    have hnb : 94 ≤ nb := hR0.2.2.2.2.2.2
    refine y_aload rfl rfl ?_
    refine y_intf rfl rfl rfl rfl rfl hI_it.2.2.1 hI_it.2.1 ?_
    refine i_hasNext hI_it (fun h_1 => ?_) (fun h_2 => ?_)
    · refine y_ret1 ?_
      refine y_if_eqF rfl (by decide) ?_
      refine y_aload rfl rfl ?_
      refine y_intf rfl rfl rfl rfl rfl hI_it.2.2.1 hI_it.2.1 ?_
      have hz0 := hI_it.2.2.2.2.2.1
      refine i_next (nb := nb) (Nat.le_trans (by decide) (by have := hI_it.1; omega : 94 ≤ _)) (Nat.le_trans hn hX.1) hI_it hR.l91 (by omega) h_1 (fun b3 I3 eb_b3 hlo_b3 hb0_b3 ht_b3 hI1 hIe => ?_)
      have hfb : b3 = yAd R 91 z.toNat := eb_b3.trans (yAd_eq (hX.2.1 91 (by omega)).2.2 (hX.2.1 _ (by have := hR0.lt6 91 (by decide) (by decide); omega)).2.2)
      have hb_b3 := Nat.lt_of_lt_of_le hb0_b3 hn
      replace ht_b3 := (hX.2.1 _ hb_b3).1.symm.trans ht_b3
      have hI_it := hI1
      have hX := hX.upI (by omega) hIe
      have hS := hS0.x hX
      have hR := hR0.x hn hX
      have hz := hX.sz h94
      have hxn := hX.1
      refine y_ret1 ?_
      refine y_cast rfl ((hX.2.1 _ hb_b3).1.trans ht_b3) (Nat.lt_of_lt_of_le hb_b3 hX.1) ?_
      refine y_astore (ls' := [some _, some _, some _, some _, some _, some _, some _, some _, some _, some _]) rfl rfl rfl ?_
      refine y_iload rfl rfl ?_
      refine y_aload rfl rfl ?_
      obtain ⟨hR_v4, hb_v4, ht_v4⟩ := hR0.ven hlo_b3 hb0_b3 ht_b3 (j := 1) (by decide)
      have hb0_v4 := hb_v4
      have hb_v4 := Nat.lt_of_lt_of_le hb_v4 hn
      have hlo_v4 : 94 ≤ b3 + 1 + 1 := by omega
      have hR2_v4 := (congrFun (hX.2.1 b3 hb_b3).2.2 1).trans hR_v4
      refine y_getR rfl ((hX.2.1 _ hb_b3).1.trans ht_b3) (Nat.lt_of_lt_of_le hb_b3 hX.1) rfl rfl hR2_v4 ?_
      refine y_iload_n rfl rfl ?_
      refine y_ialoadv (J := I (b3 + 1 + 1)) rfl ((hX.2.1 _ hb_v4).1.trans ht_v4) (Nat.lt_of_lt_of_le hb_v4 hX.1) (by omega) (by omega) ((hX.2.1 _ hb_v4).2.1) ?_
      refine y_iadd rfl ?_
      refine y_istore (ls' := [some _, some _, some _, some _, some _, some _, some _, some _, some _, some _]) rfl rfl rfl ?_
      refine y_goto rfl j_X14_personTold_221 ?_
      refine y_fgt (ls := [some _, some _, some _, some _, some _, some _, some _, some _, some _, none]) ⟨rfl, rfl, rfl, rfl, rfl, rfl, rfl, rfl, rfl, trivial⟩ ?_
      exact ih _ _ _ _ _ _ _ hX (by omega) hI_it (by first | exact yFz_st hz0 hac_7 rfl | exact yFz_st hz0 hac_7 (by show _ = (I ((yAd R 91 z.toNat) + 1 + 1) x1.toInt.toNat); rw [← hfb]; first | done | rfl | exact (if_pos (by omega)).symm | exact (if_neg (by omega)).symm) | exact yFz_s0 hz0 hac_7 (by show (I ((yAd R 91 z.toNat) + 1 + 1) x1.toInt.toNat) = _; rw [← hfb]; first | exact if_neg (by omega) | exact if_pos (by omega))) (by omega)
    · refine y_ret1 ?_
      refine y_if_eqT rfl j_X14_personTold_258 (by decide) ?_
      refine y_fgt (ls := [some _, some _, some _, some _, some _, some _, some _, some _, none, none]) ⟨rfl, rfl, rfl, rfl, rfl, rfl, rfl, rfl, trivial⟩ ?_
      exact hx _ _ _ _ _ hX (by have h7_ := hI_it.2.2.2.2.2.2.1; have h6_ := hI_it.2.2.2.2.2.1; rw [show (I 91 2).toInt.toNat = z.toNat by omega]; exact hac_7)
theorem s_personTold9 (hS0 : ySh n tg R) (hR0 : yRI K nb tg I R) (hn : nb ≤ n) {x1 x2 : Int32} (hp0 : 0 ≤ x1.toInt) (hp1 : x1.toInt < 8) (h2 : 0 ≤ x2.toInt) (h3 : x2.toInt < 8) (hTs : mPd I R) (hQ : ∀ (v : Int32) n1 tg1 I1 R1 c1 s1, v = mOPv I R x1 x2.toInt → yX n tg I R n1 tg1 I1 R1 → c1 ≤ c + 5 → s1 ≤ s + 24 → Q (.inl (some (.int v))) (n1, tg1, I1, R1) c1 s1) : yC 227 [.ref 83, .int x1, .int x2] (n, tg, I, R) c s Q := by
  have hX : yX n tg I R n tg I R := yX.rf
  have hS := hS0
  have hR := hR0
  have h94 : 94 ≤ n := hS0.1
  have hz : ySz I I := hX.sz h94
  have hxn := hX.1
  have hN := hR0.1
  have hnb : 94 ≤ nb := hR0.2.2.2.2.2.2
  refine y_in (M := xm_X14_personTold) (ls := [some _, some _, some _, _, _, _, _, _, _, _]) rfl rfl rfl ?_
  refine y_iconst rfl ?_
  refine y_istore_n (ls' := [some _, some _, some _, some _, _, _, _, _, _, _]) rfl rfl rfl ?_
  refine y_iconst rfl ?_
  refine y_istore (ls' := [some _, some _, some _, some _, some _, _, _, _, _, _]) rfl rfl rfl ?_
  refine y_iconst rfl ?_
  refine y_istore (ls' := [some _, some _, some _, some _, some _, some _, _, _, _, _]) rfl rfl rfl ?_
  refine y_iconst rfl ?_
  refine y_istore (ls' := [some _, some _, some _, some _, some _, some _, some _, _, _, _]) rfl rfl rfl ?_
  refine y_iconst rfl ?_
  refine y_istore (ls' := [some _, some _, some _, some _, some _, some _, some _, some _, _, _]) rfl rfl rfl ?_
  refine y_aload_n rfl rfl ?_
  refine y_getR rfl (ySh.t hS rfl) (ySh.n hS rfl) rfl rfl (ySh.r hS rfl) ?_
  refine y_virt rfl rfl rfl rfl rfl (ySh.t hS rfl) (ySh.n hS rfl) ?_
  refine l_iter (nb := nb) (l := 88) hS (ySh.t hS rfl) (ySh.n hS rfl) (by omega) (Nat.le_trans hn hX.1) hR.l88.2.2.2.1 (fun n1 tg1 I1 R1 hnA hX1 hI_it1 => ?_)
  have hX := hX.trans hX1
  have hS := hS0.x hX
  have hR := hR0.x hn hX
  have hz := hX.sz h94
  have hxn := hX.1
  refine y_ret1 ?_
  refine y_astore (ls' := [some _, some _, some _, some _, some _, some _, some _, some _, some _, _]) rfl rfl rfl ?_
  refine e_h_person23 hS0 hR0 hn (by omega) (by omega) (fun a3_3 n2 tg2 I2 R2 hX hc3_3 => ?_) 100000 0 _ _ _ _ _ _ hX (by omega) hI_it1 rfl (by omega)
  have hS := hS0.x hX
  have hR := hR0.x hn hX
  have hz := hX.sz h94
  have hxn := hX.1
  refine y_aload_n rfl rfl ?_
  refine y_getR rfl (ySh.t hS rfl) (ySh.n hS rfl) rfl rfl (ySh.r hS rfl) ?_
  refine y_virt rfl rfl rfl rfl rfl (ySh.t hS rfl) (ySh.n hS rfl) ?_
  refine l_iter (nb := nb) (l := 89) hS (ySh.t hS rfl) (ySh.n hS rfl) (by omega) (Nat.le_trans hn hX.1) hR.l89.2.2.2.1 (fun n4 tg4 I4 R4 hnA hX1 hI_it4 => ?_)
  have hX := hX.trans hX1
  have hS := hS0.x hX
  have hR := hR0.x hn hX
  have hz := hX.sz h94
  have hxn := hX.1
  refine y_ret1 ?_
  refine y_astore (ls' := [some _, some _, some _, some _, some _, some _, some _, some _, some _, _]) rfl rfl rfl ?_
  refine e_h_person77 hS0 hR0 hn (by omega) (by omega) hTs (fun a6_4 a6_5 n5 tg5 I5 R5 hX hc6_4 hc6_5 => ?_) 100000 0 _ _ _ _ _ _ _ hX (by omega) hI_it4 rfl rfl (by omega)
  have hS := hS0.x hX
  have hR := hR0.x hn hX
  have hz := hX.sz h94
  have hxn := hX.1
  refine y_aload_n rfl rfl ?_
  refine y_getR rfl (ySh.t hS rfl) (ySh.n hS rfl) rfl rfl (ySh.r hS rfl) ?_
  refine y_virt rfl rfl rfl rfl rfl (ySh.t hS rfl) (ySh.n hS rfl) ?_
  refine l_iter (nb := nb) (l := 90) hS (ySh.t hS rfl) (ySh.n hS rfl) (by omega) (Nat.le_trans hn hX.1) hR.l90.2.2.2.1 (fun n7 tg7 I7 R7 hnA hX1 hI_it7 => ?_)
  have hX := hX.trans hX1
  have hS := hS0.x hX
  have hR := hR0.x hn hX
  have hz := hX.sz h94
  have hxn := hX.1
  refine y_ret1 ?_
  refine y_astore (ls' := [some _, some _, some _, some _, some _, some _, some _, some _, some _, _]) rfl rfl rfl ?_
  refine e_h_person157 hS0 hR0 hn (by omega) (by omega) (fun a9_6 n8 tg8 I8 R8 hX hc9_6 => ?_) 100000 0 _ _ _ _ _ _ hX (by omega) hI_it7 rfl (by omega)
  have hS := hS0.x hX
  have hR := hR0.x hn hX
  have hz := hX.sz h94
  have hxn := hX.1
  refine y_aload_n rfl rfl ?_
  refine y_getR rfl (ySh.t hS rfl) (ySh.n hS rfl) rfl rfl (ySh.r hS rfl) ?_
  refine y_virt rfl rfl rfl rfl rfl (ySh.t hS rfl) (ySh.n hS rfl) ?_
  refine l_iter (nb := nb) (l := 91) hS (ySh.t hS rfl) (ySh.n hS rfl) (by omega) (Nat.le_trans hn hX.1) hR.l91.2.2.2.1 (fun n10 tg10 I10 R10 hnA hX1 hI_it10 => ?_)
  have hX := hX.trans hX1
  have hS := hS0.x hX
  have hR := hR0.x hn hX
  have hz := hX.sz h94
  have hxn := hX.1
  refine y_ret1 ?_
  refine y_astore (ls' := [some _, some _, some _, some _, some _, some _, some _, some _, some _, _]) rfl rfl rfl ?_
  refine e_h_person221 hS0 hR0 hn (by omega) (by omega) (fun a12_7 n11 tg11 I11 R11 hX hc12_7 => ?_) 100000 0 _ _ _ _ _ _ hX (by omega) hI_it10 rfl (by omega)
  have hS := hS0.x hX
  have hR := hR0.x hn hX
  have hz := hX.sz h94
  have hxn := hX.1
  refine y_bip rfl (by decide) ?_
  refine y_newarrL (m := 8) rfl rfl (by decide) (by decide) rfl (fun n13 tg13 I13 R13 hA => ?_)
  have hnA := hA.1
  have ht_f14 : tg13 n11 = (0, 8) := hA.2.1
  have ha_f14 : n11 < n13 := by omega
  have hX := hX.trans (hA.x rfl)
  have hS := hS0.x hX
  have hR := hR0.x hn hX
  have hz := hX.sz h94
  have hxn := hX.1
  refine y_dup rfl rfl ?_
  refine y_iconst rfl ?_
  refine y_aload_n rfl rfl ?_
  refine y_getR rfl (ySh.t hS rfl) (ySh.n hS rfl) rfl rfl (ySh.r hS rfl) ?_
  refine y_iload_n rfl rfl ?_
  refine y_ialoadv (J := I 84) rfl (ySh.t hS rfl) (ySh.n hS rfl) (by omega) (by omega) ((hX.2.1 84 (by omega)).2.1) ?_
  refine y_iastoreC (j := 0) rfl ht_f14 ha_f14 (Nat.le_trans (by decide) (by omega : 94 ≤ _)) (by decide) (by decide) rfl ?_
  refine y_nameI (fun I15 e15 => ?_)
  have hX := hX.upI (by omega) (upI e15)
  have hS := hS0.x hX
  have hR := hR0.x hn hX
  have hz := hX.sz h94
  have hxn := hX.1
  refine y_dup rfl rfl ?_
  refine y_iconst rfl ?_
  refine y_iload_n rfl rfl ?_
  refine y_iastoreC (j := 1) rfl ht_f14 ha_f14 (Nat.le_trans (by decide) (by omega : 94 ≤ _)) (by decide) (by decide) rfl ?_
  refine y_nameI (fun I16 e16 => ?_)
  have hX := hX.upI (by omega) (upI e16)
  have hS := hS0.x hX
  have hR := hR0.x hn hX
  have hz := hX.sz h94
  have hxn := hX.1
  refine y_dup rfl rfl ?_
  refine y_iconst rfl ?_
  refine y_aload_n rfl rfl ?_
  refine y_getR rfl (ySh.t hS rfl) (ySh.n hS rfl) rfl rfl (ySh.r hS rfl) ?_
  refine y_iload_n rfl rfl ?_
  refine y_ialoadv (J := I 85) rfl (ySh.t hS rfl) (ySh.n hS rfl) (by omega) (by omega) ((hX.2.1 85 (by omega)).2.1) ?_
  refine y_iastoreC (j := 2) rfl ht_f14 ha_f14 (Nat.le_trans (by decide) (by omega : 94 ≤ _)) (by decide) (by decide) rfl ?_
  refine y_nameI (fun I17 e17 => ?_)
  have hX := hX.upI (by omega) (upI e17)
  have hS := hS0.x hX
  have hR := hR0.x hn hX
  have hz := hX.sz h94
  have hxn := hX.1
  refine y_dup rfl rfl ?_
  refine y_iconst rfl ?_
  refine y_aload_n rfl rfl ?_
  refine y_getR rfl (ySh.t hS rfl) (ySh.n hS rfl) rfl rfl (ySh.r hS rfl) ?_
  refine y_iload_n rfl rfl ?_
  refine y_ialoadv (J := I 86) rfl (ySh.t hS rfl) (ySh.n hS rfl) (by omega) (by omega) ((hX.2.1 86 (by omega)).2.1) ?_
  refine y_iastoreC (j := 3) rfl ht_f14 ha_f14 (Nat.le_trans (by decide) (by omega : 94 ≤ _)) (by decide) (by decide) rfl ?_
  refine y_nameI (fun I18 e18 => ?_)
  have hX := hX.upI (by omega) (upI e18)
  have hS := hS0.x hX
  have hR := hR0.x hn hX
  have hz := hX.sz h94
  have hxn := hX.1
  refine y_dup rfl rfl ?_
  refine y_iconst rfl ?_
  refine y_iload rfl rfl ?_
  refine y_iastoreC (j := 4) rfl ht_f14 ha_f14 (Nat.le_trans (by decide) (by omega : 94 ≤ _)) (by decide) (by decide) rfl ?_
  refine y_nameI (fun I19 e19 => ?_)
  have hX := hX.upI (by omega) (upI e19)
  have hS := hS0.x hX
  have hR := hR0.x hn hX
  have hz := hX.sz h94
  have hxn := hX.1
  refine y_dup rfl rfl ?_
  refine y_iconst rfl ?_
  refine y_iload rfl rfl ?_
  refine y_iastoreC (j := 5) rfl ht_f14 ha_f14 (Nat.le_trans (by decide) (by omega : 94 ≤ _)) (by decide) (by decide) rfl ?_
  refine y_nameI (fun I20 e20 => ?_)
  have hX := hX.upI (by omega) (upI e20)
  have hS := hS0.x hX
  have hR := hR0.x hn hX
  have hz := hX.sz h94
  have hxn := hX.1
  refine y_dup rfl rfl ?_
  refine y_bip rfl (by decide) ?_
  refine y_iload rfl rfl ?_
  refine y_iastoreC (j := 6) rfl ht_f14 ha_f14 (Nat.le_trans (by decide) (by omega : 94 ≤ _)) (by decide) (by decide) rfl ?_
  refine y_nameI (fun I21 e21 => ?_)
  have hX := hX.upI (by omega) (upI e21)
  have hS := hS0.x hX
  have hR := hR0.x hn hX
  have hz := hX.sz h94
  have hxn := hX.1
  refine y_dup rfl rfl ?_
  refine y_bip rfl (by decide) ?_
  refine y_iload rfl rfl ?_
  refine y_iastoreC (j := 7) rfl ht_f14 ha_f14 (Nat.le_trans (by decide) (by omega : 94 ≤ _)) (by decide) (by decide) rfl ?_
  refine y_nameI (fun I22 e22 => ?_)
  have hX := hX.upI (by omega) (upI e22)
  have hS := hS0.x hX
  have hR := hR0.x hn hX
  have hz := hX.sz h94
  have hxn := hX.1
  refine y_astore (ls' := [some _, some _, some _, some _, some _, some _, some _, some _, some _, _]) rfl rfl rfl ?_
  refine y_aload rfl rfl ?_
  refine y_iload_n rfl rfl ?_
  refine y_iaload rfl ht_f14 ha_f14 (by omega) (by omega) ?_
  refine y_ireturn rfl rfl rfl ?_
  exact hQ _ _ _ _ _ _ _ (by rcases (by omega : x2.toInt.toNat = 0 ∨ x2.toInt.toNat = 1 ∨ x2.toInt.toNat = 2 ∨ x2.toInt.toNat = 3 ∨ x2.toInt.toNat = 4 ∨ x2.toInt.toNat = 5 ∨ x2.toInt.toNat = 6 ∨ x2.toInt.toNat = 7) with q_ | q_ | q_ | q_ | q_ | q_ | q_ | q_; (rw [q_, e22, upd2_ne (.inr (by decide)), e21, upd2_ne (.inr (by decide)), e20, upd2_ne (.inr (by decide)), e19, upd2_ne (.inr (by decide)), e18, upd2_ne (.inr (by decide)), e17, upd2_ne (.inr (by decide)), e16, upd2_ne (.inr (by decide)), e15, upd2_self]; rw [show x2.toInt = 0 by omega]; rfl); (rw [q_, e22, upd2_ne (.inr (by decide)), e21, upd2_ne (.inr (by decide)), e20, upd2_ne (.inr (by decide)), e19, upd2_ne (.inr (by decide)), e18, upd2_ne (.inr (by decide)), e17, upd2_ne (.inr (by decide)), e16, upd2_self]; rw [show x2.toInt = 1 by omega]; exact hc3_3); (rw [q_, e22, upd2_ne (.inr (by decide)), e21, upd2_ne (.inr (by decide)), e20, upd2_ne (.inr (by decide)), e19, upd2_ne (.inr (by decide)), e18, upd2_ne (.inr (by decide)), e17, upd2_self]; rw [show x2.toInt = 2 by omega]; rfl); (rw [q_, e22, upd2_ne (.inr (by decide)), e21, upd2_ne (.inr (by decide)), e20, upd2_ne (.inr (by decide)), e19, upd2_ne (.inr (by decide)), e18, upd2_self]; rw [show x2.toInt = 3 by omega]; rfl); (rw [q_, e22, upd2_ne (.inr (by decide)), e21, upd2_ne (.inr (by decide)), e20, upd2_ne (.inr (by decide)), e19, upd2_self]; rw [show x2.toInt = 4 by omega]; exact hc6_4); (rw [q_, e22, upd2_ne (.inr (by decide)), e21, upd2_ne (.inr (by decide)), e20, upd2_self]; rw [show x2.toInt = 5 by omega]; exact hc6_5); (rw [q_, e22, upd2_ne (.inr (by decide)), e21, upd2_self]; rw [show x2.toInt = 6 by omega]; exact hc9_6); (rw [q_, e22, upd2_self]; rw [show x2.toInt = 7 by omega]; exact hc12_7)) hX (by omega) (by omega)
theorem e_h_house64 (hS0 : ySh n tg R) (hR0 : yRI K nb tg I R) (hn : nb ≤ n) {x1 x2 x5 x6 x7 : Int32} (hx : ∀ (x3 : Int32) (x4 : Int32) n1 tg1 I1 R1, yX n tg I R n1 tg1 I1 R1 → x3 = yFz (fun j => if (I (yAd R 89 j) 5).toInt = 0 then Int32.ofInt 0 else Int32.ofInt 1) (I 89 2).toInt.toNat → x4 = yFz (fun j => if (I (yAd R 89 j) 5).toInt = 0 ∧ (I (yAd R 89 j) 7).toInt = (I (yAd R 89 j) 4).toInt then Int32.ofInt 1 else Int32.ofInt 0) (I 89 2).toInt.toNat → yW xm_X14_houseTold xc_X14_houseTold_142 [some (.ref 83), some (.int x1), some (.int x2), some (.int x3), some (.int x4), some (.int x5), some (.int x6), some (.int x7), none, none, none, none] [] (n1, tg1, I1, R1) c s Q) : ∀ (m : Nat) (z : Int) (it : Nat) (x3 : Int32) (x4 : Int32) (n1 : Nat) (tg1 : Nat → yT) (I1 : Nat → Nat → Int32) (R1 : Nat → Nat → Value), yX n tg I R n1 tg1 I1 R1 → n ≤ it → yIt nb n1 tg1 I1 R1 it 89 z → x3 = yFz (fun j => if (I (yAd R 89 j) 5).toInt = 0 then Int32.ofInt 0 else Int32.ofInt 1) z.toNat → x4 = yFz (fun j => if (I (yAd R 89 j) 5).toInt = 0 ∧ (I (yAd R 89 j) 7).toInt = (I (yAd R 89 j) 4).toInt then Int32.ofInt 1 else Int32.ofInt 0) z.toNat → (I 89 2).toInt - z < m → yW xm_X14_houseTold xc_X14_houseTold_64 [some (.ref 83), some (.int x1), some (.int x2), some (.int x3), some (.int x4), some (.int x5), some (.int x6), some (.int x7), some (.ref it), none, none, none] [] (n1, tg1, I1, R1) c s Q := by
  intro m
  induction m with
  | zero =>
    intro z it x3 x4 n1 tg1 I1 R1 hX hit hI_it hac_3 hac_4 hm
    have hz := hX.sz hS0.1
    have h7 := hI_it.2.2.2.2.2.2.1
    exfalso; omega
  | succ m ih =>
    intro z it x3 x4 n1 tg1 I1 R1 hX hit hI_it hac_3 hac_4 hm
    have hS := hS0.x hX
    have hR := hR0.x hn hX
    have h94 : 94 ≤ n := hS0.1
    have hz := hX.sz h94
    have hxn := hX.1
    have hN := hR0.1
    have hnb : 94 ≤ nb := hR0.2.2.2.2.2.2
    refine y_aload rfl rfl ?_
    refine y_intf rfl rfl rfl rfl rfl hI_it.2.2.1 hI_it.2.1 ?_
    refine i_hasNext hI_it (fun h_1 => ?_) (fun h_2 => ?_)
    · refine y_ret1 ?_
      refine y_if_eqF rfl (by decide) ?_
      refine y_aload rfl rfl ?_
      refine y_intf rfl rfl rfl rfl rfl hI_it.2.2.1 hI_it.2.1 ?_
      have hz0 := hI_it.2.2.2.2.2.1
      refine i_next (nb := nb) (Nat.le_trans (by decide) (by have := hI_it.1; omega : 94 ≤ _)) (Nat.le_trans hn hX.1) hI_it hR.l89 (by omega) h_1 (fun b3 I3 eb_b3 hlo_b3 hb0_b3 ht_b3 hI1 hIe => ?_)
      have hfb : b3 = yAd R 89 z.toNat := eb_b3.trans (yAd_eq (hX.2.1 89 (by omega)).2.2 (hX.2.1 _ (by have := hR0.lt6 89 (by decide) (by decide); omega)).2.2)
      have hb_b3 := Nat.lt_of_lt_of_le hb0_b3 hn
      replace ht_b3 := (hX.2.1 _ hb_b3).1.symm.trans ht_b3
      have hI_it := hI1
      have hX := hX.upI (by omega) hIe
      have hS := hS0.x hX
      have hR := hR0.x hn hX
      have hz := hX.sz h94
      have hxn := hX.1
      have hw_b3 := hR.sal hlo_b3 hb0_b3 ((hX.2.1 _ hb_b3).1.trans ht_b3)
      rw [(hX.2.1 _ hb_b3).2.1] at hw_b3
      refine y_ret1 ?_
      refine y_cast rfl ((hX.2.1 _ hb_b3).1.trans ht_b3) (Nat.lt_of_lt_of_le hb_b3 hX.1) ?_
      refine y_astore (ls' := [some _, some _, some _, some _, some _, some _, some _, some _, some _, some _, _, _]) rfl rfl rfl ?_
      refine y_iload_n rfl rfl ?_
      refine y_aload rfl rfl ?_
      refine y_getIv (v := I b3 5) rfl ((hX.2.1 _ hb_b3).1.trans ht_b3) (Nat.lt_of_lt_of_le hb_b3 hX.1) rfl rfl (congrFun (hX.2.1 _ hb_b3).2.1 5) ?_
      refine y_if_eq rfl j_X14_houseTold_99 (fun h_4 => ?_) (fun h_5 => ?_)
      · refine y_iconst rfl ?_
        refine y_static rfl rfl rfl rfl rfl ?_
        refine r_oneE (fun v_6 hv_6 => ?_)
        refine y_ret1 ?_
        refine y_iadd rfl ?_
        refine y_istore_n (ls' := [some _, some _, some _, some _, some _, some _, some _, some _, some _, some _, _, _]) rfl rfl rfl ?_
        refine y_iload rfl rfl ?_
        refine y_aload rfl rfl ?_
        refine y_getIv (v := I b3 5) rfl ((hX.2.1 _ hb_b3).1.trans ht_b3) (Nat.lt_of_lt_of_le hb_b3 hX.1) rfl rfl (congrFun (hX.2.1 _ hb_b3).2.1 5) ?_
        refine y_if_ne rfl j_X14_houseTold_132 (fun h_7 => ?_) (fun h_8 => ?_)
        · refine y_iconst rfl ?_
          refine y_static rfl rfl rfl rfl rfl ?_
          refine r_oneE (fun v_9 hv_9 => ?_)
          refine y_ret1 ?_
          refine y_iadd rfl ?_
          refine y_istore (ls' := [some _, some _, some _, some _, some _, some _, some _, some _, some _, some _, _, _]) rfl rfl rfl ?_
          refine y_goto rfl j_X14_houseTold_64 ?_
          refine y_fgt (ls := [some _, some _, some _, some _, some _, some _, some _, some _, some _, none, none, none]) ⟨rfl, rfl, rfl, rfl, rfl, rfl, rfl, rfl, rfl, trivial⟩ ?_
          exact ih _ _ _ _ _ _ _ _ hX (by omega) hI_it (by first | exact yFz_st hz0 hac_3 rfl | exact yFz_st hz0 hac_3 (by show _ = (if (I (yAd R 89 z.toNat) 5).toInt = 0 then Int32.ofInt 0 else Int32.ofInt 1); rw [← hfb]; first | done | rfl | exact (if_pos (by omega)).symm | exact (if_neg (by omega)).symm | exact (yext (hv_6.trans (by decide))).trans (if_pos (by omega)).symm | exact (yext (hv_6.trans (by decide))).trans (if_neg (by omega)).symm | exact (yext (hv_9.trans (by decide))).trans (if_pos (by omega)).symm | exact (yext (hv_9.trans (by decide))).trans (if_neg (by omega)).symm) | exact yFz_s0 hz0 hac_3 (by show (if (I (yAd R 89 z.toNat) 5).toInt = 0 then Int32.ofInt 0 else Int32.ofInt 1) = _; rw [← hfb]; first | exact if_neg (by omega) | exact if_pos (by omega))) (by first | exact yFz_st hz0 hac_4 rfl | exact yFz_st hz0 hac_4 (by show _ = (if (I (yAd R 89 z.toNat) 5).toInt = 0 ∧ (I (yAd R 89 z.toNat) 7).toInt = (I (yAd R 89 z.toNat) 4).toInt then Int32.ofInt 1 else Int32.ofInt 0); rw [← hfb]; first | done | rfl | exact (if_pos (by omega)).symm | exact (if_neg (by omega)).symm | exact (yext (hv_6.trans (by decide))).trans (if_pos (by omega)).symm | exact (yext (hv_6.trans (by decide))).trans (if_neg (by omega)).symm | exact (yext (hv_9.trans (by decide))).trans (if_pos (by omega)).symm | exact (yext (hv_9.trans (by decide))).trans (if_neg (by omega)).symm) | exact yFz_s0 hz0 hac_4 (by show (if (I (yAd R 89 z.toNat) 5).toInt = 0 ∧ (I (yAd R 89 z.toNat) 7).toInt = (I (yAd R 89 z.toNat) 4).toInt then Int32.ofInt 1 else Int32.ofInt 0) = _; rw [← hfb]; first | exact if_neg (by omega) | exact if_pos (by omega))) (by omega)
        · refine y_aload rfl rfl ?_
          refine y_getIv (v := I b3 7) rfl ((hX.2.1 _ hb_b3).1.trans ht_b3) (Nat.lt_of_lt_of_le hb_b3 hX.1) rfl rfl (congrFun (hX.2.1 _ hb_b3).2.1 7) ?_
          refine y_aload rfl rfl ?_
          refine y_getIv (v := I b3 4) rfl ((hX.2.1 _ hb_b3).1.trans ht_b3) (Nat.lt_of_lt_of_le hb_b3 hX.1) rfl rfl (congrFun (hX.2.1 _ hb_b3).2.1 4) ?_
          refine y_icmp_ne rfl j_X14_houseTold_132 (fun h_10 => ?_) (fun h_11 => ?_)
          · refine y_iconst rfl ?_
            refine y_static rfl rfl rfl rfl rfl ?_
            refine r_oneE (fun v_12 hv_12 => ?_)
            refine y_ret1 ?_
            refine y_iadd rfl ?_
            refine y_istore (ls' := [some _, some _, some _, some _, some _, some _, some _, some _, some _, some _, _, _]) rfl rfl rfl ?_
            refine y_goto rfl j_X14_houseTold_64 ?_
            refine y_fgt (ls := [some _, some _, some _, some _, some _, some _, some _, some _, some _, none, none, none]) ⟨rfl, rfl, rfl, rfl, rfl, rfl, rfl, rfl, rfl, trivial⟩ ?_
            exact ih _ _ _ _ _ _ _ _ hX (by omega) hI_it (by first | exact yFz_st hz0 hac_3 rfl | exact yFz_st hz0 hac_3 (by show _ = (if (I (yAd R 89 z.toNat) 5).toInt = 0 then Int32.ofInt 0 else Int32.ofInt 1); rw [← hfb]; first | done | rfl | exact (if_pos (by omega)).symm | exact (if_neg (by omega)).symm | exact (yext (hv_6.trans (by decide))).trans (if_pos (by omega)).symm | exact (yext (hv_6.trans (by decide))).trans (if_neg (by omega)).symm | exact (yext (hv_12.trans (by decide))).trans (if_pos (by omega)).symm | exact (yext (hv_12.trans (by decide))).trans (if_neg (by omega)).symm) | exact yFz_s0 hz0 hac_3 (by show (if (I (yAd R 89 z.toNat) 5).toInt = 0 then Int32.ofInt 0 else Int32.ofInt 1) = _; rw [← hfb]; first | exact if_neg (by omega) | exact if_pos (by omega))) (by first | exact yFz_st hz0 hac_4 rfl | exact yFz_st hz0 hac_4 (by show _ = (if (I (yAd R 89 z.toNat) 5).toInt = 0 ∧ (I (yAd R 89 z.toNat) 7).toInt = (I (yAd R 89 z.toNat) 4).toInt then Int32.ofInt 1 else Int32.ofInt 0); rw [← hfb]; first | done | rfl | exact (if_pos (by omega)).symm | exact (if_neg (by omega)).symm | exact (yext (hv_6.trans (by decide))).trans (if_pos (by omega)).symm | exact (yext (hv_6.trans (by decide))).trans (if_neg (by omega)).symm | exact (yext (hv_12.trans (by decide))).trans (if_pos (by omega)).symm | exact (yext (hv_12.trans (by decide))).trans (if_neg (by omega)).symm) | exact yFz_s0 hz0 hac_4 (by show (if (I (yAd R 89 z.toNat) 5).toInt = 0 ∧ (I (yAd R 89 z.toNat) 7).toInt = (I (yAd R 89 z.toNat) 4).toInt then Int32.ofInt 1 else Int32.ofInt 0) = _; rw [← hfb]; first | exact if_neg (by omega) | exact if_pos (by omega))) (by omega)
          · refine y_iconst rfl ?_
            refine y_goto rfl j_X14_houseTold_133 ?_
            refine y_static rfl rfl rfl rfl rfl ?_
            refine r_oneE (fun v_13 hv_13 => ?_)
            refine y_ret1 ?_
            refine y_iadd rfl ?_
            refine y_istore (ls' := [some _, some _, some _, some _, some _, some _, some _, some _, some _, some _, _, _]) rfl rfl rfl ?_
            refine y_goto rfl j_X14_houseTold_64 ?_
            refine y_fgt (ls := [some _, some _, some _, some _, some _, some _, some _, some _, some _, none, none, none]) ⟨rfl, rfl, rfl, rfl, rfl, rfl, rfl, rfl, rfl, trivial⟩ ?_
            exact ih _ _ _ _ _ _ _ _ hX (by omega) hI_it (by first | exact yFz_st hz0 hac_3 rfl | exact yFz_st hz0 hac_3 (by show _ = (if (I (yAd R 89 z.toNat) 5).toInt = 0 then Int32.ofInt 0 else Int32.ofInt 1); rw [← hfb]; first | done | rfl | exact (if_pos (by omega)).symm | exact (if_neg (by omega)).symm | exact (yext (hv_6.trans (by decide))).trans (if_pos (by omega)).symm | exact (yext (hv_6.trans (by decide))).trans (if_neg (by omega)).symm | exact (yext (hv_13.trans (by decide))).trans (if_pos (by omega)).symm | exact (yext (hv_13.trans (by decide))).trans (if_neg (by omega)).symm) | exact yFz_s0 hz0 hac_3 (by show (if (I (yAd R 89 z.toNat) 5).toInt = 0 then Int32.ofInt 0 else Int32.ofInt 1) = _; rw [← hfb]; first | exact if_neg (by omega) | exact if_pos (by omega))) (by first | exact yFz_st hz0 hac_4 rfl | exact yFz_st hz0 hac_4 (by show _ = (if (I (yAd R 89 z.toNat) 5).toInt = 0 ∧ (I (yAd R 89 z.toNat) 7).toInt = (I (yAd R 89 z.toNat) 4).toInt then Int32.ofInt 1 else Int32.ofInt 0); rw [← hfb]; first | done | rfl | exact (if_pos (by omega)).symm | exact (if_neg (by omega)).symm | exact (yext (hv_6.trans (by decide))).trans (if_pos (by omega)).symm | exact (yext (hv_6.trans (by decide))).trans (if_neg (by omega)).symm | exact (yext (hv_13.trans (by decide))).trans (if_pos (by omega)).symm | exact (yext (hv_13.trans (by decide))).trans (if_neg (by omega)).symm) | exact yFz_s0 hz0 hac_4 (by show (if (I (yAd R 89 z.toNat) 5).toInt = 0 ∧ (I (yAd R 89 z.toNat) 7).toInt = (I (yAd R 89 z.toNat) 4).toInt then Int32.ofInt 1 else Int32.ofInt 0) = _; rw [← hfb]; first | exact if_neg (by omega) | exact if_pos (by omega))) (by omega)
      · refine y_iconst rfl ?_
        refine y_goto rfl j_X14_houseTold_100 ?_
        refine y_static rfl rfl rfl rfl rfl ?_
        refine r_oneE (fun v_14 hv_14 => ?_)
        refine y_ret1 ?_
        refine y_iadd rfl ?_
        refine y_istore_n (ls' := [some _, some _, some _, some _, some _, some _, some _, some _, some _, some _, _, _]) rfl rfl rfl ?_
        refine y_iload rfl rfl ?_
        refine y_aload rfl rfl ?_
        refine y_getIv (v := I b3 5) rfl ((hX.2.1 _ hb_b3).1.trans ht_b3) (Nat.lt_of_lt_of_le hb_b3 hX.1) rfl rfl (congrFun (hX.2.1 _ hb_b3).2.1 5) ?_
        refine y_if_ne rfl j_X14_houseTold_132 (fun h_15 => ?_) (fun h_16 => ?_)
        · refine y_iconst rfl ?_
          refine y_static rfl rfl rfl rfl rfl ?_
          refine r_oneE (fun v_17 hv_17 => ?_)
          refine y_ret1 ?_
          refine y_iadd rfl ?_
          refine y_istore (ls' := [some _, some _, some _, some _, some _, some _, some _, some _, some _, some _, _, _]) rfl rfl rfl ?_
          refine y_goto rfl j_X14_houseTold_64 ?_
          refine y_fgt (ls := [some _, some _, some _, some _, some _, some _, some _, some _, some _, none, none, none]) ⟨rfl, rfl, rfl, rfl, rfl, rfl, rfl, rfl, rfl, trivial⟩ ?_
          exact ih _ _ _ _ _ _ _ _ hX (by omega) hI_it (by first | exact yFz_st hz0 hac_3 rfl | exact yFz_st hz0 hac_3 (by show _ = (if (I (yAd R 89 z.toNat) 5).toInt = 0 then Int32.ofInt 0 else Int32.ofInt 1); rw [← hfb]; first | done | rfl | exact (if_pos (by omega)).symm | exact (if_neg (by omega)).symm | exact (yext (hv_14.trans (by decide))).trans (if_pos (by omega)).symm | exact (yext (hv_14.trans (by decide))).trans (if_neg (by omega)).symm | exact (yext (hv_17.trans (by decide))).trans (if_pos (by omega)).symm | exact (yext (hv_17.trans (by decide))).trans (if_neg (by omega)).symm) | exact yFz_s0 hz0 hac_3 (by show (if (I (yAd R 89 z.toNat) 5).toInt = 0 then Int32.ofInt 0 else Int32.ofInt 1) = _; rw [← hfb]; first | exact if_neg (by omega) | exact if_pos (by omega))) (by first | exact yFz_st hz0 hac_4 rfl | exact yFz_st hz0 hac_4 (by show _ = (if (I (yAd R 89 z.toNat) 5).toInt = 0 ∧ (I (yAd R 89 z.toNat) 7).toInt = (I (yAd R 89 z.toNat) 4).toInt then Int32.ofInt 1 else Int32.ofInt 0); rw [← hfb]; first | done | rfl | exact (if_pos (by omega)).symm | exact (if_neg (by omega)).symm | exact (yext (hv_14.trans (by decide))).trans (if_pos (by omega)).symm | exact (yext (hv_14.trans (by decide))).trans (if_neg (by omega)).symm | exact (yext (hv_17.trans (by decide))).trans (if_pos (by omega)).symm | exact (yext (hv_17.trans (by decide))).trans (if_neg (by omega)).symm) | exact yFz_s0 hz0 hac_4 (by show (if (I (yAd R 89 z.toNat) 5).toInt = 0 ∧ (I (yAd R 89 z.toNat) 7).toInt = (I (yAd R 89 z.toNat) 4).toInt then Int32.ofInt 1 else Int32.ofInt 0) = _; rw [← hfb]; first | exact if_neg (by omega) | exact if_pos (by omega))) (by omega)
        · refine y_aload rfl rfl ?_
          refine y_getIv (v := I b3 7) rfl ((hX.2.1 _ hb_b3).1.trans ht_b3) (Nat.lt_of_lt_of_le hb_b3 hX.1) rfl rfl (congrFun (hX.2.1 _ hb_b3).2.1 7) ?_
          refine y_aload rfl rfl ?_
          refine y_getIv (v := I b3 4) rfl ((hX.2.1 _ hb_b3).1.trans ht_b3) (Nat.lt_of_lt_of_le hb_b3 hX.1) rfl rfl (congrFun (hX.2.1 _ hb_b3).2.1 4) ?_
          refine y_icmp_ne rfl j_X14_houseTold_132 (fun h_18 => ?_) (fun h_19 => ?_)
          · refine y_iconst rfl ?_
            refine y_static rfl rfl rfl rfl rfl ?_
            refine r_oneE (fun v_20 hv_20 => ?_)
            refine y_ret1 ?_
            refine y_iadd rfl ?_
            refine y_istore (ls' := [some _, some _, some _, some _, some _, some _, some _, some _, some _, some _, _, _]) rfl rfl rfl ?_
            refine y_goto rfl j_X14_houseTold_64 ?_
            refine y_fgt (ls := [some _, some _, some _, some _, some _, some _, some _, some _, some _, none, none, none]) ⟨rfl, rfl, rfl, rfl, rfl, rfl, rfl, rfl, rfl, trivial⟩ ?_
            exact ih _ _ _ _ _ _ _ _ hX (by omega) hI_it (by first | exact yFz_st hz0 hac_3 rfl | exact yFz_st hz0 hac_3 (by show _ = (if (I (yAd R 89 z.toNat) 5).toInt = 0 then Int32.ofInt 0 else Int32.ofInt 1); rw [← hfb]; first | done | rfl | exact (if_pos (by omega)).symm | exact (if_neg (by omega)).symm | exact (yext (hv_14.trans (by decide))).trans (if_pos (by omega)).symm | exact (yext (hv_14.trans (by decide))).trans (if_neg (by omega)).symm | exact (yext (hv_20.trans (by decide))).trans (if_pos (by omega)).symm | exact (yext (hv_20.trans (by decide))).trans (if_neg (by omega)).symm) | exact yFz_s0 hz0 hac_3 (by show (if (I (yAd R 89 z.toNat) 5).toInt = 0 then Int32.ofInt 0 else Int32.ofInt 1) = _; rw [← hfb]; first | exact if_neg (by omega) | exact if_pos (by omega))) (by first | exact yFz_st hz0 hac_4 rfl | exact yFz_st hz0 hac_4 (by show _ = (if (I (yAd R 89 z.toNat) 5).toInt = 0 ∧ (I (yAd R 89 z.toNat) 7).toInt = (I (yAd R 89 z.toNat) 4).toInt then Int32.ofInt 1 else Int32.ofInt 0); rw [← hfb]; first | done | rfl | exact (if_pos (by omega)).symm | exact (if_neg (by omega)).symm | exact (yext (hv_14.trans (by decide))).trans (if_pos (by omega)).symm | exact (yext (hv_14.trans (by decide))).trans (if_neg (by omega)).symm | exact (yext (hv_20.trans (by decide))).trans (if_pos (by omega)).symm | exact (yext (hv_20.trans (by decide))).trans (if_neg (by omega)).symm) | exact yFz_s0 hz0 hac_4 (by show (if (I (yAd R 89 z.toNat) 5).toInt = 0 ∧ (I (yAd R 89 z.toNat) 7).toInt = (I (yAd R 89 z.toNat) 4).toInt then Int32.ofInt 1 else Int32.ofInt 0) = _; rw [← hfb]; first | exact if_neg (by omega) | exact if_pos (by omega))) (by omega)
          · refine y_iconst rfl ?_
            refine y_goto rfl j_X14_houseTold_133 ?_
            refine y_static rfl rfl rfl rfl rfl ?_
            refine r_oneE (fun v_21 hv_21 => ?_)
            refine y_ret1 ?_
            refine y_iadd rfl ?_
            refine y_istore (ls' := [some _, some _, some _, some _, some _, some _, some _, some _, some _, some _, _, _]) rfl rfl rfl ?_
            refine y_goto rfl j_X14_houseTold_64 ?_
            refine y_fgt (ls := [some _, some _, some _, some _, some _, some _, some _, some _, some _, none, none, none]) ⟨rfl, rfl, rfl, rfl, rfl, rfl, rfl, rfl, rfl, trivial⟩ ?_
            exact ih _ _ _ _ _ _ _ _ hX (by omega) hI_it (by first | exact yFz_st hz0 hac_3 rfl | exact yFz_st hz0 hac_3 (by show _ = (if (I (yAd R 89 z.toNat) 5).toInt = 0 then Int32.ofInt 0 else Int32.ofInt 1); rw [← hfb]; first | done | rfl | exact (if_pos (by omega)).symm | exact (if_neg (by omega)).symm | exact (yext (hv_14.trans (by decide))).trans (if_pos (by omega)).symm | exact (yext (hv_14.trans (by decide))).trans (if_neg (by omega)).symm | exact (yext (hv_21.trans (by decide))).trans (if_pos (by omega)).symm | exact (yext (hv_21.trans (by decide))).trans (if_neg (by omega)).symm) | exact yFz_s0 hz0 hac_3 (by show (if (I (yAd R 89 z.toNat) 5).toInt = 0 then Int32.ofInt 0 else Int32.ofInt 1) = _; rw [← hfb]; first | exact if_neg (by omega) | exact if_pos (by omega))) (by first | exact yFz_st hz0 hac_4 rfl | exact yFz_st hz0 hac_4 (by show _ = (if (I (yAd R 89 z.toNat) 5).toInt = 0 ∧ (I (yAd R 89 z.toNat) 7).toInt = (I (yAd R 89 z.toNat) 4).toInt then Int32.ofInt 1 else Int32.ofInt 0); rw [← hfb]; first | done | rfl | exact (if_pos (by omega)).symm | exact (if_neg (by omega)).symm | exact (yext (hv_14.trans (by decide))).trans (if_pos (by omega)).symm | exact (yext (hv_14.trans (by decide))).trans (if_neg (by omega)).symm | exact (yext (hv_21.trans (by decide))).trans (if_pos (by omega)).symm | exact (yext (hv_21.trans (by decide))).trans (if_neg (by omega)).symm) | exact yFz_s0 hz0 hac_4 (by show (if (I (yAd R 89 z.toNat) 5).toInt = 0 ∧ (I (yAd R 89 z.toNat) 7).toInt = (I (yAd R 89 z.toNat) 4).toInt then Int32.ofInt 1 else Int32.ofInt 0) = _; rw [← hfb]; first | exact if_neg (by omega) | exact if_pos (by omega))) (by omega)
    · refine y_ret1 ?_
      refine y_if_eqT rfl j_X14_houseTold_142 (by decide) ?_
      refine y_fgt (ls := [some _, some _, some _, some _, some _, some _, some _, some _, none, none, none, none]) ⟨rfl, rfl, rfl, rfl, rfl, rfl, rfl, rfl, trivial⟩ ?_
      exact hx _ _ _ _ _ _ hX (by have h7_ := hI_it.2.2.2.2.2.2.1; have h6_ := hI_it.2.2.2.2.2.1; rw [show (I 89 2).toInt.toNat = z.toNat by omega]; exact hac_3) (by have h7_ := hI_it.2.2.2.2.2.2.1; have h6_ := hI_it.2.2.2.2.2.1; rw [show (I 89 2).toInt.toNat = z.toNat by omega]; exact hac_4)
theorem e_h_house151 (hS0 : ySh n tg R) (hR0 : yRI K nb tg I R) (hn : nb ≤ n) {x1 x2 x3 x4 x6 x7 : Int32} (hx : ∀ (x5 : Int32) n1 tg1 I1 R1, yX n tg I R n1 tg1 I1 R1 → x5 = yFz (fun j => if (I (yAd R 90 j) 5).toInt = 0 then Int32.ofInt 1 else Int32.ofInt 0) (I 90 2).toInt.toNat → yW xm_X14_houseTold xc_X14_houseTold_197 [some (.ref 83), some (.int x1), some (.int x2), some (.int x3), some (.int x4), some (.int x5), some (.int x6), some (.int x7), none, none, none, none] [] (n1, tg1, I1, R1) c s Q) : ∀ (m : Nat) (z : Int) (it : Nat) (x5 : Int32) (n1 : Nat) (tg1 : Nat → yT) (I1 : Nat → Nat → Int32) (R1 : Nat → Nat → Value), yX n tg I R n1 tg1 I1 R1 → n ≤ it → yIt nb n1 tg1 I1 R1 it 90 z → x5 = yFz (fun j => if (I (yAd R 90 j) 5).toInt = 0 then Int32.ofInt 1 else Int32.ofInt 0) z.toNat → (I 90 2).toInt - z < m → yW xm_X14_houseTold xc_X14_houseTold_151 [some (.ref 83), some (.int x1), some (.int x2), some (.int x3), some (.int x4), some (.int x5), some (.int x6), some (.int x7), some (.ref it), none, none, none] [] (n1, tg1, I1, R1) c s Q := by
  intro m
  induction m with
  | zero =>
    intro z it x5 n1 tg1 I1 R1 hX hit hI_it hac_5 hm
    have hz := hX.sz hS0.1
    have h7 := hI_it.2.2.2.2.2.2.1
    exfalso; omega
  | succ m ih =>
    intro z it x5 n1 tg1 I1 R1 hX hit hI_it hac_5 hm
    have hS := hS0.x hX
    have hR := hR0.x hn hX
    have h94 : 94 ≤ n := hS0.1
    have hz := hX.sz h94
    have hxn := hX.1
    have hN := hR0.1
    have hnb : 94 ≤ nb := hR0.2.2.2.2.2.2
    refine y_aload rfl rfl ?_
    refine y_intf rfl rfl rfl rfl rfl hI_it.2.2.1 hI_it.2.1 ?_
    refine i_hasNext hI_it (fun h_1 => ?_) (fun h_2 => ?_)
    · refine y_ret1 ?_
      refine y_if_eqF rfl (by decide) ?_
      refine y_aload rfl rfl ?_
      refine y_intf rfl rfl rfl rfl rfl hI_it.2.2.1 hI_it.2.1 ?_
      have hz0 := hI_it.2.2.2.2.2.1
      refine i_next (nb := nb) (Nat.le_trans (by decide) (by have := hI_it.1; omega : 94 ≤ _)) (Nat.le_trans hn hX.1) hI_it hR.l90 (by omega) h_1 (fun b3 I3 eb_b3 hlo_b3 hb0_b3 ht_b3 hI1 hIe => ?_)
      have hfb : b3 = yAd R 90 z.toNat := eb_b3.trans (yAd_eq (hX.2.1 90 (by omega)).2.2 (hX.2.1 _ (by have := hR0.lt6 90 (by decide) (by decide); omega)).2.2)
      have hb_b3 := Nat.lt_of_lt_of_le hb0_b3 hn
      replace ht_b3 := (hX.2.1 _ hb_b3).1.symm.trans ht_b3
      have hI_it := hI1
      have hX := hX.upI (by omega) hIe
      have hS := hS0.x hX
      have hR := hR0.x hn hX
      have hz := hX.sz h94
      have hxn := hX.1
      have hw_b3 := hR.lea hlo_b3 hb0_b3 ((hX.2.1 _ hb_b3).1.trans ht_b3)
      rw [(hX.2.1 _ hb_b3).2.1] at hw_b3
      refine y_ret1 ?_
      refine y_cast rfl ((hX.2.1 _ hb_b3).1.trans ht_b3) (Nat.lt_of_lt_of_le hb_b3 hX.1) ?_
      refine y_astore (ls' := [some _, some _, some _, some _, some _, some _, some _, some _, some _, some _, _, _]) rfl rfl rfl ?_
      refine y_iload rfl rfl ?_
      refine y_aload rfl rfl ?_
      refine y_getIv (v := I b3 5) rfl ((hX.2.1 _ hb_b3).1.trans ht_b3) (Nat.lt_of_lt_of_le hb_b3 hX.1) rfl rfl (congrFun (hX.2.1 _ hb_b3).2.1 5) ?_
      refine y_if_ne rfl j_X14_houseTold_187 (fun h_4 => ?_) (fun h_5 => ?_)
      · refine y_iconst rfl ?_
        refine y_static rfl rfl rfl rfl rfl ?_
        refine r_oneE (fun v_6 hv_6 => ?_)
        refine y_ret1 ?_
        refine y_iadd rfl ?_
        refine y_istore (ls' := [some _, some _, some _, some _, some _, some _, some _, some _, some _, some _, _, _]) rfl rfl rfl ?_
        refine y_goto rfl j_X14_houseTold_151 ?_
        refine y_fgt (ls := [some _, some _, some _, some _, some _, some _, some _, some _, some _, none, none, none]) ⟨rfl, rfl, rfl, rfl, rfl, rfl, rfl, rfl, rfl, trivial⟩ ?_
        exact ih _ _ _ _ _ _ _ hX (by omega) hI_it (by first | exact yFz_st hz0 hac_5 rfl | exact yFz_st hz0 hac_5 (by show _ = (if (I (yAd R 90 z.toNat) 5).toInt = 0 then Int32.ofInt 1 else Int32.ofInt 0); rw [← hfb]; first | done | rfl | exact (if_pos (by omega)).symm | exact (if_neg (by omega)).symm | exact (yext (hv_6.trans (by decide))).trans (if_pos (by omega)).symm | exact (yext (hv_6.trans (by decide))).trans (if_neg (by omega)).symm) | exact yFz_s0 hz0 hac_5 (by show (if (I (yAd R 90 z.toNat) 5).toInt = 0 then Int32.ofInt 1 else Int32.ofInt 0) = _; rw [← hfb]; first | exact if_neg (by omega) | exact if_pos (by omega))) (by omega)
      · refine y_iconst rfl ?_
        refine y_goto rfl j_X14_houseTold_188 ?_
        refine y_static rfl rfl rfl rfl rfl ?_
        refine r_oneE (fun v_7 hv_7 => ?_)
        refine y_ret1 ?_
        refine y_iadd rfl ?_
        refine y_istore (ls' := [some _, some _, some _, some _, some _, some _, some _, some _, some _, some _, _, _]) rfl rfl rfl ?_
        refine y_goto rfl j_X14_houseTold_151 ?_
        refine y_fgt (ls := [some _, some _, some _, some _, some _, some _, some _, some _, some _, none, none, none]) ⟨rfl, rfl, rfl, rfl, rfl, rfl, rfl, rfl, rfl, trivial⟩ ?_
        exact ih _ _ _ _ _ _ _ hX (by omega) hI_it (by first | exact yFz_st hz0 hac_5 rfl | exact yFz_st hz0 hac_5 (by show _ = (if (I (yAd R 90 z.toNat) 5).toInt = 0 then Int32.ofInt 1 else Int32.ofInt 0); rw [← hfb]; first | done | rfl | exact (if_pos (by omega)).symm | exact (if_neg (by omega)).symm | exact (yext (hv_7.trans (by decide))).trans (if_pos (by omega)).symm | exact (yext (hv_7.trans (by decide))).trans (if_neg (by omega)).symm) | exact yFz_s0 hz0 hac_5 (by show (if (I (yAd R 90 z.toNat) 5).toInt = 0 then Int32.ofInt 1 else Int32.ofInt 0) = _; rw [← hfb]; first | exact if_neg (by omega) | exact if_pos (by omega))) (by omega)
    · refine y_ret1 ?_
      refine y_if_eqT rfl j_X14_houseTold_197 (by decide) ?_
      refine y_fgt (ls := [some _, some _, some _, some _, some _, some _, some _, some _, none, none, none, none]) ⟨rfl, rfl, rfl, rfl, rfl, rfl, rfl, rfl, trivial⟩ ?_
      exact hx _ _ _ _ _ hX (by have h7_ := hI_it.2.2.2.2.2.2.1; have h6_ := hI_it.2.2.2.2.2.1; rw [show (I 90 2).toInt.toNat = z.toNat by omega]; exact hac_5)
theorem e_h_house206 (hS0 : ySh n tg R) (hR0 : yRI K nb tg I R) (hn : nb ≤ n) {x1 x2 x3 x4 x5 x7 : Int32} (hx : ∀ (x6 : Int32) n1 tg1 I1 R1, yX n tg I R n1 tg1 I1 R1 → x6 = yFz (fun j => if (I (yAd R 88 j) 1).toInt = 8 then Int32.ofInt 1 else Int32.ofInt 0) (I 88 2).toInt.toNat → yW xm_X14_houseTold xc_X14_houseTold_254 [some (.ref 83), some (.int x1), some (.int x2), some (.int x3), some (.int x4), some (.int x5), some (.int x6), some (.int x7), none, none, none, none] [] (n1, tg1, I1, R1) c s Q) : ∀ (m : Nat) (z : Int) (it : Nat) (x6 : Int32) (n1 : Nat) (tg1 : Nat → yT) (I1 : Nat → Nat → Int32) (R1 : Nat → Nat → Value), yX n tg I R n1 tg1 I1 R1 → n ≤ it → yIt nb n1 tg1 I1 R1 it 88 z → x6 = yFz (fun j => if (I (yAd R 88 j) 1).toInt = 8 then Int32.ofInt 1 else Int32.ofInt 0) z.toNat → (I 88 2).toInt - z < m → yW xm_X14_houseTold xc_X14_houseTold_206 [some (.ref 83), some (.int x1), some (.int x2), some (.int x3), some (.int x4), some (.int x5), some (.int x6), some (.int x7), some (.ref it), none, none, none] [] (n1, tg1, I1, R1) c s Q := by
  intro m
  induction m with
  | zero =>
    intro z it x6 n1 tg1 I1 R1 hX hit hI_it hac_6 hm
    have hz := hX.sz hS0.1
    have h7 := hI_it.2.2.2.2.2.2.1
    exfalso; omega
  | succ m ih =>
    intro z it x6 n1 tg1 I1 R1 hX hit hI_it hac_6 hm
    have hS := hS0.x hX
    have hR := hR0.x hn hX
    have h94 : 94 ≤ n := hS0.1
    have hz := hX.sz h94
    have hxn := hX.1
    have hN := hR0.1
    have hnb : 94 ≤ nb := hR0.2.2.2.2.2.2
    refine y_aload rfl rfl ?_
    refine y_intf rfl rfl rfl rfl rfl hI_it.2.2.1 hI_it.2.1 ?_
    refine i_hasNext hI_it (fun h_1 => ?_) (fun h_2 => ?_)
    · refine y_ret1 ?_
      refine y_if_eqF rfl (by decide) ?_
      refine y_aload rfl rfl ?_
      refine y_intf rfl rfl rfl rfl rfl hI_it.2.2.1 hI_it.2.1 ?_
      have hz0 := hI_it.2.2.2.2.2.1
      refine i_next (nb := nb) (Nat.le_trans (by decide) (by have := hI_it.1; omega : 94 ≤ _)) (Nat.le_trans hn hX.1) hI_it hR.l88 (by omega) h_1 (fun b3 I3 eb_b3 hlo_b3 hb0_b3 ht_b3 hI1 hIe => ?_)
      have hfb : b3 = yAd R 88 z.toNat := eb_b3.trans (yAd_eq (hX.2.1 88 (by omega)).2.2 (hX.2.1 _ (by have := hR0.lt6 88 (by decide) (by decide); omega)).2.2)
      have hb_b3 := Nat.lt_of_lt_of_le hb0_b3 hn
      replace ht_b3 := (hX.2.1 _ hb_b3).1.symm.trans ht_b3
      have hI_it := hI1
      have hX := hX.upI (by omega) hIe
      have hS := hS0.x hX
      have hR := hR0.x hn hX
      have hz := hX.sz h94
      have hxn := hX.1
      have hw_b3 := hR.thi hlo_b3 hb0_b3 ((hX.2.1 _ hb_b3).1.trans ht_b3)
      rw [(hX.2.1 _ hb_b3).2.1] at hw_b3
      refine y_ret1 ?_
      refine y_cast rfl ((hX.2.1 _ hb_b3).1.trans ht_b3) (Nat.lt_of_lt_of_le hb_b3 hX.1) ?_
      refine y_astore (ls' := [some _, some _, some _, some _, some _, some _, some _, some _, some _, some _, _, _]) rfl rfl rfl ?_
      refine y_iload rfl rfl ?_
      refine y_aload rfl rfl ?_
      refine y_getIv (v := I b3 1) rfl ((hX.2.1 _ hb_b3).1.trans ht_b3) (Nat.lt_of_lt_of_le hb_b3 hX.1) rfl rfl (congrFun (hX.2.1 _ hb_b3).2.1 1) ?_
      refine y_bip rfl (by decide) ?_
      refine y_icmp_ne rfl j_X14_houseTold_244 (fun h_4 => ?_) (fun h_5 => ?_)
      · rw [yz_8] at h_4
        refine y_iconst rfl ?_
        refine y_static rfl rfl rfl rfl rfl ?_
        refine r_oneE (fun v_6 hv_6 => ?_)
        refine y_ret1 ?_
        refine y_iadd rfl ?_
        refine y_istore (ls' := [some _, some _, some _, some _, some _, some _, some _, some _, some _, some _, _, _]) rfl rfl rfl ?_
        refine y_goto rfl j_X14_houseTold_206 ?_
        refine y_fgt (ls := [some _, some _, some _, some _, some _, some _, some _, some _, some _, none, none, none]) ⟨rfl, rfl, rfl, rfl, rfl, rfl, rfl, rfl, rfl, trivial⟩ ?_
        exact ih _ _ _ _ _ _ _ hX (by omega) hI_it (by first | exact yFz_st hz0 hac_6 rfl | exact yFz_st hz0 hac_6 (by show _ = (if (I (yAd R 88 z.toNat) 1).toInt = 8 then Int32.ofInt 1 else Int32.ofInt 0); rw [← hfb]; first | done | rfl | exact (if_pos (by omega)).symm | exact (if_neg (by omega)).symm | exact (yext (hv_6.trans (by decide))).trans (if_pos (by omega)).symm | exact (yext (hv_6.trans (by decide))).trans (if_neg (by omega)).symm) | exact yFz_s0 hz0 hac_6 (by show (if (I (yAd R 88 z.toNat) 1).toInt = 8 then Int32.ofInt 1 else Int32.ofInt 0) = _; rw [← hfb]; first | exact if_neg (by omega) | exact if_pos (by omega))) (by omega)
      · rw [yz_8] at h_5
        refine y_iconst rfl ?_
        refine y_goto rfl j_X14_houseTold_245 ?_
        refine y_static rfl rfl rfl rfl rfl ?_
        refine r_oneE (fun v_7 hv_7 => ?_)
        refine y_ret1 ?_
        refine y_iadd rfl ?_
        refine y_istore (ls' := [some _, some _, some _, some _, some _, some _, some _, some _, some _, some _, _, _]) rfl rfl rfl ?_
        refine y_goto rfl j_X14_houseTold_206 ?_
        refine y_fgt (ls := [some _, some _, some _, some _, some _, some _, some _, some _, some _, none, none, none]) ⟨rfl, rfl, rfl, rfl, rfl, rfl, rfl, rfl, rfl, trivial⟩ ?_
        exact ih _ _ _ _ _ _ _ hX (by omega) hI_it (by first | exact yFz_st hz0 hac_6 rfl | exact yFz_st hz0 hac_6 (by show _ = (if (I (yAd R 88 z.toNat) 1).toInt = 8 then Int32.ofInt 1 else Int32.ofInt 0); rw [← hfb]; first | done | rfl | exact (if_pos (by omega)).symm | exact (if_neg (by omega)).symm | exact (yext (hv_7.trans (by decide))).trans (if_pos (by omega)).symm | exact (yext (hv_7.trans (by decide))).trans (if_neg (by omega)).symm) | exact yFz_s0 hz0 hac_6 (by show (if (I (yAd R 88 z.toNat) 1).toInt = 8 then Int32.ofInt 1 else Int32.ofInt 0) = _; rw [← hfb]; first | exact if_neg (by omega) | exact if_pos (by omega))) (by omega)
    · refine y_ret1 ?_
      refine y_if_eqT rfl j_X14_houseTold_254 (by decide) ?_
      refine y_fgt (ls := [some _, some _, some _, some _, some _, some _, some _, some _, none, none, none, none]) ⟨rfl, rfl, rfl, rfl, rfl, rfl, rfl, rfl, trivial⟩ ?_
      exact hx _ _ _ _ _ hX (by have h7_ := hI_it.2.2.2.2.2.2.1; have h6_ := hI_it.2.2.2.2.2.1; rw [show (I 88 2).toInt.toNat = z.toNat by omega]; exact hac_6)
theorem lp_h_house30 (hS0 : ySh n tg R) (hR0 : yRI K nb tg I R) (hn : nb ≤ n) {x1 x3 x4 x5 x6 x7 : Int32} (hx : ∀ x2 : Int32, x2 = yFz (I 85) 8 → yW xm_X14_houseTold xc_X14_houseTold_55 [some (.ref 83), some (.int x1), some (.int x2), some (.int x3), some (.int x4), some (.int x5), some (.int x6), some (.int x7), none, none, none, none] [] (n, tg, I, R) c s Q) : ∀ (m : Nat) (x2 : Int32) (x9 : Int32) (x10 : Int32), (x9.toInt = 8) → (0 ≤ x10.toInt) → (x10.toInt ≤ 8) → (x2 = yFz (I 85) x10.toInt.toNat) → 8 - x10.toInt < m → yW xm_X14_houseTold xc_X14_houseTold_30 [some (.ref 83), some (.int x1), some (.int x2), some (.int x3), some (.int x4), some (.int x5), some (.int x6), some (.int x7), some (.ref 85), some (.int x9), some (.int x10), none] [] (n, tg, I, R) c s Q := by
  intro m
  induction m with
  | zero =>
    intro x2 x9 x10 i0 i1 i2 i3 hm
    have hX : yX n tg I R n tg I R := yX.rf
    have hS := hS0
    have hR := hR0
    have h94 : 94 ≤ n := hS0.1
    have hz : ySz I I := hX.sz h94
    have hxn := hX.1
    have hN := hR0.1
    have hnb : 94 ≤ nb := hR0.2.2.2.2.2.2
    exfalso; omega
  | succ m ih =>
    intro x2 x9 x10 i0 i1 i2 i3 hm
    have hX : yX n tg I R n tg I R := yX.rf
    have hS := hS0
    have hR := hR0
    have h94 : 94 ≤ n := hS0.1
    have hz : ySz I I := hX.sz h94
    have hxn := hX.1
    have hN := hR0.1
    have hnb : 94 ≤ nb := hR0.2.2.2.2.2.2
    refine y_iload rfl rfl ?_
    refine y_iload rfl rfl ?_
    refine y_icmp_ge rfl j_X14_houseTold_55 (fun h_1 => ?_) (fun h_2 => ?_)
    · refine y_fgt (ls := [some _, some _, some _, some _, some _, some _, some _, some _, none, none, none, none]) ⟨rfl, rfl, rfl, rfl, rfl, rfl, rfl, rfl, trivial⟩ ?_
      exact hx _ (by rw [show (8 : Nat) = x10.toInt.toNat by omega]; assumption)
    · refine y_aload rfl rfl ?_
      refine y_iload rfl rfl ?_
      refine y_iaload rfl (ySh.t hS rfl) (ySh.n hS rfl) (by omega) (by omega) ?_
      refine y_istore (ls' := [some _, some _, some _, some _, some _, some _, some _, some _, some _, some _, some _, some _]) rfl rfl rfl ?_
      refine y_iload_n rfl rfl ?_
      refine y_iload rfl rfl ?_
      refine y_iadd rfl ?_
      refine y_istore_n (ls' := [some _, some _, some _, some _, some _, some _, some _, some _, some _, some _, some _, some _]) rfl rfl rfl ?_
      refine y_iinc (ls' := [some _, some _, some _, some _, some _, some _, some _, some _, some _, some _, some _, some _]) rfl rfl rfl rfl ?_
      refine y_goto rfl j_X14_houseTold_30 ?_
      refine y_fgt (ls := [some _, some _, some _, some _, some _, some _, some _, some _, some _, some _, some _, none]) ⟨rfl, rfl, rfl, rfl, rfl, rfl, rfl, rfl, rfl, rfl, rfl, trivial⟩ ?_
      exact ih _ _ _ (by assumption) (by first | omega | (rw [yinc (by omega)]; omega)) (by first | omega | (rw [yinc (by omega)]; omega)) (yFs_nx (by omega) (by assumption) rfl) (by first | omega | (rw [yinc (by omega)]; omega))
theorem lp_h_house257 (hS0 : ySh n tg R) (hR0 : yRI K nb tg I R) (hn : nb ≤ n) {x1 x2 x3 x4 x5 x6 : Int32} (hx : ∀ x7 : Int32, x7 = yFz (I 84) (I 83 8).toInt.toNat → yW xm_X14_houseTold xc_X14_houseTold_284 [some (.ref 83), some (.int x1), some (.int x2), some (.int x3), some (.int x4), some (.int x5), some (.int x6), some (.int x7), none, none, none, none] [] (n, tg, I, R) c s Q) : ∀ (m : Nat) (x7 : Int32) (x8 : Int32), (0 ≤ x8.toInt) → (x8.toInt ≤ (I 83 8).toInt) → (x7 = yFz (I 84) x8.toInt.toNat) → (I 83 8).toInt - x8.toInt < m → yW xm_X14_houseTold xc_X14_houseTold_257 [some (.ref 83), some (.int x1), some (.int x2), some (.int x3), some (.int x4), some (.int x5), some (.int x6), some (.int x7), some (.int x8), none, none, none] [] (n, tg, I, R) c s Q := by
  intro m
  induction m with
  | zero =>
    intro x7 x8 i0 i1 i2 hm
    have hX : yX n tg I R n tg I R := yX.rf
    have hS := hS0
    have hR := hR0
    have h94 : 94 ≤ n := hS0.1
    have hz : ySz I I := hX.sz h94
    have hxn := hX.1
    have hN := hR0.1
    have hnb : 94 ≤ nb := hR0.2.2.2.2.2.2
    exfalso; omega
  | succ m ih =>
    intro x7 x8 i0 i1 i2 hm
    have hX : yX n tg I R n tg I R := yX.rf
    have hS := hS0
    have hR := hR0
    have h94 : 94 ≤ n := hS0.1
    have hz : ySz I I := hX.sz h94
    have hxn := hX.1
    have hN := hR0.1
    have hnb : 94 ≤ nb := hR0.2.2.2.2.2.2
    refine y_iload rfl rfl ?_
    refine y_aload_n rfl rfl ?_
    refine y_getI rfl (ySh.t hS rfl) (ySh.n hS rfl) rfl rfl ?_
    refine y_icmp_ge rfl j_X14_houseTold_284 (fun h_1 => ?_) (fun h_2 => ?_)
    · refine y_fgt (ls := [some _, some _, some _, some _, some _, some _, some _, some _, none, none, none, none]) ⟨rfl, rfl, rfl, rfl, rfl, rfl, rfl, rfl, trivial⟩ ?_
      exact hx _ (by rw [show (I 83 8).toInt.toNat = x8.toInt.toNat by omega]; assumption)
    · refine y_iload rfl rfl ?_
      refine y_aload_n rfl rfl ?_
      refine y_getR rfl (ySh.t hS rfl) (ySh.n hS rfl) rfl rfl (ySh.r hS rfl) ?_
      refine y_iload rfl rfl ?_
      refine y_iaload rfl (ySh.t hS rfl) (ySh.n hS rfl) (by omega) (by omega) ?_
      refine y_iadd rfl ?_
      refine y_istore (ls' := [some _, some _, some _, some _, some _, some _, some _, some _, some _, _, _, _]) rfl rfl rfl ?_
      refine y_iinc (ls' := [some _, some _, some _, some _, some _, some _, some _, some _, some _, _, _, _]) rfl rfl rfl rfl ?_
      refine y_goto rfl j_X14_houseTold_257 ?_
      exact ih _ _ (by first | omega | (rw [yinc (by omega)]; omega)) (by first | omega | (rw [yinc (by omega)]; omega)) (yFs_nx (by omega) (by assumption) rfl) (by first | omega | (rw [yinc (by omega)]; omega))
theorem s_houseTold9 (hS0 : ySh n tg R) (hR0 : yRI K nb tg I R) (hn : nb ≤ n) {x1 : Int32} (h0 : 0 ≤ x1.toInt) (h1 : x1.toInt < 16) (hQ : ∀ (v : Int32) n1 tg1 I1 R1 c1 s1, v = mHo I R x1.toInt → yX n tg I R n1 tg1 I1 R1 → c1 ≤ c + 4 → s1 ≤ s + 28 → Q (.inl (some (.int v))) (n1, tg1, I1, R1) c1 s1) : yC 240 [.ref 83, .int x1] (n, tg, I, R) c s Q := by
  have hX : yX n tg I R n tg I R := yX.rf
  have hS := hS0
  have hR := hR0
  have h94 : 94 ≤ n := hS0.1
  have hz : ySz I I := hX.sz h94
  have hxn := hX.1
  have hN := hR0.1
  have hnb : 94 ≤ nb := hR0.2.2.2.2.2.2
  refine y_in (M := xm_X14_houseTold) (ls := [some _, some _, _, _, _, _, _, _, _, _, _, _]) rfl rfl rfl ?_
  refine y_iconst rfl ?_
  refine y_istore_n (ls' := [some _, some _, some _, _, _, _, _, _, _, _, _, _]) rfl rfl rfl ?_
  refine y_iconst rfl ?_
  refine y_istore_n (ls' := [some _, some _, some _, some _, _, _, _, _, _, _, _, _]) rfl rfl rfl ?_
  refine y_iconst rfl ?_
  refine y_istore (ls' := [some _, some _, some _, some _, some _, _, _, _, _, _, _, _]) rfl rfl rfl ?_
  refine y_iconst rfl ?_
  refine y_istore (ls' := [some _, some _, some _, some _, some _, some _, _, _, _, _, _, _]) rfl rfl rfl ?_
  refine y_iconst rfl ?_
  refine y_istore (ls' := [some _, some _, some _, some _, some _, some _, some _, _, _, _, _, _]) rfl rfl rfl ?_
  refine y_iconst rfl ?_
  refine y_istore (ls' := [some _, some _, some _, some _, some _, some _, some _, some _, _, _, _, _]) rfl rfl rfl ?_
  refine y_aload_n rfl rfl ?_
  refine y_getR rfl (ySh.t hS rfl) (ySh.n hS rfl) rfl rfl (ySh.r hS rfl) ?_
  refine y_astore (ls' := [some _, some _, some _, some _, some _, some _, some _, some _, some _, _, _, _]) rfl rfl rfl ?_
  refine y_aload rfl rfl ?_
  refine y_alenI (v := 8) rfl (ySh.t hS rfl) rfl (ySh.n hS rfl) (by decide) ?_
  refine y_istore (ls' := [some _, some _, some _, some _, some _, some _, some _, some _, some _, some _, _, _]) rfl rfl rfl ?_
  refine y_iconst rfl ?_
  refine y_istore (ls' := [some _, some _, some _, some _, some _, some _, some _, some _, some _, some _, some _, _]) rfl rfl rfl ?_
  refine lp_h_house30 hS hR (Nat.le_trans hn hX.1) (fun a1 hc1 => ?_) 100000 _ _ _ (by decide) (by decide) (by decide) rfl (by decide)
  rw [(hX.2.1 85 (by omega)).2.1] at hc1
  refine y_aload_n rfl rfl ?_
  refine y_getR rfl (ySh.t hS rfl) (ySh.n hS rfl) rfl rfl (ySh.r hS rfl) ?_
  refine y_virt rfl rfl rfl rfl rfl (ySh.t hS rfl) (ySh.n hS rfl) ?_
  refine l_iter (nb := nb) (l := 89) hS (ySh.t hS rfl) (ySh.n hS rfl) (by omega) (Nat.le_trans hn hX.1) hR.l89.2.2.2.1 (fun n2 tg2 I2 R2 hnA hX1 hI_it2 => ?_)
  have hX := hX.trans hX1
  have hS := hS0.x hX
  have hR := hR0.x hn hX
  have hz := hX.sz h94
  have hxn := hX.1
  refine y_ret1 ?_
  refine y_astore (ls' := [some _, some _, some _, some _, some _, some _, some _, some _, some _, _, _, _]) rfl rfl rfl ?_
  refine e_h_house64 hS0 hR0 hn (fun a4_3 a4_4 n3 tg3 I3 R3 hX hc4_3 hc4_4 => ?_) 100000 0 _ _ _ _ _ _ _ hX (by omega) hI_it2 rfl rfl (by omega)
  have hS := hS0.x hX
  have hR := hR0.x hn hX
  have hz := hX.sz h94
  have hxn := hX.1
  refine y_aload_n rfl rfl ?_
  refine y_getR rfl (ySh.t hS rfl) (ySh.n hS rfl) rfl rfl (ySh.r hS rfl) ?_
  refine y_virt rfl rfl rfl rfl rfl (ySh.t hS rfl) (ySh.n hS rfl) ?_
  refine l_iter (nb := nb) (l := 90) hS (ySh.t hS rfl) (ySh.n hS rfl) (by omega) (Nat.le_trans hn hX.1) hR.l90.2.2.2.1 (fun n5 tg5 I5 R5 hnA hX1 hI_it5 => ?_)
  have hX := hX.trans hX1
  have hS := hS0.x hX
  have hR := hR0.x hn hX
  have hz := hX.sz h94
  have hxn := hX.1
  refine y_ret1 ?_
  refine y_astore (ls' := [some _, some _, some _, some _, some _, some _, some _, some _, some _, _, _, _]) rfl rfl rfl ?_
  refine e_h_house151 hS0 hR0 hn (fun a7_5 n6 tg6 I6 R6 hX hc7_5 => ?_) 100000 0 _ _ _ _ _ _ hX (by omega) hI_it5 rfl (by omega)
  have hS := hS0.x hX
  have hR := hR0.x hn hX
  have hz := hX.sz h94
  have hxn := hX.1
  refine y_aload_n rfl rfl ?_
  refine y_getR rfl (ySh.t hS rfl) (ySh.n hS rfl) rfl rfl (ySh.r hS rfl) ?_
  refine y_virt rfl rfl rfl rfl rfl (ySh.t hS rfl) (ySh.n hS rfl) ?_
  refine l_iter (nb := nb) (l := 88) hS (ySh.t hS rfl) (ySh.n hS rfl) (by omega) (Nat.le_trans hn hX.1) hR.l88.2.2.2.1 (fun n8 tg8 I8 R8 hnA hX1 hI_it8 => ?_)
  have hX := hX.trans hX1
  have hS := hS0.x hX
  have hR := hR0.x hn hX
  have hz := hX.sz h94
  have hxn := hX.1
  refine y_ret1 ?_
  refine y_astore (ls' := [some _, some _, some _, some _, some _, some _, some _, some _, some _, _, _, _]) rfl rfl rfl ?_
  refine e_h_house206 hS0 hR0 hn (fun a10_6 n9 tg9 I9 R9 hX hc10_6 => ?_) 100000 0 _ _ _ _ _ _ hX (by omega) hI_it8 rfl (by omega)
  have hS := hS0.x hX
  have hR := hR0.x hn hX
  have hz := hX.sz h94
  have hxn := hX.1
  refine y_iconst rfl ?_
  refine y_istore (ls' := [some _, some _, some _, some _, some _, some _, some _, some _, some _, _, _, _]) rfl rfl rfl ?_
  refine lp_h_house257 hS hR (Nat.le_trans hn hX.1) (fun a11 hc11 => ?_) 100000 _ _ (by decide) (by rw [yz_0]; omega) rfl (by rw [yz_0]; omega)
  rw [(hX.2.1 84 (by omega)).2.1, (hX.2.1 83 (by omega)).2.1] at hc11
  refine y_bip rfl (by decide) ?_
  refine y_newarrL (m := 16) rfl rfl (by decide) (by decide) rfl (fun n12 tg12 I12 R12 hA => ?_)
  have hnA := hA.1
  have ht_f13 : tg12 n9 = (0, 16) := hA.2.1
  have ha_f13 : n9 < n12 := by omega
  have hX := hX.trans (hA.x rfl)
  have hS := hS0.x hX
  have hR := hR0.x hn hX
  have hz := hX.sz h94
  have hxn := hX.1
  refine y_dup rfl rfl ?_
  refine y_iconst rfl ?_
  refine y_aload_n rfl rfl ?_
  refine y_getIv (v := I 83 1) rfl (ySh.t hS rfl) (ySh.n hS rfl) rfl rfl (congrFun (hX.2.1 83 (by omega)).2.1 1) ?_
  refine y_iastoreC (j := 0) rfl ht_f13 ha_f13 (Nat.le_trans (by decide) (by omega : 94 ≤ _)) (by decide) (by decide) rfl ?_
  refine y_nameI (fun I14 e14 => ?_)
  have hX := hX.upI (by omega) (upI e14)
  have hS := hS0.x hX
  have hR := hR0.x hn hX
  have hz := hX.sz h94
  have hxn := hX.1
  refine y_dup rfl rfl ?_
  refine y_iconst rfl ?_
  refine y_aload_n rfl rfl ?_
  refine y_getR rfl (ySh.t hS rfl) (ySh.n hS rfl) rfl rfl (ySh.r hS rfl) ?_
  refine y_bip rfl (by decide) ?_
  refine y_ialoadw (j := 8) (J := I 84) rfl (ySh.t hS rfl) (ySh.n hS rfl) (by decide) (by decide) rfl ((hX.2.1 84 (by omega)).2.1) ?_
  refine y_iastoreC (j := 1) rfl ht_f13 ha_f13 (Nat.le_trans (by decide) (by omega : 94 ≤ _)) (by decide) (by decide) rfl ?_
  refine y_nameI (fun I15 e15 => ?_)
  have hX := hX.upI (by omega) (upI e15)
  have hS := hS0.x hX
  have hR := hR0.x hn hX
  have hz := hX.sz h94
  have hxn := hX.1
  refine y_dup rfl rfl ?_
  refine y_iconst rfl ?_
  refine y_aload_n rfl rfl ?_
  refine y_getIv (v := I 83 2) rfl (ySh.t hS rfl) (ySh.n hS rfl) rfl rfl (congrFun (hX.2.1 83 (by omega)).2.1 2) ?_
  refine y_iastoreC (j := 2) rfl ht_f13 ha_f13 (Nat.le_trans (by decide) (by omega : 94 ≤ _)) (by decide) (by decide) rfl ?_
  refine y_nameI (fun I16 e16 => ?_)
  have hX := hX.upI (by omega) (upI e16)
  have hS := hS0.x hX
  have hR := hR0.x hn hX
  have hz := hX.sz h94
  have hxn := hX.1
  refine y_dup rfl rfl ?_
  refine y_iconst rfl ?_
  refine y_aload_n rfl rfl ?_
  refine y_getIv (v := I 83 3) rfl (ySh.t hS rfl) (ySh.n hS rfl) rfl rfl (congrFun (hX.2.1 83 (by omega)).2.1 3) ?_
  refine y_iastoreC (j := 3) rfl ht_f13 ha_f13 (Nat.le_trans (by decide) (by omega : 94 ≤ _)) (by decide) (by decide) rfl ?_
  refine y_nameI (fun I17 e17 => ?_)
  have hX := hX.upI (by omega) (upI e17)
  have hS := hS0.x hX
  have hR := hR0.x hn hX
  have hz := hX.sz h94
  have hxn := hX.1
  refine y_dup rfl rfl ?_
  refine y_iconst rfl ?_
  refine y_iload_n rfl rfl ?_
  refine y_iastoreC (j := 4) rfl ht_f13 ha_f13 (Nat.le_trans (by decide) (by omega : 94 ≤ _)) (by decide) (by decide) rfl ?_
  refine y_nameI (fun I18 e18 => ?_)
  have hX := hX.upI (by omega) (upI e18)
  have hS := hS0.x hX
  have hR := hR0.x hn hX
  have hz := hX.sz h94
  have hxn := hX.1
  refine y_dup rfl rfl ?_
  refine y_iconst rfl ?_
  refine y_aload_n rfl rfl ?_
  refine y_getIv (v := I 83 4) rfl (ySh.t hS rfl) (ySh.n hS rfl) rfl rfl (congrFun (hX.2.1 83 (by omega)).2.1 4) ?_
  refine y_iastoreC (j := 5) rfl ht_f13 ha_f13 (Nat.le_trans (by decide) (by omega : 94 ≤ _)) (by decide) (by decide) rfl ?_
  refine y_nameI (fun I19 e19 => ?_)
  have hX := hX.upI (by omega) (upI e19)
  have hS := hS0.x hX
  have hR := hR0.x hn hX
  have hz := hX.sz h94
  have hxn := hX.1
  refine y_dup rfl rfl ?_
  refine y_bip rfl (by decide) ?_
  refine y_aload_n rfl rfl ?_
  refine y_getR rfl (ySh.t hS rfl) (ySh.n hS rfl) rfl rfl (ySh.r hS rfl) ?_
  refine y_virt rfl rfl rfl rfl rfl (ySh.t hS rfl) (ySh.n hS rfl) ?_
  refine y_in (M := xm_Jx4a65c_size_8abf5) (ls := [some _]) rfl rfl rfl ?_
  refine y_aload_n rfl rfl ?_
  refine y_getIv (v := I 89 2) rfl (ySh.t hS rfl) (ySh.n hS rfl) rfl rfl (congrFun (hX.2.1 89 (by omega)).2.1 2) ?_
  refine y_ireturn rfl rfl rfl ?_
  refine y_ret1 ?_
  refine y_iastoreC (j := 6) rfl ht_f13 ha_f13 (Nat.le_trans (by decide) (by omega : 94 ≤ _)) (by decide) (by decide) rfl ?_
  refine y_nameI (fun I20 e20 => ?_)
  have hX := hX.upI (by omega) (upI e20)
  have hS := hS0.x hX
  have hR := hR0.x hn hX
  have hz := hX.sz h94
  have hxn := hX.1
  refine y_dup rfl rfl ?_
  refine y_bip rfl (by decide) ?_
  refine y_iload_n rfl rfl ?_
  refine y_iastoreC (j := 7) rfl ht_f13 ha_f13 (Nat.le_trans (by decide) (by omega : 94 ≤ _)) (by decide) (by decide) rfl ?_
  refine y_nameI (fun I21 e21 => ?_)
  have hX := hX.upI (by omega) (upI e21)
  have hS := hS0.x hX
  have hR := hR0.x hn hX
  have hz := hX.sz h94
  have hxn := hX.1
  refine y_dup rfl rfl ?_
  refine y_bip rfl (by decide) ?_
  refine y_iload rfl rfl ?_
  refine y_iastoreC (j := 8) rfl ht_f13 ha_f13 (Nat.le_trans (by decide) (by omega : 94 ≤ _)) (by decide) (by decide) rfl ?_
  refine y_nameI (fun I22 e22 => ?_)
  have hX := hX.upI (by omega) (upI e22)
  have hS := hS0.x hX
  have hR := hR0.x hn hX
  have hz := hX.sz h94
  have hxn := hX.1
  refine y_dup rfl rfl ?_
  refine y_bip rfl (by decide) ?_
  refine y_iload rfl rfl ?_
  refine y_iastoreC (j := 9) rfl ht_f13 ha_f13 (Nat.le_trans (by decide) (by omega : 94 ≤ _)) (by decide) (by decide) rfl ?_
  refine y_nameI (fun I23 e23 => ?_)
  have hX := hX.upI (by omega) (upI e23)
  have hS := hS0.x hX
  have hR := hR0.x hn hX
  have hz := hX.sz h94
  have hxn := hX.1
  refine y_dup rfl rfl ?_
  refine y_bip rfl (by decide) ?_
  refine y_aload_n rfl rfl ?_
  refine y_getR rfl (ySh.t hS rfl) (ySh.n hS rfl) rfl rfl (ySh.r hS rfl) ?_
  refine y_virt rfl rfl rfl rfl rfl (ySh.t hS rfl) (ySh.n hS rfl) ?_
  refine y_in (M := xm_Jx4a65c_size_8abf5) (ls := [some _]) rfl rfl rfl ?_
  refine y_aload_n rfl rfl ?_
  refine y_getIv (v := I 91 2) rfl (ySh.t hS rfl) (ySh.n hS rfl) rfl rfl (congrFun (hX.2.1 91 (by omega)).2.1 2) ?_
  refine y_ireturn rfl rfl rfl ?_
  refine y_ret1 ?_
  refine y_iastoreC (j := 10) rfl ht_f13 ha_f13 (Nat.le_trans (by decide) (by omega : 94 ≤ _)) (by decide) (by decide) rfl ?_
  refine y_nameI (fun I24 e24 => ?_)
  have hX := hX.upI (by omega) (upI e24)
  have hS := hS0.x hX
  have hR := hR0.x hn hX
  have hz := hX.sz h94
  have hxn := hX.1
  refine y_dup rfl rfl ?_
  refine y_bip rfl (by decide) ?_
  refine y_aload_n rfl rfl ?_
  refine y_getIv (v := I 83 7) rfl (ySh.t hS rfl) (ySh.n hS rfl) rfl rfl (congrFun (hX.2.1 83 (by omega)).2.1 7) ?_
  refine y_iastoreC (j := 11) rfl ht_f13 ha_f13 (Nat.le_trans (by decide) (by omega : 94 ≤ _)) (by decide) (by decide) rfl ?_
  refine y_nameI (fun I25 e25 => ?_)
  have hX := hX.upI (by omega) (upI e25)
  have hS := hS0.x hX
  have hR := hR0.x hn hX
  have hz := hX.sz h94
  have hxn := hX.1
  refine y_dup rfl rfl ?_
  refine y_bip rfl (by decide) ?_
  refine y_iload rfl rfl ?_
  refine y_iastoreC (j := 12) rfl ht_f13 ha_f13 (Nat.le_trans (by decide) (by omega : 94 ≤ _)) (by decide) (by decide) rfl ?_
  refine y_nameI (fun I26 e26 => ?_)
  have hX := hX.upI (by omega) (upI e26)
  have hS := hS0.x hX
  have hR := hR0.x hn hX
  have hz := hX.sz h94
  have hxn := hX.1
  refine y_dup rfl rfl ?_
  refine y_bip rfl (by decide) ?_
  refine y_iload rfl rfl ?_
  refine y_iastoreC (j := 13) rfl ht_f13 ha_f13 (Nat.le_trans (by decide) (by omega : 94 ≤ _)) (by decide) (by decide) rfl ?_
  refine y_nameI (fun I27 e27 => ?_)
  have hX := hX.upI (by omega) (upI e27)
  have hS := hS0.x hX
  have hR := hR0.x hn hX
  have hz := hX.sz h94
  have hxn := hX.1
  refine y_dup rfl rfl ?_
  refine y_bip rfl (by decide) ?_
  refine y_aload_n rfl rfl ?_
  refine y_getIv (v := I 83 5) rfl (ySh.t hS rfl) (ySh.n hS rfl) rfl rfl (congrFun (hX.2.1 83 (by omega)).2.1 5) ?_
  refine y_iastoreC (j := 14) rfl ht_f13 ha_f13 (Nat.le_trans (by decide) (by omega : 94 ≤ _)) (by decide) (by decide) rfl ?_
  refine y_nameI (fun I28 e28 => ?_)
  have hX := hX.upI (by omega) (upI e28)
  have hS := hS0.x hX
  have hR := hR0.x hn hX
  have hz := hX.sz h94
  have hxn := hX.1
  refine y_dup rfl rfl ?_
  refine y_bip rfl (by decide) ?_
  refine y_aload_n rfl rfl ?_
  refine y_getIv (v := I 83 6) rfl (ySh.t hS rfl) (ySh.n hS rfl) rfl rfl (congrFun (hX.2.1 83 (by omega)).2.1 6) ?_
  refine y_iastoreC (j := 15) rfl ht_f13 ha_f13 (Nat.le_trans (by decide) (by omega : 94 ≤ _)) (by decide) (by decide) rfl ?_
  refine y_nameI (fun I29 e29 => ?_)
  have hX := hX.upI (by omega) (upI e29)
  have hS := hS0.x hX
  have hR := hR0.x hn hX
  have hz := hX.sz h94
  have hxn := hX.1
  refine y_astore (ls' := [some _, some _, some _, some _, some _, some _, some _, some _, some _, _, _, _]) rfl rfl rfl ?_
  refine y_aload rfl rfl ?_
  refine y_iload_n rfl rfl ?_
  refine y_iaload rfl ht_f13 ha_f13 (by omega) (by omega) ?_
  refine y_ireturn rfl rfl rfl ?_
  exact hQ _ _ _ _ _ _ _ (by rcases (by omega : x1.toInt.toNat = 0 ∨ x1.toInt.toNat = 1 ∨ x1.toInt.toNat = 2 ∨ x1.toInt.toNat = 3 ∨ x1.toInt.toNat = 4 ∨ x1.toInt.toNat = 5 ∨ x1.toInt.toNat = 6 ∨ x1.toInt.toNat = 7 ∨ x1.toInt.toNat = 8 ∨ x1.toInt.toNat = 9 ∨ x1.toInt.toNat = 10 ∨ x1.toInt.toNat = 11 ∨ x1.toInt.toNat = 12 ∨ x1.toInt.toNat = 13 ∨ x1.toInt.toNat = 14 ∨ x1.toInt.toNat = 15) with q_ | q_ | q_ | q_ | q_ | q_ | q_ | q_ | q_ | q_ | q_ | q_ | q_ | q_ | q_ | q_; (rw [q_, e29, upd2_ne (.inr (by decide)), e28, upd2_ne (.inr (by decide)), e27, upd2_ne (.inr (by decide)), e26, upd2_ne (.inr (by decide)), e25, upd2_ne (.inr (by decide)), e24, upd2_ne (.inr (by decide)), e23, upd2_ne (.inr (by decide)), e22, upd2_ne (.inr (by decide)), e21, upd2_ne (.inr (by decide)), e20, upd2_ne (.inr (by decide)), e19, upd2_ne (.inr (by decide)), e18, upd2_ne (.inr (by decide)), e17, upd2_ne (.inr (by decide)), e16, upd2_ne (.inr (by decide)), e15, upd2_ne (.inr (by decide)), e14, upd2_self]; rw [show x1.toInt = 0 by omega]; rfl); (rw [q_, e29, upd2_ne (.inr (by decide)), e28, upd2_ne (.inr (by decide)), e27, upd2_ne (.inr (by decide)), e26, upd2_ne (.inr (by decide)), e25, upd2_ne (.inr (by decide)), e24, upd2_ne (.inr (by decide)), e23, upd2_ne (.inr (by decide)), e22, upd2_ne (.inr (by decide)), e21, upd2_ne (.inr (by decide)), e20, upd2_ne (.inr (by decide)), e19, upd2_ne (.inr (by decide)), e18, upd2_ne (.inr (by decide)), e17, upd2_ne (.inr (by decide)), e16, upd2_ne (.inr (by decide)), e15, upd2_self]; rw [show x1.toInt = 1 by omega]; rfl); (rw [q_, e29, upd2_ne (.inr (by decide)), e28, upd2_ne (.inr (by decide)), e27, upd2_ne (.inr (by decide)), e26, upd2_ne (.inr (by decide)), e25, upd2_ne (.inr (by decide)), e24, upd2_ne (.inr (by decide)), e23, upd2_ne (.inr (by decide)), e22, upd2_ne (.inr (by decide)), e21, upd2_ne (.inr (by decide)), e20, upd2_ne (.inr (by decide)), e19, upd2_ne (.inr (by decide)), e18, upd2_ne (.inr (by decide)), e17, upd2_ne (.inr (by decide)), e16, upd2_self]; rw [show x1.toInt = 2 by omega]; rfl); (rw [q_, e29, upd2_ne (.inr (by decide)), e28, upd2_ne (.inr (by decide)), e27, upd2_ne (.inr (by decide)), e26, upd2_ne (.inr (by decide)), e25, upd2_ne (.inr (by decide)), e24, upd2_ne (.inr (by decide)), e23, upd2_ne (.inr (by decide)), e22, upd2_ne (.inr (by decide)), e21, upd2_ne (.inr (by decide)), e20, upd2_ne (.inr (by decide)), e19, upd2_ne (.inr (by decide)), e18, upd2_ne (.inr (by decide)), e17, upd2_self]; rw [show x1.toInt = 3 by omega]; rfl); (rw [q_, e29, upd2_ne (.inr (by decide)), e28, upd2_ne (.inr (by decide)), e27, upd2_ne (.inr (by decide)), e26, upd2_ne (.inr (by decide)), e25, upd2_ne (.inr (by decide)), e24, upd2_ne (.inr (by decide)), e23, upd2_ne (.inr (by decide)), e22, upd2_ne (.inr (by decide)), e21, upd2_ne (.inr (by decide)), e20, upd2_ne (.inr (by decide)), e19, upd2_ne (.inr (by decide)), e18, upd2_self]; rw [show x1.toInt = 4 by omega]; exact hc1); (rw [q_, e29, upd2_ne (.inr (by decide)), e28, upd2_ne (.inr (by decide)), e27, upd2_ne (.inr (by decide)), e26, upd2_ne (.inr (by decide)), e25, upd2_ne (.inr (by decide)), e24, upd2_ne (.inr (by decide)), e23, upd2_ne (.inr (by decide)), e22, upd2_ne (.inr (by decide)), e21, upd2_ne (.inr (by decide)), e20, upd2_ne (.inr (by decide)), e19, upd2_self]; rw [show x1.toInt = 5 by omega]; rfl); (rw [q_, e29, upd2_ne (.inr (by decide)), e28, upd2_ne (.inr (by decide)), e27, upd2_ne (.inr (by decide)), e26, upd2_ne (.inr (by decide)), e25, upd2_ne (.inr (by decide)), e24, upd2_ne (.inr (by decide)), e23, upd2_ne (.inr (by decide)), e22, upd2_ne (.inr (by decide)), e21, upd2_ne (.inr (by decide)), e20, upd2_self]; rw [show x1.toInt = 6 by omega]; rfl); (rw [q_, e29, upd2_ne (.inr (by decide)), e28, upd2_ne (.inr (by decide)), e27, upd2_ne (.inr (by decide)), e26, upd2_ne (.inr (by decide)), e25, upd2_ne (.inr (by decide)), e24, upd2_ne (.inr (by decide)), e23, upd2_ne (.inr (by decide)), e22, upd2_ne (.inr (by decide)), e21, upd2_self]; rw [show x1.toInt = 7 by omega]; exact hc4_3); (rw [q_, e29, upd2_ne (.inr (by decide)), e28, upd2_ne (.inr (by decide)), e27, upd2_ne (.inr (by decide)), e26, upd2_ne (.inr (by decide)), e25, upd2_ne (.inr (by decide)), e24, upd2_ne (.inr (by decide)), e23, upd2_ne (.inr (by decide)), e22, upd2_self]; rw [show x1.toInt = 8 by omega]; exact hc4_4); (rw [q_, e29, upd2_ne (.inr (by decide)), e28, upd2_ne (.inr (by decide)), e27, upd2_ne (.inr (by decide)), e26, upd2_ne (.inr (by decide)), e25, upd2_ne (.inr (by decide)), e24, upd2_ne (.inr (by decide)), e23, upd2_self]; rw [show x1.toInt = 9 by omega]; exact hc7_5); (rw [q_, e29, upd2_ne (.inr (by decide)), e28, upd2_ne (.inr (by decide)), e27, upd2_ne (.inr (by decide)), e26, upd2_ne (.inr (by decide)), e25, upd2_ne (.inr (by decide)), e24, upd2_self]; rw [show x1.toInt = 10 by omega]; rfl); (rw [q_, e29, upd2_ne (.inr (by decide)), e28, upd2_ne (.inr (by decide)), e27, upd2_ne (.inr (by decide)), e26, upd2_ne (.inr (by decide)), e25, upd2_self]; rw [show x1.toInt = 11 by omega]; rfl); (rw [q_, e29, upd2_ne (.inr (by decide)), e28, upd2_ne (.inr (by decide)), e27, upd2_ne (.inr (by decide)), e26, upd2_self]; rw [show x1.toInt = 12 by omega]; exact hc10_6); (rw [q_, e29, upd2_ne (.inr (by decide)), e28, upd2_ne (.inr (by decide)), e27, upd2_self]; rw [show x1.toInt = 13 by omega]; exact hc11); (rw [q_, e29, upd2_ne (.inr (by decide)), e28, upd2_self]; rw [show x1.toInt = 14 by omega]; rfl); (rw [q_, e29, upd2_self]; rw [show x1.toInt = 15 by omega]; rfl)) hX (by omega) (by omega)
theorem e_h_whole1 (hS0 : ySh n tg R) (hR0 : yRI K nb tg I R) (hn : nb ≤ n) (hQ0 : ¬ mSs I R → ∀ n1 tg1 I1 R1, yX n tg I R n1 tg1 I1 R1 → Q (.inl (some (.int (Int32.ofInt 0)))) (n1, tg1, I1, R1) c s) (hx : ∀ (x1 : Int32) n1 tg1 I1 R1, yX n tg I R n1 tg1 I1 R1 → x1 = yFz (fun j => I (yAd R 89 j) 8) (I 89 2).toInt.toNat → (∀ j : Nat, (j : Int) < (I 89 2).toInt → (I (yAd R 89 j) 5).toInt = 0 ∨ (I (yAd R 89 j) 7).toInt ≤ 0) → yW xm_X14_isWhole xc_X14_isWhole_55 [some (.ref 83), some (.int x1), none, none, none, none, none, none] [] (n1, tg1, I1, R1) c s Q) : ∀ (m : Nat) (z : Int) (it : Nat) (x1 : Int32) (n1 : Nat) (tg1 : Nat → yT) (I1 : Nat → Nat → Int32) (R1 : Nat → Nat → Value), yX n tg I R n1 tg1 I1 R1 → n ≤ it → yIt nb n1 tg1 I1 R1 it 89 z → x1 = yFz (fun j => I (yAd R 89 j) 8) z.toNat → (∀ j : Nat, (j : Int) < z → (I (yAd R 89 j) 5).toInt = 0 ∨ (I (yAd R 89 j) 7).toInt ≤ 0) → (I 89 2).toInt - z < m → yW xm_X14_isWhole xc_X14_isWhole_10 [some (.ref 83), some (.int x1), some (.ref it), none, none, none, none, none] [] (n1, tg1, I1, R1) c s Q := by
  intro m
  induction m with
  | zero =>
    intro z it x1 n1 tg1 I1 R1 hX hit hI_it hac_1 hinv hm
    have hz := hX.sz hS0.1
    have h7 := hI_it.2.2.2.2.2.2.1
    exfalso; omega
  | succ m ih =>
    intro z it x1 n1 tg1 I1 R1 hX hit hI_it hac_1 hinv hm
    have hS := hS0.x hX
    have hR := hR0.x hn hX
    have h94 : 94 ≤ n := hS0.1
    have hz := hX.sz h94
    have hxn := hX.1
    have hN := hR0.1
    have hnb : 94 ≤ nb := hR0.2.2.2.2.2.2
    refine y_aload_n rfl rfl ?_
    refine y_intf rfl rfl rfl rfl rfl hI_it.2.2.1 hI_it.2.1 ?_
    refine i_hasNext hI_it (fun h_1 => ?_) (fun h_2 => ?_)
    · refine y_ret1 ?_
      refine y_if_eqF rfl (by decide) ?_
      refine y_aload_n rfl rfl ?_
      refine y_intf rfl rfl rfl rfl rfl hI_it.2.2.1 hI_it.2.1 ?_
      have hz0 := hI_it.2.2.2.2.2.1
      refine i_next (nb := nb) (Nat.le_trans (by decide) (by have := hI_it.1; omega : 94 ≤ _)) (Nat.le_trans hn hX.1) hI_it hR.l89 (by omega) h_1 (fun b3 I3 eb_b3 hlo_b3 hb0_b3 ht_b3 hI1 hIe => ?_)
      have hfb : b3 = yAd R 89 z.toNat := eb_b3.trans (yAd_eq (hX.2.1 89 (by omega)).2.2 (hX.2.1 _ (by have := hR0.lt6 89 (by decide) (by decide); omega)).2.2)
      have hb_b3 := Nat.lt_of_lt_of_le hb0_b3 hn
      replace ht_b3 := (hX.2.1 _ hb_b3).1.symm.trans ht_b3
      have hI_it := hI1
      have hX := hX.upI (by omega) hIe
      have hS := hS0.x hX
      have hR := hR0.x hn hX
      have hz := hX.sz h94
      have hxn := hX.1
      have hw_b3 := hR.sal hlo_b3 hb0_b3 ((hX.2.1 _ hb_b3).1.trans ht_b3)
      rw [(hX.2.1 _ hb_b3).2.1] at hw_b3
      refine y_ret1 ?_
      refine y_cast rfl ((hX.2.1 _ hb_b3).1.trans ht_b3) (Nat.lt_of_lt_of_le hb_b3 hX.1) ?_
      refine y_astore_n (ls' := [some _, some _, some _, some _, _, _, _, _]) rfl rfl rfl ?_
      refine y_iload_n rfl rfl ?_
      refine y_aload_n rfl rfl ?_
      refine y_getIv (v := I b3 8) rfl ((hX.2.1 _ hb_b3).1.trans ht_b3) (Nat.lt_of_lt_of_le hb_b3 hX.1) rfl rfl (congrFun (hX.2.1 _ hb_b3).2.1 8) ?_
      refine y_iadd rfl ?_
      refine y_istore_n (ls' := [some _, some _, some _, some _, _, _, _, _]) rfl rfl rfl ?_
      refine y_aload_n rfl rfl ?_
      refine y_getIv (v := I b3 5) rfl ((hX.2.1 _ hb_b3).1.trans ht_b3) (Nat.lt_of_lt_of_le hb_b3 hX.1) rfl rfl (congrFun (hX.2.1 _ hb_b3).2.1 5) ?_
      refine y_if_eq rfl j_X14_isWhole_52 (fun h_4 => ?_) (fun h_5 => ?_)
      · refine y_goto rfl j_X14_isWhole_10 ?_
        refine y_fgt (ls := [some _, some _, some _, none, none, none, none, none]) ⟨rfl, rfl, rfl, trivial⟩ ?_
        exact ih _ _ _ _ _ _ _ hX (by omega) hI_it (by first | exact yFz_st hz0 hac_1 rfl | exact yFz_st hz0 hac_1 (by show _ = (I (yAd R 89 z.toNat) 8); rw [← hfb]; first | done | rfl | exact (if_pos (by omega)).symm | exact (if_neg (by omega)).symm) | exact yFz_s0 hz0 hac_1 (by show (I (yAd R 89 z.toNat) 8) = _; rw [← hfb]; first | exact if_neg (by omega) | exact if_pos (by omega))) (mAll_nx (P := fun j => (I (yAd R 89 j) 5).toInt = 0 ∨ (I (yAd R 89 j) 7).toInt ≤ 0) hz0 hinv (by show (I (yAd R 89 z.toNat) 5).toInt = 0 ∨ (I (yAd R 89 z.toNat) 7).toInt ≤ 0; rw [← hfb]; omega)) (by omega)
      · refine y_aload_n rfl rfl ?_
        refine y_getIv (v := I b3 7) rfl ((hX.2.1 _ hb_b3).1.trans ht_b3) (Nat.lt_of_lt_of_le hb_b3 hX.1) rfl rfl (congrFun (hX.2.1 _ hb_b3).2.1 7) ?_
        refine y_if_le rfl j_X14_isWhole_52 (fun h_6 => ?_) (fun h_7 => ?_)
        · refine y_goto rfl j_X14_isWhole_10 ?_
          refine y_fgt (ls := [some _, some _, some _, none, none, none, none, none]) ⟨rfl, rfl, rfl, trivial⟩ ?_
          exact ih _ _ _ _ _ _ _ hX (by omega) hI_it (by first | exact yFz_st hz0 hac_1 rfl | exact yFz_st hz0 hac_1 (by show _ = (I (yAd R 89 z.toNat) 8); rw [← hfb]; first | done | rfl | exact (if_pos (by omega)).symm | exact (if_neg (by omega)).symm) | exact yFz_s0 hz0 hac_1 (by show (I (yAd R 89 z.toNat) 8) = _; rw [← hfb]; first | exact if_neg (by omega) | exact if_pos (by omega))) (mAll_nx (P := fun j => (I (yAd R 89 j) 5).toInt = 0 ∨ (I (yAd R 89 j) 7).toInt ≤ 0) hz0 hinv (by show (I (yAd R 89 z.toNat) 5).toInt = 0 ∨ (I (yAd R 89 z.toNat) 7).toInt ≤ 0; rw [← hfb]; omega)) (by omega)
        · refine y_iconst rfl ?_
          refine y_ireturn rfl rfl rfl ?_
          exact hQ0 (fun h => by have h_ := h z.toNat (by omega); rw [← hfb] at h_; omega) _ _ _ _ hX
    · refine y_ret1 ?_
      refine y_if_eqT rfl j_X14_isWhole_55 (by decide) ?_
      refine y_fgt (ls := [some _, some _, none, none, none, none, none, none]) ⟨rfl, rfl, trivial⟩ ?_
      exact hx _ _ _ _ _ hX (by have h7_ := hI_it.2.2.2.2.2.2.1; have h6_ := hI_it.2.2.2.2.2.1; rw [show (I 89 2).toInt.toNat = z.toNat by omega]; exact hac_1) (by have h7_ := hI_it.2.2.2.2.2.2.1; have h6_ := hI_it.2.2.2.2.2.1; exact (fun j hj => hinv j (by omega)))
theorem lp_h_wholeV {bv av it : Nat} (hb_av : av < n) (ht_av : tg av = (0, 9)) {x1 : Int32} (hx : (∀ p : Nat, (p : Int) < 9 → 0 ≤ (I av p).toInt) → yW xm_X14_isWhole xc_X14_isWhole_138 [some (.ref 83), some (.int x1), some (.ref it), none, none, none, none, none] [] (n, tg, I, R) c s Q) (hQ0 : ¬ (∀ p : Nat, (p : Int) < 9 → 0 ≤ (I av p).toInt) → Q (.inl (some (.int (Int32.ofInt 0)))) (n, tg, I, R) c s) : ∀ (m : Nat) (x5 x6 : Int32), x5.toInt = 9 → 0 ≤ x6.toInt → x6.toInt ≤ 9 → (∀ p : Nat, (p : Int) < x6.toInt → 0 ≤ (I av p).toInt) → 9 - x6.toInt < m → yW xm_X14_isWhole xc_X14_isWhole_111 [some (.ref 83), some (.int x1), some (.ref it), some (.ref bv), some (.ref av), some (.int x5), some (.int x6), none] [] (n, tg, I, R) c s Q := by
  intro m
  induction m with
  | zero => intro x5 x6 i0 i1 i2 i3 hm; exfalso; omega
  | succ m ih =>
    intro x5 x6 i0 i1 i2 i3 hm
    have hX : yX n tg I R n tg I R := yX.rf
    refine y_iload rfl rfl ?_
    refine y_iload rfl rfl ?_
    refine y_icmp_ge rfl j_X14_isWhole_138 (fun h_1 => ?_) (fun h_2 => ?_)
    · refine y_fgt (ls := [some _, some _, some _, none, none, none, none, none]) ⟨rfl, rfl, rfl, trivial⟩ ?_
      exact hx (fun p hp => i3 p (by omega))
    · refine y_aload rfl rfl ?_
      refine y_iload rfl rfl ?_
      refine y_iaload rfl ((hX.2.1 _ hb_av).1.trans ht_av) (Nat.lt_of_lt_of_le hb_av hX.1) (by omega) (by omega) ?_
      refine y_istore (ls' := [some _, some _, some _, some _, some _, some _, some _, some _]) rfl rfl rfl ?_
      refine y_iload rfl rfl ?_
      refine y_if_ge rfl j_X14_isWhole_132 (fun h_3 => ?_) (fun h_4 => ?_)
      · refine y_iinc (ls' := [some _, some _, some _, some _, some _, some _, some _, some _]) rfl rfl rfl rfl ?_
        refine y_goto rfl j_X14_isWhole_111 ?_
        refine y_fgt (ls := [some _, some _, some _, some _, some _, some _, some _, none]) ⟨rfl, rfl, rfl, rfl, rfl, rfl, rfl, trivial⟩ ?_
        exact ih _ _ (by assumption) (by first | omega | (rw [yinc (by omega)]; omega)) (by first | omega | (rw [yinc (by omega)]; omega)) (yAll_nx (by omega) i3 (by omega)) (by first | omega | (rw [yinc (by omega)]; omega))
      · refine y_iconst rfl ?_
        refine y_ireturn rfl rfl rfl ?_
        exact hQ0 (fun h => by have h_ := h x6.toInt.toNat (by omega); omega)
theorem e_h_whole2 (hS0 : ySh n tg R) (hR0 : yRI K nb tg I R) (hn : nb ≤ n) {x1 : Int32} (hQ0 : ¬ mSv I R → ∀ n1 tg1 I1 R1, yX n tg I R n1 tg1 I1 R1 → Q (.inl (some (.int (Int32.ofInt 0)))) (n1, tg1, I1, R1) c s) (hx : ∀ n1 tg1 I1 R1, yX n tg I R n1 tg1 I1 R1 → (∀ j : Nat, (j : Int) < (I 91 2).toInt → mSw I R j) → yW xm_X14_isWhole xc_X14_isWhole_141 [some (.ref 83), some (.int x1), none, none, none, none, none, none] [] (n1, tg1, I1, R1) c s Q) : ∀ (m : Nat) (z : Int) (it : Nat)  (n1 : Nat) (tg1 : Nat → yT) (I1 : Nat → Nat → Int32) (R1 : Nat → Nat → Value), yX n tg I R n1 tg1 I1 R1 → n ≤ it → yIt nb n1 tg1 I1 R1 it 91 z → (∀ j : Nat, (j : Int) < z → mSw I R j) → (I 91 2).toInt - z < m → yW xm_X14_isWhole xc_X14_isWhole_63 [some (.ref 83), some (.int x1), some (.ref it), none, none, none, none, none] [] (n1, tg1, I1, R1) c s Q := by
  intro m
  induction m with
  | zero =>
    intro z it n1 tg1 I1 R1 hX hit hI_it hinv hm
    have hz := hX.sz hS0.1
    have h7 := hI_it.2.2.2.2.2.2.1
    exfalso; omega
  | succ m ih =>
    intro z it n1 tg1 I1 R1 hX hit hI_it hinv hm
    have hS := hS0.x hX
    have hR := hR0.x hn hX
    have h94 : 94 ≤ n := hS0.1
    have hz := hX.sz h94
    have hxn := hX.1
    have hN := hR0.1
    have hnb : 94 ≤ nb := hR0.2.2.2.2.2.2
    refine y_aload_n rfl rfl ?_
    refine y_intf rfl rfl rfl rfl rfl hI_it.2.2.1 hI_it.2.1 ?_
    refine i_hasNext hI_it (fun h_1 => ?_) (fun h_2 => ?_)
    · refine y_ret1 ?_
      refine y_if_eqF rfl (by decide) ?_
      refine y_aload_n rfl rfl ?_
      refine y_intf rfl rfl rfl rfl rfl hI_it.2.2.1 hI_it.2.1 ?_
      have hz0 := hI_it.2.2.2.2.2.1
      refine i_next (nb := nb) (Nat.le_trans (by decide) (by have := hI_it.1; omega : 94 ≤ _)) (Nat.le_trans hn hX.1) hI_it hR.l91 (by omega) h_1 (fun b3 I3 eb_b3 hlo_b3 hb0_b3 ht_b3 hI1 hIe => ?_)
      have hfb : b3 = yAd R 91 z.toNat := eb_b3.trans (yAd_eq (hX.2.1 91 (by omega)).2.2 (hX.2.1 _ (by have := hR0.lt6 91 (by decide) (by decide); omega)).2.2)
      have hb_b3 := Nat.lt_of_lt_of_le hb0_b3 hn
      replace ht_b3 := (hX.2.1 _ hb_b3).1.symm.trans ht_b3
      have hI_it := hI1
      have hX := hX.upI (by omega) hIe
      have hS := hS0.x hX
      have hR := hR0.x hn hX
      have hz := hX.sz h94
      have hxn := hX.1
      refine y_ret1 ?_
      refine y_cast rfl ((hX.2.1 _ hb_b3).1.trans ht_b3) (Nat.lt_of_lt_of_le hb_b3 hX.1) ?_
      refine y_astore_n (ls' := [some _, some _, some _, some _, _, _, _, _]) rfl rfl rfl ?_
      refine y_aload_n rfl rfl ?_
      refine y_aload_n rfl rfl ?_
      obtain ⟨hR_v4, hb_v4, ht_v4⟩ := hR0.ven hlo_b3 hb0_b3 ht_b3 (j := 2) (by decide)
      have hb0_v4 := hb_v4
      have hb_v4 := Nat.lt_of_lt_of_le hb_v4 hn
      have hlo_v4 : 94 ≤ b3 + 1 + 2 := by omega
      have hR2_v4 := (congrFun (hX.2.1 b3 hb_b3).2.2 2).trans hR_v4
      refine y_getR rfl ((hX.2.1 _ hb_b3).1.trans ht_b3) (Nat.lt_of_lt_of_le hb_b3 hX.1) rfl rfl hR2_v4 ?_
      refine y_virt rfl rfl rfl rfl rfl ((hX.2.1 _ hb_b3).1.trans ht_b3) (Nat.lt_of_lt_of_le hb_b3 hX.1) ?_
      refine r_allX ((hX.2.1 _ hb_v4).1.trans ht_v4) (Nat.lt_of_lt_of_le hb_v4 hX.1) (fun v_5 hv_5 => ?_)
      rw [show I3 (b3 + 1 + 2) = I (b3 + 1 + 2) from ((hX.2.1 _ hb_v4).2.1)] at hv_5
      subst hv_5
      refine y_ret1 ?_
      refine y_bip rfl (by decide) ?_
      refine y_icmp_le rfl j_X14_isWhole_97 (fun h_6 => ?_) (fun h_7 => ?_)
      · rw [yz_100] at h_6
        refine y_aload_n rfl rfl ?_
        obtain ⟨hR_v8, hb_v8, ht_v8⟩ := hR0.ven hlo_b3 hb0_b3 ht_b3 (j := 1) (by decide)
        have hb0_v8 := hb_v8
        have hb_v8 := Nat.lt_of_lt_of_le hb_v8 hn
        have hlo_v8 : 94 ≤ b3 + 1 + 1 := by omega
        have hR2_v8 := (congrFun (hX.2.1 b3 hb_b3).2.2 1).trans hR_v8
        refine y_getR rfl ((hX.2.1 _ hb_b3).1.trans ht_b3) (Nat.lt_of_lt_of_le hb_b3 hX.1) rfl rfl hR2_v8 ?_
        refine y_astore (ls' := [some _, some _, some _, some _, some _, _, _, _]) rfl rfl rfl ?_
        refine y_aload rfl rfl ?_
        refine y_alenI (v := 9) rfl ((hX.2.1 _ hb_v8).1.trans ht_v8) rfl (Nat.lt_of_lt_of_le hb_v8 hX.1) (by decide) ?_
        refine y_istore (ls' := [some _, some _, some _, some _, some _, some _, _, _]) rfl rfl rfl ?_
        refine y_iconst rfl ?_
        refine y_istore (ls' := [some _, some _, some _, some _, some _, some _, some _, _]) rfl rfl rfl ?_
        refine lp_h_wholeV (Nat.lt_of_lt_of_le hb_v8 hX.1) ((hX.2.1 _ hb_v8).1.trans ht_v8) (fun hv_ => ?_) (fun hn_ => hQ0 (fun h => hn_ (fun p hp => by have h_ := (h z.toNat (by omega)).2 p hp; rw [← hfb] at h_; rw [(hX.2.1 _ hb_v8).2.1]; exact h_)) _ _ _ _ hX) 100 _ _ (by decide) (by decide) (by decide) (fun p hp => absurd hp (by rw [yz_0]; omega)) (by decide)
        have hv_ : ∀ p : Nat, (p : Int) < 9 → 0 ≤ (I (b3 + 1 + 1) p).toInt := fun p hp => by have h_ := hv_ p hp; rw [(hX.2.1 _ hb_v8).2.1] at h_; exact h_
        refine y_goto rfl j_X14_isWhole_63 ?_
        exact ih _ _  _ _ _ _ hX (by omega) hI_it (mAll_nx (P := fun j => mSw I R j) hz0 hinv ⟨by rw [← hfb]; omega, by rw [← hfb]; exact hv_⟩) (by omega)
      · rw [yz_100] at h_7
        refine y_iconst rfl ?_
        refine y_ireturn rfl rfl rfl ?_
        exact hQ0 (fun h => by have h_ := (h z.toNat (by omega)).1; rw [← hfb] at h_; omega) _ _ _ _ hX
    · refine y_ret1 ?_
      refine y_if_eqT rfl j_X14_isWhole_141 (by decide) ?_
      refine y_fgt (ls := [some _, some _, none, none, none, none, none, none]) ⟨rfl, rfl, trivial⟩ ?_
      exact hx  _ _ _ _ hX  (by have h7_ := hI_it.2.2.2.2.2.2.1; have h6_ := hI_it.2.2.2.2.2.1; exact (fun j hj => hinv j (by omega)))
theorem e_h_whole3 (hS0 : ySh n tg R) (hR0 : yRI K nb tg I R) (hn : nb ≤ n) {x1 : Int32} (hQ0 : ¬ mSl I R → ∀ n1 tg1 I1 R1, yX n tg I R n1 tg1 I1 R1 → Q (.inl (some (.int (Int32.ofInt 0)))) (n1, tg1, I1, R1) c s) (hx : ∀ n1 tg1 I1 R1, yX n tg I R n1 tg1 I1 R1 → (∀ j : Nat, (j : Int) < (I 90 2).toInt → mSq I R j) → yW xm_X14_isWhole xc_X14_isWhole_222 [some (.ref 83), some (.int x1), none, none, none, none, none, none] [] (n1, tg1, I1, R1) c s Q) : ∀ (m : Nat) (z : Int) (it : Nat)  (n1 : Nat) (tg1 : Nat → yT) (I1 : Nat → Nat → Int32) (R1 : Nat → Nat → Value), yX n tg I R n1 tg1 I1 R1 → n ≤ it → yIt nb n1 tg1 I1 R1 it 90 z → (∀ j : Nat, (j : Int) < z → mSq I R j) → (I 90 2).toInt - z < m → yW xm_X14_isWhole xc_X14_isWhole_149 [some (.ref 83), some (.int x1), some (.ref it), none, none, none, none, none] [] (n1, tg1, I1, R1) c s Q := by
  intro m
  induction m with
  | zero =>
    intro z it n1 tg1 I1 R1 hX hit hI_it hinv hm
    have hz := hX.sz hS0.1
    have h7 := hI_it.2.2.2.2.2.2.1
    exfalso; omega
  | succ m ih =>
    intro z it n1 tg1 I1 R1 hX hit hI_it hinv hm
    have hS := hS0.x hX
    have hR := hR0.x hn hX
    have h94 : 94 ≤ n := hS0.1
    have hz := hX.sz h94
    have hxn := hX.1
    have hN := hR0.1
    have hnb : 94 ≤ nb := hR0.2.2.2.2.2.2
    refine y_aload_n rfl rfl ?_
    refine y_intf rfl rfl rfl rfl rfl hI_it.2.2.1 hI_it.2.1 ?_
    refine i_hasNext hI_it (fun h_1 => ?_) (fun h_2 => ?_)
    · refine y_ret1 ?_
      refine y_if_eqF rfl (by decide) ?_
      refine y_aload_n rfl rfl ?_
      refine y_intf rfl rfl rfl rfl rfl hI_it.2.2.1 hI_it.2.1 ?_
      have hz0 := hI_it.2.2.2.2.2.1
      refine i_next (nb := nb) (Nat.le_trans (by decide) (by have := hI_it.1; omega : 94 ≤ _)) (Nat.le_trans hn hX.1) hI_it hR.l90 (by omega) h_1 (fun b3 I3 eb_b3 hlo_b3 hb0_b3 ht_b3 hI1 hIe => ?_)
      have hfb : b3 = yAd R 90 z.toNat := eb_b3.trans (yAd_eq (hX.2.1 90 (by omega)).2.2 (hX.2.1 _ (by have := hR0.lt6 90 (by decide) (by decide); omega)).2.2)
      have hb_b3 := Nat.lt_of_lt_of_le hb0_b3 hn
      replace ht_b3 := (hX.2.1 _ hb_b3).1.symm.trans ht_b3
      have hI_it := hI1
      have hX := hX.upI (by omega) hIe
      have hS := hS0.x hX
      have hR := hR0.x hn hX
      have hz := hX.sz h94
      have hxn := hX.1
      have hw_b3 := hR.lea hlo_b3 hb0_b3 ((hX.2.1 _ hb_b3).1.trans ht_b3)
      rw [(hX.2.1 _ hb_b3).2.1] at hw_b3
      refine y_ret1 ?_
      refine y_cast rfl ((hX.2.1 _ hb_b3).1.trans ht_b3) (Nat.lt_of_lt_of_le hb_b3 hX.1) ?_
      refine y_astore_n (ls' := [some _, some _, some _, some _, _, _, _, _]) rfl rfl rfl ?_
      refine y_aload_n rfl rfl ?_
      refine y_getIv (v := I b3 5) rfl ((hX.2.1 _ hb_b3).1.trans ht_b3) (Nat.lt_of_lt_of_le hb_b3 hX.1) rfl rfl (congrFun (hX.2.1 _ hb_b3).2.1 5) ?_
      refine y_if_ne rfl j_X14_isWhole_219 (fun h_4 => ?_) (fun h_5 => ?_)
      · refine y_goto rfl j_X14_isWhole_149 ?_
        refine y_fgt (ls := [some _, some _, some _, none, none, none, none, none]) ⟨rfl, rfl, rfl, trivial⟩ ?_
        exact ih _ _  _ _ _ _ hX (by omega) hI_it (mAll_nx (P := fun j => mSq I R j) hz0 hinv (by show ¬ (I (yAd R 90 z.toNat) 5).toInt = 0 ∨ _; rw [← hfb]; omega)) (by omega)
      · refine y_aload_n rfl rfl ?_
        refine y_getR rfl (ySh.t hS rfl) (ySh.n hS rfl) rfl rfl (ySh.r hS rfl) ?_
        refine y_aload_n rfl rfl ?_
        refine y_getIv (v := I b3 0) rfl ((hX.2.1 _ hb_b3).1.trans ht_b3) (Nat.lt_of_lt_of_le hb_b3 hX.1) rfl rfl (congrFun (hX.2.1 _ hb_b3).2.1 0) ?_
        refine y_virt rfl rfl rfl rfl rfl (ySh.t hS rfl) (ySh.n hS rfl) ?_
        refine l_get (nb := nb) (ySh.t hS rfl) (ySh.n hS rfl) (Nat.le_trans hn hX.1) hR.l88 (by omega) (by omega) (fun b6 eb_b6 hlo_b6 hb0_b6 ht_b6 => ?_)
        have hb_b6 := Nat.lt_of_lt_of_le hb0_b6 hn
        replace ht_b6 := (hX.2.1 _ hb_b6).1.symm.trans ht_b6
        have hw_b6 := hR.thi hlo_b6 hb0_b6 ((hX.2.1 _ hb_b6).1.trans ht_b6)
        rw [(hX.2.1 _ hb_b6).2.1] at hw_b6
        refine y_ret1 ?_
        refine y_cast rfl ((hX.2.1 _ hb_b6).1.trans ht_b6) (Nat.lt_of_lt_of_le hb_b6 hX.1) ?_
        refine y_getIv (v := I b6 1) rfl ((hX.2.1 _ hb_b6).1.trans ht_b6) (Nat.lt_of_lt_of_le hb_b6 hX.1) rfl rfl (congrFun (hX.2.1 _ hb_b6).2.1 1) ?_
        refine y_bip rfl (by decide) ?_
        refine y_icmp_ne rfl j_X14_isWhole_217 (fun h_7 => ?_) (fun h_8 => ?_)
        · rw [yz_8] at h_7
          refine y_iconst rfl ?_
          refine y_ireturn rfl rfl rfl ?_
          exact hQ0 (fun h => by have h_ := h z.toNat (by omega); unfold mSq at h_; have ft_b6 : b6 = yAd R 88 (I (yAd R 90 z.toNat) 0).toInt.toNat := (by rw [← hfb]; exact eb_b6.trans (yAd_eq (hX.2.1 88 (by omega)).2.2 (hX.2.1 _ (by have h6_ := hR0.lt6 88 (by decide) (by decide); omega)).2.2)); rw [← ft_b6, ← hfb] at h_; omega) _ _ _ _ hX
        · rw [yz_8] at h_8
          refine y_aload_n rfl rfl ?_
          refine y_getR rfl (ySh.t hS rfl) (ySh.n hS rfl) rfl rfl (ySh.r hS rfl) ?_
          refine y_aload_n rfl rfl ?_
          refine y_getIv (v := I b3 0) rfl ((hX.2.1 _ hb_b3).1.trans ht_b3) (Nat.lt_of_lt_of_le hb_b3 hX.1) rfl rfl (congrFun (hX.2.1 _ hb_b3).2.1 0) ?_
          refine y_virt rfl rfl rfl rfl rfl (ySh.t hS rfl) (ySh.n hS rfl) ?_
          refine l_get (nb := nb) (ySh.t hS rfl) (ySh.n hS rfl) (Nat.le_trans hn hX.1) hR.l88 (by omega) (by omega) (fun b9 eb_b9 hlo_b9 hb0_b9 ht_b9 => ?_)
          have hb_b9 := Nat.lt_of_lt_of_le hb0_b9 hn
          replace ht_b9 := (hX.2.1 _ hb_b9).1.symm.trans ht_b9
          have hw_b9 := hR.thi hlo_b9 hb0_b9 ((hX.2.1 _ hb_b9).1.trans ht_b9)
          rw [(hX.2.1 _ hb_b9).2.1] at hw_b9
          refine y_ret1 ?_
          refine y_cast rfl ((hX.2.1 _ hb_b9).1.trans ht_b9) (Nat.lt_of_lt_of_le hb_b9 hX.1) ?_
          refine y_getIv (v := I b9 3) rfl ((hX.2.1 _ hb_b9).1.trans ht_b9) (Nat.lt_of_lt_of_le hb_b9 hX.1) rfl rfl (congrFun (hX.2.1 _ hb_b9).2.1 3) ?_
          refine y_if_eq rfl j_X14_isWhole_219 (fun h_10 => ?_) (fun h_11 => ?_)
          · refine y_goto rfl j_X14_isWhole_149 ?_
            refine y_fgt (ls := [some _, some _, some _, none, none, none, none, none]) ⟨rfl, rfl, rfl, trivial⟩ ?_
            exact ih _ _  _ _ _ _ hX (by omega) hI_it (mAll_nx (P := fun j => mSq I R j) hz0 hinv (by show ¬ (I (yAd R 90 z.toNat) 5).toInt = 0 ∨ _; have ft_b6 : b6 = yAd R 88 (I (yAd R 90 z.toNat) 0).toInt.toNat := (by rw [← hfb]; exact eb_b6.trans (yAd_eq (hX.2.1 88 (by omega)).2.2 (hX.2.1 _ (by have h6_ := hR0.lt6 88 (by decide) (by decide); omega)).2.2)); have ft_b9 : b9 = yAd R 88 (I (yAd R 90 z.toNat) 0).toInt.toNat := (by rw [← hfb]; exact eb_b9.trans (yAd_eq (hX.2.1 88 (by omega)).2.2 (hX.2.1 _ (by have h6_ := hR0.lt6 88 (by decide) (by decide); omega)).2.2)); obtain rfl : b9 = b6 := ft_b9.trans ft_b6.symm; rw [← ft_b6]; rw [← hfb]; omega)) (by omega)
          · refine y_iconst rfl ?_
            refine y_ireturn rfl rfl rfl ?_
            exact hQ0 (fun h => by have h_ := h z.toNat (by omega); unfold mSq at h_; have ft_b6 : b6 = yAd R 88 (I (yAd R 90 z.toNat) 0).toInt.toNat := (by rw [← hfb]; exact eb_b6.trans (yAd_eq (hX.2.1 88 (by omega)).2.2 (hX.2.1 _ (by have h6_ := hR0.lt6 88 (by decide) (by decide); omega)).2.2)); have ft_b9 : b9 = yAd R 88 (I (yAd R 90 z.toNat) 0).toInt.toNat := (by rw [← hfb]; exact eb_b9.trans (yAd_eq (hX.2.1 88 (by omega)).2.2 (hX.2.1 _ (by have h6_ := hR0.lt6 88 (by decide) (by decide); omega)).2.2)); obtain rfl : b9 = b6 := ft_b9.trans ft_b6.symm; rw [← ft_b6, ← hfb] at h_; omega) _ _ _ _ hX
    · refine y_ret1 ?_
      refine y_if_eqT rfl j_X14_isWhole_222 (by decide) ?_
      refine y_fgt (ls := [some _, some _, none, none, none, none, none, none]) ⟨rfl, rfl, trivial⟩ ?_
      exact hx  _ _ _ _ hX  (by have h7_ := hI_it.2.2.2.2.2.2.1; have h6_ := hI_it.2.2.2.2.2.1; exact (fun j hj => hinv j (by omega)))
theorem lp_h_whole4 (hS0 : ySh n tg R) (hR0 : yRI K nb tg I R) (hn : nb ≤ n) {x1 : Int32} (hx : mSd I → yW xm_X14_isWhole xc_X14_isWhole_258 [some (.ref 83), some (.int x1), none, none, none, none, none, none] [] (n, tg, I, R) c s Q) (hQ0 : ¬ mSd I → Q (.inl (some (.int (Int32.ofInt 0)))) (n, tg, I, R) c s) : ∀ (m : Nat) (x3 : Int32) (x4 : Int32), (x3.toInt = 8) → (0 ≤ x4.toInt) → (x4.toInt ≤ 8) → (∀ p : Nat, (p : Int) < x4.toInt → 0 ≤ (I 85 p).toInt) → 8 - x4.toInt < m → yW xm_X14_isWhole xc_X14_isWhole_233 [some (.ref 83), some (.int x1), some (.ref 85), some (.int x3), some (.int x4), none, none, none] [] (n, tg, I, R) c s Q := by
  intro m
  induction m with
  | zero =>
    intro x3 x4 i0 i1 i2 i3 hm
    have hX : yX n tg I R n tg I R := yX.rf
    have hS := hS0
    have hR := hR0
    have h94 : 94 ≤ n := hS0.1
    have hz : ySz I I := hX.sz h94
    have hxn := hX.1
    have hN := hR0.1
    have hnb : 94 ≤ nb := hR0.2.2.2.2.2.2
    exfalso; omega
  | succ m ih =>
    intro x3 x4 i0 i1 i2 i3 hm
    have hX : yX n tg I R n tg I R := yX.rf
    have hS := hS0
    have hR := hR0
    have h94 : 94 ≤ n := hS0.1
    have hz : ySz I I := hX.sz h94
    have hxn := hX.1
    have hN := hR0.1
    have hnb : 94 ≤ nb := hR0.2.2.2.2.2.2
    refine y_iload rfl rfl ?_
    refine y_iload_n rfl rfl ?_
    refine y_icmp_ge rfl j_X14_isWhole_258 (fun h_1 => ?_) (fun h_2 => ?_)
    · refine y_fgt (ls := [some _, some _, none, none, none, none, none, none]) ⟨rfl, rfl, trivial⟩ ?_
      exact hx (fun p hp => i3 p (by omega))
    · refine y_aload_n rfl rfl ?_
      refine y_iload rfl rfl ?_
      refine y_iaload rfl (ySh.t hS rfl) (ySh.n hS rfl) (by omega) (by omega) ?_
      refine y_istore (ls' := [some _, some _, some _, some _, some _, some _, _, _]) rfl rfl rfl ?_
      refine y_iload rfl rfl ?_
      refine y_if_ge rfl j_X14_isWhole_252 (fun h_3 => ?_) (fun h_4 => ?_)
      · refine y_iinc (ls' := [some _, some _, some _, some _, some _, some _, _, _]) rfl rfl rfl rfl ?_
        refine y_goto rfl j_X14_isWhole_233 ?_
        refine y_fgt (ls := [some _, some _, some _, some _, some _, none, none, none]) ⟨rfl, rfl, rfl, rfl, rfl, trivial⟩ ?_
        exact ih _ _ (by assumption) (by first | omega | (rw [yinc (by omega)]; omega)) (by first | omega | (rw [yinc (by omega)]; omega)) (yAll_nx (by omega) i3 (by omega)) (by first | omega | (rw [yinc (by omega)]; omega))
      · refine y_iconst rfl ?_
        refine y_ireturn rfl rfl rfl ?_
        exact hQ0 (fun h => by have h_ := h x4.toInt.toNat (by omega); omega)
theorem s_isWhole9 (hS0 : ySh n tg R) (hR0 : yRI K nb tg I R) (hn : nb ≤ n) (hQ1 : mSnd I R → ∀ n1 tg1 I1 R1 c1 s1, yX n tg I R n1 tg1 I1 R1 → c1 ≤ c + 3 → s1 ≤ s + 12 → Q (.inl (some (.int (Int32.ofInt 1)))) (n1, tg1, I1, R1) c1 s1) (hQ0 : ¬ mSnd I R → ∀ n1 tg1 I1 R1 c1 s1, yX n tg I R n1 tg1 I1 R1 → c1 ≤ c + 3 → s1 ≤ s + 12 → Q (.inl (some (.int (Int32.ofInt 0)))) (n1, tg1, I1, R1) c1 s1) : yC 247 [.ref 83] (n, tg, I, R) c s Q := by
  have hX : yX n tg I R n tg I R := yX.rf
  have hS := hS0
  have hR := hR0
  have h94 : 94 ≤ n := hS0.1
  have hz : ySz I I := hX.sz h94
  have hxn := hX.1
  have hN := hR0.1
  have hnb : 94 ≤ nb := hR0.2.2.2.2.2.2
  refine y_in (M := xm_X14_isWhole) (ls := [some _, _, _, _, _, _, _, _]) rfl rfl rfl ?_
  refine y_iconst rfl ?_
  refine y_istore_n (ls' := [some _, some _, _, _, _, _, _, _]) rfl rfl rfl ?_
  refine y_aload_n rfl rfl ?_
  refine y_getR rfl (ySh.t hS rfl) (ySh.n hS rfl) rfl rfl (ySh.r hS rfl) ?_
  refine y_virt rfl rfl rfl rfl rfl (ySh.t hS rfl) (ySh.n hS rfl) ?_
  refine l_iter (nb := nb) (l := 89) hS (ySh.t hS rfl) (ySh.n hS rfl) (by omega) (Nat.le_trans hn hX.1) hR.l89.2.2.2.1 (fun n1 tg1 I1 R1 hnA hX1 hI_it1 => ?_)
  have hX := hX.trans hX1
  have hS := hS0.x hX
  have hR := hR0.x hn hX
  have hz := hX.sz h94
  have hxn := hX.1
  refine y_ret1 ?_
  refine y_astore_n (ls' := [some _, some _, some _, _, _, _, _, _]) rfl rfl rfl ?_
  refine e_h_whole1 hS0 hR0 hn (fun hn_ n1 tg1 I1 R1 hX2 => hQ0 (fun h => hn_ h.1) _ _ _ _ _ _ hX2 (by omega) (by omega)) (fun a3_1 n2 tg2 I2 R2 hX hc3_1 hi3 => ?_) 100000 0 _ _ _ _ _ _ hX (by omega) hI_it1 rfl (fun j hj => absurd hj (by omega)) (by omega)
  have hS := hS0.x hX
  have hR := hR0.x hn hX
  have hz := hX.sz h94
  have hxn := hX.1
  refine y_aload_n rfl rfl ?_
  refine y_getR rfl (ySh.t hS rfl) (ySh.n hS rfl) rfl rfl (ySh.r hS rfl) ?_
  refine y_virt rfl rfl rfl rfl rfl (ySh.t hS rfl) (ySh.n hS rfl) ?_
  refine l_iter (nb := nb) (l := 91) hS (ySh.t hS rfl) (ySh.n hS rfl) (by omega) (Nat.le_trans hn hX.1) hR.l91.2.2.2.1 (fun n4 tg4 I4 R4 hnA hX1 hI_it4 => ?_)
  have hX := hX.trans hX1
  have hS := hS0.x hX
  have hR := hR0.x hn hX
  have hz := hX.sz h94
  have hxn := hX.1
  refine y_ret1 ?_
  refine y_astore_n (ls' := [some _, some _, some _, _, _, _, _, _]) rfl rfl rfl ?_
  refine e_h_whole2 hS0 hR0 hn (fun hn_ n1 tg1 I1 R1 hX2 => hQ0 (fun h => hn_ h.2.1) _ _ _ _ _ _ hX2 (by omega) (by omega)) (fun  n5 tg5 I5 R5 hX hi6 => ?_) 100000 0 _  _ _ _ _ hX (by omega) hI_it4  (fun j hj => absurd hj (by omega)) (by omega)
  have hS := hS0.x hX
  have hR := hR0.x hn hX
  have hz := hX.sz h94
  have hxn := hX.1
  refine y_aload_n rfl rfl ?_
  refine y_getR rfl (ySh.t hS rfl) (ySh.n hS rfl) rfl rfl (ySh.r hS rfl) ?_
  refine y_virt rfl rfl rfl rfl rfl (ySh.t hS rfl) (ySh.n hS rfl) ?_
  refine l_iter (nb := nb) (l := 90) hS (ySh.t hS rfl) (ySh.n hS rfl) (by omega) (Nat.le_trans hn hX.1) hR.l90.2.2.2.1 (fun n7 tg7 I7 R7 hnA hX1 hI_it7 => ?_)
  have hX := hX.trans hX1
  have hS := hS0.x hX
  have hR := hR0.x hn hX
  have hz := hX.sz h94
  have hxn := hX.1
  refine y_ret1 ?_
  refine y_astore_n (ls' := [some _, some _, some _, _, _, _, _, _]) rfl rfl rfl ?_
  refine e_h_whole3 hS0 hR0 hn (fun hn_ n1 tg1 I1 R1 hX2 => hQ0 (fun h => hn_ h.2.2.1) _ _ _ _ _ _ hX2 (by omega) (by omega)) (fun  n8 tg8 I8 R8 hX hi9 => ?_) 100000 0 _  _ _ _ _ hX (by omega) hI_it7  (fun j hj => absurd hj (by omega)) (by omega)
  have hS := hS0.x hX
  have hR := hR0.x hn hX
  have hz := hX.sz h94
  have hxn := hX.1
  refine y_aload_n rfl rfl ?_
  refine y_getR rfl (ySh.t hS rfl) (ySh.n hS rfl) rfl rfl (ySh.r hS rfl) ?_
  refine y_astore_n (ls' := [some _, some _, some _, _, _, _, _, _]) rfl rfl rfl ?_
  refine y_aload_n rfl rfl ?_
  refine y_alenI (v := 8) rfl (ySh.t hS rfl) rfl (ySh.n hS rfl) (by decide) ?_
  refine y_istore_n (ls' := [some _, some _, some _, some _, _, _, _, _]) rfl rfl rfl ?_
  refine y_iconst rfl ?_
  refine y_istore (ls' := [some _, some _, some _, some _, some _, _, _, _]) rfl rfl rfl ?_
  refine lp_h_whole4 hS hR (Nat.le_trans hn hX.1) (fun hd_ => ?_) (fun hn_ => hQ0 (fun h => hn_ (fun p hp => by rw [(hX.2.1 85 (by omega)).2.1]; exact h.2.2.2.1 p hp)) _ _ _ _ _ _ hX (by omega) (by omega)) 100000 _ _ (by decide) (by decide) (by decide) (fun p hp => absurd hp (by rw [yz_0]; omega)) (by decide)
  have hd_ : mSd I := fun p hp => by have h_ := hd_ p hp; rw [(hX.2.1 85 (by omega)).2.1] at h_; exact h_
  refine y_aload_n rfl rfl ?_
  refine y_getIv (v := I 83 3) rfl (ySh.t hS rfl) (ySh.n hS rfl) rfl rfl (congrFun (hX.2.1 83 (by omega)).2.1 3) ?_
  refine y_if_lt rfl j_X14_isWhole_277 (fun h_10 => ?_) (fun h_11 => ?_)
  · refine y_iconst rfl ?_
    refine y_ireturn rfl rfl rfl ?_
    exact hQ0 (fun h => by first | (have h_ := h.2.2.2.2.1; omega) | (have h_ := h.2.2.2.2.2; unfold mFl at h_; rw [← hc3_1] at h_; omega)) _ _ _ _ _ _ hX (by omega) (by omega)
  · refine y_iload_n rfl rfl ?_
    refine y_aload_n rfl rfl ?_
    refine y_getIv (v := I 83 2) rfl (ySh.t hS rfl) (ySh.n hS rfl) rfl rfl (congrFun (hX.2.1 83 (by omega)).2.1 2) ?_
    refine y_icmp_gt rfl j_X14_isWhole_277 (fun h_12 => ?_) (fun h_13 => ?_)
    · refine y_iconst rfl ?_
      refine y_ireturn rfl rfl rfl ?_
      exact hQ0 (fun h => by first | (have h_ := h.2.2.2.2.1; omega) | (have h_ := h.2.2.2.2.2; unfold mFl at h_; rw [← hc3_1] at h_; omega)) _ _ _ _ _ _ hX (by omega) (by omega)
    · refine y_iconst rfl ?_
      refine y_goto rfl j_X14_isWhole_278 ?_
      refine y_ireturn rfl rfl rfl ?_
      exact hQ1 ⟨hi3, hi6, hi9, hd_, by omega, by show (yFz (fun j => I (yAd R 89 j) 8) (I 89 2).toInt.toNat).toInt ≤ _; rw [← hc3_1]; omega⟩ _ _ _ _ _ _ hX (by omega) (by omega)
/-! the same told of a world in which thrown alone has changed -/
theorem mPd.rf {K n : Nat} {tg : Nat → yT} {I I' : Nat → Nat → Int32} {R R' : Nat → Nat → Value} (h : mPd I R) (hR : yRI K n tg I R) (hr : yRf n I R I' R') : mPd I' R' := fun j hj => by
  rw [hr.lo hR.2.2.2.2.2.2 (by decide) (by decide)] at hj
  obtain ⟨e1, e2⟩ := hr.row hR (l := 89) (by decide) (by decide) hj
  rw [e1, e2]; exact h j hj
section YCG9
variable {K n : Nat} {tg : Nat → yT} {I I' : Nat → Nat → Int32} {R R' : Nat → Nat → Value} {p : Int}
theorem mOw_cg (hr : yRf n I R I' R') (hR : yRI K n tg I R) : mOw I' R' p = mOw I R p := by
  unfold mOw
  rw [hr.lo hR.2.2.2.2.2.2 (a := 88) (by decide) (by decide)]
  exact yFz_cg fun j hj => by
    obtain ⟨e1, e2⟩ := hr.row hR (l := 88) (j := j) (by decide) (by decide) (by omega)
    rw [e1, e2]
theorem mPl_cg (hr : yRf n I R I' R') (hR : yRI K n tg I R) : mPl I' R' p = mPl I R p := by
  unfold mPl
  rw [hr.lo hR.2.2.2.2.2.2 (a := 89) (by decide) (by decide)]
  exact yFz_cg fun j hj => by
    obtain ⟨e1, e2⟩ := hr.row hR (l := 89) (j := j) (by decide) (by decide) (by omega)
    rw [e1, e2]
theorem mDb_cg (hr : yRf n I R I' R') (hR : yRI K n tg I R) : mDb I' R' p = mDb I R p := by
  unfold mDb
  rw [hr.lo hR.2.2.2.2.2.2 (a := 89) (by decide) (by decide)]
  exact yFz_cg fun j hj => by
    obtain ⟨e1, e2⟩ := hr.row hR (l := 89) (j := j) (by decide) (by decide) (by omega)
    rw [e1, e2]
theorem mOl_cg (hr : yRf n I R I' R') (hR : yRI K n tg I R) : mOl I' R' p = mOl I R p := by
  unfold mOl
  rw [hr.lo hR.2.2.2.2.2.2 (a := 90) (by decide) (by decide)]
  exact yFz_cg fun j hj => by
    obtain ⟨e1, e2⟩ := hr.row hR (l := 90) (j := j) (by decide) (by decide) (by omega)
    rw [e1, e2]
theorem mCe_cg (hr : yRf n I R I' R') (hR : yRI K n tg I R) {q : Nat} : mCe I' R' q = mCe I R q := by
  unfold mCe
  rw [hr.lo hR.2.2.2.2.2.2 (a := 91) (by decide) (by decide)]
  exact yFz_cg fun j hj => by
    obtain ⟨e1, -⟩ := hr.row hR (l := 91) (j := j) (by decide) (by decide) (by omega)
    obtain ⟨-, q0, q1, q2⟩ := hR.l91.2.2.2.2 j (by omega)
    have w := (hR.ven q0 q1 q2 (j := 1) (by decide)).2.1
    rw [e1, hr.1 (yAd R 91 j + 1 + 1) w (by omega)]
theorem mVd_cg (hr : yRf n I R I' R') (hR : yRI K n tg I R) : mVd I' R' = mVd I R := by
  unfold mVd
  rw [hr.lo hR.2.2.2.2.2.2 (a := 89) (by decide) (by decide)]
  exact yFz_cg fun j hj => by
    obtain ⟨e1, e2⟩ := hr.row hR (l := 89) (j := j) (by decide) (by decide) (by omega)
    rw [e1, e2]
theorem mDn_cg (hr : yRf n I R I' R') (hR : yRI K n tg I R) : mDn I' R' = mDn I R := by
  unfold mDn
  rw [hr.lo hR.2.2.2.2.2.2 (a := 89) (by decide) (by decide)]
  exact yFz_cg fun j hj => by
    obtain ⟨e1, e2⟩ := hr.row hR (l := 89) (j := j) (by decide) (by decide) (by omega)
    rw [e1, e2]
theorem mLo_cg (hr : yRf n I R I' R') (hR : yRI K n tg I R) : mLo I' R' = mLo I R := by
  unfold mLo
  rw [hr.lo hR.2.2.2.2.2.2 (a := 90) (by decide) (by decide)]
  exact yFz_cg fun j hj => by
    obtain ⟨e1, e2⟩ := hr.row hR (l := 90) (j := j) (by decide) (by decide) (by omega)
    rw [e1, e2]
theorem mOPv_cg (hr : yRf n I R I' R') (hR : yRI K n tg I R) {x : Int32} {w : Int} : mOPv I' R' x w = mOPv I R x w := by
  have h94 := hR.2.2.2.2.2.2
  unfold mOPv
  rw [mOw_cg hr hR, mPl_cg hr hR, mDb_cg hr hR, mOl_cg hr hR, mCe_cg hr hR, hr.lo h94 (a := 84) (by decide) (by decide), hr.lo h94 (a := 85) (by decide) (by decide), hr.lo h94 (a := 86) (by decide) (by decide)]
theorem mHo_cg (hr : yRf n I R I' R') (hR : yRI K n tg I R) {w : Int} : mHo I' R' w = mHo I R w := by
  have h94 := hR.2.2.2.2.2.2
  have e : ∀ k, k ≠ 0 → I' 83 k = I 83 k := hr.2.1
  unfold mHo
  rw [mOw_cg hr hR, mVd_cg hr hR, mDn_cg hr hR, mLo_cg hr hR, hr.lo h94 (a := 84) (by decide) (by decide), hr.lo h94 (a := 85) (by decide) (by decide), hr.lo h94 (a := 89) (by decide) (by decide), hr.lo h94 (a := 91) (by decide) (by decide), e 1 (by decide), e 2 (by decide), e 3 (by decide), e 4 (by decide), e 5 (by decide), e 6 (by decide), e 7 (by decide), e 8 (by decide)]
theorem mSnd_cg (hr : yRf n I R I' R') (hR : yRI K n tg I R) : mSnd I' R' ↔ mSnd I R := by
  have h94 := hR.2.2.2.2.2.2
  have e85 := hr.lo h94 (a := 85) (by decide) (by decide)
  have e89 := hr.lo h94 (a := 89) (by decide) (by decide)
  have e90 := hr.lo h94 (a := 90) (by decide) (by decide)
  have e91 := hr.lo h94 (a := 91) (by decide) (by decide)
  have hf : mFl I' R' = mFl I R := by
    unfold mFl
    rw [e89]
    exact yFz_cg fun j hj => by
      obtain ⟨e1, e2⟩ := hr.row hR (l := 89) (j := j) (by decide) (by decide) (by omega)
      rw [e1, e2]
  have h1 : ∀ j : Nat, (j : Int) < (I 89 2).toInt → ((I' (yAd R' 89 j) 5).toInt = 0 ∨ (I' (yAd R' 89 j) 7).toInt ≤ 0 ↔ (I (yAd R 89 j) 5).toInt = 0 ∨ (I (yAd R 89 j) 7).toInt ≤ 0) := fun j hj => by
    obtain ⟨e1, e2⟩ := hr.row hR (l := 89) (j := j) (by decide) (by decide) hj
    rw [e1, e2]
  have h2 : ∀ j : Nat, (j : Int) < (I 91 2).toInt → (mSw I' R' j ↔ mSw I R j) := fun j hj => by
    obtain ⟨e1, -⟩ := hr.row hR (l := 91) (j := j) (by decide) (by decide) hj
    obtain ⟨-, q0, q1, q2⟩ := hR.l91.2.2.2.2 j hj
    have w := fun {f : Nat} (hf : f < 4) => hr.1 (yAd R 91 j + 1 + f) (hR.ven q0 q1 q2 (j := f) hf).2.1 (by omega)
    unfold mSw
    rw [e1, w (f := 1) (by decide), w (f := 2) (by decide)]
  have h3 : ∀ j : Nat, (j : Int) < (I 90 2).toInt → (mSq I' R' j ↔ mSq I R j) := fun j hj => by
    obtain ⟨e1, e2⟩ := hr.row hR (l := 90) (j := j) (by decide) (by decide) hj
    obtain ⟨-, q0, q1, q2⟩ := hR.l90.2.2.2.2 j hj
    have hl := (hR.lea q0 q1 q2).1
    obtain ⟨e3, e4⟩ := hr.row hR (l := 88) (j := (I (yAd R 90 j) 0).toInt.toNat) (by decide) (by decide) (by omega)
    unfold mSq
    rw [e1, e2, e3, e4]
  unfold mSnd mSs mSv mSl mSd
  rw [e85, e89, e90, e91, hf, hr.2.1 3 (by decide), hr.2.1 2 (by decide)]
  constructor
  · rintro ⟨a1, a2, a3, a4⟩
    exact ⟨fun j hj => (h1 j hj).1 (a1 j hj), fun j hj => (h2 j hj).1 (a2 j hj), fun j hj => (h3 j hj).1 (a3 j hj), a4⟩
  · rintro ⟨a1, a2, a3, a4⟩
    exact ⟨fun j hj => (h1 j hj).2 (a1 j hj), fun j hj => (h2 j hj).2 (a2 j hj), fun j hj => (h3 j hj).2 (a3 j hj), a4⟩
end YCG9
theorem h_ofPerson (hS0 : ySh n tg R) (hR0 : yRI K n tg I R) (hk6 : K < 600) {x1 x2 : Int32} (hTs : mPd I R) (hQ1 : ¬ (0 ≤ x1.toInt ∧ x1.toInt < (I 83 8).toInt) → ∀ (v : Int32) n1 tg1 I1 R1 c1 s1, ySh n1 tg1 R1 → yRI (K + 1) n1 tg1 I1 R1 → yKp n tg I R n1 tg1 I1 R1 → I1 83 0 = Int32.ofInt 1 → yRf n I R I1 R1 → c1 ≤ c + 5 → s1 ≤ s + 24 → Q (.inl (some (.int v))) (n1, tg1, I1, R1) c1 s1) (hQ2 : (0 ≤ x1.toInt ∧ x1.toInt < (I 83 8).toInt) ∧ ¬ (0 ≤ x2.toInt ∧ x2.toInt ≤ 7) → ∀ (v : Int32) n1 tg1 I1 R1 c1 s1, ySh n1 tg1 R1 → yRI (K + 1) n1 tg1 I1 R1 → yKp n tg I R n1 tg1 I1 R1 → I1 83 0 = Int32.ofInt 2 → yRf n I R I1 R1 → c1 ≤ c + 5 → s1 ≤ s + 24 → Q (.inl (some (.int v))) (n1, tg1, I1, R1) c1 s1) (hQ0 : (0 ≤ x1.toInt ∧ x1.toInt < (I 83 8).toInt) ∧ (0 ≤ x2.toInt ∧ x2.toInt ≤ 7) → ∀ (v : Int32) n1 tg1 I1 R1 c1 s1, ySh n1 tg1 R1 → yRI (K + 1) n1 tg1 I1 R1 → yKp n tg I R n1 tg1 I1 R1 → I1 83 0 = Int32.ofInt 0 → v = mOPv I R x1 x2.toInt → yRf n I R I1 R1 → c1 ≤ c + 5 → s1 ≤ s + 24 → Q (.inl (some (.int v))) (n1, tg1, I1, R1) c1 s1) : yC 228 [.ref 83, .int x1, .int x2] (n, tg, I, R) c s Q := by
  have hno := Nat.le_refl n
  have hn := hno
  have hRo := hR0
  have hK : yKp n tg I R n tg I R := yKp.rf
  have hX : yX n tg I R n tg I R := yX.rf
  have hS := hS0
  have hR := hR0
  have h94 : 94 ≤ n := hS0.1
  have hz : ySz I I := hX.sz h94
  have hxn := hX.1
  have hN := hR0.1
  have hnb : 94 ≤ n := hR0.2.2.2.2.2.2
  have hg : yGm n I I := yGm.rf
  have hday : I 83 1 = I 83 1 := rfl
  have hb83 : ∀ a, a ≠ 83 → a < n → I a = I a := fun _ _ _ => rfl
  have hRb : ∀ a, a < n → R a = R a := fun _ _ => rfl
  have hB : yX n tg I R n tg I R := yX.rf
  have h8 : ∀ a, 84 ≤ a → a ≤ 86 → I a = I a := fun _ _ _ => rfl
  have h3k : ∀ k, k ≠ 0 → I 83 k = I 83 k := fun _ _ => rfl
  refine y_in (M := xm_X14_ofPerson) (ls := [some _, some _, some _]) rfl rfl rfl ?_
  refine y_aload_n rfl rfl ?_
  refine y_aload_n rfl rfl ?_
  refine y_iload_n rfl rfl ?_
  refine y_virt rfl rfl rfl rfl rfl (ySh.t hS rfl) (ySh.n hS rfl) ?_
  refine y_in (M := xm_X14_isNobody) (ls := [some _, some _]) rfl rfl rfl ?_
  refine y_iload_n rfl rfl ?_
  refine y_iconst rfl ?_
  refine y_aload_n rfl rfl ?_
  refine y_getIv (v := I 83 8) rfl (ySh.t hS rfl) (ySh.n hS rfl) rfl rfl ((congrFun ((hB.trans hX).n (by omega : 83 < n)) 8).trans (by repeat (first | rfl | rw [upd2_ne (by first | exact .inl (by omega) | exact .inr (by decide))]))) ?_
  refine y_iconst rfl ?_
  refine y_isub rfl ?_
  refine y_static rfl rfl rfl rfl rfl ?_
  refine r_isIn (fun h_1 h_2 => ?_) (fun h_3 => ?_)
  · rw [yz_0] at h_1
    try rw [ysub (by rw [yz_1]; omega) (by rw [yz_1]; omega), yz_1] at h_2
    refine y_ret1 ?_
    refine y_if_neT rfl j_X14_isNobody_18 (by decide) ?_
    refine y_iconst rfl ?_
    refine y_ireturn rfl rfl rfl ?_
    refine y_ret1 ?_
    refine y_iconst rfl ?_
    refine y_virt rfl rfl rfl rfl rfl (ySh.t hS rfl) (ySh.n hS rfl) ?_
    refine y_in (M := xm_X14_start) (ls := [some _, some _, some _]) rfl rfl rfl ?_
    refine y_aload_n rfl rfl ?_
    refine y_iconst rfl ?_
    refine y_putI rfl (ySh.t hS rfl) (ySh.n hS rfl) rfl (Nat.le_of_ble_eq_true rfl) rfl rfl ?_
    refine y_nameI (fun I4 e4 => ?_)
    have hR1 := (hR0.grow hX).mod0 e4 (by decide) (by decide)
    have hK := (hK.x hRo hno hX).upI (upI e4) (by decide) (by decide) (fun i hi => by have := (hRo.l87.2.2.2.2 i hi).2.1; omega) (by rw [e4, upd2_ne (.inr (by decide))]; exact Int.le_refl _)
    have hth : I4 83 0 = Int32.ofInt (0) := by rw [e4, upd2_self]
    have hzz : ySz8 I I4 := ySz8_of (upI e4) (by rw [e4]; exact ⟨upd2_ne (.inr (by decide)), upd2_ne (.inr (by decide))⟩)
    have hB := (hB.trans hX).wr e4 rfl
    have h8 : ∀ a, 84 ≤ a → a ≤ 86 → I4 a = I a := fun a h1 h2 => (upI e4 a (by omega)).trans ((hX.2.1 a (by omega)).2.1.trans (h8 a h1 h2))
    have h3k : ∀ k, k ≠ 0 → I4 83 k = I 83 k := fun k hk => (congrFun (congrFun e4 83) k).trans ((upd2_ne (.inr hk)).trans ((congrFun (hX.2.1 83 (by omega)).2.1 k).trans (h3k k hk)))
    have hg := (hg.gx hX (by omega)).skip e4 (by decide)
    have hday : I4 83 1 = I 83 1 := (congrFun (congrFun e4 83) 1).trans ((upd2_ne (.inr (by decide))).trans ((congrFun (hX.2.1 83 (by omega)).2.1 1).trans hday))
    have hRb : ∀ a, a < n → R a = R a := fun a ha => (hX.2.1 a (by omega)).2.2.trans (hRb a ha)
    have hb83 : ∀ a, a ≠ 83 → a < n → I4 a = I a := fun a ha hb => (upI e4 a ha).trans ((hX.2.1 a (by omega)).2.1.trans (hb83 a ha hb))
    have hS0 := hS
    have hR0 := hR1
    have hn := Nat.le_refl n
    have h94 := hS0.1
    have hX := @yX.rf n tg I4 R
    have hS := hS0.x hX
    have hR := hR0.x hn hX
    have hz := hX.sz h94
    have hxn := hX.1
    have hN := hR0.1
    have hnb := hR0.2.2.2.2.2.2
    have hthB := hth
    refine y_aload_n rfl rfl ?_
    refine y_iload_n rfl rfl ?_
    refine y_iload_n rfl rfl ?_
    refine y_virt rfl rfl rfl rfl rfl (ySh.t hS rfl) (ySh.n hS rfl) ?_
    refine y_in (M := xm_X14_refuse) (ls := [some _, some _, some _]) rfl rfl rfl ?_
    refine y_iload_n rfl rfl ?_
    refine y_if_eqT rfl j_X14_refuse_16 (by decide) ?_
    refine y_aload_n rfl rfl ?_
    refine y_getIv (v := Int32.ofInt (0)) rfl (ySh.t hS rfl) (ySh.n hS rfl) rfl rfl hth ?_
    refine y_if_leT rfl j_X14_refuse_27 (by decide) ?_
    refine y_iconst rfl ?_
    refine y_ireturn rfl rfl rfl ?_
    refine y_ret1 ?_
    refine y_ireturn rfl rfl rfl ?_
    refine y_ret1 ?_
    refine y_if_neF rfl (by decide) ?_
    refine y_aload_n rfl rfl ?_
    refine y_iload_n rfl rfl ?_
    refine y_iconst rfl ?_
    refine y_bip rfl (by decide) ?_
    refine y_static rfl rfl rfl rfl rfl ?_
    refine r_isIn (fun h_5 h_6 => ?_) (fun h_7 => ?_)
    · rw [yz_0] at h_5
      rw [yz_7] at h_6
      refine y_ret1 ?_
      refine y_if_neT rfl j_X14_ofPerson_28 (by decide) ?_
      refine y_iconst rfl ?_
      refine y_iconst rfl ?_
      refine y_virt rfl rfl rfl rfl rfl (ySh.t hS rfl) (ySh.n hS rfl) ?_
      refine y_in (M := xm_X14_refuse) (ls := [some _, some _, some _]) rfl rfl rfl ?_
      refine y_iload_n rfl rfl ?_
      refine y_if_eqT rfl j_X14_refuse_16 (by decide) ?_
      refine y_aload_n rfl rfl ?_
      refine y_getIv (v := Int32.ofInt (0)) rfl (ySh.t hS rfl) (ySh.n hS rfl) rfl rfl hth ?_
      refine y_if_leT rfl j_X14_refuse_27 (by decide) ?_
      refine y_iconst rfl ?_
      refine y_ireturn rfl rfl rfl ?_
      refine y_ret1 ?_
      refine y_if_eqT rfl j_X14_ofPerson_40 (by decide) ?_
      refine y_aload_n rfl rfl ?_
      refine y_iload_n rfl rfl ?_
      refine y_iload_n rfl rfl ?_
      refine y_virt rfl rfl rfl rfl rfl (ySh.t hS rfl) (ySh.n hS rfl) ?_
      have hrf_8 := (hB.trans hX).rf1 (by omega : 83 < n)
      refine s_personTold9 hS hR (Nat.le_trans hn hX.1) (by omega) (by omega) (by omega) (by omega) (hTs.rf hRo hrf_8) (fun v_9 n9 tg9 I9 R9 c_9 s_9 hv_9 hX1 hc_9 hs_9 => ?_)
      rw [mOPv_cg hrf_8 hRo] at hv_9
      have hnA := hX1.1
      have hX := hX.trans hX1
      have hS := hS0.x hX
      have hR := hR0.x hn hX
      have hz := hX.sz h94
      have hxn := hX.1
      have hth := (congrFun (hX1.2.1 83 (by omega)).2.1 0).trans hth
      refine y_ret1 ?_
      refine y_ireturn rfl rfl rfl ?_
      exact hQ0 (by omega) _ _ _ _ _ _ _ hS ((hR0.grow hX).up (Nat.le_succ K) hk6) (hK.x hRo hno hX) hth hv_9 ((hB.trans hX).rf1 (by omega)) (by omega) (by omega)
    · rw [yz_0] at h_7
      rw [yz_7] at h_7
      refine y_ret1 ?_
      refine y_if_neF rfl (by decide) ?_
      refine y_iconst rfl ?_
      refine y_goto rfl j_X14_ofPerson_29 ?_
      refine y_iconst rfl ?_
      refine y_virt rfl rfl rfl rfl rfl (ySh.t hS rfl) (ySh.n hS rfl) ?_
      refine y_in (M := xm_X14_refuse) (ls := [some _, some _, some _]) rfl rfl rfl ?_
      refine y_iload_n rfl rfl ?_
      refine y_if_eqF rfl (by decide) ?_
      refine y_aload_n rfl rfl ?_
      refine y_getIv (v := Int32.ofInt (0)) rfl (ySh.t hS rfl) (ySh.n hS rfl) rfl rfl hth ?_
      refine y_if_neF rfl (by decide) ?_
      refine y_aload_n rfl rfl ?_
      refine y_iload_n rfl rfl ?_
      refine y_putI rfl (ySh.t hS rfl) (ySh.n hS rfl) rfl (Nat.le_of_ble_eq_true rfl) rfl rfl ?_
      refine y_nameI (fun I10 e10 => ?_)
      have hR1 := (hR0.grow hX).mod0 e10 (by decide) (by decide)
      have hK := (hK.x hRo hno hX).upI (upI e10) (by decide) (by decide) (fun i hi => by have := (hRo.l87.2.2.2.2 i hi).2.1; omega) (by rw [e10, upd2_ne (.inr (by decide))]; exact Int.le_refl _)
      have hth : I10 83 0 = Int32.ofInt (2) := by rw [e10, upd2_self]
      have hzz : ySz8 I4 I10 := ySz8_of (upI e10) (by rw [e10]; exact ⟨upd2_ne (.inr (by decide)), upd2_ne (.inr (by decide))⟩)
      have hB := (hB.trans hX).wr e10 rfl
      have h8 : ∀ a, 84 ≤ a → a ≤ 86 → I10 a = I a := fun a h1 h2 => (upI e10 a (by omega)).trans ((hX.2.1 a (by omega)).2.1.trans (h8 a h1 h2))
      have h3k : ∀ k, k ≠ 0 → I10 83 k = I 83 k := fun k hk => (congrFun (congrFun e10 83) k).trans ((upd2_ne (.inr hk)).trans ((congrFun (hX.2.1 83 (by omega)).2.1 k).trans (h3k k hk)))
      have hg := (hg.gx hX (by omega)).skip e10 (by decide)
      have hday : I10 83 1 = I 83 1 := (congrFun (congrFun e10 83) 1).trans ((upd2_ne (.inr (by decide))).trans ((congrFun (hX.2.1 83 (by omega)).2.1 1).trans hday))
      have hRb : ∀ a, a < n → R a = R a := fun a ha => (hX.2.1 a (by omega)).2.2.trans (hRb a ha)
      have hb83 : ∀ a, a ≠ 83 → a < n → I10 a = I a := fun a ha hb => (upI e10 a ha).trans ((hX.2.1 a (by omega)).2.1.trans (hb83 a ha hb))
      have hS0 := hS
      have hR0 := hR1
      have hn := Nat.le_refl n
      have h94 := hS0.1
      have hX := @yX.rf n tg I10 R
      have hS := hS0.x hX
      have hR := hR0.x hn hX
      have hz := hX.sz h94
      have hxn := hX.1
      have hN := hR0.1
      have hnb := hR0.2.2.2.2.2.2
      have hthB := hth
      refine y_aload_n rfl rfl ?_
      refine y_getIv (v := Int32.ofInt (2)) rfl (ySh.t hS rfl) (ySh.n hS rfl) rfl rfl hth ?_
      refine y_if_leF rfl (by decide) ?_
      refine y_iconst rfl ?_
      refine y_goto rfl j_X14_refuse_28 ?_
      refine y_ireturn rfl rfl rfl ?_
      refine y_ret1 ?_
      refine y_if_eqF rfl (by decide) ?_
      refine y_iconst rfl ?_
      refine y_goto rfl j_X14_ofPerson_46 ?_
      refine y_ireturn rfl rfl rfl ?_
      exact hQ2 (by omega) _ _ _ _ _ _ _ hS ((hR0.grow hX).up (Nat.le_succ K) hk6) (hK.x hRo hno hX) hth ((hB.trans hX).rf2 (by omega)) (by omega) (by omega)
  · rw [yz_0] at h_3
    try rw [ysub (by rw [yz_1]; omega) (by rw [yz_1]; omega), yz_1] at h_3
    refine y_ret1 ?_
    refine y_if_neF rfl (by decide) ?_
    refine y_iconst rfl ?_
    refine y_goto rfl j_X14_isNobody_19 ?_
    refine y_ireturn rfl rfl rfl ?_
    refine y_ret1 ?_
    refine y_iconst rfl ?_
    refine y_virt rfl rfl rfl rfl rfl (ySh.t hS rfl) (ySh.n hS rfl) ?_
    refine y_in (M := xm_X14_start) (ls := [some _, some _, some _]) rfl rfl rfl ?_
    refine y_aload_n rfl rfl ?_
    refine y_iconst rfl ?_
    refine y_putI rfl (ySh.t hS rfl) (ySh.n hS rfl) rfl (Nat.le_of_ble_eq_true rfl) rfl rfl ?_
    refine y_nameI (fun I11 e11 => ?_)
    have hR1 := (hR0.grow hX).mod0 e11 (by decide) (by decide)
    have hK := (hK.x hRo hno hX).upI (upI e11) (by decide) (by decide) (fun i hi => by have := (hRo.l87.2.2.2.2 i hi).2.1; omega) (by rw [e11, upd2_ne (.inr (by decide))]; exact Int.le_refl _)
    have hth : I11 83 0 = Int32.ofInt (0) := by rw [e11, upd2_self]
    have hzz : ySz8 I I11 := ySz8_of (upI e11) (by rw [e11]; exact ⟨upd2_ne (.inr (by decide)), upd2_ne (.inr (by decide))⟩)
    have hB := (hB.trans hX).wr e11 rfl
    have h8 : ∀ a, 84 ≤ a → a ≤ 86 → I11 a = I a := fun a h1 h2 => (upI e11 a (by omega)).trans ((hX.2.1 a (by omega)).2.1.trans (h8 a h1 h2))
    have h3k : ∀ k, k ≠ 0 → I11 83 k = I 83 k := fun k hk => (congrFun (congrFun e11 83) k).trans ((upd2_ne (.inr hk)).trans ((congrFun (hX.2.1 83 (by omega)).2.1 k).trans (h3k k hk)))
    have hg := (hg.gx hX (by omega)).skip e11 (by decide)
    have hday : I11 83 1 = I 83 1 := (congrFun (congrFun e11 83) 1).trans ((upd2_ne (.inr (by decide))).trans ((congrFun (hX.2.1 83 (by omega)).2.1 1).trans hday))
    have hRb : ∀ a, a < n → R a = R a := fun a ha => (hX.2.1 a (by omega)).2.2.trans (hRb a ha)
    have hb83 : ∀ a, a ≠ 83 → a < n → I11 a = I a := fun a ha hb => (upI e11 a ha).trans ((hX.2.1 a (by omega)).2.1.trans (hb83 a ha hb))
    have hS0 := hS
    have hR0 := hR1
    have hn := Nat.le_refl n
    have h94 := hS0.1
    have hX := @yX.rf n tg I11 R
    have hS := hS0.x hX
    have hR := hR0.x hn hX
    have hz := hX.sz h94
    have hxn := hX.1
    have hN := hR0.1
    have hnb := hR0.2.2.2.2.2.2
    have hthB := hth
    refine y_aload_n rfl rfl ?_
    refine y_iload_n rfl rfl ?_
    refine y_iload_n rfl rfl ?_
    refine y_virt rfl rfl rfl rfl rfl (ySh.t hS rfl) (ySh.n hS rfl) ?_
    refine y_in (M := xm_X14_refuse) (ls := [some _, some _, some _]) rfl rfl rfl ?_
    refine y_iload_n rfl rfl ?_
    refine y_if_eqF rfl (by decide) ?_
    refine y_aload_n rfl rfl ?_
    refine y_getIv (v := Int32.ofInt (0)) rfl (ySh.t hS rfl) (ySh.n hS rfl) rfl rfl hth ?_
    refine y_if_neF rfl (by decide) ?_
    refine y_aload_n rfl rfl ?_
    refine y_iload_n rfl rfl ?_
    refine y_putI rfl (ySh.t hS rfl) (ySh.n hS rfl) rfl (Nat.le_of_ble_eq_true rfl) rfl rfl ?_
    refine y_nameI (fun I12 e12 => ?_)
    have hR1 := (hR0.grow hX).mod0 e12 (by decide) (by decide)
    have hK := (hK.x hRo hno hX).upI (upI e12) (by decide) (by decide) (fun i hi => by have := (hRo.l87.2.2.2.2 i hi).2.1; omega) (by rw [e12, upd2_ne (.inr (by decide))]; exact Int.le_refl _)
    have hth : I12 83 0 = Int32.ofInt (1) := by rw [e12, upd2_self]
    have hzz : ySz8 I11 I12 := ySz8_of (upI e12) (by rw [e12]; exact ⟨upd2_ne (.inr (by decide)), upd2_ne (.inr (by decide))⟩)
    have hB := (hB.trans hX).wr e12 rfl
    have h8 : ∀ a, 84 ≤ a → a ≤ 86 → I12 a = I a := fun a h1 h2 => (upI e12 a (by omega)).trans ((hX.2.1 a (by omega)).2.1.trans (h8 a h1 h2))
    have h3k : ∀ k, k ≠ 0 → I12 83 k = I 83 k := fun k hk => (congrFun (congrFun e12 83) k).trans ((upd2_ne (.inr hk)).trans ((congrFun (hX.2.1 83 (by omega)).2.1 k).trans (h3k k hk)))
    have hg := (hg.gx hX (by omega)).skip e12 (by decide)
    have hday : I12 83 1 = I 83 1 := (congrFun (congrFun e12 83) 1).trans ((upd2_ne (.inr (by decide))).trans ((congrFun (hX.2.1 83 (by omega)).2.1 1).trans hday))
    have hRb : ∀ a, a < n → R a = R a := fun a ha => (hX.2.1 a (by omega)).2.2.trans (hRb a ha)
    have hb83 : ∀ a, a ≠ 83 → a < n → I12 a = I a := fun a ha hb => (upI e12 a ha).trans ((hX.2.1 a (by omega)).2.1.trans (hb83 a ha hb))
    have hS0 := hS
    have hR0 := hR1
    have hn := Nat.le_refl n
    have h94 := hS0.1
    have hX := @yX.rf n tg I12 R
    have hS := hS0.x hX
    have hR := hR0.x hn hX
    have hz := hX.sz h94
    have hxn := hX.1
    have hN := hR0.1
    have hnb := hR0.2.2.2.2.2.2
    have hthB := hth
    refine y_aload_n rfl rfl ?_
    refine y_getIv (v := Int32.ofInt (1)) rfl (ySh.t hS rfl) (ySh.n hS rfl) rfl rfl hth ?_
    refine y_if_leF rfl (by decide) ?_
    refine y_iconst rfl ?_
    refine y_goto rfl j_X14_refuse_28 ?_
    refine y_ireturn rfl rfl rfl ?_
    refine y_ret1 ?_
    refine y_ireturn rfl rfl rfl ?_
    refine y_ret1 ?_
    refine y_if_neT rfl j_X14_ofPerson_36 (by decide) ?_
    refine y_iconst rfl ?_
    refine y_goto rfl j_X14_ofPerson_46 ?_
    refine y_ireturn rfl rfl rfl ?_
    exact hQ1 (by omega) _ _ _ _ _ _ _ hS ((hR0.grow hX).up (Nat.le_succ K) hk6) (hK.x hRo hno hX) hth ((hB.trans hX).rf2 (by omega)) (by omega) (by omega)
theorem h_house (hS0 : ySh n tg R) (hR0 : yRI K n tg I R) (hk6 : K < 600) {x1 : Int32} (hQ1 : ¬ (0 ≤ x1.toInt ∧ x1.toInt ≤ 15) → ∀ (v : Int32) n1 tg1 I1 R1 c1 s1, ySh n1 tg1 R1 → yRI (K + 1) n1 tg1 I1 R1 → yKp n tg I R n1 tg1 I1 R1 → I1 83 0 = Int32.ofInt 1 → yRf n I R I1 R1 → c1 ≤ c + 4 → s1 ≤ s + 28 → Q (.inl (some (.int v))) (n1, tg1, I1, R1) c1 s1) (hQ0 : (0 ≤ x1.toInt ∧ x1.toInt ≤ 15) → ∀ (v : Int32) n1 tg1 I1 R1 c1 s1, ySh n1 tg1 R1 → yRI (K + 1) n1 tg1 I1 R1 → yKp n tg I R n1 tg1 I1 R1 → I1 83 0 = Int32.ofInt 0 → v = mHo I R x1.toInt → yRf n I R I1 R1 → c1 ≤ c + 4 → s1 ≤ s + 28 → Q (.inl (some (.int v))) (n1, tg1, I1, R1) c1 s1) : yC 241 [.ref 83, .int x1] (n, tg, I, R) c s Q := by
  have hno := Nat.le_refl n
  have hn := hno
  have hRo := hR0
  have hK : yKp n tg I R n tg I R := yKp.rf
  have hX : yX n tg I R n tg I R := yX.rf
  have hS := hS0
  have hR := hR0
  have h94 : 94 ≤ n := hS0.1
  have hz : ySz I I := hX.sz h94
  have hxn := hX.1
  have hN := hR0.1
  have hnb : 94 ≤ n := hR0.2.2.2.2.2.2
  have hg : yGm n I I := yGm.rf
  have hday : I 83 1 = I 83 1 := rfl
  have hb83 : ∀ a, a ≠ 83 → a < n → I a = I a := fun _ _ _ => rfl
  have hRb : ∀ a, a < n → R a = R a := fun _ _ => rfl
  have hB : yX n tg I R n tg I R := yX.rf
  have h8 : ∀ a, 84 ≤ a → a ≤ 86 → I a = I a := fun _ _ _ => rfl
  have h3k : ∀ k, k ≠ 0 → I 83 k = I 83 k := fun _ _ => rfl
  refine y_in (M := xm_X14_house) (ls := [some _, some _]) rfl rfl rfl ?_
  refine y_aload_n rfl rfl ?_
  refine y_iload_n rfl rfl ?_
  refine y_iconst rfl ?_
  refine y_bip rfl (by decide) ?_
  refine y_static rfl rfl rfl rfl rfl ?_
  refine r_isIn (fun h_1 h_2 => ?_) (fun h_3 => ?_)
  · rw [yz_0] at h_1
    rw [yz_15] at h_2
    refine y_ret1 ?_
    refine y_if_neT rfl j_X14_house_15 (by decide) ?_
    refine y_iconst rfl ?_
    refine y_iconst rfl ?_
    refine y_virt rfl rfl rfl rfl rfl (ySh.t hS rfl) (ySh.n hS rfl) ?_
    refine y_in (M := xm_X14_start) (ls := [some _, some _, some _]) rfl rfl rfl ?_
    refine y_aload_n rfl rfl ?_
    refine y_iconst rfl ?_
    refine y_putI rfl (ySh.t hS rfl) (ySh.n hS rfl) rfl (Nat.le_of_ble_eq_true rfl) rfl rfl ?_
    refine y_nameI (fun I4 e4 => ?_)
    have hR1 := (hR0.grow hX).mod0 e4 (by decide) (by decide)
    have hK := (hK.x hRo hno hX).upI (upI e4) (by decide) (by decide) (fun i hi => by have := (hRo.l87.2.2.2.2 i hi).2.1; omega) (by rw [e4, upd2_ne (.inr (by decide))]; exact Int.le_refl _)
    have hth : I4 83 0 = Int32.ofInt (0) := by rw [e4, upd2_self]
    have hzz : ySz8 I I4 := ySz8_of (upI e4) (by rw [e4]; exact ⟨upd2_ne (.inr (by decide)), upd2_ne (.inr (by decide))⟩)
    have hB := (hB.trans hX).wr e4 rfl
    have h8 : ∀ a, 84 ≤ a → a ≤ 86 → I4 a = I a := fun a h1 h2 => (upI e4 a (by omega)).trans ((hX.2.1 a (by omega)).2.1.trans (h8 a h1 h2))
    have h3k : ∀ k, k ≠ 0 → I4 83 k = I 83 k := fun k hk => (congrFun (congrFun e4 83) k).trans ((upd2_ne (.inr hk)).trans ((congrFun (hX.2.1 83 (by omega)).2.1 k).trans (h3k k hk)))
    have hg := (hg.gx hX (by omega)).skip e4 (by decide)
    have hday : I4 83 1 = I 83 1 := (congrFun (congrFun e4 83) 1).trans ((upd2_ne (.inr (by decide))).trans ((congrFun (hX.2.1 83 (by omega)).2.1 1).trans hday))
    have hRb : ∀ a, a < n → R a = R a := fun a ha => (hX.2.1 a (by omega)).2.2.trans (hRb a ha)
    have hb83 : ∀ a, a ≠ 83 → a < n → I4 a = I a := fun a ha hb => (upI e4 a ha).trans ((hX.2.1 a (by omega)).2.1.trans (hb83 a ha hb))
    have hS0 := hS
    have hR0 := hR1
    have hn := Nat.le_refl n
    have h94 := hS0.1
    have hX := @yX.rf n tg I4 R
    have hS := hS0.x hX
    have hR := hR0.x hn hX
    have hz := hX.sz h94
    have hxn := hX.1
    have hN := hR0.1
    have hnb := hR0.2.2.2.2.2.2
    have hthB := hth
    refine y_aload_n rfl rfl ?_
    refine y_iload_n rfl rfl ?_
    refine y_iload_n rfl rfl ?_
    refine y_virt rfl rfl rfl rfl rfl (ySh.t hS rfl) (ySh.n hS rfl) ?_
    refine y_in (M := xm_X14_refuse) (ls := [some _, some _, some _]) rfl rfl rfl ?_
    refine y_iload_n rfl rfl ?_
    refine y_if_eqT rfl j_X14_refuse_16 (by decide) ?_
    refine y_aload_n rfl rfl ?_
    refine y_getIv (v := Int32.ofInt (0)) rfl (ySh.t hS rfl) (ySh.n hS rfl) rfl rfl hth ?_
    refine y_if_leT rfl j_X14_refuse_27 (by decide) ?_
    refine y_iconst rfl ?_
    refine y_ireturn rfl rfl rfl ?_
    refine y_ret1 ?_
    refine y_ireturn rfl rfl rfl ?_
    refine y_ret1 ?_
    refine y_if_eqT rfl j_X14_house_27 (by decide) ?_
    refine y_aload_n rfl rfl ?_
    refine y_iload_n rfl rfl ?_
    refine y_virt rfl rfl rfl rfl rfl (ySh.t hS rfl) (ySh.n hS rfl) ?_
    have hrf_5 := (hB.trans hX).rf1 (by omega : 83 < n)
    refine s_houseTold9 hS hR (Nat.le_trans hn hX.1) (by omega) (by omega) (fun v_6 n6 tg6 I6 R6 c_6 s_6 hv_6 hX1 hc_6 hs_6 => ?_)
    rw [mHo_cg hrf_5 hRo] at hv_6
    have hnA := hX1.1
    have hX := hX.trans hX1
    have hS := hS0.x hX
    have hR := hR0.x hn hX
    have hz := hX.sz h94
    have hxn := hX.1
    have hth := (congrFun (hX1.2.1 83 (by omega)).2.1 0).trans hth
    refine y_ret1 ?_
    refine y_ireturn rfl rfl rfl ?_
    exact hQ0 (by omega) _ _ _ _ _ _ _ hS ((hR0.grow hX).up (Nat.le_succ K) hk6) (hK.x hRo hno hX) hth hv_6 ((hB.trans hX).rf1 (by omega)) (by omega) (by omega)
  · rw [yz_0] at h_3
    rw [yz_15] at h_3
    refine y_ret1 ?_
    refine y_if_neF rfl (by decide) ?_
    refine y_iconst rfl ?_
    refine y_goto rfl j_X14_house_16 ?_
    refine y_iconst rfl ?_
    refine y_virt rfl rfl rfl rfl rfl (ySh.t hS rfl) (ySh.n hS rfl) ?_
    refine y_in (M := xm_X14_start) (ls := [some _, some _, some _]) rfl rfl rfl ?_
    refine y_aload_n rfl rfl ?_
    refine y_iconst rfl ?_
    refine y_putI rfl (ySh.t hS rfl) (ySh.n hS rfl) rfl (Nat.le_of_ble_eq_true rfl) rfl rfl ?_
    refine y_nameI (fun I7 e7 => ?_)
    have hR1 := (hR0.grow hX).mod0 e7 (by decide) (by decide)
    have hK := (hK.x hRo hno hX).upI (upI e7) (by decide) (by decide) (fun i hi => by have := (hRo.l87.2.2.2.2 i hi).2.1; omega) (by rw [e7, upd2_ne (.inr (by decide))]; exact Int.le_refl _)
    have hth : I7 83 0 = Int32.ofInt (0) := by rw [e7, upd2_self]
    have hzz : ySz8 I I7 := ySz8_of (upI e7) (by rw [e7]; exact ⟨upd2_ne (.inr (by decide)), upd2_ne (.inr (by decide))⟩)
    have hB := (hB.trans hX).wr e7 rfl
    have h8 : ∀ a, 84 ≤ a → a ≤ 86 → I7 a = I a := fun a h1 h2 => (upI e7 a (by omega)).trans ((hX.2.1 a (by omega)).2.1.trans (h8 a h1 h2))
    have h3k : ∀ k, k ≠ 0 → I7 83 k = I 83 k := fun k hk => (congrFun (congrFun e7 83) k).trans ((upd2_ne (.inr hk)).trans ((congrFun (hX.2.1 83 (by omega)).2.1 k).trans (h3k k hk)))
    have hg := (hg.gx hX (by omega)).skip e7 (by decide)
    have hday : I7 83 1 = I 83 1 := (congrFun (congrFun e7 83) 1).trans ((upd2_ne (.inr (by decide))).trans ((congrFun (hX.2.1 83 (by omega)).2.1 1).trans hday))
    have hRb : ∀ a, a < n → R a = R a := fun a ha => (hX.2.1 a (by omega)).2.2.trans (hRb a ha)
    have hb83 : ∀ a, a ≠ 83 → a < n → I7 a = I a := fun a ha hb => (upI e7 a ha).trans ((hX.2.1 a (by omega)).2.1.trans (hb83 a ha hb))
    have hS0 := hS
    have hR0 := hR1
    have hn := Nat.le_refl n
    have h94 := hS0.1
    have hX := @yX.rf n tg I7 R
    have hS := hS0.x hX
    have hR := hR0.x hn hX
    have hz := hX.sz h94
    have hxn := hX.1
    have hN := hR0.1
    have hnb := hR0.2.2.2.2.2.2
    have hthB := hth
    refine y_aload_n rfl rfl ?_
    refine y_iload_n rfl rfl ?_
    refine y_iload_n rfl rfl ?_
    refine y_virt rfl rfl rfl rfl rfl (ySh.t hS rfl) (ySh.n hS rfl) ?_
    refine y_in (M := xm_X14_refuse) (ls := [some _, some _, some _]) rfl rfl rfl ?_
    refine y_iload_n rfl rfl ?_
    refine y_if_eqF rfl (by decide) ?_
    refine y_aload_n rfl rfl ?_
    refine y_getIv (v := Int32.ofInt (0)) rfl (ySh.t hS rfl) (ySh.n hS rfl) rfl rfl hth ?_
    refine y_if_neF rfl (by decide) ?_
    refine y_aload_n rfl rfl ?_
    refine y_iload_n rfl rfl ?_
    refine y_putI rfl (ySh.t hS rfl) (ySh.n hS rfl) rfl (Nat.le_of_ble_eq_true rfl) rfl rfl ?_
    refine y_nameI (fun I8 e8 => ?_)
    have hR1 := (hR0.grow hX).mod0 e8 (by decide) (by decide)
    have hK := (hK.x hRo hno hX).upI (upI e8) (by decide) (by decide) (fun i hi => by have := (hRo.l87.2.2.2.2 i hi).2.1; omega) (by rw [e8, upd2_ne (.inr (by decide))]; exact Int.le_refl _)
    have hth : I8 83 0 = Int32.ofInt (1) := by rw [e8, upd2_self]
    have hzz : ySz8 I7 I8 := ySz8_of (upI e8) (by rw [e8]; exact ⟨upd2_ne (.inr (by decide)), upd2_ne (.inr (by decide))⟩)
    have hB := (hB.trans hX).wr e8 rfl
    have h8 : ∀ a, 84 ≤ a → a ≤ 86 → I8 a = I a := fun a h1 h2 => (upI e8 a (by omega)).trans ((hX.2.1 a (by omega)).2.1.trans (h8 a h1 h2))
    have h3k : ∀ k, k ≠ 0 → I8 83 k = I 83 k := fun k hk => (congrFun (congrFun e8 83) k).trans ((upd2_ne (.inr hk)).trans ((congrFun (hX.2.1 83 (by omega)).2.1 k).trans (h3k k hk)))
    have hg := (hg.gx hX (by omega)).skip e8 (by decide)
    have hday : I8 83 1 = I 83 1 := (congrFun (congrFun e8 83) 1).trans ((upd2_ne (.inr (by decide))).trans ((congrFun (hX.2.1 83 (by omega)).2.1 1).trans hday))
    have hRb : ∀ a, a < n → R a = R a := fun a ha => (hX.2.1 a (by omega)).2.2.trans (hRb a ha)
    have hb83 : ∀ a, a ≠ 83 → a < n → I8 a = I a := fun a ha hb => (upI e8 a ha).trans ((hX.2.1 a (by omega)).2.1.trans (hb83 a ha hb))
    have hS0 := hS
    have hR0 := hR1
    have hn := Nat.le_refl n
    have h94 := hS0.1
    have hX := @yX.rf n tg I8 R
    have hS := hS0.x hX
    have hR := hR0.x hn hX
    have hz := hX.sz h94
    have hxn := hX.1
    have hN := hR0.1
    have hnb := hR0.2.2.2.2.2.2
    have hthB := hth
    refine y_aload_n rfl rfl ?_
    refine y_getIv (v := Int32.ofInt (1)) rfl (ySh.t hS rfl) (ySh.n hS rfl) rfl rfl hth ?_
    refine y_if_leF rfl (by decide) ?_
    refine y_iconst rfl ?_
    refine y_goto rfl j_X14_refuse_28 ?_
    refine y_ireturn rfl rfl rfl ?_
    refine y_ret1 ?_
    refine y_ireturn rfl rfl rfl ?_
    refine y_ret1 ?_
    refine y_if_eqF rfl (by decide) ?_
    refine y_iconst rfl ?_
    refine y_goto rfl j_X14_house_32 ?_
    refine y_ireturn rfl rfl rfl ?_
    exact hQ1 (by omega) _ _ _ _ _ _ _ hS ((hR0.grow hX).up (Nat.le_succ K) hk6) (hK.x hRo hno hX) hth ((hB.trans hX).rf2 (by omega)) (by omega) (by omega)
theorem h_isSound (hS0 : ySh n tg R) (hR0 : yRI K n tg I R) (hk6 : K < 600) (hQ01 : mSnd I R → ∀ (v : Int32) n1 tg1 I1 R1 c1 s1, ySh n1 tg1 R1 → yRI (K + 1) n1 tg1 I1 R1 → yKp n tg I R n1 tg1 I1 R1 → I1 83 0 = Int32.ofInt 0 → v = Int32.ofInt 1 → yRf n I R I1 R1 → c1 ≤ c + 3 → s1 ≤ s + 12 → Q (.inl (some (.int v))) (n1, tg1, I1, R1) c1 s1) (hQ00 : ¬ mSnd I R → ∀ (v : Int32) n1 tg1 I1 R1 c1 s1, ySh n1 tg1 R1 → yRI (K + 1) n1 tg1 I1 R1 → yKp n tg I R n1 tg1 I1 R1 → I1 83 0 = Int32.ofInt 0 → v = Int32.ofInt 0 → yRf n I R I1 R1 → c1 ≤ c + 3 → s1 ≤ s + 12 → Q (.inl (some (.int v))) (n1, tg1, I1, R1) c1 s1) : yC 248 [.ref 83] (n, tg, I, R) c s Q := by
  have hno := Nat.le_refl n
  have hn := hno
  have hRo := hR0
  have hK : yKp n tg I R n tg I R := yKp.rf
  have hX : yX n tg I R n tg I R := yX.rf
  have hS := hS0
  have hR := hR0
  have h94 : 94 ≤ n := hS0.1
  have hz : ySz I I := hX.sz h94
  have hxn := hX.1
  have hN := hR0.1
  have hnb : 94 ≤ n := hR0.2.2.2.2.2.2
  have hg : yGm n I I := yGm.rf
  have hday : I 83 1 = I 83 1 := rfl
  have hb83 : ∀ a, a ≠ 83 → a < n → I a = I a := fun _ _ _ => rfl
  have hRb : ∀ a, a < n → R a = R a := fun _ _ => rfl
  have hB : yX n tg I R n tg I R := yX.rf
  have h8 : ∀ a, 84 ≤ a → a ≤ 86 → I a = I a := fun _ _ _ => rfl
  have h3k : ∀ k, k ≠ 0 → I 83 k = I 83 k := fun _ _ => rfl
  refine y_in (M := xm_X14_isSound) (ls := [some _]) rfl rfl rfl ?_
  refine y_aload_n rfl rfl ?_
  refine y_iconst rfl ?_
  refine y_putI rfl (ySh.t hS rfl) (ySh.n hS rfl) rfl (Nat.le_of_ble_eq_true rfl) rfl rfl ?_
  refine y_nameI (fun I1 e1 => ?_)
  have hR1 := (hR0.grow hX).mod0 e1 (by decide) (by decide)
  have hK := (hK.x hRo hno hX).upI (upI e1) (by decide) (by decide) (fun i hi => by have := (hRo.l87.2.2.2.2 i hi).2.1; omega) (by rw [e1, upd2_ne (.inr (by decide))]; exact Int.le_refl _)
  have hth : I1 83 0 = Int32.ofInt (0) := by rw [e1, upd2_self]
  have hzz : ySz8 I I1 := ySz8_of (upI e1) (by rw [e1]; exact ⟨upd2_ne (.inr (by decide)), upd2_ne (.inr (by decide))⟩)
  have hB := (hB.trans hX).wr e1 rfl
  have h8 : ∀ a, 84 ≤ a → a ≤ 86 → I1 a = I a := fun a h1 h2 => (upI e1 a (by omega)).trans ((hX.2.1 a (by omega)).2.1.trans (h8 a h1 h2))
  have h3k : ∀ k, k ≠ 0 → I1 83 k = I 83 k := fun k hk => (congrFun (congrFun e1 83) k).trans ((upd2_ne (.inr hk)).trans ((congrFun (hX.2.1 83 (by omega)).2.1 k).trans (h3k k hk)))
  have hg := (hg.gx hX (by omega)).skip e1 (by decide)
  have hday : I1 83 1 = I 83 1 := (congrFun (congrFun e1 83) 1).trans ((upd2_ne (.inr (by decide))).trans ((congrFun (hX.2.1 83 (by omega)).2.1 1).trans hday))
  have hRb : ∀ a, a < n → R a = R a := fun a ha => (hX.2.1 a (by omega)).2.2.trans (hRb a ha)
  have hb83 : ∀ a, a ≠ 83 → a < n → I1 a = I a := fun a ha hb => (upI e1 a ha).trans ((hX.2.1 a (by omega)).2.1.trans (hb83 a ha hb))
  have hS0 := hS
  have hR0 := hR1
  have hn := Nat.le_refl n
  have h94 := hS0.1
  have hX := @yX.rf n tg I1 R
  have hS := hS0.x hX
  have hR := hR0.x hn hX
  have hz := hX.sz h94
  have hxn := hX.1
  have hN := hR0.1
  have hnb := hR0.2.2.2.2.2.2
  have hthB := hth
  refine y_aload_n rfl rfl ?_
  refine y_virt rfl rfl rfl rfl rfl (ySh.t hS rfl) (ySh.n hS rfl) ?_
  have hrf_2 := (hB.trans hX).rf1 (by omega : 83 < n)
  refine s_isWhole9 hS hR (Nat.le_trans hn hX.1) (fun hv_3 n3 tg3 I3 R3 c_3 s_3 hX1 hc_3 hs_3 => ?_) (fun hv_3 n3 tg3 I3 R3 c_3 s_3 hX1 hc_3 hs_3 => ?_)
  · have hv_3 := (mSnd_cg hrf_2 hRo).1 hv_3
    have hnA := hX1.1
    have hX := hX.trans hX1
    have hS := hS0.x hX
    have hR := hR0.x hn hX
    have hz := hX.sz h94
    have hxn := hX.1
    have hth := (congrFun (hX1.2.1 83 (by omega)).2.1 0).trans hth
    refine y_ret1 ?_
    refine y_ireturn rfl rfl rfl ?_
    exact hQ01 (by assumption) _ _ _ _ _ _ _ hS ((hR0.grow hX).up (Nat.le_succ K) hk6) (hK.x hRo hno hX) hth rfl ((hB.trans hX).rf1 (by omega)) (by omega) (by omega)
  · have hv_3 := fun h_ => hv_3 ((mSnd_cg hrf_2 hRo).2 h_)
    have hnA := hX1.1
    have hX := hX.trans hX1
    have hS := hS0.x hX
    have hR := hR0.x hn hX
    have hz := hX.sz h94
    have hxn := hX.1
    have hth := (congrFun (hX1.2.1 83 (by omega)).2.1 0).trans hth
    refine y_ret1 ?_
    refine y_ireturn rfl rfl rfl ?_
    exact hQ00 (by assumption) _ _ _ _ _ _ _ hS ((hR0.grow hX).up (Nat.le_succ K) hk6) (hK.x hRo hno hX) hth rfl ((hB.trans hX).rf1 (by omega)) (by omega) (by omega)
theorem h_allowed (hS0 : ySh n tg R) (hR0 : yRI K n tg I R) (hk6 : K < 600) {x1 x2 : Int32} (hQ1 : ¬ (0 ≤ x1.toInt ∧ x1.toInt ≤ 4) → ∀ (v : Int32) n1 tg1 I1 R1 c1 s1, ySh n1 tg1 R1 → yRI (K + 1) n1 tg1 I1 R1 → yKp n tg I R n1 tg1 I1 R1 → I1 83 0 = Int32.ofInt 1 → yRf n I R I1 R1 → c1 ≤ c + 2 → s1 ≤ s + 9 → Q (.inl (some (.int v))) (n1, tg1, I1, R1) c1 s1) (hQ2 : (0 ≤ x1.toInt ∧ x1.toInt ≤ 4) ∧ ¬ (0 ≤ x2.toInt ∧ x2.toInt ≤ (I 83 1).toInt) → ∀ (v : Int32) n1 tg1 I1 R1 c1 s1, ySh n1 tg1 R1 → yRI (K + 1) n1 tg1 I1 R1 → yKp n tg I R n1 tg1 I1 R1 → I1 83 0 = Int32.ofInt 2 → yRf n I R I1 R1 → c1 ≤ c + 2 → s1 ≤ s + 9 → Q (.inl (some (.int v))) (n1, tg1, I1, R1) c1 s1) (hQ0 : (0 ≤ x1.toInt ∧ x1.toInt ≤ 4) ∧ (0 ≤ x2.toInt ∧ x2.toInt ≤ (I 83 1).toInt) → ∀ (v : Int32) n1 tg1 I1 R1 c1 s1, ySh n1 tg1 R1 → yRI (K + 1) n1 tg1 I1 R1 → yKp n tg I R n1 tg1 I1 R1 → I1 83 0 = Int32.ofInt 0 → v = mAw I R x1 x2 → yRf n I R I1 R1 → c1 ≤ c + 2 → s1 ≤ s + 9 → Q (.inl (some (.int v))) (n1, tg1, I1, R1) c1 s1) : yC 239 [.ref 83, .int x1, .int x2] (n, tg, I, R) c s Q := by
  have hno := Nat.le_refl n
  have hn := hno
  have hRo := hR0
  have hK : yKp n tg I R n tg I R := yKp.rf
  have hX : yX n tg I R n tg I R := yX.rf
  have hS := hS0
  have hR := hR0
  have h94 : 94 ≤ n := hS0.1
  have hz : ySz I I := hX.sz h94
  have hxn := hX.1
  have hN := hR0.1
  have hnb : 94 ≤ n := hR0.2.2.2.2.2.2
  have hg : yGm n I I := yGm.rf
  have hday : I 83 1 = I 83 1 := rfl
  have hb83 : ∀ a, a ≠ 83 → a < n → I a = I a := fun _ _ _ => rfl
  have hRb : ∀ a, a < n → R a = R a := fun _ _ => rfl
  have hB : yX n tg I R n tg I R := yX.rf
  have h8 : ∀ a, 84 ≤ a → a ≤ 86 → I a = I a := fun _ _ _ => rfl
  have h3k : ∀ k, k ≠ 0 → I 83 k = I 83 k := fun _ _ => rfl
  refine y_in (M := xm_X14_allowed) (ls := [some _, some _, some _]) rfl rfl rfl ?_
  refine y_aload_n rfl rfl ?_
  refine y_iload_n rfl rfl ?_
  refine y_iconst rfl ?_
  refine y_iconst rfl ?_
  refine y_static rfl rfl rfl rfl rfl ?_
  refine r_isIn (fun h_1 h_2 => ?_) (fun h_3 => ?_)
  · rw [yz_0] at h_1
    rw [yz_4] at h_2
    refine y_ret1 ?_
    refine y_if_neT rfl j_X14_allowed_14 (by decide) ?_
    refine y_iconst rfl ?_
    refine y_iconst rfl ?_
    refine y_virt rfl rfl rfl rfl rfl (ySh.t hS rfl) (ySh.n hS rfl) ?_
    refine y_in (M := xm_X14_start) (ls := [some _, some _, some _]) rfl rfl rfl ?_
    refine y_aload_n rfl rfl ?_
    refine y_iconst rfl ?_
    refine y_putI rfl (ySh.t hS rfl) (ySh.n hS rfl) rfl (Nat.le_of_ble_eq_true rfl) rfl rfl ?_
    refine y_nameI (fun I4 e4 => ?_)
    have hR1 := (hR0.grow hX).mod0 e4 (by decide) (by decide)
    have hK := (hK.x hRo hno hX).upI (upI e4) (by decide) (by decide) (fun i hi => by have := (hRo.l87.2.2.2.2 i hi).2.1; omega) (by rw [e4, upd2_ne (.inr (by decide))]; exact Int.le_refl _)
    have hth : I4 83 0 = Int32.ofInt (0) := by rw [e4, upd2_self]
    have hzz : ySz8 I I4 := ySz8_of (upI e4) (by rw [e4]; exact ⟨upd2_ne (.inr (by decide)), upd2_ne (.inr (by decide))⟩)
    have hB := (hB.trans hX).wr e4 rfl
    have h8 : ∀ a, 84 ≤ a → a ≤ 86 → I4 a = I a := fun a h1 h2 => (upI e4 a (by omega)).trans ((hX.2.1 a (by omega)).2.1.trans (h8 a h1 h2))
    have h3k : ∀ k, k ≠ 0 → I4 83 k = I 83 k := fun k hk => (congrFun (congrFun e4 83) k).trans ((upd2_ne (.inr hk)).trans ((congrFun (hX.2.1 83 (by omega)).2.1 k).trans (h3k k hk)))
    have hg := (hg.gx hX (by omega)).skip e4 (by decide)
    have hday : I4 83 1 = I 83 1 := (congrFun (congrFun e4 83) 1).trans ((upd2_ne (.inr (by decide))).trans ((congrFun (hX.2.1 83 (by omega)).2.1 1).trans hday))
    have hRb : ∀ a, a < n → R a = R a := fun a ha => (hX.2.1 a (by omega)).2.2.trans (hRb a ha)
    have hb83 : ∀ a, a ≠ 83 → a < n → I4 a = I a := fun a ha hb => (upI e4 a ha).trans ((hX.2.1 a (by omega)).2.1.trans (hb83 a ha hb))
    have hS0 := hS
    have hR0 := hR1
    have hn := Nat.le_refl n
    have h94 := hS0.1
    have hX := @yX.rf n tg I4 R
    have hS := hS0.x hX
    have hR := hR0.x hn hX
    have hz := hX.sz h94
    have hxn := hX.1
    have hN := hR0.1
    have hnb := hR0.2.2.2.2.2.2
    have hthB := hth
    refine y_aload_n rfl rfl ?_
    refine y_iload_n rfl rfl ?_
    refine y_iload_n rfl rfl ?_
    refine y_virt rfl rfl rfl rfl rfl (ySh.t hS rfl) (ySh.n hS rfl) ?_
    refine y_in (M := xm_X14_refuse) (ls := [some _, some _, some _]) rfl rfl rfl ?_
    refine y_iload_n rfl rfl ?_
    refine y_if_eqT rfl j_X14_refuse_16 (by decide) ?_
    refine y_aload_n rfl rfl ?_
    refine y_getIv (v := Int32.ofInt (0)) rfl (ySh.t hS rfl) (ySh.n hS rfl) rfl rfl hth ?_
    refine y_if_leT rfl j_X14_refuse_27 (by decide) ?_
    refine y_iconst rfl ?_
    refine y_ireturn rfl rfl rfl ?_
    refine y_ret1 ?_
    refine y_ireturn rfl rfl rfl ?_
    refine y_ret1 ?_
    refine y_if_neF rfl (by decide) ?_
    refine y_aload_n rfl rfl ?_
    refine y_iload_n rfl rfl ?_
    refine y_iconst rfl ?_
    refine y_aload_n rfl rfl ?_
    refine y_getIv (v := I 83 1) rfl (ySh.t hS rfl) (ySh.n hS rfl) rfl rfl ((congrFun (hX.2.1 83 (by omega)).2.1 1).trans hday) ?_
    refine y_static rfl rfl rfl rfl rfl ?_
    refine r_isIn (fun h_5 h_6 => ?_) (fun h_7 => ?_)
    · rw [yz_0] at h_5
      try rw [ysub (by rw [yz_1]; omega) (by rw [yz_1]; omega), yz_1] at h_6
      refine y_ret1 ?_
      refine y_if_neT rfl j_X14_allowed_39 (by decide) ?_
      refine y_iconst rfl ?_
      refine y_iconst rfl ?_
      refine y_virt rfl rfl rfl rfl rfl (ySh.t hS rfl) (ySh.n hS rfl) ?_
      refine y_in (M := xm_X14_refuse) (ls := [some _, some _, some _]) rfl rfl rfl ?_
      refine y_iload_n rfl rfl ?_
      refine y_if_eqT rfl j_X14_refuse_16 (by decide) ?_
      refine y_aload_n rfl rfl ?_
      refine y_getIv (v := Int32.ofInt (0)) rfl (ySh.t hS rfl) (ySh.n hS rfl) rfl rfl hth ?_
      refine y_if_leT rfl j_X14_refuse_27 (by decide) ?_
      refine y_iconst rfl ?_
      refine y_ireturn rfl rfl rfl ?_
      refine y_ret1 ?_
      refine y_if_neF rfl (by decide) ?_
      refine y_aload_n rfl rfl ?_
      refine y_iload_n rfl rfl ?_
      refine y_iload_n rfl rfl ?_
      refine y_virt rfl rfl rfl rfl rfl (ySh.t hS rfl) (ySh.n hS rfl) ?_
      refine y_in (M := xm_X14_isAllowed) (ls := [some _, some _, some _]) rfl rfl rfl ?_
      refine y_aload_n rfl rfl ?_
      refine y_iload_n rfl rfl ?_
      refine y_iload_n rfl rfl ?_
      refine y_virt rfl rfl rfl rfl rfl (ySh.t hS rfl) (ySh.n hS rfl) ?_
      have hrf_8 := (hB.trans hX).rf1 (by omega : 83 < n)
      refine r_forItW hS hR (Nat.le_trans hn hX.1) (fun v_9 n9 tg9 I9 R9 c_9 s_9 hv_9 hX1 hc_9 hs_9 => ?_)
      rw [ySum_eq (fun j_ _ => yHw_rf (q := x1.toInt) (d := x2.toInt) (j := j_) hrf_8 hRo)] at hv_9
      have hnA := hX1.1
      have hX := hX.trans hX1
      have hS := hS0.x hX
      have hR := hR0.x hn hX
      have hz := hX.sz h94
      have hxn := hX.1
      have hth := (congrFun (hX1.2.1 83 (by omega)).2.1 0).trans hth
      refine y_ret1 ?_
      refine y_iconst rfl ?_
      refine y_icmp_lt rfl j_X14_isAllowed_14 (fun h_10 => ?_) (fun h_11 => ?_)
      · rw [yz_3] at h_10
        refine y_iconst rfl ?_
        refine y_ireturn rfl rfl rfl ?_
        refine y_ret1 ?_
        refine y_if_eqT rfl j_X14_allowed_60 (by decide) ?_
        refine y_iconst rfl ?_
        refine y_ireturn rfl rfl rfl ?_
        exact hQ0 (by omega) _ _ _ _ _ _ _ hS ((hR0.grow hX).up (Nat.le_succ K) hk6) (hK.x hRo hno hX) hth (by unfold mAw; first | exact (if_pos (by omega)).symm | exact (if_neg (by omega)).symm) ((hB.trans hX).rf1 (by omega)) (by omega) (by omega)
      · rw [yz_3] at h_11
        refine y_iconst rfl ?_
        refine y_goto rfl j_X14_isAllowed_15 ?_
        refine y_ireturn rfl rfl rfl ?_
        refine y_ret1 ?_
        refine y_if_eqF rfl (by decide) ?_
        refine y_iconst rfl ?_
        refine y_goto rfl j_X14_allowed_61 ?_
        refine y_ireturn rfl rfl rfl ?_
        exact hQ0 (by omega) _ _ _ _ _ _ _ hS ((hR0.grow hX).up (Nat.le_succ K) hk6) (hK.x hRo hno hX) hth (by unfold mAw; first | exact (if_pos (by omega)).symm | exact (if_neg (by omega)).symm) ((hB.trans hX).rf1 (by omega)) (by omega) (by omega)
    · rw [yz_0] at h_7
      try rw [ysub (by rw [yz_1]; omega) (by rw [yz_1]; omega), yz_1] at h_7
      refine y_ret1 ?_
      refine y_if_neF rfl (by decide) ?_
      refine y_iconst rfl ?_
      refine y_goto rfl j_X14_allowed_40 ?_
      refine y_iconst rfl ?_
      refine y_virt rfl rfl rfl rfl rfl (ySh.t hS rfl) (ySh.n hS rfl) ?_
      refine y_in (M := xm_X14_refuse) (ls := [some _, some _, some _]) rfl rfl rfl ?_
      refine y_iload_n rfl rfl ?_
      refine y_if_eqF rfl (by decide) ?_
      refine y_aload_n rfl rfl ?_
      refine y_getIv (v := Int32.ofInt (0)) rfl (ySh.t hS rfl) (ySh.n hS rfl) rfl rfl hth ?_
      refine y_if_neF rfl (by decide) ?_
      refine y_aload_n rfl rfl ?_
      refine y_iload_n rfl rfl ?_
      refine y_putI rfl (ySh.t hS rfl) (ySh.n hS rfl) rfl (Nat.le_of_ble_eq_true rfl) rfl rfl ?_
      refine y_nameI (fun I12 e12 => ?_)
      have hR1 := (hR0.grow hX).mod0 e12 (by decide) (by decide)
      have hK := (hK.x hRo hno hX).upI (upI e12) (by decide) (by decide) (fun i hi => by have := (hRo.l87.2.2.2.2 i hi).2.1; omega) (by rw [e12, upd2_ne (.inr (by decide))]; exact Int.le_refl _)
      have hth : I12 83 0 = Int32.ofInt (2) := by rw [e12, upd2_self]
      have hzz : ySz8 I4 I12 := ySz8_of (upI e12) (by rw [e12]; exact ⟨upd2_ne (.inr (by decide)), upd2_ne (.inr (by decide))⟩)
      have hB := (hB.trans hX).wr e12 rfl
      have h8 : ∀ a, 84 ≤ a → a ≤ 86 → I12 a = I a := fun a h1 h2 => (upI e12 a (by omega)).trans ((hX.2.1 a (by omega)).2.1.trans (h8 a h1 h2))
      have h3k : ∀ k, k ≠ 0 → I12 83 k = I 83 k := fun k hk => (congrFun (congrFun e12 83) k).trans ((upd2_ne (.inr hk)).trans ((congrFun (hX.2.1 83 (by omega)).2.1 k).trans (h3k k hk)))
      have hg := (hg.gx hX (by omega)).skip e12 (by decide)
      have hday : I12 83 1 = I 83 1 := (congrFun (congrFun e12 83) 1).trans ((upd2_ne (.inr (by decide))).trans ((congrFun (hX.2.1 83 (by omega)).2.1 1).trans hday))
      have hRb : ∀ a, a < n → R a = R a := fun a ha => (hX.2.1 a (by omega)).2.2.trans (hRb a ha)
      have hb83 : ∀ a, a ≠ 83 → a < n → I12 a = I a := fun a ha hb => (upI e12 a ha).trans ((hX.2.1 a (by omega)).2.1.trans (hb83 a ha hb))
      have hS0 := hS
      have hR0 := hR1
      have hn := Nat.le_refl n
      have h94 := hS0.1
      have hX := @yX.rf n tg I12 R
      have hS := hS0.x hX
      have hR := hR0.x hn hX
      have hz := hX.sz h94
      have hxn := hX.1
      have hN := hR0.1
      have hnb := hR0.2.2.2.2.2.2
      have hthB := hth
      refine y_aload_n rfl rfl ?_
      refine y_getIv (v := Int32.ofInt (2)) rfl (ySh.t hS rfl) (ySh.n hS rfl) rfl rfl hth ?_
      refine y_if_leF rfl (by decide) ?_
      refine y_iconst rfl ?_
      refine y_goto rfl j_X14_refuse_28 ?_
      refine y_ireturn rfl rfl rfl ?_
      refine y_ret1 ?_
      refine y_if_neT rfl j_X14_allowed_60 (by decide) ?_
      refine y_iconst rfl ?_
      refine y_ireturn rfl rfl rfl ?_
      exact hQ2 (by omega) _ _ _ _ _ _ _ hS ((hR0.grow hX).up (Nat.le_succ K) hk6) (hK.x hRo hno hX) hth ((hB.trans hX).rf2 (by omega)) (by omega) (by omega)
  · rw [yz_0] at h_3
    rw [yz_4] at h_3
    refine y_ret1 ?_
    refine y_if_neF rfl (by decide) ?_
    refine y_iconst rfl ?_
    refine y_goto rfl j_X14_allowed_15 ?_
    refine y_iconst rfl ?_
    refine y_virt rfl rfl rfl rfl rfl (ySh.t hS rfl) (ySh.n hS rfl) ?_
    refine y_in (M := xm_X14_start) (ls := [some _, some _, some _]) rfl rfl rfl ?_
    refine y_aload_n rfl rfl ?_
    refine y_iconst rfl ?_
    refine y_putI rfl (ySh.t hS rfl) (ySh.n hS rfl) rfl (Nat.le_of_ble_eq_true rfl) rfl rfl ?_
    refine y_nameI (fun I13 e13 => ?_)
    have hR1 := (hR0.grow hX).mod0 e13 (by decide) (by decide)
    have hK := (hK.x hRo hno hX).upI (upI e13) (by decide) (by decide) (fun i hi => by have := (hRo.l87.2.2.2.2 i hi).2.1; omega) (by rw [e13, upd2_ne (.inr (by decide))]; exact Int.le_refl _)
    have hth : I13 83 0 = Int32.ofInt (0) := by rw [e13, upd2_self]
    have hzz : ySz8 I I13 := ySz8_of (upI e13) (by rw [e13]; exact ⟨upd2_ne (.inr (by decide)), upd2_ne (.inr (by decide))⟩)
    have hB := (hB.trans hX).wr e13 rfl
    have h8 : ∀ a, 84 ≤ a → a ≤ 86 → I13 a = I a := fun a h1 h2 => (upI e13 a (by omega)).trans ((hX.2.1 a (by omega)).2.1.trans (h8 a h1 h2))
    have h3k : ∀ k, k ≠ 0 → I13 83 k = I 83 k := fun k hk => (congrFun (congrFun e13 83) k).trans ((upd2_ne (.inr hk)).trans ((congrFun (hX.2.1 83 (by omega)).2.1 k).trans (h3k k hk)))
    have hg := (hg.gx hX (by omega)).skip e13 (by decide)
    have hday : I13 83 1 = I 83 1 := (congrFun (congrFun e13 83) 1).trans ((upd2_ne (.inr (by decide))).trans ((congrFun (hX.2.1 83 (by omega)).2.1 1).trans hday))
    have hRb : ∀ a, a < n → R a = R a := fun a ha => (hX.2.1 a (by omega)).2.2.trans (hRb a ha)
    have hb83 : ∀ a, a ≠ 83 → a < n → I13 a = I a := fun a ha hb => (upI e13 a ha).trans ((hX.2.1 a (by omega)).2.1.trans (hb83 a ha hb))
    have hS0 := hS
    have hR0 := hR1
    have hn := Nat.le_refl n
    have h94 := hS0.1
    have hX := @yX.rf n tg I13 R
    have hS := hS0.x hX
    have hR := hR0.x hn hX
    have hz := hX.sz h94
    have hxn := hX.1
    have hN := hR0.1
    have hnb := hR0.2.2.2.2.2.2
    have hthB := hth
    refine y_aload_n rfl rfl ?_
    refine y_iload_n rfl rfl ?_
    refine y_iload_n rfl rfl ?_
    refine y_virt rfl rfl rfl rfl rfl (ySh.t hS rfl) (ySh.n hS rfl) ?_
    refine y_in (M := xm_X14_refuse) (ls := [some _, some _, some _]) rfl rfl rfl ?_
    refine y_iload_n rfl rfl ?_
    refine y_if_eqF rfl (by decide) ?_
    refine y_aload_n rfl rfl ?_
    refine y_getIv (v := Int32.ofInt (0)) rfl (ySh.t hS rfl) (ySh.n hS rfl) rfl rfl hth ?_
    refine y_if_neF rfl (by decide) ?_
    refine y_aload_n rfl rfl ?_
    refine y_iload_n rfl rfl ?_
    refine y_putI rfl (ySh.t hS rfl) (ySh.n hS rfl) rfl (Nat.le_of_ble_eq_true rfl) rfl rfl ?_
    refine y_nameI (fun I14 e14 => ?_)
    have hR1 := (hR0.grow hX).mod0 e14 (by decide) (by decide)
    have hK := (hK.x hRo hno hX).upI (upI e14) (by decide) (by decide) (fun i hi => by have := (hRo.l87.2.2.2.2 i hi).2.1; omega) (by rw [e14, upd2_ne (.inr (by decide))]; exact Int.le_refl _)
    have hth : I14 83 0 = Int32.ofInt (1) := by rw [e14, upd2_self]
    have hzz : ySz8 I13 I14 := ySz8_of (upI e14) (by rw [e14]; exact ⟨upd2_ne (.inr (by decide)), upd2_ne (.inr (by decide))⟩)
    have hB := (hB.trans hX).wr e14 rfl
    have h8 : ∀ a, 84 ≤ a → a ≤ 86 → I14 a = I a := fun a h1 h2 => (upI e14 a (by omega)).trans ((hX.2.1 a (by omega)).2.1.trans (h8 a h1 h2))
    have h3k : ∀ k, k ≠ 0 → I14 83 k = I 83 k := fun k hk => (congrFun (congrFun e14 83) k).trans ((upd2_ne (.inr hk)).trans ((congrFun (hX.2.1 83 (by omega)).2.1 k).trans (h3k k hk)))
    have hg := (hg.gx hX (by omega)).skip e14 (by decide)
    have hday : I14 83 1 = I 83 1 := (congrFun (congrFun e14 83) 1).trans ((upd2_ne (.inr (by decide))).trans ((congrFun (hX.2.1 83 (by omega)).2.1 1).trans hday))
    have hRb : ∀ a, a < n → R a = R a := fun a ha => (hX.2.1 a (by omega)).2.2.trans (hRb a ha)
    have hb83 : ∀ a, a ≠ 83 → a < n → I14 a = I a := fun a ha hb => (upI e14 a ha).trans ((hX.2.1 a (by omega)).2.1.trans (hb83 a ha hb))
    have hS0 := hS
    have hR0 := hR1
    have hn := Nat.le_refl n
    have h94 := hS0.1
    have hX := @yX.rf n tg I14 R
    have hS := hS0.x hX
    have hR := hR0.x hn hX
    have hz := hX.sz h94
    have hxn := hX.1
    have hN := hR0.1
    have hnb := hR0.2.2.2.2.2.2
    have hthB := hth
    refine y_aload_n rfl rfl ?_
    refine y_getIv (v := Int32.ofInt (1)) rfl (ySh.t hS rfl) (ySh.n hS rfl) rfl rfl hth ?_
    refine y_if_leF rfl (by decide) ?_
    refine y_iconst rfl ?_
    refine y_goto rfl j_X14_refuse_28 ?_
    refine y_ireturn rfl rfl rfl ?_
    refine y_ret1 ?_
    refine y_ireturn rfl rfl rfl ?_
    refine y_ret1 ?_
    refine y_if_neT rfl j_X14_allowed_60 (by decide) ?_
    refine y_iconst rfl ?_
    refine y_ireturn rfl rfl rfl ?_
    exact hQ1 (by omega) _ _ _ _ _ _ _ hS ((hR0.grow hX).up (Nat.le_succ K) hk6) (hK.x hRo hno hX) hth ((hB.trans hX).rf2 (by omega)) (by omega) (by omega)
end YM9
