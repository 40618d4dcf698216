/-! THE REFERENCE'S POOL, EXACTLY (by ex7s.py) -/
/-- weights together, a row of them -/
def mWs (J : Nat → Int32) : Nat → Int64
  | 0 => Int64.ofNat 0
  | k + 1 => mWs J k + (J k).toInt64
theorem mWs_nx {J : Nat → Int32} {x : Int32} {q q' : Int64} (h0 : 0 ≤ x.toInt ∧ x.toInt < 2147483647) (hq : q = mWs J x.toInt.toNat) (hs : q' = q + (J x.toInt.toNat).toInt64) : q' = mWs J (x + Int32.ofInt 1).toInt.toNat := by
  rw [yinc h0.2, show (x.toInt + 1).toNat = x.toInt.toNat + 1 by omega, hs, hq]; rfl
/-- what one would have of the rest -/
def mMd (I : Nat → Nat → Int32) (rest : Int32) (w : Int64) (k : Nat) : Int32 := yMnn (Int32.ofInt 99999 - I 85 k) (rest.toInt64 * (I 86 k).toInt64 / w).toInt32
def mLf (I : Nat → Nat → Int32) (rest : Int32) (w : Int64) : Nat → Int32
  | 0 => rest
  | k + 1 => mLf I rest w k - mMd I rest w k
theorem mLf_e1 {I : Nat → Nat → Int32} {x6 x10 x11 : Int32} {x8 : Int64} {mn : Int} (i4 : x10 = mLf I x6 x8 x11.toInt.toNat) (i0 : 0 ≤ x11.toInt) (he : x11.toInt = mn) (i5 : x11.toInt = 0 ∨ 0 < x8) : x10 = if 0 < x8 then mLf I x6 x8 mn.toNat else x6 := by
  rw [i4, ← he]
  by_cases q : 0 < x8
  · rw [if_pos q]
  · rw [if_neg q, show x11.toInt.toNat = 0 by rcases i5 with z | z; omega; exact absurd z q]; rfl
theorem mLf_e2 {I : Nat → Nat → Int32} {x6 x10 x11 : Int32} {x8 : Int64} {mn : Int} (i4 : x10 = mLf I x6 x8 x11.toInt.toNat) (i0 : 0 ≤ x11.toInt) (i5 : x11.toInt = 0 ∨ 0 < x8) (hw : ¬ 0 < x8) : x10 = if 0 < x8 then mLf I x6 x8 mn.toNat else x6 := by
  rw [i4, if_neg hw, show x11.toInt.toNat = 0 by rcases i5 with z | z; omega; exact absurd z hw]; rfl
/-- what the reserve gets, or gives -/
def mMor (r0 tgt rsv : Int32) (al : Int) : Int32 := if 3 ≤ al then (if tgt.toInt < r0.toInt then r0 - tgt else -(yMnn rsv (tgt - r0))) else Int32.ofInt 0
theorem mMor_0 {r t s : Int32} {al : Int} (h : ¬ 3 ≤ al) : Int32.ofInt 0 = mMor r t s al := (if_neg h).symm
theorem mMor_1 {r t s : Int32} {al : Int} (h : 3 ≤ al) (h2 : t.toInt < r.toInt) : r - t = mMor r t s al := by
  unfold mMor
  rw [if_pos h, if_pos h2]
theorem mMor_2 {r t s : Int32} {al : Int} (h : 3 ≤ al) (h2 : ¬ t.toInt < r.toInt) : -(yMnn s (t - r)) = mMor r t s al := by
  unfold mMor
  rw [if_pos h, if_neg h2]
section YXS
variable {K nb n : Nat} {tg : Nat → yT} {I : Nat → Nat → Int32} {R : Nat → Nat → Value} {c s : Nat} {Q : yQ}
theorem lp_r_sharedW (hS0 : ySh n tg R) (hR0 : yRI K nb tg I R) (hn : nb ≤ n) {x1 x2 x3 x5 x6 x7 : Int32} {md : Nat} (hx : yW xm_X14_shared xc_X14_shared_114 [some (.ref 83), some (.int x1), some (.int x2), some (.int x3), some (.ref md), some (.int x5), some (.int x6), some (.int x7), some (.long (mWs (I 86) 8)), none, none, none, none, none] [] (n, tg, I, R) c s Q) : ∀ (m : Nat) (x8 : Int64) (x11 : Int32) (x12 : Int32), (x11.toInt = 8) → (0 ≤ x12.toInt) → (x12.toInt ≤ 8) → (x8 = mWs (I 86) x12.toInt.toNat) → 8 - x12.toInt < m → yW xm_X14_shared xc_X14_shared_86 [some (.ref 83), some (.int x1), some (.int x2), some (.int x3), some (.ref md), some (.int x5), some (.int x6), some (.int x7), some (.long x8), none, some (.ref 86), some (.int x11), some (.int x12), none] [] (n, tg, I, R) c s Q := by
  intro m
  induction m with
  | zero =>
    intro x8 x11 x12 i0 i1 i2 i3 hm
    have hX : yX n tg I R n tg I R := yX.rf
    have hS := hS0
    have hR := hR0
    have h94 : 94 ≤ n := hS0.1
    have hz : ySz I I := hX.sz h94
    have hxn := hX.1
    have hN := hR0.1
    have hnb : 94 ≤ nb := hR0.2.2.2.2.2.2
    exfalso; omega
  | succ m ih =>
    intro x8 x11 x12 i0 i1 i2 i3 hm
    have hX : yX n tg I R n tg I R := yX.rf
    have hS := hS0
    have hR := hR0
    have h94 : 94 ≤ n := hS0.1
    have hz : ySz I I := hX.sz h94
    have hxn := hX.1
    have hN := hR0.1
    have hnb : 94 ≤ nb := hR0.2.2.2.2.2.2
    refine y_iload rfl rfl ?_
    refine y_iload rfl rfl ?_
    refine y_icmp_ge rfl j_X14_shared_114 (fun h_1 => ?_) (fun h_2 => ?_)
    · refine y_fgt (ls := [some _, some _, some _, some _, some _, some _, some _, some _, some _, none, none, none, none, none]) ⟨rfl, rfl, rfl, rfl, rfl, rfl, rfl, rfl, rfl, trivial⟩ ?_
      have h8_ : x8 = mWs (I 86) 8 := by have h8 : x12.toInt.toNat = 8 := (by omega); rw [h8] at i3; exact i3
      subst h8_
      exact hx
    · refine y_aload rfl rfl ?_
      refine y_iload rfl rfl ?_
      refine y_iaload rfl (ySh.t hS rfl) (ySh.n hS rfl) (by omega) (by omega) ?_
      refine y_istore (ls' := [some _, some _, some _, some _, some _, some _, some _, some _, some _, _, some _, some _, some _, some _]) rfl rfl rfl ?_
      refine y_lload rfl rfl ?_
      refine y_iload rfl rfl ?_
      refine y_i2l rfl ?_
      refine y_ladd rfl ?_
      refine y_lstore (ls' := [some _, some _, some _, some _, some _, some _, some _, some _, some _, _, some _, some _, some _, some _]) rfl rfl rfl ?_
      refine y_iinc (ls' := [some _, some _, some _, some _, some _, some _, some _, some _, some _, _, some _, some _, some _, some _]) rfl rfl rfl rfl ?_
      refine y_goto rfl j_X14_shared_86 ?_
      refine y_fgt (ls := [some _, some _, some _, some _, some _, some _, some _, some _, some _, none, some _, some _, some _, none]) ⟨rfl, rfl, rfl, rfl, rfl, rfl, rfl, rfl, rfl, rfl, rfl, rfl, trivial⟩ ?_
      exact ih _ _ _ (by assumption) (by first | omega | (rw [yinc (by omega)]; omega)) (by first | omega | (rw [yinc (by omega)]; omega)) (mWs_nx (by omega) (by assumption) rfl) (by first | omega | (rw [yinc (by omega)]; omega))
theorem lx_sharedX2 (hS0 : ySh n tg R) (hR0 : yRI K nb tg I R) (hn : nb ≤ n) {x1 x2 x3 x5 x6 x7 : Int32} {x8 : Int64} {md : Nat} (hfr : n ≤ md) (hQ : ∀ n1 tg1 I1 R1, yX n tg I R n1 tg1 I1 R1 → md < n1 → tg1 md = (0, 11) → (∀ j : Nat, j < 8 → I1 md j = if (j : Int) < (I 83 8).toInt ∧ 0 < x8 then mMd I x6 x8 j else 0) → I1 md 8 = x5 → I1 md 9 = x7 → I1 md 10 = (if 0 < x8 then mLf I x6 x8 (I 83 8).toInt.toNat else x6) → Q (.inl (some (.ref md))) (n1, tg1, I1, R1) c s) : ∀ (m : Nat) (x10 : Int32) (x11 : Int32) (n1 : Nat) (tg1 : Nat → yT) (I1 : Nat → Nat → Int32) (R1 : Nat → Nat → Value), yX n tg I R n1 tg1 I1 R1 → tg1 md = (0, 11) → md < n1 → (0 ≤ x11.toInt) → (x11.toInt ≤ (I 83 8).toInt) → (∀ j : Nat, (j : Int) < x11.toInt → I1 md j = mMd I x6 x8 j) → (∀ j : Nat, x11.toInt ≤ (j : Int) → I1 md j = 0) → (x10 = mLf I x6 x8 x11.toInt.toNat) → (x11.toInt = 0 ∨ 0 < x8) → (I 83 8).toInt - x11.toInt < m → yW xm_X14_shared xc_X14_shared_121 [some (.ref 83), some (.int x1), some (.int x2), some (.int x3), some (.ref md), some (.int x5), some (.int x6), some (.int x7), some (.long x8), none, some (.int x10), some (.int x11), none, none] [] (n1, tg1, I1, R1) c s Q := by
  intro m
  induction m with
  | zero =>
    intro x10 x11 n1 tg1 I1 R1 hX ht_pa ha_pa i0 i1 i2 i3 i4 i5 hm
    have hN := hR0.1
    exfalso; omega
  | succ m ih =>
    intro x10 x11 n1 tg1 I1 R1 hX ht_pa ha_pa i0 i1 i2 i3 i4 i5 hm
    have hS := hS0.x hX
    have hR := hR0.x hn hX
    have h94 : 94 ≤ n := hS0.1
    have hz := hX.sz h94
    have hxn := hX.1
    have hN := hR0.1
    have hnb : 94 ≤ nb := hR0.2.2.2.2.2.2
    have h85 := (hX.2.1 85 (by omega)).2.1
    have h86 := (hX.2.1 86 (by omega)).2.1
    have h838 : (I1 83 8).toInt = (I 83 8).toInt := by rw [(hX.2.1 83 (by omega)).2.1]
    refine y_iload rfl rfl ?_
    refine y_aload_n rfl rfl ?_
    refine y_getI rfl (ySh.t hS rfl) (ySh.n hS rfl) rfl rfl ?_
    refine y_icmp_ge rfl j_X14_shared_187 (fun h_1 => ?_) (fun h_2 => ?_)
    · refine y_aload rfl rfl ?_
      refine y_bip rfl (by decide) ?_
      refine y_iload rfl rfl ?_
      refine y_iastoreC (j := 8) rfl ht_pa ha_pa (Nat.le_trans (by decide) (by omega : 94 ≤ _)) (by decide) (by decide) rfl ?_
      refine y_nameI (fun I3 e3 => ?_)
      have hX := hX.upI (by omega) (upI e3)
      have hS := hS0.x hX
      have hR := hR0.x hn hX
      have hz := hX.sz h94
      have hxn := hX.1
      refine y_aload rfl rfl ?_
      refine y_bip rfl (by decide) ?_
      refine y_iload rfl rfl ?_
      refine y_iastoreC (j := 9) rfl ht_pa ha_pa (Nat.le_trans (by decide) (by omega : 94 ≤ _)) (by decide) (by decide) rfl ?_
      refine y_nameI (fun I4 e4 => ?_)
      have hX := hX.upI (by omega) (upI e4)
      have hS := hS0.x hX
      have hR := hR0.x hn hX
      have hz := hX.sz h94
      have hxn := hX.1
      refine y_aload rfl rfl ?_
      refine y_bip rfl (by decide) ?_
      refine y_iload rfl rfl ?_
      refine y_iastoreC (j := 10) rfl ht_pa ha_pa (Nat.le_trans (by decide) (by omega : 94 ≤ _)) (by decide) (by decide) rfl ?_
      refine y_nameI (fun I5 e5 => ?_)
      have hX := hX.upI (by omega) (upI e5)
      have hS := hS0.x hX
      have hR := hR0.x hn hX
      have hz := hX.sz h94
      have hxn := hX.1
      refine y_aload rfl rfl ?_
      refine y_areturn rfl ?_
      exact hQ _ _ _ _ hX ha_pa ht_pa (fun j hj => by
          rw [e5, upd2_ne (.inr (by omega)), e4, upd2_ne (.inr (by omega)), e3, upd2_ne (.inr (by omega))]
          by_cases hjx : (j : Int) < x11.toInt
          · rw [i2 j hjx]; rcases i5 with q_ | q_
            · omega
            · rw [if_pos ⟨by omega, q_⟩]
          · rw [i3 j (by omega)]; first | exact (if_neg fun q_ => by omega).symm | exact (if_neg fun q_ => hw q_.2).symm) (by rw [e5, upd2_ne (.inr (by decide)), e4, upd2_ne (.inr (by decide)), e3, upd2_self]) (by rw [e5, upd2_ne (.inr (by decide)), e4, upd2_self]) (by rw [e5, upd2_self]; first | exact mLf_e2 i4 i0 i5 hw | exact mLf_e1 i4 i0 (by omega) i5)
    · refine y_lload rfl rfl ?_
      refine y_lconst rfl ?_
      refine y_lcmp rfl ?_
      refine y_if_le rfl j_X14_shared_187 (fun h_6 => ?_) (fun h_7 => ?_)
      · have hw := ylcmp.2 h_6
        refine y_aload rfl rfl ?_
        refine y_bip rfl (by decide) ?_
        refine y_iload rfl rfl ?_
        refine y_iastoreC (j := 8) rfl ht_pa ha_pa (Nat.le_trans (by decide) (by omega : 94 ≤ _)) (by decide) (by decide) rfl ?_
        refine y_nameI (fun I8 e8 => ?_)
        have hX := hX.upI (by omega) (upI e8)
        have hS := hS0.x hX
        have hR := hR0.x hn hX
        have hz := hX.sz h94
        have hxn := hX.1
        refine y_aload rfl rfl ?_
        refine y_bip rfl (by decide) ?_
        refine y_iload rfl rfl ?_
        refine y_iastoreC (j := 9) rfl ht_pa ha_pa (Nat.le_trans (by decide) (by omega : 94 ≤ _)) (by decide) (by decide) rfl ?_
        refine y_nameI (fun I9 e9 => ?_)
        have hX := hX.upI (by omega) (upI e9)
        have hS := hS0.x hX
        have hR := hR0.x hn hX
        have hz := hX.sz h94
        have hxn := hX.1
        refine y_aload rfl rfl ?_
        refine y_bip rfl (by decide) ?_
        refine y_iload rfl rfl ?_
        refine y_iastoreC (j := 10) rfl ht_pa ha_pa (Nat.le_trans (by decide) (by omega : 94 ≤ _)) (by decide) (by decide) rfl ?_
        refine y_nameI (fun I10 e10 => ?_)
        have hX := hX.upI (by omega) (upI e10)
        have hS := hS0.x hX
        have hR := hR0.x hn hX
        have hz := hX.sz h94
        have hxn := hX.1
        refine y_aload rfl rfl ?_
        refine y_areturn rfl ?_
        exact hQ _ _ _ _ hX ha_pa ht_pa (fun j hj => by
            rw [e10, upd2_ne (.inr (by omega)), e9, upd2_ne (.inr (by omega)), e8, upd2_ne (.inr (by omega))]
            by_cases hjx : (j : Int) < x11.toInt
            · rw [i2 j hjx]; rcases i5 with q_ | q_
              · omega
              · rw [if_pos ⟨by omega, q_⟩]
            · rw [i3 j (by omega)]; first | exact (if_neg fun q_ => by omega).symm | exact (if_neg fun q_ => hw q_.2).symm) (by rw [e10, upd2_ne (.inr (by decide)), e9, upd2_ne (.inr (by decide)), e8, upd2_self]) (by rw [e10, upd2_ne (.inr (by decide)), e9, upd2_self]) (by rw [e10, upd2_self]; first | exact mLf_e2 i4 i0 i5 hw | exact mLf_e1 i4 i0 (by omega) i5)
      · have hw := ylcmp.1 h_7
        refine y_aload rfl rfl ?_
        refine y_iload rfl rfl ?_
        refine y_ldcI (v := (99999 : Int)) rfl rfl rfl (by decide) ?_
        refine y_aload_n rfl rfl ?_
        refine y_getR rfl (ySh.t hS rfl) (ySh.n hS rfl) rfl rfl (ySh.r hS rfl) ?_
        refine y_iload rfl rfl ?_
        refine y_iaload rfl (ySh.t hS rfl) (ySh.n hS rfl) (by omega) (by omega) ?_
        refine y_isub rfl ?_
        refine y_iload rfl rfl ?_
        refine y_i2l rfl ?_
        refine y_aload_n rfl rfl ?_
        refine y_getR rfl (ySh.t hS rfl) (ySh.n hS rfl) rfl rfl (ySh.r hS rfl) ?_
        refine y_iload rfl rfl ?_
        refine y_iaload rfl (ySh.t hS rfl) (ySh.n hS rfl) (by omega) (by omega) ?_
        refine y_i2l rfl ?_
        refine y_lmul rfl ?_
        refine y_lload rfl rfl ?_
        refine y_ldiv rfl (yne0 hw) ?_
        refine y_l2i rfl ?_
        refine y_min rfl rfl ?_
        refine y_iastore rfl ht_pa ha_pa (Nat.le_trans (by decide) (by omega : 94 ≤ _)) (by omega) (by omega) ?_
        refine y_nameI (fun I11 e11 => ?_)
        have hX := hX.upI (by omega) (upI e11)
        have hS := hS0.x hX
        have hR := hR0.x hn hX
        have hz := hX.sz h94
        have hxn := hX.1
        refine y_iload rfl rfl ?_
        refine y_aload rfl rfl ?_
        refine y_iload rfl rfl ?_
        refine y_iaload rfl ht_pa ha_pa (by omega) (by omega) ?_
        refine y_isub rfl ?_
        refine y_istore (ls' := [some _, some _, some _, some _, some _, some _, some _, some _, some _, _, some _, some _, _, _]) rfl rfl rfl ?_
        refine y_iinc (ls' := [some _, some _, some _, some _, some _, some _, some _, some _, some _, _, some _, some _, _, _]) rfl rfl rfl rfl ?_
        refine y_goto rfl j_X14_shared_121 ?_
        exact ih _ _ _ _ _ _ hX ht_pa ha_pa (by first | omega | (rw [yinc (by omega)]; omega)) (by first | omega | (rw [yinc (by omega)]; omega)) (fun j hj => by
            rw [yinc (by omega)] at hj
            rw [e11]
            by_cases hjx : j = x11.toInt.toNat
            · rw [hjx, upd2_self, h85, h86]; rfl
            · rw [upd2_ne (.inr hjx)]; exact i2 j (by omega)) (fun j hj => by
            rw [yinc (by omega)] at hj
            rw [e11, upd2_ne (.inr (by omega))]; exact i3 j (by omega)) (by rw [yinc (by omega), show (x11.toInt + 1).toNat = x11.toInt.toNat + 1 by omega, i4]; show _ = mLf I x6 x8 x11.toInt.toNat - mMd I x6 x8 x11.toInt.toNat; rw [e11, upd2_self, h85, h86]; rfl) (.inr hw) (by first | omega | (rw [yinc (by omega)]; omega))
theorem r_sharedX (hS0 : ySh n tg R) (hR0 : yRI K nb tg I R) (hn : nb ≤ n) {x1 x2 x3 : Int32} {al : Int} (hal : ySum (fun j => yHv I R 4 j (I 87 2).toInt.toNat) 5 = al) (hQ : ∀ own more rest : Int32, own = x1 * x3 / Int32.ofInt 100 → more = mMor (x1 - own) x2 (I 83 3) al → rest = x1 - own - more → ∀ b n1 tg1 I1 R1 c1 s1, yX n tg I R n1 tg1 I1 R1 → n ≤ b → b < n1 → tg1 b = (0, 11) → (∀ j : Nat, j < 8 → I1 b j = if (j : Int) < (I 83 8).toInt ∧ 0 < (mWs (I 86) 8) then mMd I rest (mWs (I 86) 8) j else 0) → I1 b 8 = own → I1 b 9 = more → I1 b 10 = (if 0 < (mWs (I 86) 8) then mLf I rest (mWs (I 86) 8) (I 83 8).toInt.toNat else rest) → c1 ≤ c + 3 → s1 ≤ s + 20 → Q (.inl (some (.ref b))) (n1, tg1, I1, R1) c1 s1) : yC 217 [.ref 83, .int x1, .int x2, .int x3] (n, tg, I, R) c s Q := by
  have hX : yX n tg I R n tg I R := yX.rf
  have hS := hS0
  have hR := hR0
  have h94 : 94 ≤ n := hS0.1
  have hz : ySz I I := hX.sz h94
  have hxn := hX.1
  have hN := hR0.1
  have hnb : 94 ≤ nb := hR0.2.2.2.2.2.2
  refine y_in (M := xm_X14_shared) (ls := [some _, some _, some _, some _, _, _, _, _, _, _, _, _, _, _]) rfl rfl rfl ?_
  refine y_bip rfl (by decide) ?_
  refine y_newarrL (m := 11) rfl rfl (by decide) (by decide) rfl (fun n1 tg1 I1 R1 hA => ?_)
  have hnA := hA.1
  have ht_f2 : tg1 n = (0, 11) := hA.2.1
  have ha_f2 : n < n1 := by omega
  have hX := hX.trans (hA.x rfl)
  have hS := hS0.x hX
  have hR := hR0.x hn hX
  have hz := hX.sz h94
  have hxn := hX.1
  have hz_f2 : ∀ k, I1 n k = 0 := hA.2.2.1
  refine y_astore (ls' := [some _, some _, some _, some _, some _, _, _, _, _, _, _, _, _, _]) rfl rfl rfl ?_
  refine y_iload_n rfl rfl ?_
  refine y_iload_n rfl rfl ?_
  refine y_imul rfl ?_
  refine y_bip rfl (by decide) ?_
  refine y_idiv rfl (by decide) ?_
  refine y_istore (ls' := [some _, some _, some _, some _, some _, some _, _, _, _, _, _, _, _, _]) rfl rfl rfl ?_
  refine y_iload_n rfl rfl ?_
  refine y_iload rfl rfl ?_
  refine y_isub rfl ?_
  refine y_istore (ls' := [some _, some _, some _, some _, some _, some _, some _, _, _, _, _, _, _, _]) rfl rfl rfl ?_
  refine y_iconst rfl ?_
  refine y_istore (ls' := [some _, some _, some _, some _, some _, some _, some _, some _, _, _, _, _, _, _]) rfl rfl rfl ?_
  refine y_aload_n rfl rfl ?_
  refine y_iconst rfl ?_
  refine y_aload_n rfl rfl ?_
  refine y_getIv (v := I 83 1) rfl (ySh.t hS rfl) (ySh.n hS rfl) rfl rfl (congrFun (hX.2.1 83 (by omega)).2.1 1) ?_
  refine y_virt rfl rfl rfl rfl rfl (ySh.t hS rfl) (ySh.n hS rfl) ?_
  have hal_c : ySum (fun j => yHv I1 R1 (Int32.ofInt 4).toInt j (I1 87 2).toInt.toNat) 5 = al := (ySum_eq fun j _ => yHv_x hR0 hn hX).trans hal
  refine s_isAllowed hS hR (Nat.le_trans hn hX.1) (Int.le_of_eq (congrArg Int32.toInt (congrFun (hX.2.1 83 (by omega)).2.1 1))) (fun ha_3 n3 tg3 I3 R3 c_3 s_3 hX1 hc_3 hs_3 => ?_) (fun ha_4 n4 tg4 I4 R4 c_4 s_4 hX1 hc_4 hs_4 => ?_)
  · rw [hal_c] at ha_3
    have hnA := hX1.1
    have hz_f2 : ∀ k, I3 n k = 0 := fun k => by rw [(hX1.2.1 _ ha_f2).2.1]; exact hz_f2 k
    have ht_f2 := (hX1.2.1 _ ha_f2).1.trans ht_f2
    have ha_f2 : n < n3 := by omega
    have hX := hX.trans hX1
    have hS := hS0.x hX
    have hR := hR0.x hn hX
    have hz := hX.sz h94
    have hxn := hX.1
    refine y_ret1 ?_
    refine y_if_eqF rfl (by decide) ?_
    refine y_iload rfl rfl ?_
    refine y_iload_n rfl rfl ?_
    refine y_icmp_le rfl j_X14_shared_48 (fun h_5 => ?_) (fun h_6 => ?_)
    · refine y_aload_n rfl rfl ?_
      refine y_getIv (v := I 83 3) rfl (ySh.t hS rfl) (ySh.n hS rfl) rfl rfl (congrFun (hX.2.1 83 (by omega)).2.1 3) ?_
      refine y_iload_n rfl rfl ?_
      refine y_iload rfl rfl ?_
      refine y_isub rfl ?_
      refine y_min rfl rfl ?_
      refine y_ineg rfl ?_
      refine y_istore (ls' := [some _, some _, some _, some _, some _, some _, some _, some _, _, _, _, _, _, _]) rfl rfl rfl ?_
      refine y_iload rfl rfl ?_
      refine y_iload rfl rfl ?_
      refine y_isub rfl ?_
      refine y_istore (ls' := [some _, some _, some _, some _, some _, some _, some _, some _, _, _, _, _, _, _]) rfl rfl rfl ?_
      refine y_lconst rfl ?_
      refine y_lstore (ls' := [some _, some _, some _, some _, some _, some _, some _, some _, some _, _, _, _, _, _]) rfl rfl rfl ?_
      refine y_aload_n rfl rfl ?_
      refine y_getR rfl (ySh.t hS rfl) (ySh.n hS rfl) rfl rfl (ySh.r hS rfl) ?_
      refine y_astore (ls' := [some _, some _, some _, some _, some _, some _, some _, some _, some _, _, some _, _, _, _]) rfl rfl rfl ?_
      refine y_aload rfl rfl ?_
      refine y_alenI (v := 8) rfl (ySh.t hS rfl) rfl (ySh.n hS rfl) (by decide) ?_
      refine y_istore (ls' := [some _, some _, some _, some _, some _, some _, some _, some _, some _, _, some _, some _, _, _]) rfl rfl rfl ?_
      refine y_iconst rfl ?_
      refine y_istore (ls' := [some _, some _, some _, some _, some _, some _, some _, some _, some _, _, some _, some _, some _, _]) rfl rfl rfl ?_
      refine lp_r_sharedW hS hR (Nat.le_trans hn hX.1) ?_ 100 _ _ _ (by decide) (by decide) (by decide) rfl (by decide)
      rw [show mWs (I3 86) 8 = mWs (I 86) 8 by rw [(hX.2.1 86 (by omega)).2.1]]
      refine y_iload rfl rfl ?_
      refine y_istore (ls' := [some _, some _, some _, some _, some _, some _, some _, some _, some _, _, some _, _, _, _]) rfl rfl rfl ?_
      refine y_iconst rfl ?_
      refine y_istore (ls' := [some _, some _, some _, some _, some _, some _, some _, some _, some _, _, some _, some _, _, _]) rfl rfl rfl ?_
      exact lx_sharedX2 hS0 hR0 hn (by omega) (fun n1 tg1 I1 R1 hX2 h1 h2 m0 m8 m9 m10 => hQ _ _ _ rfl (by first | exact mMor_0 (by omega) | exact mMor_1 (by omega) (by omega) | exact mMor_2 (by omega) (by omega)) rfl _ _ _ _ _ _ _ hX2 (by omega) h1 h2 m0 m8 m9 m10 (by omega) (by omega)) 100 _ _ _ _ _ _ hX ht_f2 ha_f2 (by decide) (by rw [yz_0]; omega) (fun j hj => by rw [yz_0] at hj; omega) (fun j _ => hz_f2 j) rfl (.inl (by decide)) (by rw [yz_0]; omega)
    · refine y_iload rfl rfl ?_
      refine y_iload_n rfl rfl ?_
      refine y_isub rfl ?_
      refine y_goto rfl j_X14_shared_60 ?_
      refine y_istore (ls' := [some _, some _, some _, some _, some _, some _, some _, some _, _, _, _, _, _, _]) rfl rfl rfl ?_
      refine y_iload rfl rfl ?_
      refine y_iload rfl rfl ?_
      refine y_isub rfl ?_
      refine y_istore (ls' := [some _, some _, some _, some _, some _, some _, some _, some _, _, _, _, _, _, _]) rfl rfl rfl ?_
      refine y_lconst rfl ?_
      refine y_lstore (ls' := [some _, some _, some _, some _, some _, some _, some _, some _, some _, _, _, _, _, _]) rfl rfl rfl ?_
      refine y_aload_n rfl rfl ?_
      refine y_getR rfl (ySh.t hS rfl) (ySh.n hS rfl) rfl rfl (ySh.r hS rfl) ?_
      refine y_astore (ls' := [some _, some _, some _, some _, some _, some _, some _, some _, some _, _, some _, _, _, _]) rfl rfl rfl ?_
      refine y_aload rfl rfl ?_
      refine y_alenI (v := 8) rfl (ySh.t hS rfl) rfl (ySh.n hS rfl) (by decide) ?_
      refine y_istore (ls' := [some _, some _, some _, some _, some _, some _, some _, some _, some _, _, some _, some _, _, _]) rfl rfl rfl ?_
      refine y_iconst rfl ?_
      refine y_istore (ls' := [some _, some _, some _, some _, some _, some _, some _, some _, some _, _, some _, some _, some _, _]) rfl rfl rfl ?_
      refine lp_r_sharedW hS hR (Nat.le_trans hn hX.1) ?_ 100 _ _ _ (by decide) (by decide) (by decide) rfl (by decide)
      rw [show mWs (I3 86) 8 = mWs (I 86) 8 by rw [(hX.2.1 86 (by omega)).2.1]]
      refine y_iload rfl rfl ?_
      refine y_istore (ls' := [some _, some _, some _, some _, some _, some _, some _, some _, some _, _, some _, _, _, _]) rfl rfl rfl ?_
      refine y_iconst rfl ?_
      refine y_istore (ls' := [some _, some _, some _, some _, some _, some _, some _, some _, some _, _, some _, some _, _, _]) rfl rfl rfl ?_
      exact lx_sharedX2 hS0 hR0 hn (by omega) (fun n1 tg1 I1 R1 hX2 h1 h2 m0 m8 m9 m10 => hQ _ _ _ rfl (by first | exact mMor_0 (by omega) | exact mMor_1 (by omega) (by omega) | exact mMor_2 (by omega) (by omega)) rfl _ _ _ _ _ _ _ hX2 (by omega) h1 h2 m0 m8 m9 m10 (by omega) (by omega)) 100 _ _ _ _ _ _ hX ht_f2 ha_f2 (by decide) (by rw [yz_0]; omega) (fun j hj => by rw [yz_0] at hj; omega) (fun j _ => hz_f2 j) rfl (.inl (by decide)) (by rw [yz_0]; omega)
  · rw [hal_c] at ha_4
    have hnA := hX1.1
    have hz_f2 : ∀ k, I4 n k = 0 := fun k => by rw [(hX1.2.1 _ ha_f2).2.1]; exact hz_f2 k
    have ht_f2 := (hX1.2.1 _ ha_f2).1.trans ht_f2
    have ha_f2 : n < n4 := by omega
    have hX := hX.trans hX1
    have hS := hS0.x hX
    have hR := hR0.x hn hX
    have hz := hX.sz h94
    have hxn := hX.1
    refine y_ret1 ?_
    refine y_if_eqT rfl j_X14_shared_62 (by decide) ?_
    refine y_iload rfl rfl ?_
    refine y_iload rfl rfl ?_
    refine y_isub rfl ?_
    refine y_istore (ls' := [some _, some _, some _, some _, some _, some _, some _, some _, _, _, _, _, _, _]) rfl rfl rfl ?_
    refine y_lconst rfl ?_
    refine y_lstore (ls' := [some _, some _, some _, some _, some _, some _, some _, some _, some _, _, _, _, _, _]) rfl rfl rfl ?_
    refine y_aload_n rfl rfl ?_
    refine y_getR rfl (ySh.t hS rfl) (ySh.n hS rfl) rfl rfl (ySh.r hS rfl) ?_
    refine y_astore (ls' := [some _, some _, some _, some _, some _, some _, some _, some _, some _, _, some _, _, _, _]) rfl rfl rfl ?_
    refine y_aload rfl rfl ?_
    refine y_alenI (v := 8) rfl (ySh.t hS rfl) rfl (ySh.n hS rfl) (by decide) ?_
    refine y_istore (ls' := [some _, some _, some _, some _, some _, some _, some _, some _, some _, _, some _, some _, _, _]) rfl rfl rfl ?_
    refine y_iconst rfl ?_
    refine y_istore (ls' := [some _, some _, some _, some _, some _, some _, some _, some _, some _, _, some _, some _, some _, _]) rfl rfl rfl ?_
    refine lp_r_sharedW hS hR (Nat.le_trans hn hX.1) ?_ 100 _ _ _ (by decide) (by decide) (by decide) rfl (by decide)
    rw [show mWs (I4 86) 8 = mWs (I 86) 8 by rw [(hX.2.1 86 (by omega)).2.1]]
    refine y_iload rfl rfl ?_
    refine y_istore (ls' := [some _, some _, some _, some _, some _, some _, some _, some _, some _, _, some _, _, _, _]) rfl rfl rfl ?_
    refine y_iconst rfl ?_
    refine y_istore (ls' := [some _, some _, some _, some _, some _, some _, some _, some _, some _, _, some _, some _, _, _]) rfl rfl rfl ?_
    exact lx_sharedX2 hS0 hR0 hn (by omega) (fun n1 tg1 I1 R1 hX2 h1 h2 m0 m8 m9 m10 => hQ _ _ _ rfl (by first | exact mMor_0 (by omega) | exact mMor_1 (by omega) (by omega) | exact mMor_2 (by omega) (by omega)) rfl _ _ _ _ _ _ _ hX2 (by omega) h1 h2 m0 m8 m9 m10 (by omega) (by omega)) 100 _ _ _ _ _ _ hX ht_f2 ha_f2 (by decide) (by rw [yz_0]; omega) (fun j hj => by rw [yz_0] at hj; omega) (fun j _ => hz_f2 j) rfl (.inl (by decide)) (by rw [yz_0]; omega)
/-- what is made is given: deposits grow, weights end -/
def mShS (ms : Nat → Int32) (J : Nat → Nat → Int32) (k : Nat) : Nat → Nat → Int32 := upd2 (upd2 J 85 k (J 85 k + ms k)) 86 k (Int32.ofInt 0)
def mSm (ms : Nat → Int32) : Nat → Int32
  | 0 => Int32.ofInt 0
  | k + 1 => mSm ms k + ms k
def mShD (G : Nat → Nat → Int32) (ms : Nat → Int32) : Nat → Nat → Int32 := upd2 (upd2 (upd2 (yRec (mShS ms) G 8) 84 8 (G 84 8 + ms 8)) 83 3 (G 83 3 + ms 9)) 83 2 (G 83 2 + ms 10)
theorem mShS_row {ms : Nat → Int32} {J : Nat → Nat → Int32} {k a : Nat} (h5 : a ≠ 85) (h6 : a ≠ 86) : mShS ms J k a = J a := by
  unfold mShS
  rw [upd2_row h6, upd2_row h5]
theorem mShD_row {ms : Nat → Int32} {G : Nat → Nat → Int32} {a : Nat} (h3 : a ≠ 83) (h4 : a ≠ 84) (h5 : a ≠ 85) (h6 : a ≠ 86) : mShD G ms a = G a := by
  unfold mShD
  rw [upd2_row h3, upd2_row h3, upd2_row h4]
  exact yRec_keep fun J k _ _ => mShS_row h5 h6
theorem mShD_83 {ms : Nat → Int32} {G : Nat → Nat → Int32} {k : Nat} (h2 : k ≠ 2) (h3 : k ≠ 3) : mShD G ms 83 k = G 83 k := by
  unfold mShD
  rw [upd2_ne (.inr h2), upd2_ne (.inr h3), upd2_row (by decide)]
  exact congrFun (yRec_keep fun J k _ _ => mShS_row (by decide) (by decide)) k
theorem mShD_ri {ms : Nat → Int32} {G : Nat → Nat → Int32} (h : yRI K n tg G R) : yRI K n tg (mShD G ms) R := by
  have h1 : yRI K n tg (yRec (mShS ms) G 8) R := yRec_ind (S := mShS ms) (P := fun J => yRI K n tg J R) h fun J k _ hJ => (hJ.arr rfl (by decide)).arr rfl (by decide)
  exact ((h1.arr rfl (by decide)).mod0 rfl (by decide) (by decide)).mod0 rfl (by decide) (by decide)
theorem lx_share {tg0 : Nat → yT} {G0 : Nat → Nat → Int32} {R0 : Nat → Nat → Value} {x1 x2 x3 : Int32} {md : Nat} {ms : Nat → Int32} (hS : ySh n tg R) (hnb : 94 ≤ nb) (ht_pa : tg md = (0, 11)) (ha_pa : md < n) (hmd : nb ≤ md) (hQ : ∀ (v : Int32) I1, v = mSm ms 8 → yX nb tg0 (mShD G0 ms) R0 n tg I1 R → Q (.inl (some (.int v))) (n, tg, I1, R) c s) :
    ∀ (m : Nat) (x5 x6 : Int32) (I1 : Nat → Nat → Int32), yX nb tg0 (yRec (mShS ms) G0 x6.toInt.toNat) R0 n tg I1 R → (∀ j, j < 11 → I1 md j = ms j) → x5 = mSm ms x6.toInt.toNat → 0 ≤ x6.toInt → x6.toInt ≤ 8 → 8 - x6.toInt < m → yW xm_X14_share xc_X14_share_72 [some (.ref 83), some (.int x1), some (.int x2), some (.int x3), some (.ref md), some (.int x5), some (.int x6)] [] (n, tg, I1, R) c s Q := by
  intro m
  induction m with
  | zero => intro x5 x6 I1 hX hms i2 i0 i1 hm; exfalso; omega
  | succ m ih =>
    intro x5 x6 I1 hX hms i2 i0 i1 hm
    refine y_iload rfl rfl ?_
    refine y_bip rfl (by decide) ?_
    refine y_icmp_ge rfl j_X14_share_118 (fun h_1 => ?_) (fun h_2 => ?_)
    · rw [yz_8] at h_1
      have h8 : x6.toInt.toNat = 8 := by omega
      rw [h8] at hX i2
      refine y_aload_n rfl rfl ?_
      refine y_getR rfl (ySh.t hS rfl) (ySh.n hS rfl) rfl rfl (ySh.r hS rfl) ?_
      refine y_bip rfl (by decide) ?_
      refine y_dup2 rfl rfl rfl ?_
      refine y_ialoadC (j := 8) rfl (ySh.t hS rfl) (ySh.n hS rfl) (by decide) (by decide) rfl ?_
      refine y_aload rfl rfl ?_
      refine y_bip rfl (by decide) ?_
      refine y_ialoadC (j := 8) rfl ht_pa ha_pa (by decide) (by decide) rfl ?_
      refine y_iadd rfl ?_
      refine y_iastoreC (j := 8) rfl (ySh.t hS rfl) (ySh.n hS rfl) (Nat.le_of_ble_eq_true rfl) (by decide) (by decide) rfl ?_
      refine y_nameI (fun J1_ e1_ => ?_)
      have hX := hX.wr e1_ (show _ = G0 84 8 + ms 8 by rw [hms 8 (by decide), hX.n (show 84 < nb by omega), show yRec (mShS ms) G0 8 84 = G0 84 from yRec_keep fun J k _ _ => mShS_row (by decide) (by decide)])
      have hmd1 : J1_ md = I1 md := by rw [e1_, upd2_row (by omega)]
      refine y_aload_n rfl rfl ?_
      refine y_dup rfl rfl ?_
      refine y_getI rfl (ySh.t hS rfl) (ySh.n hS rfl) rfl rfl ?_
      refine y_aload rfl rfl ?_
      refine y_bip rfl (by decide) ?_
      refine y_ialoadC (j := 9) rfl ht_pa ha_pa (by decide) (by decide) rfl ?_
      refine y_iadd rfl ?_
      refine y_putI rfl (ySh.t hS rfl) (ySh.n hS rfl) rfl (Nat.le_of_ble_eq_true rfl) rfl rfl ?_
      refine y_nameI (fun J2_ e2_ => ?_)
      have hX := hX.wr e2_ (show _ = G0 83 3 + ms 9 by rw [hmd1, hms 9 (by decide), hX.n (show 83 < nb by omega), upd2_row (by decide), show yRec (mShS ms) G0 8 83 = G0 83 from yRec_keep fun J k _ _ => mShS_row (by decide) (by decide)])
      have hmd2 : J2_ md = I1 md := by rw [e2_, upd2_row (by omega), e1_, upd2_row (by omega)]
      refine y_aload_n rfl rfl ?_
      refine y_dup rfl rfl ?_
      refine y_getI rfl (ySh.t hS rfl) (ySh.n hS rfl) rfl rfl ?_
      refine y_aload rfl rfl ?_
      refine y_bip rfl (by decide) ?_
      refine y_ialoadC (j := 10) rfl ht_pa ha_pa (by decide) (by decide) rfl ?_
      refine y_iadd rfl ?_
      refine y_putI rfl (ySh.t hS rfl) (ySh.n hS rfl) rfl (Nat.le_of_ble_eq_true rfl) rfl rfl ?_
      refine y_nameI (fun J3_ e3_ => ?_)
      have hX := hX.wr e3_ (show _ = G0 83 2 + ms 10 by rw [hmd2, hms 10 (by decide), hX.n (show 83 < nb by omega), upd2_ne (.inr (by decide)), upd2_row (by decide), show yRec (mShS ms) G0 8 83 = G0 83 from yRec_keep fun J k _ _ => mShS_row (by decide) (by decide)])
      have hmd3 : J3_ md = I1 md := by rw [e3_, upd2_row (by omega), e2_, upd2_row (by omega), e1_, upd2_row (by omega)]
      refine y_iload rfl rfl ?_
      refine y_ireturn rfl rfl rfl ?_
      exact hQ _ _ i2 hX
    · rw [yz_8] at h_2
      refine y_aload_n rfl rfl ?_
      refine y_getR rfl (ySh.t hS rfl) (ySh.n hS rfl) rfl rfl (ySh.r hS rfl) ?_
      refine y_iload rfl rfl ?_
      refine y_dup2 rfl rfl rfl ?_
      refine y_iaload rfl (ySh.t hS rfl) (ySh.n hS rfl) (by omega) (by omega) ?_
      refine y_aload rfl rfl ?_
      refine y_iload rfl rfl ?_
      refine y_iaload rfl ht_pa ha_pa (by omega) (by omega) ?_
      refine y_iadd rfl ?_
      refine y_iastore rfl (ySh.t hS rfl) (ySh.n hS rfl) (Nat.le_of_ble_eq_true rfl) (by omega) (by omega) ?_
      refine y_nameI (fun J1_ e1_ => ?_)
      have hX := hX.wr e1_ (show _ = yRec (mShS ms) G0 x6.toInt.toNat 85 x6.toInt.toNat + ms x6.toInt.toNat by rw [hms _ (by omega), hX.n (show 85 < nb by omega)])
      have hmd1 : J1_ md = I1 md := by rw [e1_, upd2_row (by omega)]
      refine y_iload rfl rfl ?_
      refine y_aload rfl rfl ?_
      refine y_iload rfl rfl ?_
      refine y_iaload rfl ht_pa ha_pa (by omega) (by omega) ?_
      refine y_iadd rfl ?_
      refine y_istore (ls' := [some _, some _, some _, some _, some _, some _, some _]) rfl rfl rfl ?_
      refine y_aload_n rfl rfl ?_
      refine y_getR rfl (ySh.t hS rfl) (ySh.n hS rfl) rfl rfl (ySh.r hS rfl) ?_
      refine y_iload rfl rfl ?_
      refine y_iconst rfl ?_
      refine y_iastore rfl (ySh.t hS rfl) (ySh.n hS rfl) (Nat.le_of_ble_eq_true rfl) (by omega) (by omega) ?_
      refine y_nameI (fun J2_ e2_ => ?_)
      have hX := hX.wr e2_ (rfl)
      have hmd2 : J2_ md = I1 md := by rw [e2_, upd2_row (by omega), e1_, upd2_row (by omega)]
      refine y_iinc (ls' := [some _, some _, some _, some _, some _, some _, some _]) rfl rfl rfl rfl ?_
      refine y_goto rfl j_X14_share_72 ?_
      exact ih _ _ _ (by rw [yinc (by omega), show (x6.toInt + 1).toNat = x6.toInt.toNat + 1 by omega]; exact hX) (fun j hj => by rw [hmd2]; exact hms j hj) (by rw [yinc (by omega), show (x6.toInt + 1).toNat = x6.toInt.toNat + 1 by omega]; show _ = mSm ms x6.toInt.toNat + ms x6.toInt.toNat; rw [i2, hmd1, hms _ (by omega)]) (by rw [yinc (by omega)]; omega) (by rw [yinc (by omega)]; omega) (by rw [yinc (by omega)]; omega)
theorem mMd_cg {I I' : Nat → Nat → Int32} (h5 : I' 85 = I 85) (h6 : I' 86 = I 86) {r : Int32} {w : Int64} {k : Nat} : mMd I' r w k = mMd I r w k := by
  unfold mMd
  rw [h5, h6]
theorem mLf_cg {I I' : Nat → Nat → Int32} (h5 : I' 85 = I 85) (h6 : I' 86 = I 86) {r : Int32} {w : Int64} : ∀ {k : Nat}, mLf I' r w k = mLf I r w k
  | 0 => rfl
  | k + 1 => by
    show mLf I' r w k - mMd I' r w k = mLf I r w k - mMd I r w k
    rw [mLf_cg h5 h6, mMd_cg h5 h6]
theorem mSh_kp {ms : Nat → Int32} {z y1 y2 : Int32} (h : yRI K n tg I R) : yKp n tg I R n tg (mShD (upd2 (upd2 (upd2 I 83 0 z) 83 5 y1) 83 6 y2) ms) R := by
  have hr : ∀ a, a ≠ 83 → upd2 (upd2 (upd2 I 83 0 z) 83 5 y1) 83 6 y2 a = I a := fun a ha => by rw [upd2_row ha, upd2_row ha, upd2_row ha]
  refine yKp.of (fun a ha => (mShD_row (by omega) (by omega) (by omega) (by omega)).trans (hr a (by omega))) ((mShD_row (by decide) (by decide) (by decide) (by decide)).trans (hr 87 (by decide))) (fun i hi => ?_) ?_
  · have hq := (h.l87.2.2.2.2 i hi).2.1
    exact (mShD_row (by omega) (by omega) (by omega) (by omega)).trans (hr _ (by omega))
  · rw [mShD_83 (by decide) (by decide), upd2_ne (.inr (by decide)), upd2_ne (.inr (by decide)), upd2_ne (.inr (by decide))]
theorem h_share (hS0 : ySh n tg R) (hR0 : yRI K n tg I R) (hk6 : K < 600) {x1 x2 x3 : Int32} {al : Int} (hal : ySum (fun j => yHv I R 4 j (I 87 2).toInt.toNat) 5 = al) (hQ1 : ¬ ((0 ≤ x1.toInt ∧ x1.toInt ≤ 9999) ∧ (0 ≤ x2.toInt ∧ x2.toInt ≤ 999) ∧ (0 ≤ x3.toInt ∧ x3.toInt ≤ 50)) → ∀ (v : Int32) n1 tg1 I1 R1 c1 s1, ySh n1 tg1 R1 → yRI (K + 1) n1 tg1 I1 R1 → yKp n tg I R n1 tg1 I1 R1 → I1 83 0 = Int32.ofInt 1 → yRf n I R I1 R1 → c1 ≤ c + 3 → s1 ≤ s + 20 → Q (.inl (some (.int v))) (n1, tg1, I1, R1) c1 s1) (hQ0 : ∀ (own more rest : Int32) (ms : Nat → Int32), own = x1 * x3 / Int32.ofInt 100 → more = mMor (x1 - own) x2 (I 83 3) al → rest = x1 - own - more → (∀ j : Nat, j < 8 → ms j = if (j : Int) < (I 83 8).toInt ∧ 0 < (mWs (I 86) 8) then mMd I rest (mWs (I 86) 8) j else 0) → ms 8 = own → ms 9 = more → ms 10 = (if 0 < (mWs (I 86) 8) then mLf I rest (mWs (I 86) 8) (I 83 8).toInt.toNat else rest) → ((0 ≤ x1.toInt ∧ x1.toInt ≤ 9999) ∧ (0 ≤ x2.toInt ∧ x2.toInt ≤ 999) ∧ (0 ≤ x3.toInt ∧ x3.toInt ≤ 50)) → ∀ (v : Int32) n1 tg1 I1 R1 c1 s1, ySh n1 tg1 R1 → yRI (K + 1) n1 tg1 I1 R1 → yKp n tg I R n1 tg1 I1 R1 → I1 83 0 = Int32.ofInt 0 → v = mSm ms 8 → yX n tg (mShD (upd2 (upd2 (upd2 I 83 0 (Int32.ofInt 0)) 83 5 x2) 83 6 x3) ms) R n1 tg1 I1 R1 → c1 ≤ c + 3 → s1 ≤ s + 20 → Q (.inl (some (.int v))) (n1, tg1, I1, R1) c1 s1) : yC 218 [.ref 83, .int x1, .int x2, .int x3] (n, tg, I, R) c s Q := by
  have hno := Nat.le_refl n
  have hn := hno
  have hRo := hR0
  have hK : yKp n tg I R n tg I R := yKp.rf
  have hX : yX n tg I R n tg I R := yX.rf
  have hS := hS0
  have hR := hR0
  have h94 : 94 ≤ n := hS0.1
  have hz : ySz I I := hX.sz h94
  have hxn := hX.1
  have hN := hR0.1
  have hnb : 94 ≤ n := hR0.2.2.2.2.2.2
  have hg : yGm n I I := yGm.rf
  have hday : I 83 1 = I 83 1 := rfl
  have hb83 : ∀ a, a ≠ 83 → a < n → I a = I a := fun _ _ _ => rfl
  have hRb : ∀ a, a < n → R a = R a := fun _ _ => rfl
  have hB : yX n tg I R n tg I R := yX.rf
  have h8 : ∀ a, 84 ≤ a → a ≤ 86 → I a = I a := fun _ _ _ => rfl
  have h3k : ∀ k, k ≠ 0 → I 83 k = I 83 k := fun _ _ => rfl
  refine y_in (M := xm_X14_share) (ls := [some _, some _, some _, some _, _, _, _]) rfl rfl rfl ?_
  refine y_aload_n rfl rfl ?_
  refine y_iload_n rfl rfl ?_
  refine y_iconst rfl ?_
  refine y_sip rfl (by decide) ?_
  refine y_static rfl rfl rfl rfl rfl ?_
  refine r_isIn (fun h_1 h_2 => ?_) (fun h_3 => ?_)
  · rw [yz_0] at h_1
    rw [yz_9999] at h_2
    refine y_ret1 ?_
    refine y_if_eqF rfl (by decide) ?_
    refine y_iload_n rfl rfl ?_
    refine y_iconst rfl ?_
    refine y_sip rfl (by decide) ?_
    refine y_static rfl rfl rfl rfl rfl ?_
    refine r_isIn (fun h_4 h_5 => ?_) (fun h_6 => ?_)
    · rw [yz_0] at h_4
      rw [yz_999] at h_5
      refine y_ret1 ?_
      refine y_if_eqF rfl (by decide) ?_
      refine y_iload_n rfl rfl ?_
      refine y_iconst rfl ?_
      refine y_bip rfl (by decide) ?_
      refine y_static rfl rfl rfl rfl rfl ?_
      refine r_isIn (fun h_7 h_8 => ?_) (fun h_9 => ?_)
      · rw [yz_0] at h_7
        rw [yz_50] at h_8
        refine y_ret1 ?_
        refine y_if_neT rfl j_X14_share_37 (by decide) ?_
        refine y_iconst rfl ?_
        refine y_iconst rfl ?_
        refine y_virt rfl rfl rfl rfl rfl (ySh.t hS rfl) (ySh.n hS rfl) ?_
        refine y_in (M := xm_X14_start) (ls := [some _, some _, some _]) rfl rfl rfl ?_
        refine y_aload_n rfl rfl ?_
        refine y_iconst rfl ?_
        refine y_putI rfl (ySh.t hS rfl) (ySh.n hS rfl) rfl (Nat.le_of_ble_eq_true rfl) rfl rfl ?_
        refine y_nameI (fun I10 e10 => ?_)
        have hR1 := (hR0.grow hX).mod0 e10 (by decide) (by decide)
        have hK := (hK.x hRo hno hX).upI (upI e10) (by decide) (by decide) (fun i hi => by have := (hRo.l87.2.2.2.2 i hi).2.1; omega) (by rw [e10, upd2_ne (.inr (by decide))]; exact Int.le_refl _)
        have hth : I10 83 0 = Int32.ofInt (0) := by rw [e10, upd2_self]
        have hzz : ySz8 I I10 := ySz8_of (upI e10) (by rw [e10]; exact ⟨upd2_ne (.inr (by decide)), upd2_ne (.inr (by decide))⟩)
        have hB := (hB.trans hX).wr e10 rfl
        have h8 : ∀ a, 84 ≤ a → a ≤ 86 → I10 a = I a := fun a h1 h2 => (upI e10 a (by omega)).trans ((hX.2.1 a (by omega)).2.1.trans (h8 a h1 h2))
        have h3k : ∀ k, k ≠ 0 → I10 83 k = I 83 k := fun k hk => (congrFun (congrFun e10 83) k).trans ((upd2_ne (.inr hk)).trans ((congrFun (hX.2.1 83 (by omega)).2.1 k).trans (h3k k hk)))
        have hg := (hg.gx hX (by omega)).skip e10 (by decide)
        have hday : I10 83 1 = I 83 1 := (congrFun (congrFun e10 83) 1).trans ((upd2_ne (.inr (by decide))).trans ((congrFun (hX.2.1 83 (by omega)).2.1 1).trans hday))
        have hRb : ∀ a, a < n → R a = R a := fun a ha => (hX.2.1 a (by omega)).2.2.trans (hRb a ha)
        have hb83 : ∀ a, a ≠ 83 → a < n → I10 a = I a := fun a ha hb => (upI e10 a ha).trans ((hX.2.1 a (by omega)).2.1.trans (hb83 a ha hb))
        have hS0 := hS
        have hR0 := hR1
        have hn := Nat.le_refl n
        have h94 := hS0.1
        have hX := @yX.rf n tg I10 R
        have hS := hS0.x hX
        have hR := hR0.x hn hX
        have hz := hX.sz h94
        have hxn := hX.1
        have hN := hR0.1
        have hnb := hR0.2.2.2.2.2.2
        have hthB := hth
        refine y_aload_n rfl rfl ?_
        refine y_iload_n rfl rfl ?_
        refine y_iload_n rfl rfl ?_
        refine y_virt rfl rfl rfl rfl rfl (ySh.t hS rfl) (ySh.n hS rfl) ?_
        refine y_in (M := xm_X14_refuse) (ls := [some _, some _, some _]) rfl rfl rfl ?_
        refine y_iload_n rfl rfl ?_
        refine y_if_eqT rfl j_X14_refuse_16 (by decide) ?_
        refine y_aload_n rfl rfl ?_
        refine y_getIv (v := Int32.ofInt (0)) rfl (ySh.t hS rfl) (ySh.n hS rfl) rfl rfl hth ?_
        refine y_if_leT rfl j_X14_refuse_27 (by decide) ?_
        refine y_iconst rfl ?_
        refine y_ireturn rfl rfl rfl ?_
        refine y_ret1 ?_
        refine y_ireturn rfl rfl rfl ?_
        refine y_ret1 ?_
        refine y_if_eqT rfl j_X14_share_47 (by decide) ?_
        refine y_aload_n rfl rfl ?_
        refine y_iload_n rfl rfl ?_
        refine y_putI rfl (ySh.t hS rfl) (ySh.n hS rfl) rfl (Nat.le_of_ble_eq_true rfl) rfl rfl ?_
        refine y_nameI (fun I11 e11 => ?_)
        have hR1 := (hR0.grow hX).mod0 e11 (by decide) (by decide)
        have hK := (hK.x hRo hno hX).upI (upI e11) (by decide) (by decide) (fun i hi => by have := (hRo.l87.2.2.2.2 i hi).2.1; omega) (by rw [e11, upd2_ne (.inr (by decide))]; exact Int.le_refl _)
        have hth := (show I11 83 0 = I10 83 0 by rw [e11, upd2_ne (.inr (by decide))]).trans hth
        have hzz : ySz I10 I11 := ySz_ofM (upI e11) (by rw [e11]; exact ⟨upd2_ne (.inr (by decide)), upd2_ne (.inr (by decide)), upd2_ne (.inr (by decide))⟩)
        have hB := (hB.trans hX).wr e11 rfl
        have h8 : ∀ a, 84 ≤ a → a ≤ 86 → I11 a = I a := fun a h1 h2 => (upI e11 a (by omega)).trans ((hX.2.1 a (by omega)).2.1.trans (h8 a h1 h2))
        have hg := (hg.gx hX (by omega)).skip e11 (by decide)
        have hday : I11 83 1 = I 83 1 := (congrFun (congrFun e11 83) 1).trans ((upd2_ne (.inr (by decide))).trans ((congrFun (hX.2.1 83 (by omega)).2.1 1).trans hday))
        have hRb : ∀ a, a < n → R a = R a := fun a ha => (hX.2.1 a (by omega)).2.2.trans (hRb a ha)
        have hb83 : ∀ a, a ≠ 83 → a < n → I11 a = I a := fun a ha hb => (upI e11 a ha).trans ((hX.2.1 a (by omega)).2.1.trans (hb83 a ha hb))
        have hS0 := hS
        have hR0 := hR1
        have hn := Nat.le_refl n
        have h94 := hS0.1
        have hX := @yX.rf n tg I11 R
        have hS := hS0.x hX
        have hR := hR0.x hn hX
        have hz := hX.sz h94
        have hxn := hX.1
        have hN := hR0.1
        have hnb := hR0.2.2.2.2.2.2
        have hthB := hth
        refine y_aload_n rfl rfl ?_
        refine y_iload_n rfl rfl ?_
        refine y_putI rfl (ySh.t hS rfl) (ySh.n hS rfl) rfl (Nat.le_of_ble_eq_true rfl) rfl rfl ?_
        refine y_nameI (fun I12 e12 => ?_)
        have hR1 := (hR0.grow hX).mod0 e12 (by decide) (by decide)
        have hK := (hK.x hRo hno hX).upI (upI e12) (by decide) (by decide) (fun i hi => by have := (hRo.l87.2.2.2.2 i hi).2.1; omega) (by rw [e12, upd2_ne (.inr (by decide))]; exact Int.le_refl _)
        have hth := (show I12 83 0 = I11 83 0 by rw [e12, upd2_ne (.inr (by decide))]).trans hth
        have hzz : ySz I11 I12 := ySz_ofM (upI e12) (by rw [e12]; exact ⟨upd2_ne (.inr (by decide)), upd2_ne (.inr (by decide)), upd2_ne (.inr (by decide))⟩)
        have hB := (hB.trans hX).wr e12 rfl
        have h8 : ∀ a, 84 ≤ a → a ≤ 86 → I12 a = I a := fun a h1 h2 => (upI e12 a (by omega)).trans ((hX.2.1 a (by omega)).2.1.trans (h8 a h1 h2))
        have hg := (hg.gx hX (by omega)).skip e12 (by decide)
        have hday : I12 83 1 = I 83 1 := (congrFun (congrFun e12 83) 1).trans ((upd2_ne (.inr (by decide))).trans ((congrFun (hX.2.1 83 (by omega)).2.1 1).trans hday))
        have hRb : ∀ a, a < n → R a = R a := fun a ha => (hX.2.1 a (by omega)).2.2.trans (hRb a ha)
        have hb83 : ∀ a, a ≠ 83 → a < n → I12 a = I a := fun a ha hb => (upI e12 a ha).trans ((hX.2.1 a (by omega)).2.1.trans (hb83 a ha hb))
        have hS0 := hS
        have hR0 := hR1
        have hn := Nat.le_refl n
        have h94 := hS0.1
        have hX := @yX.rf n tg I12 R
        have hS := hS0.x hX
        have hR := hR0.x hn hX
        have hz := hX.sz h94
        have hxn := hX.1
        have hN := hR0.1
        have hnb := hR0.2.2.2.2.2.2
        have hthB := hth
        refine y_aload_n rfl rfl ?_
        refine y_iload_n rfl rfl ?_
        refine y_iload_n rfl rfl ?_
        refine y_iload_n rfl rfl ?_
        refine y_virt rfl rfl rfl rfl rfl (ySh.t hS rfl) (ySh.n hS rfl) ?_
        have hal_c : ySum (fun j => yHv I12 R 4 j (I12 87 2).toInt.toNat) 5 = al := (ySum_eq fun j _ => yHv_kp (hK.x hRo hno hX)).trans hal
        have h85_ : I12 85 = I 85 := ((hB.trans hX).n (by omega)).trans (by repeat (first | rfl | (rw [upd2_row (by first | decide | omega)]) | refine upd2_cg ?_))
        have h86_ : I12 86 = I 86 := ((hB.trans hX).n (by omega)).trans (by repeat (first | rfl | (rw [upd2_row (by first | decide | omega)]) | refine upd2_cg ?_))
        have h833_ : I12 83 3 = I 83 3 := (congrFun ((hB.trans hX).n (by omega : 83 < n)) 3).trans (by repeat (first | rfl | rw [upd2_ne (by first | exact .inl (by omega) | exact .inr (by decide))]))
        have h838_ : I12 83 8 = I 83 8 := (congrFun ((hB.trans hX).n (by omega : 83 < n)) 8).trans (by repeat (first | rfl | rw [upd2_ne (by first | exact .inl (by omega) | exact .inr (by decide))]))
        refine r_sharedX hS hR (Nat.le_trans hn hX.1) hal_c (fun own_ more_ rest_ ho_ hm_ hr_ bs_13 n13 tg13 I13 R13 c_13 s_13 hX1 hfb_ ha_f13 ht_f13 m0_ m8_ m9_ m10_ hc_13 hs_13 => ?_)
        rw [h833_] at hm_
        simp only [mMd_cg h85_ h86_, mLf_cg h85_ h86_, h86_, h838_] at m0_ m10_
        have hfbn_ : n ≤ bs_13 := by omega
        have hnA := hX1.1
        have hX := hX.trans hX1
        have hS := hS0.x hX
        have hR := hR0.x hn hX
        have hz := hX.sz h94
        have hxn := hX.1
        have hth := (congrFun (hX1.2.1 83 (by omega)).2.1 0).trans hth
        refine y_ret1 ?_
        refine y_astore (ls' := [some _, some _, some _, some _, some _, _, _]) rfl rfl rfl ?_
        refine y_iconst rfl ?_
        refine y_istore (ls' := [some _, some _, some _, some _, some _, some _, _]) rfl rfl rfl ?_
        refine y_iconst rfl ?_
        refine y_istore (ls' := [some _, some _, some _, some _, some _, some _, some _]) rfl rfl rfl ?_
        have hRG_ : yRI K n tg (upd2 (upd2 (upd2 I 83 0 (Int32.ofInt 0)) 83 5 x2) 83 6 x3) R := ((hRo.mod0 rfl (by decide) (by decide)).mod0 rfl (by decide) (by decide)).mod0 rfl (by decide) (by decide)
        exact lx_share (nb := n) (tg0 := tg) (G0 := (upd2 (upd2 (upd2 I 83 0 (Int32.ofInt 0)) 83 5 x2) 83 6 x3)) (R0 := R) (ms := I13 bs_13) hS (by omega) ht_f13 ha_f13 hfbn_ (fun v_ J_ hv_ hB2_ => hQ0 own_ more_ rest_ _ ho_ hm_ hr_ m0_ m8_ m9_ m10_ (by omega) v_ _ _ J_ _ _ _ hS (((mShD_ri hRG_).grow hB2_).up (Nat.le_succ K) hk6) ((mSh_kp hRo).x hRo hno hB2_) ((congrFun (hB2_.n (by omega : 83 < n)) 0).trans ((mShD_83 (by decide) (by decide)).trans ((upd2_ne (.inr (by decide))).trans ((upd2_ne (.inr (by decide))).trans upd2_self)))) hv_ hB2_ (by omega) (by omega)) 100 _ _ _ (hB.trans hX) (fun _ _ => rfl) rfl (by decide) (by decide) (by decide)
      · rw [yz_0] at h_9
        rw [yz_50] at h_9
        refine y_ret1 ?_
        refine y_if_neF rfl (by decide) ?_
        refine y_iconst rfl ?_
        refine y_goto rfl j_X14_share_38 ?_
        refine y_iconst rfl ?_
        refine y_virt rfl rfl rfl rfl rfl (ySh.t hS rfl) (ySh.n hS rfl) ?_
        refine y_in (M := xm_X14_start) (ls := [some _, some _, some _]) rfl rfl rfl ?_
        refine y_aload_n rfl rfl ?_
        refine y_iconst rfl ?_
        refine y_putI rfl (ySh.t hS rfl) (ySh.n hS rfl) rfl (Nat.le_of_ble_eq_true rfl) rfl rfl ?_
        refine y_nameI (fun I14 e14 => ?_)
        have hR1 := (hR0.grow hX).mod0 e14 (by decide) (by decide)
        have hK := (hK.x hRo hno hX).upI (upI e14) (by decide) (by decide) (fun i hi => by have := (hRo.l87.2.2.2.2 i hi).2.1; omega) (by rw [e14, upd2_ne (.inr (by decide))]; exact Int.le_refl _)
        have hth : I14 83 0 = Int32.ofInt (0) := by rw [e14, upd2_self]
        have hzz : ySz8 I I14 := ySz8_of (upI e14) (by rw [e14]; exact ⟨upd2_ne (.inr (by decide)), upd2_ne (.inr (by decide))⟩)
        have hB := (hB.trans hX).wr e14 rfl
        have h8 : ∀ a, 84 ≤ a → a ≤ 86 → I14 a = I a := fun a h1 h2 => (upI e14 a (by omega)).trans ((hX.2.1 a (by omega)).2.1.trans (h8 a h1 h2))
        have h3k : ∀ k, k ≠ 0 → I14 83 k = I 83 k := fun k hk => (congrFun (congrFun e14 83) k).trans ((upd2_ne (.inr hk)).trans ((congrFun (hX.2.1 83 (by omega)).2.1 k).trans (h3k k hk)))
        have hg := (hg.gx hX (by omega)).skip e14 (by decide)
        have hday : I14 83 1 = I 83 1 := (congrFun (congrFun e14 83) 1).trans ((upd2_ne (.inr (by decide))).trans ((congrFun (hX.2.1 83 (by omega)).2.1 1).trans hday))
        have hRb : ∀ a, a < n → R a = R a := fun a ha => (hX.2.1 a (by omega)).2.2.trans (hRb a ha)
        have hb83 : ∀ a, a ≠ 83 → a < n → I14 a = I a := fun a ha hb => (upI e14 a ha).trans ((hX.2.1 a (by omega)).2.1.trans (hb83 a ha hb))
        have hS0 := hS
        have hR0 := hR1
        have hn := Nat.le_refl n
        have h94 := hS0.1
        have hX := @yX.rf n tg I14 R
        have hS := hS0.x hX
        have hR := hR0.x hn hX
        have hz := hX.sz h94
        have hxn := hX.1
        have hN := hR0.1
        have hnb := hR0.2.2.2.2.2.2
        have hthB := hth
        refine y_aload_n rfl rfl ?_
        refine y_iload_n rfl rfl ?_
        refine y_iload_n rfl rfl ?_
        refine y_virt rfl rfl rfl rfl rfl (ySh.t hS rfl) (ySh.n hS rfl) ?_
        refine y_in (M := xm_X14_refuse) (ls := [some _, some _, some _]) rfl rfl rfl ?_
        refine y_iload_n rfl rfl ?_
        refine y_if_eqF rfl (by decide) ?_
        refine y_aload_n rfl rfl ?_
        refine y_getIv (v := Int32.ofInt (0)) rfl (ySh.t hS rfl) (ySh.n hS rfl) rfl rfl hth ?_
        refine y_if_neF rfl (by decide) ?_
        refine y_aload_n rfl rfl ?_
        refine y_iload_n rfl rfl ?_
        refine y_putI rfl (ySh.t hS rfl) (ySh.n hS rfl) rfl (Nat.le_of_ble_eq_true rfl) rfl rfl ?_
        refine y_nameI (fun I15 e15 => ?_)
        have hR1 := (hR0.grow hX).mod0 e15 (by decide) (by decide)
        have hK := (hK.x hRo hno hX).upI (upI e15) (by decide) (by decide) (fun i hi => by have := (hRo.l87.2.2.2.2 i hi).2.1; omega) (by rw [e15, upd2_ne (.inr (by decide))]; exact Int.le_refl _)
        have hth : I15 83 0 = Int32.ofInt (1) := by rw [e15, upd2_self]
        have hzz : ySz8 I14 I15 := ySz8_of (upI e15) (by rw [e15]; exact ⟨upd2_ne (.inr (by decide)), upd2_ne (.inr (by decide))⟩)
        have hB := (hB.trans hX).wr e15 rfl
        have h8 : ∀ a, 84 ≤ a → a ≤ 86 → I15 a = I a := fun a h1 h2 => (upI e15 a (by omega)).trans ((hX.2.1 a (by omega)).2.1.trans (h8 a h1 h2))
        have h3k : ∀ k, k ≠ 0 → I15 83 k = I 83 k := fun k hk => (congrFun (congrFun e15 83) k).trans ((upd2_ne (.inr hk)).trans ((congrFun (hX.2.1 83 (by omega)).2.1 k).trans (h3k k hk)))
        have hg := (hg.gx hX (by omega)).skip e15 (by decide)
        have hday : I15 83 1 = I 83 1 := (congrFun (congrFun e15 83) 1).trans ((upd2_ne (.inr (by decide))).trans ((congrFun (hX.2.1 83 (by omega)).2.1 1).trans hday))
        have hRb : ∀ a, a < n → R a = R a := fun a ha => (hX.2.1 a (by omega)).2.2.trans (hRb a ha)
        have hb83 : ∀ a, a ≠ 83 → a < n → I15 a = I a := fun a ha hb => (upI e15 a ha).trans ((hX.2.1 a (by omega)).2.1.trans (hb83 a ha hb))
        have hS0 := hS
        have hR0 := hR1
        have hn := Nat.le_refl n
        have h94 := hS0.1
        have hX := @yX.rf n tg I15 R
        have hS := hS0.x hX
        have hR := hR0.x hn hX
        have hz := hX.sz h94
        have hxn := hX.1
        have hN := hR0.1
        have hnb := hR0.2.2.2.2.2.2
        have hthB := hth
        refine y_aload_n rfl rfl ?_
        refine y_getIv (v := Int32.ofInt (1)) rfl (ySh.t hS rfl) (ySh.n hS rfl) rfl rfl hth ?_
        refine y_if_leF rfl (by decide) ?_
        refine y_iconst rfl ?_
        refine y_goto rfl j_X14_refuse_28 ?_
        refine y_ireturn rfl rfl rfl ?_
        refine y_ret1 ?_
        refine y_ireturn rfl rfl rfl ?_
        refine y_ret1 ?_
        refine y_if_eqF rfl (by decide) ?_
        refine y_iconst rfl ?_
        refine y_ireturn rfl rfl rfl ?_
        exact hQ1 (by omega) _ _ _ _ _ _ _ hS ((hR0.grow hX).up (Nat.le_succ K) hk6) (hK.x hRo hno hX) hth ((hB.trans hX).rf2 (by omega)) (by omega) (by omega)
    · rw [yz_0] at h_6
      rw [yz_999] at h_6
      refine y_ret1 ?_
      refine y_if_eqT rfl j_X14_share_33 (by decide) ?_
      refine y_iconst rfl ?_
      refine y_goto rfl j_X14_share_38 ?_
      refine y_iconst rfl ?_
      refine y_virt rfl rfl rfl rfl rfl (ySh.t hS rfl) (ySh.n hS rfl) ?_
      refine y_in (M := xm_X14_start) (ls := [some _, some _, some _]) rfl rfl rfl ?_
      refine y_aload_n rfl rfl ?_
      refine y_iconst rfl ?_
      refine y_putI rfl (ySh.t hS rfl) (ySh.n hS rfl) rfl (Nat.le_of_ble_eq_true rfl) rfl rfl ?_
      refine y_nameI (fun I16 e16 => ?_)
      have hR1 := (hR0.grow hX).mod0 e16 (by decide) (by decide)
      have hK := (hK.x hRo hno hX).upI (upI e16) (by decide) (by decide) (fun i hi => by have := (hRo.l87.2.2.2.2 i hi).2.1; omega) (by rw [e16, upd2_ne (.inr (by decide))]; exact Int.le_refl _)
      have hth : I16 83 0 = Int32.ofInt (0) := by rw [e16, upd2_self]
      have hzz : ySz8 I I16 := ySz8_of (upI e16) (by rw [e16]; exact ⟨upd2_ne (.inr (by decide)), upd2_ne (.inr (by decide))⟩)
      have hB := (hB.trans hX).wr e16 rfl
      have h8 : ∀ a, 84 ≤ a → a ≤ 86 → I16 a = I a := fun a h1 h2 => (upI e16 a (by omega)).trans ((hX.2.1 a (by omega)).2.1.trans (h8 a h1 h2))
      have h3k : ∀ k, k ≠ 0 → I16 83 k = I 83 k := fun k hk => (congrFun (congrFun e16 83) k).trans ((upd2_ne (.inr hk)).trans ((congrFun (hX.2.1 83 (by omega)).2.1 k).trans (h3k k hk)))
      have hg := (hg.gx hX (by omega)).skip e16 (by decide)
      have hday : I16 83 1 = I 83 1 := (congrFun (congrFun e16 83) 1).trans ((upd2_ne (.inr (by decide))).trans ((congrFun (hX.2.1 83 (by omega)).2.1 1).trans hday))
      have hRb : ∀ a, a < n → R a = R a := fun a ha => (hX.2.1 a (by omega)).2.2.trans (hRb a ha)
      have hb83 : ∀ a, a ≠ 83 → a < n → I16 a = I a := fun a ha hb => (upI e16 a ha).trans ((hX.2.1 a (by omega)).2.1.trans (hb83 a ha hb))
      have hS0 := hS
      have hR0 := hR1
      have hn := Nat.le_refl n
      have h94 := hS0.1
      have hX := @yX.rf n tg I16 R
      have hS := hS0.x hX
      have hR := hR0.x hn hX
      have hz := hX.sz h94
      have hxn := hX.1
      have hN := hR0.1
      have hnb := hR0.2.2.2.2.2.2
      have hthB := hth
      refine y_aload_n rfl rfl ?_
      refine y_iload_n rfl rfl ?_
      refine y_iload_n rfl rfl ?_
      refine y_virt rfl rfl rfl rfl rfl (ySh.t hS rfl) (ySh.n hS rfl) ?_
      refine y_in (M := xm_X14_refuse) (ls := [some _, some _, some _]) rfl rfl rfl ?_
      refine y_iload_n rfl rfl ?_
      refine y_if_eqF rfl (by decide) ?_
      refine y_aload_n rfl rfl ?_
      refine y_getIv (v := Int32.ofInt (0)) rfl (ySh.t hS rfl) (ySh.n hS rfl) rfl rfl hth ?_
      refine y_if_neF rfl (by decide) ?_
      refine y_aload_n rfl rfl ?_
      refine y_iload_n rfl rfl ?_
      refine y_putI rfl (ySh.t hS rfl) (ySh.n hS rfl) rfl (Nat.le_of_ble_eq_true rfl) rfl rfl ?_
      refine y_nameI (fun I17 e17 => ?_)
      have hR1 := (hR0.grow hX).mod0 e17 (by decide) (by decide)
      have hK := (hK.x hRo hno hX).upI (upI e17) (by decide) (by decide) (fun i hi => by have := (hRo.l87.2.2.2.2 i hi).2.1; omega) (by rw [e17, upd2_ne (.inr (by decide))]; exact Int.le_refl _)
      have hth : I17 83 0 = Int32.ofInt (1) := by rw [e17, upd2_self]
      have hzz : ySz8 I16 I17 := ySz8_of (upI e17) (by rw [e17]; exact ⟨upd2_ne (.inr (by decide)), upd2_ne (.inr (by decide))⟩)
      have hB := (hB.trans hX).wr e17 rfl
      have h8 : ∀ a, 84 ≤ a → a ≤ 86 → I17 a = I a := fun a h1 h2 => (upI e17 a (by omega)).trans ((hX.2.1 a (by omega)).2.1.trans (h8 a h1 h2))
      have h3k : ∀ k, k ≠ 0 → I17 83 k = I 83 k := fun k hk => (congrFun (congrFun e17 83) k).trans ((upd2_ne (.inr hk)).trans ((congrFun (hX.2.1 83 (by omega)).2.1 k).trans (h3k k hk)))
      have hg := (hg.gx hX (by omega)).skip e17 (by decide)
      have hday : I17 83 1 = I 83 1 := (congrFun (congrFun e17 83) 1).trans ((upd2_ne (.inr (by decide))).trans ((congrFun (hX.2.1 83 (by omega)).2.1 1).trans hday))
      have hRb : ∀ a, a < n → R a = R a := fun a ha => (hX.2.1 a (by omega)).2.2.trans (hRb a ha)
      have hb83 : ∀ a, a ≠ 83 → a < n → I17 a = I a := fun a ha hb => (upI e17 a ha).trans ((hX.2.1 a (by omega)).2.1.trans (hb83 a ha hb))
      have hS0 := hS
      have hR0 := hR1
      have hn := Nat.le_refl n
      have h94 := hS0.1
      have hX := @yX.rf n tg I17 R
      have hS := hS0.x hX
      have hR := hR0.x hn hX
      have hz := hX.sz h94
      have hxn := hX.1
      have hN := hR0.1
      have hnb := hR0.2.2.2.2.2.2
      have hthB := hth
      refine y_aload_n rfl rfl ?_
      refine y_getIv (v := Int32.ofInt (1)) rfl (ySh.t hS rfl) (ySh.n hS rfl) rfl rfl hth ?_
      refine y_if_leF rfl (by decide) ?_
      refine y_iconst rfl ?_
      refine y_goto rfl j_X14_refuse_28 ?_
      refine y_ireturn rfl rfl rfl ?_
      refine y_ret1 ?_
      refine y_ireturn rfl rfl rfl ?_
      refine y_ret1 ?_
      refine y_if_eqF rfl (by decide) ?_
      refine y_iconst rfl ?_
      refine y_ireturn rfl rfl rfl ?_
      exact hQ1 (by omega) _ _ _ _ _ _ _ hS ((hR0.grow hX).up (Nat.le_succ K) hk6) (hK.x hRo hno hX) hth ((hB.trans hX).rf2 (by omega)) (by omega) (by omega)
  · rw [yz_0] at h_3
    rw [yz_9999] at h_3
    refine y_ret1 ?_
    refine y_if_eqT rfl j_X14_share_33 (by decide) ?_
    refine y_iconst rfl ?_
    refine y_goto rfl j_X14_share_38 ?_
    refine y_iconst rfl ?_
    refine y_virt rfl rfl rfl rfl rfl (ySh.t hS rfl) (ySh.n hS rfl) ?_
    refine y_in (M := xm_X14_start) (ls := [some _, some _, some _]) rfl rfl rfl ?_
    refine y_aload_n rfl rfl ?_
    refine y_iconst rfl ?_
    refine y_putI rfl (ySh.t hS rfl) (ySh.n hS rfl) rfl (Nat.le_of_ble_eq_true rfl) rfl rfl ?_
    refine y_nameI (fun I18 e18 => ?_)
    have hR1 := (hR0.grow hX).mod0 e18 (by decide) (by decide)
    have hK := (hK.x hRo hno hX).upI (upI e18) (by decide) (by decide) (fun i hi => by have := (hRo.l87.2.2.2.2 i hi).2.1; omega) (by rw [e18, upd2_ne (.inr (by decide))]; exact Int.le_refl _)
    have hth : I18 83 0 = Int32.ofInt (0) := by rw [e18, upd2_self]
    have hzz : ySz8 I I18 := ySz8_of (upI e18) (by rw [e18]; exact ⟨upd2_ne (.inr (by decide)), upd2_ne (.inr (by decide))⟩)
    have hB := (hB.trans hX).wr e18 rfl
    have h8 : ∀ a, 84 ≤ a → a ≤ 86 → I18 a = I a := fun a h1 h2 => (upI e18 a (by omega)).trans ((hX.2.1 a (by omega)).2.1.trans (h8 a h1 h2))
    have h3k : ∀ k, k ≠ 0 → I18 83 k = I 83 k := fun k hk => (congrFun (congrFun e18 83) k).trans ((upd2_ne (.inr hk)).trans ((congrFun (hX.2.1 83 (by omega)).2.1 k).trans (h3k k hk)))
    have hg := (hg.gx hX (by omega)).skip e18 (by decide)
    have hday : I18 83 1 = I 83 1 := (congrFun (congrFun e18 83) 1).trans ((upd2_ne (.inr (by decide))).trans ((congrFun (hX.2.1 83 (by omega)).2.1 1).trans hday))
    have hRb : ∀ a, a < n → R a = R a := fun a ha => (hX.2.1 a (by omega)).2.2.trans (hRb a ha)
    have hb83 : ∀ a, a ≠ 83 → a < n → I18 a = I a := fun a ha hb => (upI e18 a ha).trans ((hX.2.1 a (by omega)).2.1.trans (hb83 a ha hb))
    have hS0 := hS
    have hR0 := hR1
    have hn := Nat.le_refl n
    have h94 := hS0.1
    have hX := @yX.rf n tg I18 R
    have hS := hS0.x hX
    have hR := hR0.x hn hX
    have hz := hX.sz h94
    have hxn := hX.1
    have hN := hR0.1
    have hnb := hR0.2.2.2.2.2.2
    have hthB := hth
    refine y_aload_n rfl rfl ?_
    refine y_iload_n rfl rfl ?_
    refine y_iload_n rfl rfl ?_
    refine y_virt rfl rfl rfl rfl rfl (ySh.t hS rfl) (ySh.n hS rfl) ?_
    refine y_in (M := xm_X14_refuse) (ls := [some _, some _, some _]) rfl rfl rfl ?_
    refine y_iload_n rfl rfl ?_
    refine y_if_eqF rfl (by decide) ?_
    refine y_aload_n rfl rfl ?_
    refine y_getIv (v := Int32.ofInt (0)) rfl (ySh.t hS rfl) (ySh.n hS rfl) rfl rfl hth ?_
    refine y_if_neF rfl (by decide) ?_
    refine y_aload_n rfl rfl ?_
    refine y_iload_n rfl rfl ?_
    refine y_putI rfl (ySh.t hS rfl) (ySh.n hS rfl) rfl (Nat.le_of_ble_eq_true rfl) rfl rfl ?_
    refine y_nameI (fun I19 e19 => ?_)
    have hR1 := (hR0.grow hX).mod0 e19 (by decide) (by decide)
    have hK := (hK.x hRo hno hX).upI (upI e19) (by decide) (by decide) (fun i hi => by have := (hRo.l87.2.2.2.2 i hi).2.1; omega) (by rw [e19, upd2_ne (.inr (by decide))]; exact Int.le_refl _)
    have hth : I19 83 0 = Int32.ofInt (1) := by rw [e19, upd2_self]
    have hzz : ySz8 I18 I19 := ySz8_of (upI e19) (by rw [e19]; exact ⟨upd2_ne (.inr (by decide)), upd2_ne (.inr (by decide))⟩)
    have hB := (hB.trans hX).wr e19 rfl
    have h8 : ∀ a, 84 ≤ a → a ≤ 86 → I19 a = I a := fun a h1 h2 => (upI e19 a (by omega)).trans ((hX.2.1 a (by omega)).2.1.trans (h8 a h1 h2))
    have h3k : ∀ k, k ≠ 0 → I19 83 k = I 83 k := fun k hk => (congrFun (congrFun e19 83) k).trans ((upd2_ne (.inr hk)).trans ((congrFun (hX.2.1 83 (by omega)).2.1 k).trans (h3k k hk)))
    have hg := (hg.gx hX (by omega)).skip e19 (by decide)
    have hday : I19 83 1 = I 83 1 := (congrFun (congrFun e19 83) 1).trans ((upd2_ne (.inr (by decide))).trans ((congrFun (hX.2.1 83 (by omega)).2.1 1).trans hday))
    have hRb : ∀ a, a < n → R a = R a := fun a ha => (hX.2.1 a (by omega)).2.2.trans (hRb a ha)
    have hb83 : ∀ a, a ≠ 83 → a < n → I19 a = I a := fun a ha hb => (upI e19 a ha).trans ((hX.2.1 a (by omega)).2.1.trans (hb83 a ha hb))
    have hS0 := hS
    have hR0 := hR1
    have hn := Nat.le_refl n
    have h94 := hS0.1
    have hX := @yX.rf n tg I19 R
    have hS := hS0.x hX
    have hR := hR0.x hn hX
    have hz := hX.sz h94
    have hxn := hX.1
    have hN := hR0.1
    have hnb := hR0.2.2.2.2.2.2
    have hthB := hth
    refine y_aload_n rfl rfl ?_
    refine y_getIv (v := Int32.ofInt (1)) rfl (ySh.t hS rfl) (ySh.n hS rfl) rfl rfl hth ?_
    refine y_if_leF rfl (by decide) ?_
    refine y_iconst rfl ?_
    refine y_goto rfl j_X14_refuse_28 ?_
    refine y_ireturn rfl rfl rfl ?_
    refine y_ret1 ?_
    refine y_ireturn rfl rfl rfl ?_
    refine y_ret1 ?_
    refine y_if_eqF rfl (by decide) ?_
    refine y_iconst rfl ?_
    refine y_ireturn rfl rfl rfl ?_
    exact hQ1 (by omega) _ _ _ _ _ _ _ hS ((hR0.grow hX).up (Nat.le_succ K) hk6) (hK.x hRo hno hX) hth ((hB.trans hX).rf2 (by omega)) (by omega) (by omega)
end YXS
