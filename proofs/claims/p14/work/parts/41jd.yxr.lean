/-! THE REFERENCE'S DAYS, EXACTLY (by ex6m.py) -/
def mWeS (J : Nat → Nat → Int32) (k : Nat) : Nat → Nat → Int32 := upd2 J 86 k (J 86 k + J 85 k)
/-- a rent: of the lease b, of the thing t -/
def mRn (J : Nat → Nat → Int32) (b t : Nat) : Int32 := J t 0 * yMnn (J b 3) (yMxx (J b 2) (J 83 4)) / Int32.ofInt 1000
def mReB (J : Nat → Nat → Int32) (b t : Nat) : Nat → Nat → Int32 := upd2 (upd2 (upd2 (upd2 J b 6 (J b 6 + Int32.ofInt 1)) b 7 (J b 7 + mRn J b t)) 84 (J b 1).toInt.toNat (J 84 (J b 1).toInt.toNat - mRn J b t)) 84 8 (upd2 J 84 (J b 1).toInt.toNat (J 84 (J b 1).toInt.toNat - mRn J b t) 84 8 + mRn J b t)
abbrev mDue (J : Nat → Nat → Int32) (b : Nat) : Prop := (J b 5).toInt = 0 ∧ (J 83 1 - J b 4 - (J 83 1 - J b 4) / Int32.ofInt 30 * Int32.ofInt 30).toInt = 0
def mReS (R : Nat → Nat → Value) (J : Nat → Nat → Int32) (k : Nat) : Nat → Nat → Int32 := if mDue J (yAd R 90 k) then mReB J (yAd R 90 k) (yAd R 88 (J (yAd R 90 k) 0).toInt.toNat) else J
def mAm (J : Nat → Nat → Int32) (k : Nat) : Int32 := if (J 84 k).toInt < 85 then Int32.ofInt 0 else J 84 k / Int32.ofInt 40
def mAlS (J : Nat → Nat → Int32) (k : Nat) : Nat → Nat → Int32 := upd2 (upd2 J 84 k (J 84 k - mAm J k)) 83 2 (J 83 2 + mAm J k)
def mWeD (J : Nat → Nat → Int32) : Nat → Nat → Int32 := yRec mWeS J (J 83 8).toInt.toNat
def mDyD (J : Nat → Nat → Int32) : Nat → Nat → Int32 := upd2 J 83 1 (J 83 1 + Int32.ofInt 1)
def mReD (R : Nat → Nat → Value) (J : Nat → Nat → Int32) : Nat → Nat → Int32 := yRec (mReS R) J (J 90 2).toInt.toNat
def mAlm (J : Nat → Nat → Int32) : Nat → Nat → Int32 := if (J 83 1 - J 83 1 / Int32.ofInt 354 * Int32.ofInt 354).toInt = 0 then yRec mAlS J (J 83 8).toInt.toNat else J
def mDyS (R : Nat → Nat → Value) (J : Nat → Nat → Int32) (_ : Nat) : Nat → Nat → Int32 := mAlm (mReD R (mDyD (mWeD J)))
section YXR
variable {K nb n : Nat} {tg0 tg : Nat → yT} {G0 G I : Nat → Nat → Int32} {R0 R : Nat → Nat → Value} {c s : Nat} {Q : yQ}
theorem mReS_row {a k : Nat} (h : a ≠ 84) (hb : a ≠ yAd R0 90 k) : mReS R0 G k a = G a := by
  unfold mReS
  split
  · unfold mReB; rw [upd2_row h, upd2_row h, upd2_row hb, upd2_row hb]
  · rfl
theorem mReS_ri {k : Nat} (h : yRI K nb tg0 G R0) (hk : (k : Int) < (G 90 2).toInt) : yRI K nb tg0 (mReS R0 G k) R0 := by
  obtain ⟨-, q1, q2, q3⟩ := h.l90.2.2.2.2 k hk
  unfold mReS
  split
  · unfold mReB
    exact (((h.upL rfl q1 q2 q3 (by decide)).upL rfl q1 q2 q3 (by decide)).arr rfl (by decide)).arr rfl (by decide)
  · exact h
theorem mReD_row {a : Nat} (h : yRI K nb tg0 G R0) (ha : a ≠ 84) (hb : ∀ k : Nat, (k : Int) < (G 90 2).toInt → a ≠ yAd R0 90 k) : mReD R0 G a = G a := yRec_keep fun J k hk _ => mReS_row ha (hb k (by omega))
theorem mReD_lo {a : Nat} (h : yRI K nb tg0 G R0) (ha : a ≠ 84) (hl : a < 94) : mReD R0 G a = G a := mReD_row h ha fun k hk e => by
  have := (h.l90.2.2.2.2 k hk).2.1
  omega
theorem mReD_ri (h : yRI K nb tg0 G R0) : yRI K nb tg0 (mReD R0 G) R0 := by
  have := (yRec_ind (S := mReS R0) (I := G) (P := fun J => yRI K nb tg0 J R0 ∧ J 90 = G 90) (m := (G 90 2).toInt.toNat) ⟨h, rfl⟩ fun J k hk hJ => by
    have hk' : (k : Int) < (J 90 2).toInt := by rw [hJ.2]; omega
    refine ⟨mReS_ri hJ.1 hk', (mReS_row (by decide) (fun e => ?_)).trans hJ.2⟩
    have := (hJ.1.l90.2.2.2.2 k hk').2.1
    omega).1
  exact this
theorem mWeD_row {a : Nat} (h : a ≠ 86) : mWeD G a = G a := yRec_keep fun J k _ _ => upd2_row h
theorem mWeD_ri (h : yRI K nb tg0 G R0) : yRI K nb tg0 (mWeD G) R0 := yRec_ind (S := mWeS) (P := fun J => yRI K nb tg0 J R0) h fun J k _ hJ => hJ.arr rfl (by decide)
theorem mDyD_ri (h : yRI K nb tg0 G R0) (hd : (G 83 1).toInt < 4000) : yRI K nb tg0 (mDyD G) R0 := by
  have hN := h.1
  unfold mDyD
  refine h.mod (fun b hb => upd2_row hb) ?_ ⟨?_, ?_⟩
  · rw [upd2_ne (.inr (by decide))]; omega
  · rw [upd2_self, yinc (by omega)]; omega
  · rw [upd2_self, yinc (by omega)]; omega
theorem mAlm_row {a : Nat} (h : a ≠ 84) (h2 : a ≠ 83) : mAlm G a = G a := by
  unfold mAlm
  split
  · exact yRec_keep fun J k _ _ => by unfold mAlS; rw [upd2_row h2, upd2_row h]
  · rfl
theorem mAlm_83 {k : Nat} (h : k ≠ 2) : mAlm G 83 k = G 83 k := by
  unfold mAlm
  split
  · exact yRec_ind (S := mAlS) (P := fun J => J 83 k = G 83 k) rfl fun J j _ hJ => by unfold mAlS; rw [upd2_ne (.inr h), upd2_ne (.inl (by decide))]; exact hJ
  · rfl
theorem mAlm_ri (h : yRI K nb tg0 G R0) : yRI K nb tg0 (mAlm G) R0 := by
  unfold mAlm
  split
  · exact yRec_ind (S := mAlS) (P := fun J => yRI K nb tg0 J R0) h fun J k _ hJ => (hJ.arr rfl (by decide)).mod0 rfl (by decide) (by decide)
  · exact h
/-- a day on the reference's side: its parts -/
theorem mDy_ri (h : yRI K nb tg0 G R0) (hd : (G 83 1).toInt < 4000) : yRI K nb tg0 (mDyD (mWeD G)) R0 := mDyD_ri (mWeD_ri h) (by rw [mWeD_row (by decide)]; exact hd)
theorem mDyS_ri {k : Nat} (h : yRI K nb tg0 G R0) (hd : (G 83 1).toInt < 4000) : yRI K nb tg0 (mDyS R0 G k) R0 := mAlm_ri (mReD_ri (mDy_ri h hd))
theorem mDyS_day {k : Nat} (h : yRI K nb tg0 G R0) (hd : (G 83 1).toInt < 4000) : mDyS R0 G k 83 1 = G 83 1 + Int32.ofInt 1 := by
  unfold mDyS
  rw [mAlm_83 (by decide), mReD_lo (mDy_ri h hd) (by decide) (by decide)]
  unfold mDyD
  rw [upd2_self, mWeD_row (by decide)]
theorem mDyS_83 {k j : Nat} (h : yRI K nb tg0 G R0) (hd : (G 83 1).toInt < 4000) (h1 : j ≠ 1) (h2 : j ≠ 2) : mDyS R0 G k 83 j = G 83 j := by
  unfold mDyS
  rw [mAlm_83 h2, mReD_lo (mDy_ri h hd) (by decide) (by decide)]
  unfold mDyD
  rw [upd2_ne (.inr h1), mWeD_row (by decide)]
theorem mDyS_row {a k : Nat} (h : yRI K nb tg0 G R0) (hd : (G 83 1).toInt < 4000) (h3 : a ≠ 83) (h4 : a ≠ 84) (h6 : a ≠ 86) (hb : ∀ k : Nat, (k : Int) < (G 90 2).toInt → a ≠ yAd R0 90 k) : mDyS R0 G k a = G a := by
  unfold mDyS
  rw [mAlm_row h4 h3, mReD_row (mDy_ri h hd) h4 (fun k hk => hb k (by
    rw [show mDyD (mWeD G) 90 = G 90 from (upd2_row (by decide)).trans (mWeD_row (by decide))] at hk; exact hk))]
  unfold mDyD
  rw [upd2_row h3, mWeD_row h6]
/-- many days -/
theorem mPa_ri (h : yRI K nb tg0 G R0) : ∀ m : Nat, (G 83 1).toInt + (m : Int) ≤ 4000 → yRI K nb tg0 (yRec (mDyS R0) G m) R0 ∧ (yRec (mDyS R0) G m 83 1).toInt = (G 83 1).toInt + (m : Int) ∧ (∀ j, j ≠ 1 → j ≠ 2 → yRec (mDyS R0) G m 83 j = G 83 j) ∧ ∀ a, a ≠ 83 → a ≠ 84 → a ≠ 86 → (∀ k : Nat, (k : Int) < (G 90 2).toInt → a ≠ yAd R0 90 k) → yRec (mDyS R0) G m a = G a
  | 0, _ => ⟨h, by show (G 83 1).toInt = _; omega, fun _ _ _ => rfl, fun _ _ _ _ _ => rfl⟩
  | m + 1, hm => by
    obtain ⟨a1, a2, a3, a4⟩ := mPa_ri h m (by omega)
    have hN := h.1
    have hd : (yRec (mDyS R0) G m 83 1).toInt < 4000 := by omega
    have h90 : yRec (mDyS R0) G m 90 = G 90 := a4 90 (by decide) (by decide) (by decide) fun k hk e => by
      have := (h.l90.2.2.2.2 k hk).2.1
      omega
    refine ⟨mDyS_ri a1 hd, ?_, fun j h1 h2 => (mDyS_83 a1 hd h1 h2).trans (a3 j h1 h2), fun a h1 h2 h3 h4 => (mDyS_row a1 hd h1 h2 h3 (by rw [h90]; exact h4)).trans (a4 a h1 h2 h3 h4)⟩
    show (mDyS R0 (yRec (mDyS R0) G m) m 83 1).toInt = _
    rw [mDyS_day a1 hd, yinc (by omega)]; omega
theorem mPa_kp (h : yRI K nb tg0 G R0) {m : Nat} (hm : (G 83 1).toInt + (m : Int) ≤ 4000) : yKp nb tg0 G R0 nb tg0 (yRec (mDyS R0) G m) R0 := by
  obtain ⟨a1, a2, a3, a4⟩ := mPa_ri h m hm
  have hlo : ∀ a, a < 94 → a ≠ 83 → a ≠ 84 → a ≠ 86 → yRec (mDyS R0) G m a = G a := fun a ha h1 h2 h3 => a4 a h1 h2 h3 fun k hk e => by
    have := (h.l90.2.2.2.2 k hk).2.1
    omega
  refine ⟨Nat.le_refl _, fun _ _ => rfl, fun a ha => hlo a (by omega) (by omega) (by omega) (by omega), rfl, rfl, hlo 87 (by decide) (by decide) (by decide) (by decide), fun i hi => ?_, by omega⟩
  obtain ⟨-, q1, q2, q3⟩ := h.l87.2.2.2.2 i hi
  refine a4 _ (by omega) (by omega) (by omega) fun k hk e => ?_
  have := (h.l90.2.2.2.2 k hk).2.2.2
  rw [← e, q3] at this
  cases this
theorem lx_rents {it : Nat} {G0 : Nat → Nat → Int32} (hS : ySh n tg R) (hit0 : nb ≤ it)
    (hQ : ∀ I1, yX nb tg0 (mReD R0 G0) R0 n tg I1 R → Q (.inl none) (n, tg, I1, R) c s) :
    ∀ (m : Nat) (z : Int) (Ia G : Nat → Nat → Int32), yX nb tg0 G R0 n tg Ia R → yRI K nb tg0 G R0 → G = yRec (mReS R0) G0 z.toNat → (G 90 2).toInt = (G0 90 2).toInt → yIt nb n tg Ia R it 90 z → (Ia 90 2).toInt - z < m → yW xm_X14_rents xc_X14_rents_8 [some (.ref 83), some (.ref it), none, none] [] (n, tg, Ia, R) c s Q := by
  intro m
  induction m with
  | zero =>
    intro z Ia G hX hRG hG hsz hIa hm
    have h7 := hIa.2.2.2.2.2.2.1
    exfalso; omega
  | succ m ih =>
    intro z Ia G hX hRG hG hsz hIa hm
    have hnb : nb ≤ n := hX.1
    have h94 : 94 ≤ nb := hRG.2.2.2.2.2.2
    have hRa := hRG.x (Nat.le_refl nb) hX
    have hsa : (Ia 90 2).toInt = (G 90 2).toInt := by rw [hX.n (by omega)]
    refine y_aload_n rfl rfl ?_
    refine y_intf rfl rfl rfl rfl rfl hIa.2.2.1 hIa.2.1 ?_
    refine i_hasNext hIa (fun h_1 => ?_) (fun h_2 => ?_)
    · refine y_ret1 ?_
      refine y_if_eqF rfl (by decide) ?_
      refine y_aload_n rfl rfl ?_
      refine y_intf rfl rfl rfl rfl rfl hIa.2.2.1 hIa.2.1 ?_
      have hz0 := hIa.2.2.2.2.2.1
      have hN := hRa.1
      refine i_next (nb := nb) (Nat.le_trans (by decide) (by omega : 94 ≤ _)) hnb hIa hRa.l90 (by omega) h_1 (fun b Ib eb hlo hb0 htb hIb hIe => ?_)
      have hb : b < n := Nat.lt_of_lt_of_le hb0 hnb
      have hXb := hX.itr hit0 hIe
      have hRb := hRG.x (Nat.le_refl nb) hXb
      have hszb : (Ib 90 2).toInt = (Ia 90 2).toInt := by rw [hIe 90 (by omega)]
      have hit := hIa.2.2.1
      have hbi : b ≠ it := by omega
      have hw := hRb.lea hlo hb0 htb
      have hlE := hRG.lt6 90 (by decide) (by decide)
      have eb0 : b = yAd R0 90 z.toNat := eb.trans (yAd_eq (hX.2.1 90 (by omega)).2.2 (hX.2.1 _ hlE).2.2)
      have hz1 : (z + 1).toNat = z.toNat + 1 := by omega
      have hkz : ((z.toNat : Nat) : Int) < (G 90 2).toInt := by omega
      have h90 : (mReS R0 G z.toNat 90 2).toInt = (G0 90 2).toInt := by rw [mReS_row (by decide) (by omega)]; exact hsz
      have hGn : mReS R0 G z.toNat = yRec (mReS R0) G0 (z + 1).toNat := by rw [hz1, hG]; rfl
      have hbG := hXb.n hb0
      have hmG := hXb.n (show 83 < nb by omega)
      refine y_ret1 ?_
      refine y_cast rfl htb hb ?_
      refine y_astore_n (ls' := [some _, some _, some _, none]) rfl rfl rfl ?_
      refine y_aload_n rfl rfl ?_
      refine y_getI rfl htb hb rfl rfl ?_
      refine y_if_ne rfl j_X14_rents_8 (fun h_3 => ?_) (fun h_4 => ?_)
      · refine y_fgt (ls := [some _, some _, none, none]) ⟨rfl, rfl, trivial⟩ ?_
        have hst : mReS R0 G z.toNat = G := if_neg fun hd => h_3 (by rw [hbG, eb0]; exact hd.1)
        exact ih _ _ (mReS R0 G z.toNat) (by rw [hst]; exact hXb) (mReS_ri hRG hkz) hGn h90 hIb (by omega)
      · refine y_aload_n rfl rfl ?_
        refine y_getI rfl (ySh.t hS rfl) (ySh.n hS rfl) rfl rfl ?_
        refine y_aload_n rfl rfl ?_
        refine y_getI rfl htb hb rfl rfl ?_
        refine y_isub rfl ?_
        refine y_bip rfl (by decide) ?_
        refine y_irem rfl (by decide) ?_
        refine y_if_eq rfl j_X14_rents_52 (fun h_5 => ?_) (fun h_6 => ?_)
        · refine y_aload_n rfl rfl ?_
          refine y_getR rfl (ySh.t hS rfl) (ySh.n hS rfl) rfl rfl (ySh.r hS rfl) ?_
          refine y_aload_n rfl rfl ?_
          refine y_getI rfl htb hb rfl rfl ?_
          refine y_virt rfl rfl rfl rfl rfl (ySh.t hS rfl) (ySh.n hS rfl) ?_
          refine l_get (nb := nb) (ySh.t hS rfl) (ySh.n hS rfl) hnb hRb.l88 (by omega) (by omega) (fun t et hlot ht0 htt => ?_)
          have ht : t < n := Nat.lt_of_lt_of_le ht0 hnb
          have hlE8 := hRG.lt6 88 (by decide) (by decide)
          have et0 : t = yAd R0 88 (G (yAd R0 90 z.toNat) 0).toInt.toNat := by rw [← eb0, ← hbG]; exact et.trans (yAd_eq (hX.2.1 88 (by omega)).2.2 (hX.2.1 _ hlE8).2.2)
          have htG := hXb.n ht0
          refine y_ret1 ?_
          refine y_cast rfl htt ht ?_
          refine y_getI rfl htt ht rfl rfl ?_
          refine y_aload_n rfl rfl ?_
          refine y_getI rfl htb hb rfl rfl ?_
          refine y_aload_n rfl rfl ?_
          refine y_getI rfl htb hb rfl rfl ?_
          refine y_aload_n rfl rfl ?_
          refine y_getI rfl (ySh.t hS rfl) (ySh.n hS rfl) rfl rfl ?_
          refine y_max rfl rfl ?_
          refine y_min rfl rfl ?_
          refine y_imul rfl ?_
          refine y_sip rfl (by decide) ?_
          refine y_idiv rfl (by decide) ?_
          rw [show (Ib t 0 * _ / Int32.ofInt 1000 : Int32) = mRn G b t by rw [hbG, hmG, htG]; rfl]
          refine y_istore_n (ls' := [some _, some _, some _, some _]) rfl rfl rfl ?_
          refine y_aload_n rfl rfl ?_
          refine y_dup rfl rfl ?_
          refine y_getI rfl htb hb rfl rfl ?_
          refine y_iconst rfl ?_
          refine y_iadd rfl ?_
          refine y_putI rfl htb hb rfl (Nat.le_trans (by decide) hlo) rfl rfl ?_
          refine y_nameI (fun Ic e_Ic => ?_)
          have hXc := hXb.wr e_Ic (show _ = G b 6 + Int32.ofInt 1 by rw [hbG])
          have hIIc := hIb.kp (I' := Ic) (by rw [e_Ic, upd2_row (by omega)]) (by rw [e_Ic, upd2_row (by omega)])
          refine y_aload_n rfl rfl ?_
          refine y_dup rfl rfl ?_
          refine y_getI rfl htb hb rfl rfl ?_
          refine y_iload_n rfl rfl ?_
          refine y_iadd rfl ?_
          refine y_putI rfl htb hb rfl (Nat.le_trans (by decide) hlo) rfl rfl ?_
          refine y_nameI (fun Id e_Id => ?_)
          have hXd := hXc.wr e_Id (show _ = G b 7 + mRn G b t by rw [hXc.n hb0, upd2_ne (.inr (by decide))])
          have hIId := hIIc.kp (I' := Id) (by rw [e_Id, upd2_row (by omega)]) (by rw [e_Id, upd2_row (by omega)])
          have hd1 : Id b 1 = G b 1 := by rw [hXd.n hb0, upd2_ne (.inr (by decide)), upd2_ne (.inr (by decide))]
          have hd84 : Id 84 = G 84 := by rw [hXd.n (show 84 < nb by omega), upd2_row (by omega), upd2_row (by omega)]
          have hwd : 0 ≤ (Id b 1).toInt ∧ (Id b 1).toInt < 8 := by rw [hd1, ← hbG]; omega
          refine y_aload_n rfl rfl ?_
          refine y_getR rfl (ySh.t hS rfl) (ySh.n hS rfl) rfl rfl (ySh.r hS rfl) ?_
          refine y_aload_n rfl rfl ?_
          refine y_getI rfl htb hb rfl rfl ?_
          refine y_dup2 rfl rfl rfl ?_
          refine y_iaload rfl (ySh.t hS rfl) (ySh.n hS rfl) (by omega) (by omega) ?_
          refine y_iload_n rfl rfl ?_
          refine y_isub rfl ?_
          refine y_iastore rfl (ySh.t hS rfl) (ySh.n hS rfl) (by decide) (by omega) (by omega) ?_
          rw [hd1, hd84]
          refine y_nameI (fun Ie e_Ie => ?_)
          have hXe := hXd.wr e_Ie rfl
          have hIIe := hIId.kp (I' := Ie) (by rw [e_Ie, upd2_row (by omega)]) (by rw [e_Ie, upd2_row (by omega)])
          refine y_aload_n rfl rfl ?_
          refine y_getR rfl (ySh.t hS rfl) (ySh.n hS rfl) rfl rfl (ySh.r hS rfl) ?_
          refine y_bip rfl (by decide) ?_
          refine y_dup2 rfl rfl rfl ?_
          refine y_iaload rfl (ySh.t hS rfl) (ySh.n hS rfl) (by decide) (by decide) ?_
          refine y_iload_n rfl rfl ?_
          refine y_iadd rfl ?_
          refine y_iastore rfl (ySh.t hS rfl) (ySh.n hS rfl) (by decide) (by decide) (by decide) ?_
          refine y_nameI (fun If e_If => ?_)
          have hXf := hXe.wr e_If (show _ = upd2 G 84 (G b 1).toInt.toNat (G 84 (G b 1).toInt.toNat - mRn G b t) 84 8 + mRn G b t by
            rw [hXe.n (show 84 < nb by omega)]
            by_cases h8 : 8 = (G b 1).toInt.toNat
            · rw [← h8, show (Int32.ofInt 8).toInt.toNat = 8 by decide, upd2_self, upd2_self]
            · rw [show (Int32.ofInt 8).toInt.toNat = 8 by decide, upd2_ne (.inr h8), upd2_ne (.inr h8), upd2_row (by omega), upd2_row (by omega)])
          have hIIf := hIIe.kp (I' := If) (by rw [e_If, upd2_row (by omega)]) (by rw [e_If, upd2_row (by omega)])
          have hst : mReS R0 G z.toNat = mReB G b t := by
            unfold mReS
            rw [← et0, ← eb0]
            exact if_pos ⟨by rw [← hbG]; omega, by rw [← hbG, ← hmG]; exact h_5⟩
          refine y_goto rfl j_X14_rents_8 ?_
          have hszf : (If 90 2).toInt = (Ib 90 2).toInt := by rw [e_If, e_Ie, e_Id, e_Ic]; simp only [upd2_row (show (90 : Nat) ≠ 84 by decide), upd2_row (show (90 : Nat) ≠ b by omega)]
          refine y_fgt (ls := [some _, some _, none, none]) ⟨rfl, rfl, trivial⟩ ?_
          exact ih _ _ (mReS R0 G z.toNat) (by rw [hst]; exact hXf) (mReS_ri hRG hkz) hGn h90 hIIf (by omega)
        · refine y_goto rfl j_X14_rents_8 ?_
          refine y_fgt (ls := [some _, some _, none, none]) ⟨rfl, rfl, trivial⟩ ?_
          have hst : mReS R0 G z.toNat = G := if_neg fun hd => h_6 (by rw [hbG, hmG, eb0]; exact hd.2)
          exact ih _ _ (mReS R0 G z.toNat) (by rw [hst]; exact hXb) (mReS_ri hRG hkz) hGn h90 hIb (by omega)
    · refine y_ret1 ?_
      refine y_if_eqT rfl j_X14_rents_140 (by decide) ?_
      refine y_return rfl ?_
      exact hQ _ (by rw [show mReD R0 G0 = G by rw [hG]; unfold mReD; rw [show (G0 90 2).toInt.toNat = z.toNat by omega]]; exact hX)
theorem hx_rents (hS0 : ySh n tg R) (hR0 : yRI K nb tg0 G R0) (hX0 : yX nb tg0 G R0 n tg I R)
    (hQ : ∀ n1 tg1 I1 R1, ySh n1 tg1 R1 → yX nb tg0 (mReD R0 G) R0 n1 tg1 I1 R1 → Q (.inl none) (n1, tg1, I1, R1) (c + 1) (s + 4)) : yC 225 [.ref 83] (n, tg, I, R) c s Q := by
  refine y_in (M := xm_X14_rents) (ls := [some _, none, none, none]) rfl rfl rfl ?_
  have hR1 := hR0.grow hX0
  have hN := hR1.1
  have h94 : 94 ≤ n := hS0.1
  refine y_aload_n rfl rfl ?_
  refine y_getR rfl (ySh.t hS0 rfl) (ySh.n hS0 rfl) rfl rfl (ySh.r hS0 rfl) ?_
  refine y_virt rfl rfl rfl rfl rfl (ySh.t hS0 rfl) (ySh.n hS0 rfl) ?_
  refine l_iter (nb := nb) hS0 (ySh.t hS0 rfl) (ySh.n hS0 rfl) (by have := hR0.2.2.2.2.2.2; omega) hX0.1 hR1.l90.2.2.2.1 (fun n1 tg1 I1 R1 en hX hI => ?_)
  refine y_ret1 ?_
  refine y_astore_n (ls' := [some _, some _, none, none]) rfl rfl rfl ?_
  have hS1 := hS0.x hX
  exact lx_rents hS1 hX0.1 (fun I2 k => hQ _ _ _ _ hS1 k) 100001 _ _ G (hX0.trans hX) hR0 rfl rfl hI (by rw [(hX.2.1 90 (by omega)).2.1]; omega)
theorem lx_mwe {x1 x2 : Int32} (hS : ySh n tg R) (h8 : 0 ≤ (G0 83 8).toInt ∧ (G0 83 8).toInt ≤ 8) (hnb : 94 ≤ nb) (hQ : ∀ I1, yX nb tg0 (mWeD G0) R0 n tg I1 R → yW xm_X14_pass xc_X14_pass_89 [some (.ref 83), some (.int x1), some (.int x2), none, none] [] (n, tg, I1, R) c s Q) : ∀ (m : Nat) (x3 : Int32) (I1 : Nat → Nat → Int32), yX nb tg0 (yRec mWeS G0 x3.toInt.toNat) R0 n tg I1 R → 0 ≤ x3.toInt → x3.toInt ≤ (G0 83 8).toInt → 8 - x3.toInt < m → yW xm_X14_pass xc_X14_pass_60 [some (.ref 83), some (.int x1), some (.int x2), some (.int x3), none] [] (n, tg, I1, R) c s Q := by
  intro m
  induction m with
  | zero => intro x3 I1 hX i0 i1 hm; exfalso; omega
  | succ m ih =>
    intro x3 I1 hX i0 i1 hm
    have hm8 : (I1 83 8).toInt = (G0 83 8).toInt := by rw [hX.n (show 83 < nb by omega), yRec_keep (S := mWeS) (I := G0) (a := 83) fun J k _ _ => (upd2_row (by decide) : upd2 J 86 k (J 86 k + J 85 k) 83 = J 83)]
    refine y_iload_n rfl rfl ?_
    refine y_aload_n rfl rfl ?_
    refine y_getI rfl (ySh.t hS rfl) (ySh.n hS rfl) rfl rfl ?_
    refine y_icmp_ge rfl j_X14_pass_89 (fun h_1 => ?_) (fun h_2 => ?_)
    · refine y_fgt (ls := [some _, some _, some _, none, none]) ⟨rfl, rfl, rfl, trivial⟩ ?_
      exact hQ _ (by unfold mWeD; rw [show (G0 83 8).toInt.toNat = x3.toInt.toNat by omega]; exact hX)
    · refine y_aload_n rfl rfl ?_
      refine y_getR rfl (ySh.t hS rfl) (ySh.n hS rfl) rfl rfl (ySh.r hS rfl) ?_
      refine y_iload_n rfl rfl ?_
      refine y_dup2 rfl rfl rfl ?_
      refine y_iaload rfl (ySh.t hS rfl) (ySh.n hS rfl) (by omega) (by omega) ?_
      refine y_aload_n rfl rfl ?_
      refine y_getR rfl (ySh.t hS rfl) (ySh.n hS rfl) rfl rfl (ySh.r hS rfl) ?_
      refine y_iload_n rfl rfl ?_
      refine y_iaload rfl (ySh.t hS rfl) (ySh.n hS rfl) (by omega) (by omega) ?_
      refine y_iadd rfl ?_
      refine y_iastore rfl (ySh.t hS rfl) (ySh.n hS rfl) (Nat.le_of_ble_eq_true rfl) (by omega) (by omega) ?_
      refine y_nameI (fun I3 e3 => ?_)
      refine y_iinc (ls' := [some _, some _, some _, some _, _]) rfl rfl rfl rfl ?_
      refine y_goto rfl j_X14_pass_60 ?_
      have hX3 := hX.wr e3 (by rw [hX.n (show 85 < nb by omega), hX.n (show 86 < nb by omega)])
      exact ih _ _ (by rw [yinc (by omega), show (x3.toInt + 1).toNat = x3.toInt.toNat + 1 by omega]; exact hX3) (by rw [yinc (by omega)]; omega) (by rw [yinc (by omega)]; omega) (by rw [yinc (by omega)]; omega)
theorem lx_mal {x1 x2 : Int32} (hS : ySh n tg R) (h8 : 0 ≤ (G0 83 8).toInt ∧ (G0 83 8).toInt ≤ 8) (hnb : 94 ≤ nb) (hQ : ∀ I1, yX nb tg0 (mAlm G0) R0 n tg I1 R → yW xm_X14_pass xc_X14_pass_178 [some (.ref 83), some (.int x1), some (.int x2), none, none] [] (n, tg, I1, R) c s Q) : ∀ (m : Nat) (x3 : Int32) (I1 : Nat → Nat → Int32), yX nb tg0 (yRec mAlS G0 x3.toInt.toNat) R0 n tg I1 R → (x3.toInt = 0 ∨ (G0 83 1 - G0 83 1 / Int32.ofInt 354 * Int32.ofInt 354).toInt = 0) → 0 ≤ x3.toInt → x3.toInt ≤ (G0 83 8).toInt → 8 - x3.toInt < m → yW xm_X14_pass xc_X14_pass_105 [some (.ref 83), some (.int x1), some (.int x2), some (.int x3), none] [] (n, tg, I1, R) c s Q := by
  intro m
  induction m with
  | zero => intro x3 I1 hX i9 i0 i1 hm; exfalso; omega
  | succ m ih =>
    intro x3 I1 hX i9 i0 i1 hm
    have h83 : ∀ k, k ≠ 2 → I1 83 k = G0 83 k := fun k hk => by
      rw [hX.n (show 83 < nb by omega)]
      exact yRec_ind (S := mAlS) (P := fun J => J 83 k = G0 83 k) rfl fun J j _ hJ => by unfold mAlS; rw [upd2_ne (.inr hk), upd2_ne (.inl (by decide))]; exact hJ
    have hm8 : (I1 83 8).toInt = (G0 83 8).toInt := by rw [h83 8 (by decide)]
    have hm1 : I1 83 1 = G0 83 1 := h83 1 (by decide)
    have hg84 := hX.n (show 84 < nb by omega)
    have hg83 := hX.n (show 83 < nb by omega)
    refine y_iload_n rfl rfl ?_
    refine y_aload_n rfl rfl ?_
    refine y_getI rfl (ySh.t hS rfl) (ySh.n hS rfl) rfl rfl ?_
    refine y_icmp_ge rfl j_X14_pass_178 (fun h_1 => ?_) (fun h_2 => ?_)
    · refine y_fgt (ls := [some _, some _, some _, none, none]) ⟨rfl, rfl, rfl, trivial⟩ ?_
      have hx3 : (G0 83 8).toInt.toNat = x3.toInt.toNat := by omega
      refine hQ _ ?_
      unfold mAlm
      split
      · rw [hx3]; exact hX
      · rename_i hne
        rcases i9 with q | q
        · rw [show x3.toInt.toNat = 0 by omega] at hX; exact hX
        · exact absurd q hne
    · refine y_aload_n rfl rfl ?_
      refine y_getI rfl (ySh.t hS rfl) (ySh.n hS rfl) rfl rfl ?_
      refine y_sip rfl (by decide) ?_
      refine y_irem rfl (by decide) ?_
      refine y_if_ne rfl j_X14_pass_178 (fun h_3 => ?_) (fun h_4 => ?_)
      · refine y_fgt (ls := [some _, some _, some _, none, none]) ⟨rfl, rfl, rfl, trivial⟩ ?_
        rw [hm1] at h_3
        refine hQ _ ?_
        unfold mAlm
        rw [if_neg h_3]
        rcases i9 with q | q
        · rw [show x3.toInt.toNat = 0 by omega] at hX; exact hX
        · exact absurd q h_3
      · have hal : (G0 83 1 - G0 83 1 / Int32.ofInt 354 * Int32.ofInt 354).toInt = 0 := by rw [hm1] at h_4; omega
        refine y_aload_n rfl rfl ?_
        refine y_getR rfl (ySh.t hS rfl) (ySh.n hS rfl) rfl rfl (ySh.r hS rfl) ?_
        refine y_iload_n rfl rfl ?_
        refine y_iaload rfl (ySh.t hS rfl) (ySh.n hS rfl) (by omega) (by omega) ?_
        refine y_bip rfl (by decide) ?_
        refine y_icmp_lt rfl j_X14_pass_147 (fun h_5 => ?_) (fun h_6 => ?_)
        · rw [yz_85] at h_5
          refine y_iconst rfl ?_
          have hmA : Int32.ofInt 0 = mAm (yRec mAlS G0 x3.toInt.toNat) x3.toInt.toNat := by unfold mAm; rw [← hg84, if_pos h_5]
          rw [hmA]
          refine y_istore (ls' := [some _, some _, some _, some _, some _]) rfl rfl rfl ?_
          refine y_aload_n rfl rfl ?_
          refine y_getR rfl (ySh.t hS rfl) (ySh.n hS rfl) rfl rfl (ySh.r hS rfl) ?_
          refine y_iload_n rfl rfl ?_
          refine y_dup2 rfl rfl rfl ?_
          refine y_iaload rfl (ySh.t hS rfl) (ySh.n hS rfl) (by omega) (by omega) ?_
          refine y_iload rfl rfl ?_
          refine y_isub rfl ?_
          refine y_iastore rfl (ySh.t hS rfl) (ySh.n hS rfl) (Nat.le_of_ble_eq_true rfl) (by omega) (by omega) ?_
          refine y_nameI (fun Ja ea => ?_)
          have hXa := hX.wr ea (by rw [hg84])
          have hga := hXa.n (show 83 < nb by omega)
          refine y_aload_n rfl rfl ?_
          refine y_dup rfl rfl ?_
          refine y_getI rfl (ySh.t hS rfl) (ySh.n hS rfl) rfl rfl ?_
          refine y_iload rfl rfl ?_
          refine y_iadd rfl ?_
          refine y_putI rfl (ySh.t hS rfl) (ySh.n hS rfl) rfl (Nat.le_of_ble_eq_true rfl) rfl rfl ?_
          refine y_nameI (fun Jb eb => ?_)
          have hXb := hXa.wr eb (show _ = yRec mAlS G0 x3.toInt.toNat 83 2 + mAm (yRec mAlS G0 x3.toInt.toNat) x3.toInt.toNat by rw [hga, upd2_row (by decide)])
          refine y_iinc (ls' := [some _, some _, some _, some _, some _]) rfl rfl rfl rfl ?_
          refine y_goto rfl j_X14_pass_105 ?_
          refine y_fgt (ls := [some _, some _, some _, some _, none]) ⟨rfl, rfl, rfl, rfl, trivial⟩ ?_
          exact ih _ _ (by rw [yinc (by omega), show (x3.toInt + 1).toNat = x3.toInt.toNat + 1 by omega]; exact hXb) (.inr hal) (by rw [yinc (by omega)]; omega) (by rw [yinc (by omega)]; omega) (by rw [yinc (by omega)]; omega)
        · rw [yz_85] at h_6
          refine y_aload_n rfl rfl ?_
          refine y_getR rfl (ySh.t hS rfl) (ySh.n hS rfl) rfl rfl (ySh.r hS rfl) ?_
          refine y_iload_n rfl rfl ?_
          refine y_iaload rfl (ySh.t hS rfl) (ySh.n hS rfl) (by omega) (by omega) ?_
          refine y_bip rfl (by decide) ?_
          refine y_idiv rfl (by decide) ?_
          have hmA : I1 84 x3.toInt.toNat / Int32.ofInt 40 = mAm (yRec mAlS G0 x3.toInt.toNat) x3.toInt.toNat := by unfold mAm; rw [← hg84, if_neg (by omega)]
          rw [hmA]
          refine y_goto rfl j_X14_pass_148 ?_
          refine y_istore (ls' := [some _, some _, some _, some _, some _]) rfl rfl rfl ?_
          refine y_aload_n rfl rfl ?_
          refine y_getR rfl (ySh.t hS rfl) (ySh.n hS rfl) rfl rfl (ySh.r hS rfl) ?_
          refine y_iload_n rfl rfl ?_
          refine y_dup2 rfl rfl rfl ?_
          refine y_iaload rfl (ySh.t hS rfl) (ySh.n hS rfl) (by omega) (by omega) ?_
          refine y_iload rfl rfl ?_
          refine y_isub rfl ?_
          refine y_iastore rfl (ySh.t hS rfl) (ySh.n hS rfl) (Nat.le_of_ble_eq_true rfl) (by omega) (by omega) ?_
          refine y_nameI (fun Ja ea => ?_)
          have hXa := hX.wr ea (by rw [hg84])
          have hga := hXa.n (show 83 < nb by omega)
          refine y_aload_n rfl rfl ?_
          refine y_dup rfl rfl ?_
          refine y_getI rfl (ySh.t hS rfl) (ySh.n hS rfl) rfl rfl ?_
          refine y_iload rfl rfl ?_
          refine y_iadd rfl ?_
          refine y_putI rfl (ySh.t hS rfl) (ySh.n hS rfl) rfl (Nat.le_of_ble_eq_true rfl) rfl rfl ?_
          refine y_nameI (fun Jb eb => ?_)
          have hXb := hXa.wr eb (show _ = yRec mAlS G0 x3.toInt.toNat 83 2 + mAm (yRec mAlS G0 x3.toInt.toNat) x3.toInt.toNat by rw [hga, upd2_row (by decide)])
          refine y_iinc (ls' := [some _, some _, some _, some _, some _]) rfl rfl rfl rfl ?_
          refine y_goto rfl j_X14_pass_105 ?_
          refine y_fgt (ls := [some _, some _, some _, some _, none]) ⟨rfl, rfl, rfl, rfl, trivial⟩ ?_
          exact ih _ _ (by rw [yinc (by omega), show (x3.toInt + 1).toNat = x3.toInt.toNat + 1 by omega]; exact hXb) (.inr hal) (by rw [yinc (by omega)]; omega) (by rw [yinc (by omega)]; omega) (by rw [yinc (by omega)]; omega)
theorem lx_mpass {T0 : Int} (hT0 : T0 ≤ 4000) (hR0 : yRI K nb tg0 G0 R0) {x1 : Int32} (hx : x1.toInt ≤ 400) (hT : (G0 83 1).toInt + x1.toInt = T0) (hQ : ∀ (v : Int32) n1 tg1 I1 R1 c1 s1, ySh n1 tg1 R1 → yX nb tg0 (yRec (mDyS R0) G0 x1.toInt.toNat) R0 n1 tg1 I1 R1 → v.toInt = T0 → c1 ≤ c + 400 → s1 ≤ s + 1600 → Q (.inl (some (.int v))) (n1, tg1, I1, R1) c1 s1) :
    ∀ (m : Nat) (x2 : Int32) (n1 : Nat) (tg1 : Nat → yT) (I1 : Nat → Nat → Int32) (R1 : Nat → Nat → Value) (c1 s1 : Nat), ySh n1 tg1 R1 → yX nb tg0 (yRec (mDyS R0) G0 x2.toInt.toNat) R0 n1 tg1 I1 R1 → 0 ≤ x2.toInt → x2.toInt ≤ x1.toInt → (c1 : Int) ≤ (c : Int) + x2.toInt → (s1 : Int) ≤ (s : Int) + 4 * x2.toInt → x1.toInt - x2.toInt < m →
    yW xm_X14_pass xc_X14_pass_53 [some (.ref 83), some (.int x1), some (.int x2), none, none] [] (n1, tg1, I1, R1) c1 s1 Q := by
  intro m
  induction m with
  | zero => intro x2 n1 tg1 I1 R1 c1 s1 hS hX i0 i1 i3 i4 hm; exfalso; omega
  | succ m ih =>
    intro x2 n1 tg1 I1 R1 c1 s1 hS hX i0 i1 i3 i4 hm
    have hN0 := hR0.1
    have hnb : 94 ≤ nb := hR0.2.2.2.2.2.2
    obtain ⟨p1, p2, p3, p4⟩ := mPa_ri hR0 x2.toInt.toNat (by omega)
    refine y_iload_n rfl rfl ?_
    refine y_iload_n rfl rfl ?_
    refine y_icmp_ge rfl j_X14_pass_184 (fun h_1 => ?_) (fun h_2 => ?_)
    · refine y_aload_n rfl rfl ?_
      refine y_getI rfl (ySh.t hS rfl) (ySh.n hS rfl) rfl rfl ?_
      refine y_ireturn rfl rfl rfl ?_
      exact hQ _ _ _ _ _ _ _ hS (by rw [show x1.toInt.toNat = x2.toInt.toNat by omega]; exact hX) (by rw [hX.n (show 83 < nb by omega)]; omega) (by omega) (by omega)
    · have hd4 : (yRec (mDyS R0) G0 x2.toInt.toNat 83 1).toInt < 4000 := by omega
      have hN1 := p1.1
      have hri2 := mDy_ri p1 hd4
      refine y_iconst rfl ?_
      refine y_istore_n (ls' := [some _, some _, some _, some _, none]) rfl rfl rfl ?_
      refine lx_mwe (G0 := yRec (mDyS R0) G0 x2.toInt.toNat) hS (by omega) hnb (fun I2 hX2 => ?_) 9 _ _ hX (by decide) (by rw [yz_0]; omega) (by decide)
      refine y_aload_n rfl rfl ?_
      refine y_dup rfl rfl ?_
      refine y_getI rfl (ySh.t hS rfl) (ySh.n hS rfl) rfl rfl ?_
      refine y_iconst rfl ?_
      refine y_iadd rfl ?_
      refine y_putI rfl (ySh.t hS rfl) (ySh.n hS rfl) rfl (Nat.le_of_ble_eq_true rfl) rfl rfl ?_
      refine y_nameI (fun I3 e3 => ?_)
      have hX3 : yX nb tg0 (mDyD (mWeD (yRec (mDyS R0) G0 x2.toInt.toNat))) R0 n1 tg1 I3 R1 := hX2.wr e3 (by rw [hX2.n (show 83 < nb by omega)])
      refine y_aload_n rfl rfl ?_
      refine y_virt rfl rfl rfl rfl rfl (ySh.t hS rfl) (ySh.n hS rfl) ?_
      refine hx_rents hS hri2 hX3 (fun n4 tg4 I4 R4 hS4 hX4 => ?_)
      have hri4 := mReD_ri hri2
      have hN4 := hri4.1
      refine y_ret0 ?_
      refine y_iconst rfl ?_
      refine y_istore_n (ls' := [some _, some _, some _, some _, none]) rfl rfl rfl ?_
      refine lx_mal (G0 := mReD R0 (mDyD (mWeD (yRec (mDyS R0) G0 x2.toInt.toNat)))) hS4 (by omega) hnb (fun I5 hX5 => ?_) 9 _ _ hX4 (.inl (by decide)) (by decide) (by rw [yz_0]; omega) (by decide)
      have hx2 : (x2 + Int32.ofInt 1).toInt = x2.toInt + 1 := yinc (by omega)
      refine y_iinc (ls' := [some _, some _, some _, none, none]) rfl rfl rfl rfl ?_
      refine y_goto rfl j_X14_pass_53 ?_
      exact ih _ _ _ _ _ _ _ hS4 (by rw [hx2, show (x2.toInt + 1).toNat = x2.toInt.toNat + 1 by omega]; exact hX5) (by omega) (by omega) (by omega) (by omega) (by omega)
theorem h_pass (hS0 : ySh n tg R) (hR0 : yRI K n tg I R) (hk6 : K < 600) {x1 : Int32} (hQ1 : ¬ (1 ≤ x1.toInt ∧ x1.toInt ≤ 400) → ∀ (v : Int32) n1 tg1 I1 R1 c1 s1, ySh n1 tg1 R1 → yRI (K + 1) n1 tg1 I1 R1 → yKp n tg I R n1 tg1 I1 R1 → I1 83 0 = Int32.ofInt 1 → yRf n I R I1 R1 → c1 ≤ c + 400 → s1 ≤ s + 1600 → Q (.inl (some (.int v))) (n1, tg1, I1, R1) c1 s1) (hQ2 : (1 ≤ x1.toInt ∧ x1.toInt ≤ 400) ∧ 4000 < (I 83 1).toInt + x1.toInt → ∀ (v : Int32) n1 tg1 I1 R1 c1 s1, ySh n1 tg1 R1 → yRI (K + 1) n1 tg1 I1 R1 → yKp n tg I R n1 tg1 I1 R1 → I1 83 0 = Int32.ofInt 2 → yRf n I R I1 R1 → c1 ≤ c + 400 → s1 ≤ s + 1600 → Q (.inl (some (.int v))) (n1, tg1, I1, R1) c1 s1) (hQ0 : (1 ≤ x1.toInt ∧ x1.toInt ≤ 400) ∧ (I 83 1).toInt + x1.toInt ≤ 4000 → ∀ (v : Int32) n1 tg1 I1 R1 c1 s1, ySh n1 tg1 R1 → yRI (K + 1) n1 tg1 I1 R1 → yKp n tg I R n1 tg1 I1 R1 → I1 83 0 = Int32.ofInt 0 → v.toInt = (I 83 1).toInt + x1.toInt → yX n tg (yRec (mDyS R) (upd2 I 83 0 (Int32.ofInt 0)) x1.toInt.toNat) R n1 tg1 I1 R1 → c1 ≤ c + 400 → s1 ≤ s + 1600 → Q (.inl (some (.int v))) (n1, tg1, I1, R1) c1 s1) : yC 226 [.ref 83, .int x1] (n, tg, I, R) c s Q := by
  have hno := Nat.le_refl n
  have hn := hno
  have hRo := hR0
  have hK : yKp n tg I R n tg I R := yKp.rf
  have hX : yX n tg I R n tg I R := yX.rf
  have hS := hS0
  have hR := hR0
  have h94 : 94 ≤ n := hS0.1
  have hz : ySz I I := hX.sz h94
  have hxn := hX.1
  have hN := hR0.1
  have hnb : 94 ≤ n := hR0.2.2.2.2.2.2
  refine y_in (M := xm_X14_pass) (ls := [some _, some _, _, _, _]) rfl rfl rfl ?_
  refine y_aload_n rfl rfl ?_
  refine y_iload_n rfl rfl ?_
  refine y_iconst rfl ?_
  refine y_sip rfl (by decide) ?_
  refine y_static rfl rfl rfl rfl rfl ?_
  refine r_isIn (fun h_1 h_2 => ?_) (fun h_3 => ?_)
  · rw [yz_1] at h_1
    rw [yz_400] at h_2
    refine y_ret1 ?_
    refine y_if_neT rfl j_X14_pass_16 (by decide) ?_
    refine y_iconst rfl ?_
    refine y_iconst rfl ?_
    refine y_virt rfl rfl rfl rfl rfl (ySh.t hS rfl) (ySh.n hS rfl) ?_
    refine y_in (M := xm_X14_start) (ls := [some _, some _, some _]) rfl rfl rfl ?_
    refine y_aload_n rfl rfl ?_
    refine y_iconst rfl ?_
    refine y_putI rfl (ySh.t hS rfl) (ySh.n hS rfl) rfl (Nat.le_of_ble_eq_true rfl) rfl rfl ?_
    refine y_nameI (fun I4 e4 => ?_)
    have hR1 := (hR0.grow hX).mod0 e4 (by decide) (by decide)
    have hK := (hK.x hRo hno hX).upI (upI e4) (by decide) (by decide) (fun i hi => by have := (hRo.l87.2.2.2.2 i hi).2.1; omega) (by rw [e4, upd2_ne (.inr (by decide))]; exact Int.le_refl _)
    have hth : I4 83 0 = Int32.ofInt (0) := by rw [e4, upd2_self]
    have hzz : ySz8 I I4 := ySz8_of (upI e4) (by rw [e4]; exact ⟨upd2_ne (.inr (by decide)), upd2_ne (.inr (by decide))⟩)
    have hS0 := hS
    have hR0 := hR1
    have hn := Nat.le_refl n
    have h94 := hS0.1
    have hX := @yX.rf n tg I4 R
    have hS := hS0.x hX
    have hR := hR0.x hn hX
    have hz := hX.sz h94
    have hxn := hX.1
    have hN := hR0.1
    have hnb := hR0.2.2.2.2.2.2
    have hthB := hth
    refine y_aload_n rfl rfl ?_
    refine y_iload_n rfl rfl ?_
    refine y_iload_n rfl rfl ?_
    refine y_virt rfl rfl rfl rfl rfl (ySh.t hS rfl) (ySh.n hS rfl) ?_
    refine y_in (M := xm_X14_refuse) (ls := [some _, some _, some _]) rfl rfl rfl ?_
    refine y_iload_n rfl rfl ?_
    refine y_if_eqT rfl j_X14_refuse_16 (by decide) ?_
    refine y_aload_n rfl rfl ?_
    refine y_getIv (v := Int32.ofInt (0)) rfl (ySh.t hS rfl) (ySh.n hS rfl) rfl rfl hth ?_
    refine y_if_leT rfl j_X14_refuse_27 (by decide) ?_
    refine y_iconst rfl ?_
    refine y_ireturn rfl rfl rfl ?_
    refine y_ret1 ?_
    refine y_ireturn rfl rfl rfl ?_
    refine y_ret1 ?_
    refine y_if_neF rfl (by decide) ?_
    refine y_aload_n rfl rfl ?_
    refine y_aload_n rfl rfl ?_
    refine y_getI rfl (ySh.t hS rfl) (ySh.n hS rfl) rfl rfl ?_
    refine y_iload_n rfl rfl ?_
    refine y_iadd rfl ?_
    have hsum := yadd4 (a := I4 83 1) (b := x1) (by omega) (by omega) (by omega) (by omega)
    refine y_sip rfl (by decide) ?_
    refine y_icmp_le rfl j_X14_pass_41 (fun h_5 => ?_) (fun h_6 => ?_)
    · rw [yz_4000] at h_5
      refine y_iconst rfl ?_
      refine y_iconst rfl ?_
      refine y_virt rfl rfl rfl rfl rfl (ySh.t hS rfl) (ySh.n hS rfl) ?_
      refine y_in (M := xm_X14_refuse) (ls := [some _, some _, some _]) rfl rfl rfl ?_
      refine y_iload_n rfl rfl ?_
      refine y_if_eqT rfl j_X14_refuse_16 (by decide) ?_
      refine y_aload_n rfl rfl ?_
      refine y_getIv (v := Int32.ofInt (0)) rfl (ySh.t hS rfl) (ySh.n hS rfl) rfl rfl hth ?_
      refine y_if_leT rfl j_X14_refuse_27 (by decide) ?_
      refine y_iconst rfl ?_
      refine y_ireturn rfl rfl rfl ?_
      refine y_ret1 ?_
      refine y_if_eqT rfl j_X14_pass_51 (by decide) ?_
      refine y_iconst rfl ?_
      refine y_istore_n (ls' := [some _, some _, some _, _, _]) rfl rfl rfl ?_
      have hR0_ : yRI K n tg (upd2 I 83 0 (Int32.ofInt 0)) R := hRo.mod0 rfl (by decide) (by decide)
      have hd_ : (upd2 I 83 0 (Int32.ofInt 0) 83 1).toInt = (I 83 1).toInt := by rw [upd2_ne (.inr (by decide))]
      have hp_ := mPa_ri hR0_ x1.toInt.toNat (by omega)
      have hk_ : yKp n tg I R n tg (upd2 I 83 0 (Int32.ofInt 0)) R := yKp.rf.upI (fun b hb => upd2_row hb) (by decide) (by decide) (fun i hi => by have := (hRo.l87.2.2.2.2 i hi).2.1; omega) (Int.le_of_eq hd_.symm)
      exact lx_mpass (T0 := (I 83 1).toInt + x1.toInt) (by omega) hR0_ (by omega) (by omega) (fun v n1 tg1 I1 R1 c1 s1 a b d f g => hQ0 (by omega) _ _ _ _ _ _ _ a ((hp_.1.grow b).up (Nat.le_succ K) hk6) ((hk_.trans (mPa_kp hR0_ (by omega))).x hRo hno b) ((congrFun (b.n (show 83 < n by omega)) 0).trans ((hp_.2.2.1 0 (by decide) (by decide)).trans upd2_self)) d b f g) 401 _ _ _ _ _ _ _ hS (by rw [e4]; exact yX.rf) (by decide) (by rw [yz_0]; omega) (by rw [yz_0]; omega) (by rw [yz_0]; omega) (by rw [yz_0]; omega)
    · rw [yz_4000] at h_6
      refine y_iconst rfl ?_
      refine y_goto rfl j_X14_pass_42 ?_
      refine y_iconst rfl ?_
      refine y_virt rfl rfl rfl rfl rfl (ySh.t hS rfl) (ySh.n hS rfl) ?_
      refine y_in (M := xm_X14_refuse) (ls := [some _, some _, some _]) rfl rfl rfl ?_
      refine y_iload_n rfl rfl ?_
      refine y_if_eqF rfl (by decide) ?_
      refine y_aload_n rfl rfl ?_
      refine y_getIv (v := Int32.ofInt (0)) rfl (ySh.t hS rfl) (ySh.n hS rfl) rfl rfl hth ?_
      refine y_if_neF rfl (by decide) ?_
      refine y_aload_n rfl rfl ?_
      refine y_iload_n rfl rfl ?_
      refine y_putI rfl (ySh.t hS rfl) (ySh.n hS rfl) rfl (Nat.le_of_ble_eq_true rfl) rfl rfl ?_
      refine y_nameI (fun I7 e7 => ?_)
      have hR1 := (hR0.grow hX).mod0 e7 (by decide) (by decide)
      have hK := (hK.x hRo hno hX).upI (upI e7) (by decide) (by decide) (fun i hi => by have := (hRo.l87.2.2.2.2 i hi).2.1; omega) (by rw [e7, upd2_ne (.inr (by decide))]; exact Int.le_refl _)
      have hth : I7 83 0 = Int32.ofInt (2) := by rw [e7, upd2_self]
      have hzz : ySz8 I4 I7 := ySz8_of (upI e7) (by rw [e7]; exact ⟨upd2_ne (.inr (by decide)), upd2_ne (.inr (by decide))⟩)
      have hS0 := hS
      have hR0 := hR1
      have hn := Nat.le_refl n
      have h94 := hS0.1
      have hX := @yX.rf n tg I7 R
      have hS := hS0.x hX
      have hR := hR0.x hn hX
      have hz := hX.sz h94
      have hxn := hX.1
      have hN := hR0.1
      have hnb := hR0.2.2.2.2.2.2
      have hthB := hth
      refine y_aload_n rfl rfl ?_
      refine y_getIv (v := Int32.ofInt (2)) rfl (ySh.t hS rfl) (ySh.n hS rfl) rfl rfl hth ?_
      refine y_if_leF rfl (by decide) ?_
      refine y_iconst rfl ?_
      refine y_goto rfl j_X14_refuse_28 ?_
      refine y_ireturn rfl rfl rfl ?_
      refine y_ret1 ?_
      refine y_if_eqF rfl (by decide) ?_
      refine y_iconst rfl ?_
      refine y_ireturn rfl rfl rfl ?_
      exact hQ2 (by omega) _ _ _ _ _ _ _ hS ((hR0.grow hX).up (Nat.le_succ K) hk6) (hK.x hRo hno hX) hth ⟨fun a _ ha => by rw [e7, e4]; exact (upd2_row ha).trans (upd2_row ha), fun k hk => by rw [e7, e4]; exact (upd2_ne (.inr hk)).trans (upd2_ne (.inr hk)), fun _ _ => rfl⟩ (by omega) (by omega)
  · rw [yz_1] at h_3
    rw [yz_400] at h_3
    refine y_ret1 ?_
    refine y_if_neF rfl (by decide) ?_
    refine y_iconst rfl ?_
    refine y_goto rfl j_X14_pass_17 ?_
    refine y_iconst rfl ?_
    refine y_virt rfl rfl rfl rfl rfl (ySh.t hS rfl) (ySh.n hS rfl) ?_
    refine y_in (M := xm_X14_start) (ls := [some _, some _, some _]) rfl rfl rfl ?_
    refine y_aload_n rfl rfl ?_
    refine y_iconst rfl ?_
    refine y_putI rfl (ySh.t hS rfl) (ySh.n hS rfl) rfl (Nat.le_of_ble_eq_true rfl) rfl rfl ?_
    refine y_nameI (fun I8 e8 => ?_)
    have hR1 := (hR0.grow hX).mod0 e8 (by decide) (by decide)
    have hK := (hK.x hRo hno hX).upI (upI e8) (by decide) (by decide) (fun i hi => by have := (hRo.l87.2.2.2.2 i hi).2.1; omega) (by rw [e8, upd2_ne (.inr (by decide))]; exact Int.le_refl _)
    have hth : I8 83 0 = Int32.ofInt (0) := by rw [e8, upd2_self]
    have hzz : ySz8 I I8 := ySz8_of (upI e8) (by rw [e8]; exact ⟨upd2_ne (.inr (by decide)), upd2_ne (.inr (by decide))⟩)
    have hS0 := hS
    have hR0 := hR1
    have hn := Nat.le_refl n
    have h94 := hS0.1
    have hX := @yX.rf n tg I8 R
    have hS := hS0.x hX
    have hR := hR0.x hn hX
    have hz := hX.sz h94
    have hxn := hX.1
    have hN := hR0.1
    have hnb := hR0.2.2.2.2.2.2
    have hthB := hth
    refine y_aload_n rfl rfl ?_
    refine y_iload_n rfl rfl ?_
    refine y_iload_n rfl rfl ?_
    refine y_virt rfl rfl rfl rfl rfl (ySh.t hS rfl) (ySh.n hS rfl) ?_
    refine y_in (M := xm_X14_refuse) (ls := [some _, some _, some _]) rfl rfl rfl ?_
    refine y_iload_n rfl rfl ?_
    refine y_if_eqF rfl (by decide) ?_
    refine y_aload_n rfl rfl ?_
    refine y_getIv (v := Int32.ofInt (0)) rfl (ySh.t hS rfl) (ySh.n hS rfl) rfl rfl hth ?_
    refine y_if_neF rfl (by decide) ?_
    refine y_aload_n rfl rfl ?_
    refine y_iload_n rfl rfl ?_
    refine y_putI rfl (ySh.t hS rfl) (ySh.n hS rfl) rfl (Nat.le_of_ble_eq_true rfl) rfl rfl ?_
    refine y_nameI (fun I9 e9 => ?_)
    have hR1 := (hR0.grow hX).mod0 e9 (by decide) (by decide)
    have hK := (hK.x hRo hno hX).upI (upI e9) (by decide) (by decide) (fun i hi => by have := (hRo.l87.2.2.2.2 i hi).2.1; omega) (by rw [e9, upd2_ne (.inr (by decide))]; exact Int.le_refl _)
    have hth : I9 83 0 = Int32.ofInt (1) := by rw [e9, upd2_self]
    have hzz : ySz8 I8 I9 := ySz8_of (upI e9) (by rw [e9]; exact ⟨upd2_ne (.inr (by decide)), upd2_ne (.inr (by decide))⟩)
    have hS0 := hS
    have hR0 := hR1
    have hn := Nat.le_refl n
    have h94 := hS0.1
    have hX := @yX.rf n tg I9 R
    have hS := hS0.x hX
    have hR := hR0.x hn hX
    have hz := hX.sz h94
    have hxn := hX.1
    have hN := hR0.1
    have hnb := hR0.2.2.2.2.2.2
    have hthB := hth
    refine y_aload_n rfl rfl ?_
    refine y_getIv (v := Int32.ofInt (1)) rfl (ySh.t hS rfl) (ySh.n hS rfl) rfl rfl hth ?_
    refine y_if_leF rfl (by decide) ?_
    refine y_iconst rfl ?_
    refine y_goto rfl j_X14_refuse_28 ?_
    refine y_ireturn rfl rfl rfl ?_
    refine y_ret1 ?_
    refine y_ireturn rfl rfl rfl ?_
    refine y_ret1 ?_
    refine y_if_neT rfl j_X14_pass_49 (by decide) ?_
    refine y_iconst rfl ?_
    refine y_ireturn rfl rfl rfl ?_
    exact hQ1 (by omega) _ _ _ _ _ _ _ hS ((hR0.grow hX).up (Nat.le_succ K) hk6) (hK.x hRo hno hX) hth ⟨fun a _ ha => by rw [e9, e8]; exact (upd2_row ha).trans (upd2_row ha), fun k hk => by rw [e9, e8]; exact (upd2_ne (.inr hk)).trans (upd2_ne (.inr hk)), fun _ _ => rfl⟩ (by omega) (by omega)
end YXR
