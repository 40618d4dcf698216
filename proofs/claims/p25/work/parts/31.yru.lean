/-! THE REFERENCE: rents (by hand) -/
theorem yIt.kp {nb n : Nat} {tg : Nat → yT} {I I' : Nat → Nat → Int32} {R : Nat → Nat → Value} {it l : Nat} {k : Int} (h : yIt nb n tg I R it l k) (h1 : I' it = I it) (h2 : I' l = I l) : yIt nb n tg I' R it l k := by
  unfold yIt at *; rw [h1, h2]; exact h
section YRU
variable {n : Nat} {tg : Nat → yT} {I : Nat → Nat → Int32} {R : Nat → Nat → Value} {c s : Nat} {Q : yQ}
theorem rents1 {K n0 nb it : Nat} {dd : Int32} {tg0 : Nat → yT} {I0 : Nat → Nat → Int32} {R0 : Nat → Nat → Value} (hRo : yRI K n0 tg0 I0 R0) (hno : n0 ≤ n0) (hS : ySh n tg R) (hnb : nb ≤ n) (h94 : 94 ≤ nb) (hit0 : nb ≤ it)
    (hQ : ∀ I1, yRI K nb tg I1 R → yKp n0 tg0 I0 R0 n tg I1 R → I1 83 1 = dd → Q (.inl none) (n, tg, I1, R) c s) :
    ∀ (m : Nat) (z : Int) (Ia : Nat → Nat → Int32), yRI K nb tg Ia R → yKp n0 tg0 I0 R0 n tg Ia R → Ia 83 1 = dd → yIt nb n tg Ia R it 90 z → (Ia 90 2).toInt - z < m → yW xm_X14_rents xc_X14_rents_8 [some (.ref 83), some (.ref it), none, none] [] (n, tg, Ia, R) c s Q := by
  intro m
  induction m with
  | zero =>
    intro z Ia hRa hKa hda hIa hm
    have h7 := hIa.2.2.2.2.2.2.1
    exfalso; omega
  | succ m ih =>
    intro z Ia hRa hKa hda hIa hm
    refine y_aload_n rfl rfl ?_
    refine y_intf rfl rfl rfl rfl rfl hIa.2.2.1 hIa.2.1 ?_
    refine i_hasNext hIa (fun h_1 => ?_) (fun h_2 => ?_)
    · refine y_ret1 ?_
      refine y_if_eqF rfl (by decide) ?_
      refine y_aload_n rfl rfl ?_
      refine y_intf rfl rfl rfl rfl rfl hIa.2.2.1 hIa.2.1 ?_
      have hz0 := hIa.2.2.2.2.2.1
      have hN := hRa.1
      refine i_next (nb := nb) (Nat.le_trans (by decide) (by omega : 94 ≤ _)) hnb hIa hRa.l90 (by omega) h_1 (fun b Ib eb hlo hb0 htb hIb hIe => ?_)
      have hb : b < n := Nat.lt_of_lt_of_le hb0 hnb
      have hRb := hRa.cong (I' := Ib) (fun a ha => hIe a (by omega))
      have hKb := hKa.upE hRo hno hIe (by omega) (by omega) (by rw [hIa.2.2.1]; decide) (by rw [hIe 83 (by omega)]; exact Int.le_refl _)
      have hszb : (Ib 90 2).toInt = (Ia 90 2).toInt := by rw [hIe 90 (by omega)]
      have hdb : Ib 83 1 = dd := by rw [hIe 83 (by omega)]; exact hda
      have hit := hIa.2.2.1
      have hbi : b ≠ it := by omega
      have hw := hRb.lea hlo hb0 htb
      refine y_ret1 ?_
      refine y_cast rfl htb hb ?_
      refine y_astore_n (ls' := [some _, some _, some _, none]) rfl rfl rfl ?_
      refine y_aload_n rfl rfl ?_
      refine y_getI rfl htb hb rfl rfl ?_
      refine y_if_ne rfl j_X14_rents_8 (fun h_3 => ?_) (fun h_4 => ?_)
      · refine y_fgt (ls := [some _, some _, none, none]) ⟨rfl, rfl, trivial⟩ ?_
        exact ih _ _ hRb hKb hdb hIb (by omega)
      · refine y_aload_n rfl rfl ?_
        refine y_getI rfl (ySh.t hS rfl) (ySh.n hS rfl) rfl rfl ?_
        refine y_aload_n rfl rfl ?_
        refine y_getI rfl htb hb rfl rfl ?_
        refine y_isub rfl ?_
        refine y_bip rfl (by decide) ?_
        refine y_irem rfl (by decide) ?_
        refine y_if_eq rfl j_X14_rents_52 (fun h_5 => ?_) (fun h_6 => ?_)
        · refine y_aload_n rfl rfl ?_
          refine y_getR rfl (ySh.t hS rfl) (ySh.n hS rfl) rfl rfl (ySh.r hS rfl) ?_
          refine y_aload_n rfl rfl ?_
          refine y_getI rfl htb hb rfl rfl ?_
          refine y_virt rfl rfl rfl rfl rfl (ySh.t hS rfl) (ySh.n hS rfl) ?_
          refine l_get (nb := nb) (ySh.t hS rfl) (ySh.n hS rfl) hnb hRb.l88 (by omega) (by omega) (fun t et hlot ht0 htt => ?_)
          have ht : t < n := Nat.lt_of_lt_of_le ht0 hnb
          refine y_ret1 ?_
          refine y_cast rfl htt ht ?_
          refine y_getI rfl htt ht rfl rfl ?_
          refine y_aload_n rfl rfl ?_
          refine y_getI rfl htb hb rfl rfl ?_
          refine y_aload_n rfl rfl ?_
          refine y_getI rfl htb hb rfl rfl ?_
          refine y_aload_n rfl rfl ?_
          refine y_getI rfl (ySh.t hS rfl) (ySh.n hS rfl) rfl rfl ?_
          refine y_max rfl rfl ?_
          refine y_min rfl rfl ?_
          refine y_imul rfl ?_
          refine y_sip rfl (by decide) ?_
          refine y_idiv rfl (by decide) ?_
          refine y_istore_n (ls' := [some _, some _, some _, some _]) rfl rfl rfl ?_
          refine y_aload_n rfl rfl ?_
          refine y_dup rfl rfl ?_
          refine y_getI rfl htb hb rfl rfl ?_
          refine y_iconst rfl ?_
          refine y_iadd rfl ?_
          refine y_putI rfl htb hb rfl (Nat.le_trans (by decide) hlo) rfl rfl ?_
          refine y_nameI (fun Ic e_Ic => ?_)
          have hRIc := hRb.upL e_Ic hlo hb0 htb (by decide)
          have hKIc := hKb.upE hRo hno (upI e_Ic) (by omega) (by omega) (by rw [htb]; decide) (by rw [e_Ic, upd2_ne (.inl (by omega))]; exact Int.le_refl _)
          have hIIc := hIb.kp (I' := Ic) (by rw [e_Ic, upd2_row (by omega)]) (by rw [e_Ic, upd2_row (by omega)])
          refine y_aload_n rfl rfl ?_
          refine y_dup rfl rfl ?_
          refine y_getI rfl htb hb rfl rfl ?_
          refine y_iload_n rfl rfl ?_
          refine y_iadd rfl ?_
          refine y_putI rfl htb hb rfl (Nat.le_trans (by decide) hlo) rfl rfl ?_
          refine y_nameI (fun Id e_Id => ?_)
          have hRId := hRIc.upL e_Id hlo hb0 htb (by decide)
          have hKId := hKIc.upE hRo hno (upI e_Id) (by omega) (by omega) (by rw [htb]; decide) (by rw [e_Id, upd2_ne (.inl (by omega))]; exact Int.le_refl _)
          have hIId := hIIc.kp (I' := Id) (by rw [e_Id, upd2_row (by omega)]) (by rw [e_Id, upd2_row (by omega)])
          have hwd := hRId.lea hlo hb0 htb
          refine y_aload_n rfl rfl ?_
          refine y_getR rfl (ySh.t hS rfl) (ySh.n hS rfl) rfl rfl (ySh.r hS rfl) ?_
          refine y_aload_n rfl rfl ?_
          refine y_getI rfl htb hb rfl rfl ?_
          refine y_dup2 rfl rfl rfl ?_
          refine y_iaload rfl (ySh.t hS rfl) (ySh.n hS rfl) (by omega) (by omega) ?_
          refine y_iload_n rfl rfl ?_
          refine y_isub rfl ?_
          refine y_iastore rfl (ySh.t hS rfl) (ySh.n hS rfl) (by decide) (by omega) (by omega) ?_
          refine y_nameI (fun Ie e_Ie => ?_)
          have hRIe := hRId.arr e_Ie (by decide)
          have hKIe := hKId.upE hRo hno (upI e_Ie) (by omega) (by omega) (by rw [show tg 84 = _ from ySh.t hS rfl]; decide) (by rw [e_Ie, upd2_ne (.inl (by omega))]; exact Int.le_refl _)
          have hIIe := hIId.kp (I' := Ie) (by rw [e_Ie, upd2_row (by omega)]) (by rw [e_Ie, upd2_row (by omega)])
          refine y_aload_n rfl rfl ?_
          refine y_getR rfl (ySh.t hS rfl) (ySh.n hS rfl) rfl rfl (ySh.r hS rfl) ?_
          refine y_bip rfl (by decide) ?_
          refine y_dup2 rfl rfl rfl ?_
          refine y_iaload rfl (ySh.t hS rfl) (ySh.n hS rfl) (by decide) (by decide) ?_
          refine y_iload_n rfl rfl ?_
          refine y_iadd rfl ?_
          refine y_iastore rfl (ySh.t hS rfl) (ySh.n hS rfl) (by decide) (by decide) (by decide) ?_
          refine y_nameI (fun If e_If => ?_)
          have hRIf := hRIe.arr e_If (by decide)
          have hKIf := hKIe.upE hRo hno (upI e_If) (by omega) (by omega) (by rw [show tg 84 = _ from ySh.t hS rfl]; decide) (by rw [e_If, upd2_ne (.inl (by omega))]; exact Int.le_refl _)
          have hIIf := hIIe.kp (I' := If) (by rw [e_If, upd2_row (by omega)]) (by rw [e_If, upd2_row (by omega)])
          refine y_goto rfl j_X14_rents_8 ?_
          have hdf : If 83 1 = dd := by rw [e_If, e_Ie, e_Id, e_Ic]; simp only [upd2_row (show (83 : Nat) ≠ 84 by decide), upd2_row (show (83 : Nat) ≠ b by omega)]; exact hdb
          have hszf : (If 90 2).toInt = (Ib 90 2).toInt := by rw [e_If, e_Ie, e_Id, e_Ic]; simp only [upd2_row (show (90 : Nat) ≠ 84 by decide), upd2_row (show (90 : Nat) ≠ b by omega)]
          refine y_fgt (ls := [some _, some _, none, none]) ⟨rfl, rfl, trivial⟩ ?_
          exact ih _ _ hRIf hKIf hdf hIIf (by omega)
        · refine y_goto rfl j_X14_rents_8 ?_
          refine y_fgt (ls := [some _, some _, none, none]) ⟨rfl, rfl, trivial⟩ ?_
          exact ih _ _ hRb hKb hdb hIb (by omega)
    · refine y_ret1 ?_
      refine y_if_eqT rfl j_X14_rents_140 (by decide) ?_
      refine y_return rfl ?_
      exact hQ _ hRa hKa hda
theorem h_rents {K : Nat} (hS0 : ySh n tg R) (hR0 : yRI K n tg I R)
    (hQ : ∀ n1 tg1 I1 R1, ySh n1 tg1 R1 → yRI K n1 tg1 I1 R1 → yKp n tg I R n1 tg1 I1 R1 → I1 83 1 = I 83 1 → Q (.inl none) (n1, tg1, I1, R1) (c + 1) (s + 4)) : yC 225 [.ref 83] (n, tg, I, R) c s Q := by
  refine y_in (M := xm_X14_rents) (ls := [some _, none, none, none]) rfl rfl rfl ?_
  have hN := hR0.1
  have h94 : 94 ≤ n := hS0.1
  refine y_aload_n rfl rfl ?_
  refine y_getR rfl (ySh.t hS0 rfl) (ySh.n hS0 rfl) rfl rfl (ySh.r hS0 rfl) ?_
  refine y_virt rfl rfl rfl rfl rfl (ySh.t hS0 rfl) (ySh.n hS0 rfl) ?_
  refine l_iter hS0 (ySh.t hS0 rfl) (ySh.n hS0 rfl) (by omega : 90 < n) (Nat.le_refl n) hR0.l90.2.2.2.1 (fun n1 tg1 I1 R1 en hX hI => ?_)
  refine y_ret1 ?_
  refine y_astore_n (ls' := [some _, some _, none, none]) rfl rfl rfl ?_
  have hS1 := hS0.x hX
  have hR1 := hR0.x (Nat.le_refl n) hX
  exact rents1 hR0 (Nat.le_refl n) hS1 hX.1 hR0.2.2.2.2.2.2 (Nat.le_refl n) (fun I2 r k d => hQ _ _ _ _ hS1 (r.grow ⟨hX.1, fun _ _ => ⟨rfl, rfl, rfl⟩, fun a h1 h2 => by rw [show a = n by omega, hI.2.2.1]; decide⟩) k d) 100001 _ _ hR1 (yKp.rf.x hR0 (Nat.le_refl n) hX) (by rw [(hX.2.1 83 (by omega)).2.1]) hI (by rw [(hX.2.1 90 (by omega)).2.1]; omega)
end YRU
