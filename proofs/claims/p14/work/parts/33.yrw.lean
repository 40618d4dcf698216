/-! THE BOARD: who is for a question, as the reference's words tell -/
def yHv (I : Nat → Nat → Int32) (R : Nat → Nat → Value) (q : Int) (j : Nat) : Nat → Int
  | 0 => 1
  | k + 1 => if (I (yAd R 87 k) 2).toInt = q ∧ (I (yAd R 87 k) 1).toInt = (j : Int) then (I (yAd R 87 k) 3).toInt else yHv I R q j k
theorem yHv_step {I : Nat → Nat → Int32} {R : Nat → Nat → Value} {q : Int} {j k b : Nat} (hb : b = yAd R 87 k) : yHv I R q j (k + 1) = if (I b 2).toInt = q ∧ (I b 1).toInt = (j : Int) then (I b 3).toInt else yHv I R q j k := by subst hb; rfl
theorem yHv_eq {I I' : Nat → Nat → Int32} {R R' : Nat → Nat → Value} {q : Int} {j : Nat} : ∀ {k : Nat}, (∀ i, i < k → yAd R' 87 i = yAd R 87 i ∧ I' (yAd R 87 i) = I (yAd R 87 i)) → yHv I' R' q j k = yHv I R q j k
  | 0, _ => rfl
  | k + 1, h => by
    obtain ⟨h1, h2⟩ := h k (Nat.lt_succ_self k)
    rw [yHv_step h1.symm, yHv_step rfl, h2, yHv_eq (k := k) (fun i hi => h i (by omega))]
theorem yHv01 {K nb : Nat} {tg : Nat → yT} {I : Nat → Nat → Int32} {R : Nat → Nat → Value} {q : Int} {j : Nat} (h : yRI K nb tg I R) : ∀ {k : Nat}, (k : Int) ≤ (I 87 2).toInt → yHv I R q j k = 0 ∨ yHv I R q j k = 1
  | 0, _ => .inr rfl
  | k + 1, hk => by
    have h3 := (h.2.2.2.2.2.1 k (by omega)).2.2
    rw [yHv_step rfl]
    split
    · exact h3
    · exact yHv01 h (by omega)
theorem ySum_nx5 {f : Nat → Int} {x v w : Int32} (h0 : 0 ≤ x.toInt) (h5 : x.toInt < 5) (hf : ∀ j, j < 5 → 0 ≤ f j ∧ f j ≤ 1) (hv : v.toInt = ySum f x.toInt.toNat) (hw : w.toInt = f x.toInt.toNat) : (v + w).toInt = ySum f (x + Int32.ofInt 1).toInt.toNat := by
  have b := ySum_bd (f := f) (B := 1) (k := x.toInt.toNat) (fun j hj => hf j (by omega))
  have b2 := hf x.toInt.toNat (by omega)
  rw [yadd (by omega) (by omega), hv, hw, yinc (by omega), show (x.toInt + 1).toNat = x.toInt.toNat + 1 by omega]; rfl
section YRW
variable {K nb n : Nat} {tg : Nat → yT} {I : Nat → Nat → Int32} {R : Nat → Nat → Value} {c s : Nat} {Q : yQ}
theorem lp_r_forIt2E {x1 x2 : Int32} {hd : Nat} (ht_pa : tg hd = (0, 5)) (ha_pa : hd < n) (hc : ∀ j, j < 5 → 0 ≤ (I hd j).toInt ∧ (I hd j).toInt ≤ 1) (hQ : ∀ v : Int32, v.toInt = ySum (fun j => (I hd j).toInt) 5 → Q (.inl (some (.int v))) (n, tg, I, R) c s) : ∀ (m : Nat) (x4 : Int32) (x6 : Int32) (x7 : Int32), (x6.toInt = 5) → (0 ≤ x7.toInt) → (x7.toInt ≤ 5) → (x4.toInt = ySum (fun j => (I hd j).toInt) x7.toInt.toNat) → 5 - x7.toInt < m → yW xm_X14_forIt xc_X14_forIt_98 [some (.ref 83), some (.int x1), some (.int x2), some (.ref hd), some (.int x4), some (.ref hd), some (.int x6), some (.int x7), none] [] (n, tg, I, R) c s Q := by
  intro m
  induction m with
  | zero => intro x4 x6 x7 i0 i1 i2 i3 hm; exfalso; omega
  | succ m ih =>
    intro x4 x6 x7 i0 i1 i2 i3 hm
    refine y_iload rfl rfl ?_
    refine y_iload rfl rfl ?_
    refine y_icmp_ge rfl j_X14_forIt_125 (fun h_1 => ?_) (fun h_2 => ?_)
    · refine y_iload rfl rfl ?_
      refine y_ireturn rfl rfl rfl ?_
      exact hQ _ (by rw [i3, show x7.toInt.toNat = 5 by omega])
    · refine y_aload rfl rfl ?_
      refine y_iload rfl rfl ?_
      refine y_iaload rfl ht_pa ha_pa (by omega) (by omega) ?_
      refine y_istore (ls' := [some _, some _, some _, some _, some _, some _, some _, some _, some _]) rfl rfl rfl ?_
      refine y_iload rfl rfl ?_
      refine y_iload rfl rfl ?_
      refine y_iadd rfl ?_
      refine y_istore (ls' := [some _, some _, some _, some _, some _, some _, some _, some _, some _]) rfl rfl rfl ?_
      refine y_iinc (ls' := [some _, some _, some _, some _, some _, some _, some _, some _, some _]) rfl rfl rfl rfl ?_
      refine y_goto rfl j_X14_forIt_98 ?_
      refine y_fgt (ls := [some _, some _, some _, some _, some _, some _, some _, some _, none]) ⟨rfl, rfl, rfl, rfl, rfl, rfl, rfl, rfl, trivial⟩ ?_
      exact ih _ _ _ (by assumption) (by first | omega | (rw [yinc (by omega)]; omega)) (by first | omega | (rw [yinc (by omega)]; omega)) (ySum_nx5 (by omega) (by omega) hc i3 rfl) (by first | omega | (rw [yinc (by omega)]; omega))
theorem e_r_forItE (hS0 : ySh n tg R) (hR0 : yRI K nb tg I R) (hn : nb ≤ n) {x1 x2 : Int32} {hd : Nat} (hfr_pa : n ≤ hd) (hdy : (I 83 1).toInt ≤ x2.toInt) (hx : ∀ n1 tg1 I1 R1, yX n tg I R n1 tg1 I1 R1 → tg1 hd = (0, 5) → hd < n1 → (∀ j : Nat, j < 5 → (I1 hd j).toInt = yHv I R x1.toInt j (I 87 2).toInt.toNat) → yW xm_X14_forIt xc_X14_forIt_84 [some (.ref 83), some (.int x1), some (.int x2), some (.ref hd), none, none, none, none, none] [] (n1, tg1, I1, R1) c s Q) : ∀ (m : Nat) (z : Int) (it : Nat)  (n1 : Nat) (tg1 : Nat → yT) (I1 : Nat → Nat → Int32) (R1 : Nat → Nat → Value), yX n tg I R n1 tg1 I1 R1 → n ≤ it → yIt nb n1 tg1 I1 R1 it 87 z → tg1 hd = (0, 5) → hd < n1 → hd ≠ it → (∀ j : Nat, j < 5 → (I1 hd j).toInt = yHv I R x1.toInt j z.toNat) → (I 87 2).toInt - z < m → yW xm_X14_forIt xc_X14_forIt_33 [some (.ref 83), some (.int x1), some (.int x2), some (.ref hd), some (.ref it), none, none, none, none] [] (n1, tg1, I1, R1) c s Q := by
  intro m
  induction m with
  | zero =>
    intro z it n1 tg1 I1 R1 hX hit hI_it ht_pa ha_pa hne_pa hv hm
    have hz := hX.sz hS0.1
    have h7 := hI_it.2.2.2.2.2.2.1
    exfalso; omega
  | succ m ih =>
    intro z it n1 tg1 I1 R1 hX hit hI_it ht_pa ha_pa hne_pa hv hm
    have hS := hS0.x hX
    have hR := hR0.x hn hX
    have h94 : 94 ≤ n := hS0.1
    have hz := hX.sz h94
    have hxn := hX.1
    have hN := hR0.1
    have hnb : 94 ≤ nb := hR0.2.2.2.2.2.2
    refine y_aload rfl rfl ?_
    refine y_intf rfl rfl rfl rfl rfl hI_it.2.2.1 hI_it.2.1 ?_
    refine i_hasNext hI_it (fun h_1 => ?_) (fun h_2 => ?_)
    · refine y_ret1 ?_
      refine y_if_eqF rfl (by decide) ?_
      refine y_aload rfl rfl ?_
      refine y_intf rfl rfl rfl rfl rfl hI_it.2.2.1 hI_it.2.1 ?_
      have hz0 := hI_it.2.2.2.2.2.1
      refine i_next (nb := nb) (Nat.le_trans (by decide) (by have := hI_it.1; omega : 94 ≤ _)) (Nat.le_trans hn hX.1) hI_it hR.l87 (by omega) h_1 (fun b3 I3 eb_b3 hlo_b3 hb0_b3 ht_b3 hI1 hIe => ?_)
      have hb_b3 := Nat.lt_of_lt_of_le hb0_b3 hn
      replace ht_b3 := (hX.2.1 _ hb_b3).1.symm.trans ht_b3
      have hI_it := hI1
      have hX := hX.upI (by omega) hIe
      have hS := hS0.x hX
      have hR := hR0.x hn hX
      have hz := hX.sz h94
      have hxn := hX.1
      have hw_b3 := hR.wrd eb_b3 (by omega)
      have hv : ∀ j : Nat, j < 5 → (I3 hd j).toInt = yHv I R x1.toInt j z.toNat := fun j hj => by rw [hIe hd hne_pa]; exact hv j hj
      have eb : b3 = yAd R 87 z.toNat := eb_b3.trans (yAd_eq (hX.2.1 87 (by omega)).2.2 (hX.2.1 _ (by have := hR0.li.1; omega)).2.2)
      have eI : I3 b3 = I b3 := (hX.2.1 b3 hb_b3).2.1
      have hst : ∀ j : Nat, yHv I R x1.toInt j (z + 1).toNat = if (I3 b3 2).toInt = x1.toInt ∧ (I3 b3 1).toInt = (j : Int) then (I3 b3 3).toInt else yHv I R x1.toInt j z.toNat := fun j => by rw [show (z + 1).toNat = z.toNat + 1 by omega, yHv_step eb, eI]
      refine y_ret1 ?_
      refine y_castA rfl rfl ((hX.2.1 _ hb_b3).1.trans ht_b3) rfl (Nat.lt_of_lt_of_le hb_b3 hX.1) ?_
      refine y_astore (ls' := [some _, some _, some _, some _, some _, some _, _, _, _]) rfl rfl rfl ?_
      refine y_aload rfl rfl ?_
      refine y_iconst rfl ?_
      refine y_ialoadC (j := 0) rfl ((hX.2.1 _ hb_b3).1.trans ht_b3) (Nat.lt_of_lt_of_le hb_b3 hX.1) (by decide) (by decide) rfl ?_
      refine y_iload_n rfl rfl ?_
      refine y_icmp_gt rfl j_X14_forIt_81 (fun h_4 => ?_) (fun h_5 => ?_)
      · exfalso; omega
      · refine y_aload rfl rfl ?_
        refine y_iconst rfl ?_
        refine y_ialoadC (j := 2) rfl ((hX.2.1 _ hb_b3).1.trans ht_b3) (Nat.lt_of_lt_of_le hb_b3 hX.1) (by decide) (by decide) rfl ?_
        refine y_iload_n rfl rfl ?_
        refine y_icmp_ne rfl j_X14_forIt_81 (fun h_6 => ?_) (fun h_7 => ?_)
        · refine y_goto rfl j_X14_forIt_33 ?_
          refine y_fgt (ls := [some _, some _, some _, some _, some _, none, none, none, none]) ⟨rfl, rfl, rfl, rfl, rfl, trivial⟩ ?_
          exact ih _ _  _ _ _ _ hX (by omega) hI_it ht_pa ha_pa hne_pa (fun j hj => by rw [hst j, if_neg (fun h => h_6 h.1)]; exact hv j hj) (by omega)
        · refine y_aload_n rfl rfl ?_
          refine y_aload rfl rfl ?_
          refine y_iconst rfl ?_
          refine y_ialoadC (j := 1) rfl ((hX.2.1 _ hb_b3).1.trans ht_b3) (Nat.lt_of_lt_of_le hb_b3 hX.1) (by decide) (by decide) rfl ?_
          refine y_aload rfl rfl ?_
          refine y_iconst rfl ?_
          refine y_ialoadC (j := 3) rfl ((hX.2.1 _ hb_b3).1.trans ht_b3) (Nat.lt_of_lt_of_le hb_b3 hX.1) (by decide) (by decide) rfl ?_
          refine y_iastore rfl ht_pa ha_pa (Nat.le_trans (by decide) (by omega : 94 ≤ _)) (by omega) (by omega) ?_
          refine y_nameI (fun I8 e8 => ?_)
          have hI_it := hI_it.upI (upI e8) (by omega) (by omega)
          have hX := hX.upI (by omega) (upI e8)
          have hS := hS0.x hX
          have hR := hR0.x hn hX
          have hz := hX.sz h94
          have hxn := hX.1
          refine y_goto rfl j_X14_forIt_33 ?_
          refine y_fgt (ls := [some _, some _, some _, some _, some _, none, none, none, none]) ⟨rfl, rfl, rfl, rfl, rfl, trivial⟩ ?_
          exact ih _ _  _ _ _ _ hX (by omega) hI_it ht_pa ha_pa hne_pa (fun j hj => by
            rw [hst j, e8]
            by_cases hq : (I3 b3 1).toInt = (j : Int)
            · rw [if_pos ⟨h_7, hq⟩, show j = (I3 b3 1).toInt.toNat by omega, upd2_self]
            · rw [if_neg (fun h => hq h.2), upd2_ne (.inr (by omega))]; exact hv j hj) (by omega)
    · refine y_ret1 ?_
      refine y_if_eqT rfl j_X14_forIt_84 (by decide) ?_
      refine y_fgt (ls := [some _, some _, some _, some _, none, none, none, none, none]) ⟨rfl, rfl, rfl, rfl, trivial⟩ ?_
      exact hx  _ _ _ _ hX ht_pa ha_pa (fun j hj => by rw [hv j hj, show z.toNat = (I 87 2).toInt.toNat by omega])
theorem r_forItE (hS0 : ySh n tg R) (hR0 : yRI K nb tg I R) (hn : nb ≤ n) {x1 x2 : Int32} (hdy : (I 83 1).toInt ≤ x2.toInt) (hQ : ∀ (v : Int32) n1 tg1 I1 R1 c1 s1, v.toInt = ySum (fun j => yHv I R x1.toInt j (I 87 2).toInt.toNat) 5 → yX n tg I R n1 tg1 I1 R1 → c1 ≤ c + 2 → s1 ≤ s + 9 → Q (.inl (some (.int v))) (n1, tg1, I1, R1) c1 s1) : yC 192 [.ref 83, .int x1, .int x2] (n, tg, I, R) c s Q := by
  have hX : yX n tg I R n tg I R := yX.rf
  have hS := hS0
  have hR := hR0
  have h94 : 94 ≤ n := hS0.1
  have hz : ySz I I := hX.sz h94
  have hxn := hX.1
  have hN := hR0.1
  have hnb : 94 ≤ nb := hR0.2.2.2.2.2.2
  refine y_in (M := xm_X14_forIt) (ls := [some _, some _, some _, _, _, _, _, _, _]) rfl rfl rfl ?_
  refine y_iconst rfl ?_
  refine y_newarrL (m := 5) rfl rfl (by decide) (by decide) rfl (fun n1 tg1 I1 R1 hA => ?_)
  have hnA := hA.1
  have ht_f2 : tg1 n = (0, 5) := hA.2.1
  have ha_f2 : n < n1 := by omega
  have hX := hX.trans (hA.x rfl)
  have hS := hS0.x hX
  have hR := hR0.x hn hX
  have hz := hX.sz h94
  have hxn := hX.1
  refine y_dup rfl rfl ?_
  refine y_iconst rfl ?_
  refine y_iconst rfl ?_
  refine y_iastoreC (j := 0) rfl ht_f2 ha_f2 (Nat.le_trans (by decide) (by omega : 94 ≤ _)) (by decide) (by decide) rfl ?_
  refine y_nameI (fun I3 e3 => ?_)
  have hX := hX.upI (by omega) (upI e3)
  have hS := hS0.x hX
  have hR := hR0.x hn hX
  have hz := hX.sz h94
  have hxn := hX.1
  refine y_dup rfl rfl ?_
  refine y_iconst rfl ?_
  refine y_iconst rfl ?_
  refine y_iastoreC (j := 1) rfl ht_f2 ha_f2 (Nat.le_trans (by decide) (by omega : 94 ≤ _)) (by decide) (by decide) rfl ?_
  refine y_nameI (fun I4 e4 => ?_)
  have hX := hX.upI (by omega) (upI e4)
  have hS := hS0.x hX
  have hR := hR0.x hn hX
  have hz := hX.sz h94
  have hxn := hX.1
  refine y_dup rfl rfl ?_
  refine y_iconst rfl ?_
  refine y_iconst rfl ?_
  refine y_iastoreC (j := 2) rfl ht_f2 ha_f2 (Nat.le_trans (by decide) (by omega : 94 ≤ _)) (by decide) (by decide) rfl ?_
  refine y_nameI (fun I5 e5 => ?_)
  have hX := hX.upI (by omega) (upI e5)
  have hS := hS0.x hX
  have hR := hR0.x hn hX
  have hz := hX.sz h94
  have hxn := hX.1
  refine y_dup rfl rfl ?_
  refine y_iconst rfl ?_
  refine y_iconst rfl ?_
  refine y_iastoreC (j := 3) rfl ht_f2 ha_f2 (Nat.le_trans (by decide) (by omega : 94 ≤ _)) (by decide) (by decide) rfl ?_
  refine y_nameI (fun I6 e6 => ?_)
  have hX := hX.upI (by omega) (upI e6)
  have hS := hS0.x hX
  have hR := hR0.x hn hX
  have hz := hX.sz h94
  have hxn := hX.1
  refine y_dup rfl rfl ?_
  refine y_iconst rfl ?_
  refine y_iconst rfl ?_
  refine y_iastoreC (j := 4) rfl ht_f2 ha_f2 (Nat.le_trans (by decide) (by omega : 94 ≤ _)) (by decide) (by decide) rfl ?_
  refine y_nameI (fun I7 e7 => ?_)
  have hX := hX.upI (by omega) (upI e7)
  have hS := hS0.x hX
  have hR := hR0.x hn hX
  have hz := hX.sz h94
  have hxn := hX.1
  refine y_astore_n (ls' := [some _, some _, some _, some _, _, _, _, _, _]) rfl rfl rfl ?_
  refine y_aload_n rfl rfl ?_
  refine y_getR rfl (ySh.t hS rfl) (ySh.n hS rfl) rfl rfl (ySh.r hS rfl) ?_
  refine y_virt rfl rfl rfl rfl rfl (ySh.t hS rfl) (ySh.n hS rfl) ?_
  have hv7 : ∀ j : Nat, j < 5 → (I7 n j).toInt = 1 := fun j hj => by
    rcases (by omega : j = 0 ∨ j = 1 ∨ j = 2 ∨ j = 3 ∨ j = 4) with rfl | rfl | rfl | rfl | rfl <;> (subst_vars; simp [upd2])
  refine l_iter (nb := nb) (l := 87) hS (ySh.t hS rfl) (ySh.n hS rfl) (by omega) (Nat.le_trans hn hX.1) hR.l87.2.2.2.1 (fun n8 tg8 I8 R8 hnA hX1 hI_it8 => ?_)
  have ha_f2' := ha_f2
  have ht_f2 := (hX1.2.1 _ ha_f2).1.trans ht_f2
  have ha_f2 : n < n8 := by omega
  have hX := hX.trans hX1
  have hv8 : ∀ j : Nat, j < 5 → (I8 n j).toInt = yHv I R x1.toInt j (0 : Int).toNat := fun j hj => by rw [(hX1.2.1 n ha_f2').2.1]; exact hv7 j hj
  have hS := hS0.x hX
  have hR := hR0.x hn hX
  have hz := hX.sz h94
  have hxn := hX.1
  refine y_ret1 ?_
  refine y_astore (ls' := [some _, some _, some _, some _, some _, _, _, _, _]) rfl rfl rfl ?_
  refine e_r_forItE hS0 hR0 hn (by omega) hdy (fun  n9 tg9 I9 R9 hX ht_f2 ha_f2 hv9 => ?_) 100000 0 _  _ _ _ _ hX (by omega) hI_it8 ht_f2 ha_f2 (by omega) hv8 (by omega)
  have hS := hS0.x hX
  have hR := hR0.x hn hX
  have hz := hX.sz h94
  have hxn := hX.1
  refine y_iconst rfl ?_
  refine y_istore (ls' := [some _, some _, some _, some _, some _, _, _, _, _]) rfl rfl rfl ?_
  refine y_aload_n rfl rfl ?_
  refine y_astore (ls' := [some _, some _, some _, some _, some _, some _, _, _, _]) rfl rfl rfl ?_
  refine y_aload rfl rfl ?_
  refine y_alenI (v := 5) rfl ht_f2 rfl ha_f2 (by decide) ?_
  refine y_istore (ls' := [some _, some _, some _, some _, some _, some _, some _, _, _]) rfl rfl rfl ?_
  refine y_iconst rfl ?_
  refine y_istore (ls' := [some _, some _, some _, some _, some _, some _, some _, some _, _]) rfl rfl rfl ?_
  exact lp_r_forIt2E ht_f2 ha_f2 (fun j hj => by rw [hv9 j hj]; rcases yHv01 (q := x1.toInt) (j := j) hR0 (k := (I 87 2).toInt.toNat) (by omega) with h | h <;> omega) (fun v hv => hQ _ _ _ _ _ _ _ (hv.trans (ySum_eq hv9)) hX (by omega) (by omega)) 100 _ _ _ (by decide) (by decide) (by decide) rfl (by decide)
end YRW
