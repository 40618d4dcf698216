/-! THE REFERENCE AROUND THINGS, LEASES AND SALES, EXACTLY (by ex4m.py) -/
/-- worlds: an old cell is written, with the function that tells of it -/
theorem yX.wr {nb n1 a k : Nat} {tg0 tg1 : Nat → yT} {G I1 J : Nat → Nat → Int32} {R0 R1 : Nat → Nat → Value} {x y : Int32} (h : yX nb tg0 G R0 n1 tg1 I1 R1) (e : J = upd2 I1 a k x) (hx : x = y) : yX nb tg0 (upd2 G a k y) R0 n1 tg1 J R1 := ⟨h.1, fun b hb => by
  obtain ⟨q1, q2, q3⟩ := h.2.1 b hb
  refine ⟨q1, ?_, q3⟩
  rw [e, hx]
  funext j
  by_cases hj : b = a ∧ j = k
  · obtain ⟨rfl, rfl⟩ := hj; rw [upd2_self, upd2_self]
  · have hj : b ≠ a ∨ j ≠ k := by omega
    rw [upd2_ne hj, upd2_ne hj, q2], h.2.2⟩
theorem yX.itr {nb n1 it : Nat} {tg0 tg1 : Nat → yT} {G I1 J : Nat → Nat → Int32} {R0 R1 : Nat → Nat → Value} (h : yX nb tg0 G R0 n1 tg1 I1 R1) (hit : nb ≤ it) (hI : ∀ a, a ≠ it → J a = I1 a) : yX nb tg0 G R0 n1 tg1 J R1 := ⟨h.1, fun b hb => ⟨(h.2.1 b hb).1, (hI b (by omega)).trans (h.2.1 b hb).2.1, (h.2.1 b hb).2.2⟩, h.2.2⟩
theorem yX.n {nb n1 : Nat} {tg0 tg1 : Nat → yT} {G I1 : Nat → Nat → Int32} {R0 R1 : Nat → Nat → Value} (h : yX nb tg0 G R0 n1 tg1 I1 R1) {a : Nat} (ha : a < nb) : I1 a = G a := (h.2.1 a ha).2.1
/-- a refused call: all that is old stays, but thrown -/
def yRf (n : Nat) (I : Nat → Nat → Int32) (R : Nat → Nat → Value) (I1 : Nat → Nat → Int32) (R1 : Nat → Nat → Value) : Prop := (∀ a, a < n → a ≠ 83 → I1 a = I a) ∧ (∀ k, k ≠ 0 → I1 83 k = I 83 k) ∧ ∀ a, a < n → R1 a = R a
theorem upd2_cg {A B : Nat → Nat → Int32} {a k : Nat} {x : Int32} (h : A a = B a) : upd2 A a k x a = upd2 B a k x a := by
  funext j
  unfold upd2
  rw [h]
theorem yX.rf2 {n n1 : Nat} {tg tg1 : Nat → yT} {I I1 : Nat → Nat → Int32} {R R1 : Nat → Nat → Value} {x y : Int32} (h : yX n tg (upd2 (upd2 I 83 0 x) 83 0 y) R n1 tg1 I1 R1) : 83 < n → yRf n I R I1 R1 := fun h83 => ⟨fun a ha hq => (h.n ha).trans ((upd2_row hq).trans (upd2_row hq)), fun k hk => (congrFun (h.n h83) k).trans ((upd2_ne (.inr hk)).trans (upd2_ne (.inr hk))), fun a ha => (h.2.1 a ha).2.2⟩
/-- a word more: all else that is old stays -/
def yHf (n : Nat) (I I1 : Nat → Nat → Int32) : Prop := (∀ a, a < n → a ≠ 83 → a ≠ 87 → I1 a = I a) ∧ ∀ k, k ≠ 0 → I1 83 k = I 83 k
/-- a purse of the reference, the market having none -/
def mAddC (J : Nat → Nat → Int32) (p x : Int32) : Nat → Nat → Int32 := if p.toInt = 9 then J else upd2 J 84 p.toInt.toNat (J 84 p.toInt.toNat + x)
/-- the arrays of purses, deposits, weights stay -/
def y8 (I I1 : Nat → Nat → Int32) : Prop := (∀ a, 84 ≤ a → a ≤ 86 → I1 a = I a) ∧ ∀ k, k ≠ 0 → I1 83 k = I 83 k
theorem y_baloadw {M : xM} {code rest : List xI} {ls : yLs} {r : List Value} {c s : Nat} {Q : yQ} {p len n a : Nat} {tg : Nat → yT} {I : Nat → Nat → Int32} {R : Nat → Nat → Value} {an : List Nat} {i : Int32} {m kd j : Nat} {J : Nat → Int32} (hk : code = (p, len, .baload, an) :: rest) (ht : tg a = (kd + 1, m)) (hd : Nat.ble kd 1 = true) (ha : a < n) (h0 : 0 ≤ i.toInt) (h1 : i.toInt < (m : Int)) (hj : i.toInt.toNat = j) (hJ : I a = J) (kk : yW M rest ls (.int (J j) :: r) (n, tg, I, R) c s Q) : yW M code ls (.int i :: .ref a :: r) (n, tg, I, R) c s Q := by
  subst hj; exact y_baload hk ht hd ha h0 h1 (by rw [hJ]; exact kk)
theorem y_ialoadw {M : xM} {code rest : List xI} {ls : yLs} {r : List Value} {c s : Nat} {Q : yQ} {p len n a : Nat} {tg : Nat → yT} {I : Nat → Nat → Int32} {R : Nat → Nat → Value} {an : List Nat} {i : Int32} {m j : Nat} {J : Nat → Int32} (hk : code = (p, len, .iaload, an) :: rest) (ht : tg a = (0, m)) (ha : a < n) (h0 : 0 ≤ i.toInt) (h1 : i.toInt < (m : Int)) (hj : i.toInt.toNat = j) (hJ : I a = J) (kk : yW M rest ls (.int (J j) :: r) (n, tg, I, R) c s Q) : yW M code ls (.int i :: .ref a :: r) (n, tg, I, R) c s Q := by
  subst hj; exact y_iaload hk ht ha h0 h1 (by rw [hJ]; exact kk)

/-- old cells from 94 on, told by a function -/
def yGm (n : Nat) (J G : Nat → Nat → Int32) : Prop := ∀ a, 94 ≤ a → a < n → J a = G a
section YGM
variable {n n1 n2 : Nat} {tg1 tg2 : Nat → yT} {I J J' J2 G : Nat → Nat → Int32} {R R1 R2 : Nat → Nat → Value} {a k : Nat} {x : Int32}
theorem yGm.rf : yGm n J J := fun _ _ _ => rfl
theorem yGm.both (h : yGm n J G) (e : J' = upd2 J a k x) : yGm n J' (upd2 G a k x) := fun b h1 h2 => by
  funext j
  rw [e]
  by_cases hj : b = a ∧ j = k
  · obtain ⟨rfl, rfl⟩ := hj; rw [upd2_self, upd2_self]
  · have hj : b ≠ a ∨ j ≠ k := by omega
    rw [upd2_ne hj, upd2_ne hj, h b h1 h2]
theorem yGm.skip (h : yGm n J G) (e : J' = upd2 J a k x) (ha : a < 94) : yGm n J' G := fun b h1 h2 => by
  rw [e, upd2_row (by omega)]; exact h b h1 h2
theorem yGm.gx (h : yGm n J G) (hX : yX n1 tg1 J R1 n2 tg2 J2 R2) (hn : n ≤ n1) : yGm n J2 G := fun b h1 h2 => by
  rw [(hX.2.1 b (by omega)).2.1]; exact h b h1 h2
theorem yGm.y (h : yGm n J G) (hX : yY n1 tg1 J R1 n2 tg2 J2 R2) (hn : n ≤ n1) : yGm n J2 G := fun b h1 h2 => by
  rw [(hX.2.1 b (by omega)).2.1]; exact h b h1 h2
theorem yGm.add {l y : Nat} (h : yGm n J G) (hA : yAdd n1 tg1 J R1 l y n2 tg2 J2 R2) (hn : n ≤ n1) (hl : l < 94) : yGm n J2 G := fun b h1 h2 => by
  rw [hA.I b (by omega) (by omega)]; exact h b h1 h2
end YGM
theorem yRI.lt6 {K nb : Nat} {tg : Nat → yT} {I : Nat → Nat → Int32} {R : Nat → Nat → Value} (h : yRI K nb tg I R) (l : Nat) (h1 : 87 ≤ l) (h2 : l ≤ 92) : yEl R l < nb := by
  have := h.li
  rcases (by omega : l = 87 ∨ l = 88 ∨ l = 89 ∨ l = 90 ∨ l = 91 ∨ l = 92) with rfl | rfl | rfl | rfl | rfl | rfl <;> omega
theorem yAdd.lk {K nb n n1 l x : Nat} {tg tg1 : Nat → yT} {I I1 : Nat → Nat → Int32} {R R1 : Nat → Nat → Value} (h : yRI K nb tg I R) (hn : nb ≤ n) (ha : yAdd n tg I R l x n1 tg1 I1 R1) (hl : 87 ≤ l) (hl2 : l ≤ 92) : yLk I R R1 ∧ yAd R1 l (I l 2).toInt.toNat = x := by
  have h94 := h.2.2.2.2.2.2
  have hz := h.zl l hl hl2
  obtain ⟨e1, m1, g1, g2, g3, g4, g5, g6, g7, g8, g9, g10, g11, g12, g13, g14, g15, g16⟩ := ha
  have hE : yEl R1 l = e1 := by unfold yEl; rw [g6]; rfl
  refine ⟨fun l' h1 h2 i hi => ?_, ?_⟩
  · by_cases hq : l' = l
    · subst hq; unfold yAd; rw [hE, g14 i hi]
    · have hE' := h.lt6 l' h1 h2
      have hz' := h.zl l' h1 h2
      have r1 : R1 l' = R l' := g5 l' (by omega) hq (by omega)
      have r2 : R1 (yEl R l') = R (yEl R l') := by
        by_cases h9 : yEl R l < 94
        · exact g5 _ (by omega) (by omega) (.inr h9)
        · exact g5 _ (by omega) (by omega) (.inl (Ne.symm (h.2.2.1 l l' hl hl2 h1 h2 (Ne.symm hq) (by omega))))
      exact yAd_eq r1 r2
  · unfold yAd; rw [hE, g15]; rfl
/-- what the reference's search for a thing's lease answers -/
def yLf (I : Nat → Nat → Int32) (R : Nat → Nat → Value) (x : Int32) (lv : Int) : Prop := ∀ v : Int32, (v.toInt = -1 ∧ ∀ i : Nat, (i : Int) < (I 90 2).toInt → ¬ yMt I R x i) ∨ (0 ≤ v.toInt ∧ v.toInt < (I 90 2).toInt ∧ yMt I R x v.toInt.toNat) → v.toInt = lv
theorem yLf.cg {I I' : Nat → Nat → Int32} {R R' : Nat → Nat → Value} {x : Int32} {lv : Int} (h : yLf I R x lv) (hs : (I' 90 2).toInt = (I 90 2).toInt) (hr : ∀ i : Nat, (i : Int) < (I 90 2).toInt → yAd R' 90 i = yAd R 90 i ∧ I' (yAd R 90 i) 0 = I (yAd R 90 i) 0 ∧ I' (yAd R 90 i) 5 = I (yAd R 90 i) 5) : yLf I' R' x lv := fun v hv => h v (by
  rcases hv with ⟨a, b⟩ | ⟨a, b, c⟩
  · exact .inl ⟨a, fun i hi hm => b i (by omega) (by
      obtain ⟨q1, q2, q3⟩ := hr i hi
      show (I' (yAd R' 90 i) 0).toInt = x.toInt ∧ (I' (yAd R' 90 i) 5).toInt = 0
      rw [q1, q2, q3]; exact hm)⟩
  · obtain ⟨q1, q2, q3⟩ := hr v.toInt.toNat (by omega)
    have c : (I' (yAd R' 90 v.toInt.toNat) 0).toInt = x.toInt ∧ (I' (yAd R' 90 v.toInt.toNat) 5).toInt = 0 := c
    rw [q1, q2, q3] at c
    exact .inr ⟨a, by omega, c⟩)
section YXM
variable {K nb n : Nat} {tg : Nat → yT} {I : Nat → Nat → Int32} {R : Nat → Nat → Value} {c s : Nat} {Q : yQ}
theorem s_isAllowed (hS0 : ySh n tg R) (hR0 : yRI K nb tg I R) (hn : nb ≤ n) {x1 x2 : Int32} (hdy : (I 83 1).toInt ≤ x2.toInt) (hQ1 : 3 ≤ ySum (fun j => yHv I R x1.toInt j (I 87 2).toInt.toNat) 5 → ∀ n1 tg1 I1 R1 c1 s1, yX n tg I R n1 tg1 I1 R1 → c1 ≤ c + 2 → s1 ≤ s + 9 → Q (.inl (some (.int (Int32.ofInt 1)))) (n1, tg1, I1, R1) c1 s1) (hQ0 : ¬ 3 ≤ ySum (fun j => yHv I R x1.toInt j (I 87 2).toInt.toNat) 5 → ∀ n1 tg1 I1 R1 c1 s1, yX n tg I R n1 tg1 I1 R1 → c1 ≤ c + 2 → s1 ≤ s + 9 → Q (.inl (some (.int (Int32.ofInt 0)))) (n1, tg1, I1, R1) c1 s1) : yC 193 [.ref 83, .int x1, .int x2] (n, tg, I, R) c s Q := by
  have hX : yX n tg I R n tg I R := yX.rf
  have hS := hS0
  have hR := hR0
  have h94 : 94 ≤ n := hS0.1
  have hz : ySz I I := hX.sz h94
  have hxn := hX.1
  have hN := hR0.1
  have hnb : 94 ≤ nb := hR0.2.2.2.2.2.2
  refine y_in (M := xm_X14_isAllowed) (ls := [some _, some _, some _]) rfl rfl rfl ?_
  refine y_aload_n rfl rfl ?_
  refine y_iload_n rfl rfl ?_
  refine y_iload_n rfl rfl ?_
  refine y_virt rfl rfl rfl rfl rfl (ySh.t hS rfl) (ySh.n hS rfl) ?_
  refine r_forItE hS hR (Nat.le_trans hn hX.1) hdy (fun v_1 n1 tg1 I1 R1 c_1 s_1 hv_1 hX1 hc_1 hs_1 => ?_)
  have hnA := hX1.1
  have hX := hX.trans hX1
  have hS := hS0.x hX
  have hR := hR0.x hn hX
  have hz := hX.sz h94
  have hxn := hX.1
  refine y_ret1 ?_
  refine y_iconst rfl ?_
  refine y_icmp_lt rfl j_X14_isAllowed_14 (fun h_2 => ?_) (fun h_3 => ?_)
  · rw [yz_3] at h_2
    refine y_iconst rfl ?_
    refine y_ireturn rfl rfl rfl ?_
    exact hQ0 (by omega) _ _ _ _ _ _ hX (by omega) (by omega)
  · rw [yz_3] at h_3
    refine y_iconst rfl ?_
    refine y_goto rfl j_X14_isAllowed_15 ?_
    refine y_ireturn rfl rfl rfl ?_
    exact hQ1 (by omega) _ _ _ _ _ _ hX (by omega) (by omega)
theorem s_missing (hS0 : ySh n tg R) (hR0 : yRI K nb tg I R) (hn : nb ≤ n) {b : Nat} (hlo_b : 94 ≤ b) (hb0_b : b < nb) (ht_b : tg b = (20, 0)) {x2 : Int32} {al : Int} (hal : ySum (fun j => yHv I R 0 j (I 87 2).toInt.toNat) 5 = al) (hQ : ∀ (v : Int32) n1 tg1 I1 R1 c1 s1, v.toInt = yMs (I b 1).toInt (I b 2).toInt al (I b 3).toInt (I b 5).toInt x2.toInt → yX n tg I R n1 tg1 I1 R1 → c1 ≤ c + 2 → s1 ≤ s + 9 → Q (.inl (some (.int v))) (n1, tg1, I1, R1) c1 s1) : yC 201 [.ref 83, .ref b, .int x2] (n, tg, I, R) c s Q := by
  have hX : yX n tg I R n tg I R := yX.rf
  have hS := hS0
  have hR := hR0
  have h94 : 94 ≤ n := hS0.1
  have hz : ySz I I := hX.sz h94
  have hxn := hX.1
  have hN := hR0.1
  have hnb : 94 ≤ nb := hR0.2.2.2.2.2.2
  have hb_b := Nat.lt_of_lt_of_le hb0_b hn
  refine y_in (M := xm_X14_missing) (ls := [some _, some _, some _]) rfl rfl rfl ?_
  refine y_aload_n rfl rfl ?_
  refine y_getIv (v := I b 1) rfl ((hX.2.1 _ hb_b).1.trans ht_b) (Nat.lt_of_lt_of_le hb_b hX.1) rfl rfl (congrFun (hX.2.1 _ hb_b).2.1 1) ?_
  refine y_bip rfl (by decide) ?_
  refine y_icmp_eq rfl j_X14_missing_13 (fun h_1 => ?_) (fun h_2 => ?_)
  · rw [yz_8] at h_1
    refine y_iconst rfl ?_
    refine y_static rfl rfl rfl rfl rfl ?_
    refine y_in (M := xm_X14_one) (ls := [some _]) rfl rfl rfl ?_
    refine y_iload_n rfl rfl ?_
    refine y_if_eqT rfl j_X14_one_8 (by decide) ?_
    refine y_iconst rfl ?_
    refine y_ireturn rfl rfl rfl ?_
    refine y_ret1 ?_
    refine y_aload_n rfl rfl ?_
    refine y_getIv (v := I b 1) rfl ((hX.2.1 _ hb_b).1.trans ht_b) (Nat.lt_of_lt_of_le hb_b hX.1) rfl rfl (congrFun (hX.2.1 _ hb_b).2.1 1) ?_
    refine y_bip rfl (by decide) ?_
    refine y_icmp_ne rfl j_X14_missing_49 (fun h_3 => ?_) (fun h_4 => ?_)
    · rw [yz_8] at h_3
      refine y_iconst rfl ?_
      refine y_static rfl rfl rfl rfl rfl ?_
      refine y_in (M := xm_X14_one) (ls := [some _]) rfl rfl rfl ?_
      refine y_iload_n rfl rfl ?_
      refine y_if_eqT rfl j_X14_one_8 (by decide) ?_
      refine y_iconst rfl ?_
      refine y_ireturn rfl rfl rfl ?_
      refine y_ret1 ?_
      refine y_iconst rfl ?_
      refine y_ishl rfl ?_
      refine y_ior rfl ?_
      refine y_aload_n rfl rfl ?_
      refine y_getIv (v := I b 3) rfl ((hX.2.1 _ hb_b).1.trans ht_b) (Nat.lt_of_lt_of_le hb_b hX.1) rfl rfl (congrFun (hX.2.1 _ hb_b).2.1 3) ?_
      refine y_static rfl rfl rfl rfl rfl ?_
      refine y_in (M := xm_X14_one) (ls := [some _]) rfl rfl rfl ?_
      refine y_iload_n rfl rfl ?_
      refine y_if_eq rfl j_X14_one_8 (fun h_5 => ?_) (fun h_6 => ?_)
      · refine y_iconst rfl ?_
        refine y_ireturn rfl rfl rfl ?_
        refine y_ret1 ?_
        refine y_iconst rfl ?_
        refine y_ishl rfl ?_
        refine y_ior rfl ?_
        refine y_aload_n rfl rfl ?_
        refine y_getIv (v := I b 5) rfl ((hX.2.1 _ hb_b).1.trans ht_b) (Nat.lt_of_lt_of_le hb_b hX.1) rfl rfl (congrFun (hX.2.1 _ hb_b).2.1 5) ?_
        refine y_iload_n rfl rfl ?_
        refine y_icmp_ne rfl j_X14_missing_78 (fun h_7 => ?_) (fun h_8 => ?_)
        · refine y_iconst rfl ?_
          refine y_static rfl rfl rfl rfl rfl ?_
          refine y_in (M := xm_X14_one) (ls := [some _]) rfl rfl rfl ?_
          refine y_iload_n rfl rfl ?_
          refine y_if_eqT rfl j_X14_one_8 (by decide) ?_
          refine y_iconst rfl ?_
          refine y_ireturn rfl rfl rfl ?_
          refine y_ret1 ?_
          refine y_iconst rfl ?_
          refine y_ishl rfl ?_
          refine y_ior rfl ?_
          refine y_ireturn rfl rfl rfl ?_
          exact hQ _ _ _ _ _ _ _ (by unfold yMs; (repeat' split) <;> first | decide | (exfalso; omega)) hX (by omega) (by omega)
        · refine y_iconst rfl ?_
          refine y_goto rfl j_X14_missing_79 ?_
          refine y_static rfl rfl rfl rfl rfl ?_
          refine y_in (M := xm_X14_one) (ls := [some _]) rfl rfl rfl ?_
          refine y_iload_n rfl rfl ?_
          refine y_if_eqF rfl (by decide) ?_
          refine y_iconst rfl ?_
          refine y_goto rfl j_X14_one_9 ?_
          refine y_ireturn rfl rfl rfl ?_
          refine y_ret1 ?_
          refine y_iconst rfl ?_
          refine y_ishl rfl ?_
          refine y_ior rfl ?_
          refine y_ireturn rfl rfl rfl ?_
          exact hQ _ _ _ _ _ _ _ (by unfold yMs; (repeat' split) <;> first | decide | (exfalso; omega)) hX (by omega) (by omega)
      · refine y_iconst rfl ?_
        refine y_goto rfl j_X14_one_9 ?_
        refine y_ireturn rfl rfl rfl ?_
        refine y_ret1 ?_
        refine y_iconst rfl ?_
        refine y_ishl rfl ?_
        refine y_ior rfl ?_
        refine y_aload_n rfl rfl ?_
        refine y_getIv (v := I b 5) rfl ((hX.2.1 _ hb_b).1.trans ht_b) (Nat.lt_of_lt_of_le hb_b hX.1) rfl rfl (congrFun (hX.2.1 _ hb_b).2.1 5) ?_
        refine y_iload_n rfl rfl ?_
        refine y_icmp_ne rfl j_X14_missing_78 (fun h_9 => ?_) (fun h_10 => ?_)
        · refine y_iconst rfl ?_
          refine y_static rfl rfl rfl rfl rfl ?_
          refine y_in (M := xm_X14_one) (ls := [some _]) rfl rfl rfl ?_
          refine y_iload_n rfl rfl ?_
          refine y_if_eqT rfl j_X14_one_8 (by decide) ?_
          refine y_iconst rfl ?_
          refine y_ireturn rfl rfl rfl ?_
          refine y_ret1 ?_
          refine y_iconst rfl ?_
          refine y_ishl rfl ?_
          refine y_ior rfl ?_
          refine y_ireturn rfl rfl rfl ?_
          exact hQ _ _ _ _ _ _ _ (by unfold yMs; (repeat' split) <;> first | decide | (exfalso; omega)) hX (by omega) (by omega)
        · refine y_iconst rfl ?_
          refine y_goto rfl j_X14_missing_79 ?_
          refine y_static rfl rfl rfl rfl rfl ?_
          refine y_in (M := xm_X14_one) (ls := [some _]) rfl rfl rfl ?_
          refine y_iload_n rfl rfl ?_
          refine y_if_eqF rfl (by decide) ?_
          refine y_iconst rfl ?_
          refine y_goto rfl j_X14_one_9 ?_
          refine y_ireturn rfl rfl rfl ?_
          refine y_ret1 ?_
          refine y_iconst rfl ?_
          refine y_ishl rfl ?_
          refine y_ior rfl ?_
          refine y_ireturn rfl rfl rfl ?_
          exact hQ _ _ _ _ _ _ _ (by unfold yMs; (repeat' split) <;> first | decide | (exfalso; omega)) hX (by omega) (by omega)
    · rw [yz_8] at h_4
      refine y_aload_n rfl rfl ?_
      refine y_getIv (v := I b 2) rfl ((hX.2.1 _ hb_b).1.trans ht_b) (Nat.lt_of_lt_of_le hb_b hX.1) rfl rfl (congrFun (hX.2.1 _ hb_b).2.1 2) ?_
      refine y_if_ne rfl j_X14_missing_49 (fun h_11 => ?_) (fun h_12 => ?_)
      · refine y_iconst rfl ?_
        refine y_static rfl rfl rfl rfl rfl ?_
        refine y_in (M := xm_X14_one) (ls := [some _]) rfl rfl rfl ?_
        refine y_iload_n rfl rfl ?_
        refine y_if_eqT rfl j_X14_one_8 (by decide) ?_
        refine y_iconst rfl ?_
        refine y_ireturn rfl rfl rfl ?_
        refine y_ret1 ?_
        refine y_iconst rfl ?_
        refine y_ishl rfl ?_
        refine y_ior rfl ?_
        refine y_aload_n rfl rfl ?_
        refine y_getIv (v := I b 3) rfl ((hX.2.1 _ hb_b).1.trans ht_b) (Nat.lt_of_lt_of_le hb_b hX.1) rfl rfl (congrFun (hX.2.1 _ hb_b).2.1 3) ?_
        refine y_static rfl rfl rfl rfl rfl ?_
        refine y_in (M := xm_X14_one) (ls := [some _]) rfl rfl rfl ?_
        refine y_iload_n rfl rfl ?_
        refine y_if_eq rfl j_X14_one_8 (fun h_13 => ?_) (fun h_14 => ?_)
        · refine y_iconst rfl ?_
          refine y_ireturn rfl rfl rfl ?_
          refine y_ret1 ?_
          refine y_iconst rfl ?_
          refine y_ishl rfl ?_
          refine y_ior rfl ?_
          refine y_aload_n rfl rfl ?_
          refine y_getIv (v := I b 5) rfl ((hX.2.1 _ hb_b).1.trans ht_b) (Nat.lt_of_lt_of_le hb_b hX.1) rfl rfl (congrFun (hX.2.1 _ hb_b).2.1 5) ?_
          refine y_iload_n rfl rfl ?_
          refine y_icmp_ne rfl j_X14_missing_78 (fun h_15 => ?_) (fun h_16 => ?_)
          · refine y_iconst rfl ?_
            refine y_static rfl rfl rfl rfl rfl ?_
            refine y_in (M := xm_X14_one) (ls := [some _]) rfl rfl rfl ?_
            refine y_iload_n rfl rfl ?_
            refine y_if_eqT rfl j_X14_one_8 (by decide) ?_
            refine y_iconst rfl ?_
            refine y_ireturn rfl rfl rfl ?_
            refine y_ret1 ?_
            refine y_iconst rfl ?_
            refine y_ishl rfl ?_
            refine y_ior rfl ?_
            refine y_ireturn rfl rfl rfl ?_
            exact hQ _ _ _ _ _ _ _ (by unfold yMs; (repeat' split) <;> first | decide | (exfalso; omega)) hX (by omega) (by omega)
          · refine y_iconst rfl ?_
            refine y_goto rfl j_X14_missing_79 ?_
            refine y_static rfl rfl rfl rfl rfl ?_
            refine y_in (M := xm_X14_one) (ls := [some _]) rfl rfl rfl ?_
            refine y_iload_n rfl rfl ?_
            refine y_if_eqF rfl (by decide) ?_
            refine y_iconst rfl ?_
            refine y_goto rfl j_X14_one_9 ?_
            refine y_ireturn rfl rfl rfl ?_
            refine y_ret1 ?_
            refine y_iconst rfl ?_
            refine y_ishl rfl ?_
            refine y_ior rfl ?_
            refine y_ireturn rfl rfl rfl ?_
            exact hQ _ _ _ _ _ _ _ (by unfold yMs; (repeat' split) <;> first | decide | (exfalso; omega)) hX (by omega) (by omega)
        · refine y_iconst rfl ?_
          refine y_goto rfl j_X14_one_9 ?_
          refine y_ireturn rfl rfl rfl ?_
          refine y_ret1 ?_
          refine y_iconst rfl ?_
          refine y_ishl rfl ?_
          refine y_ior rfl ?_
          refine y_aload_n rfl rfl ?_
          refine y_getIv (v := I b 5) rfl ((hX.2.1 _ hb_b).1.trans ht_b) (Nat.lt_of_lt_of_le hb_b hX.1) rfl rfl (congrFun (hX.2.1 _ hb_b).2.1 5) ?_
          refine y_iload_n rfl rfl ?_
          refine y_icmp_ne rfl j_X14_missing_78 (fun h_17 => ?_) (fun h_18 => ?_)
          · refine y_iconst rfl ?_
            refine y_static rfl rfl rfl rfl rfl ?_
            refine y_in (M := xm_X14_one) (ls := [some _]) rfl rfl rfl ?_
            refine y_iload_n rfl rfl ?_
            refine y_if_eqT rfl j_X14_one_8 (by decide) ?_
            refine y_iconst rfl ?_
            refine y_ireturn rfl rfl rfl ?_
            refine y_ret1 ?_
            refine y_iconst rfl ?_
            refine y_ishl rfl ?_
            refine y_ior rfl ?_
            refine y_ireturn rfl rfl rfl ?_
            exact hQ _ _ _ _ _ _ _ (by unfold yMs; (repeat' split) <;> first | decide | (exfalso; omega)) hX (by omega) (by omega)
          · refine y_iconst rfl ?_
            refine y_goto rfl j_X14_missing_79 ?_
            refine y_static rfl rfl rfl rfl rfl ?_
            refine y_in (M := xm_X14_one) (ls := [some _]) rfl rfl rfl ?_
            refine y_iload_n rfl rfl ?_
            refine y_if_eqF rfl (by decide) ?_
            refine y_iconst rfl ?_
            refine y_goto rfl j_X14_one_9 ?_
            refine y_ireturn rfl rfl rfl ?_
            refine y_ret1 ?_
            refine y_iconst rfl ?_
            refine y_ishl rfl ?_
            refine y_ior rfl ?_
            refine y_ireturn rfl rfl rfl ?_
            exact hQ _ _ _ _ _ _ _ (by unfold yMs; (repeat' split) <;> first | decide | (exfalso; omega)) hX (by omega) (by omega)
      · refine y_aload_n rfl rfl ?_
        refine y_iconst rfl ?_
        refine y_aload_n rfl rfl ?_
        refine y_getIv (v := I 83 1) rfl (ySh.t hS rfl) (ySh.n hS rfl) rfl rfl (congrFun (hX.2.1 83 (by omega)).2.1 1) ?_
        refine y_virt rfl rfl rfl rfl rfl (ySh.t hS rfl) (ySh.n hS rfl) ?_
        have hal_c : ySum (fun j => yHv I R (Int32.ofInt 0).toInt j (I 87 2).toInt.toNat) 5 = al := (ySum_eq fun j _ => yHv_x hR0 hn hX).trans hal
        refine s_isAllowed hS hR (Nat.le_trans hn hX.1) (Int.le_of_eq (congrArg Int32.toInt (congrFun (hX.2.1 83 (by omega)).2.1 1))) (fun ha_19 n19 tg19 I19 R19 c_19 s_19 hX1 hc_19 hs_19 => ?_) (fun ha_20 n20 tg20 I20 R20 c_20 s_20 hX1 hc_20 hs_20 => ?_)
        · rw [hal_c] at ha_19
          have hnA := hX1.1
          have hX := hX.trans hX1
          have hS := hS0.x hX
          have hR := hR0.x hn hX
          have hz := hX.sz h94
          have hxn := hX.1
          refine y_ret1 ?_
          refine y_if_neT rfl j_X14_missing_49 (by decide) ?_
          refine y_iconst rfl ?_
          refine y_static rfl rfl rfl rfl rfl ?_
          refine y_in (M := xm_X14_one) (ls := [some _]) rfl rfl rfl ?_
          refine y_iload_n rfl rfl ?_
          refine y_if_eqT rfl j_X14_one_8 (by decide) ?_
          refine y_iconst rfl ?_
          refine y_ireturn rfl rfl rfl ?_
          refine y_ret1 ?_
          refine y_iconst rfl ?_
          refine y_ishl rfl ?_
          refine y_ior rfl ?_
          refine y_aload_n rfl rfl ?_
          refine y_getIv (v := I b 3) rfl ((hX.2.1 _ hb_b).1.trans ht_b) (Nat.lt_of_lt_of_le hb_b hX.1) rfl rfl (congrFun (hX.2.1 _ hb_b).2.1 3) ?_
          refine y_static rfl rfl rfl rfl rfl ?_
          refine y_in (M := xm_X14_one) (ls := [some _]) rfl rfl rfl ?_
          refine y_iload_n rfl rfl ?_
          refine y_if_eq rfl j_X14_one_8 (fun h_21 => ?_) (fun h_22 => ?_)
          · refine y_iconst rfl ?_
            refine y_ireturn rfl rfl rfl ?_
            refine y_ret1 ?_
            refine y_iconst rfl ?_
            refine y_ishl rfl ?_
            refine y_ior rfl ?_
            refine y_aload_n rfl rfl ?_
            refine y_getIv (v := I b 5) rfl ((hX.2.1 _ hb_b).1.trans ht_b) (Nat.lt_of_lt_of_le hb_b hX.1) rfl rfl (congrFun (hX.2.1 _ hb_b).2.1 5) ?_
            refine y_iload_n rfl rfl ?_
            refine y_icmp_ne rfl j_X14_missing_78 (fun h_23 => ?_) (fun h_24 => ?_)
            · refine y_iconst rfl ?_
              refine y_static rfl rfl rfl rfl rfl ?_
              refine y_in (M := xm_X14_one) (ls := [some _]) rfl rfl rfl ?_
              refine y_iload_n rfl rfl ?_
              refine y_if_eqT rfl j_X14_one_8 (by decide) ?_
              refine y_iconst rfl ?_
              refine y_ireturn rfl rfl rfl ?_
              refine y_ret1 ?_
              refine y_iconst rfl ?_
              refine y_ishl rfl ?_
              refine y_ior rfl ?_
              refine y_ireturn rfl rfl rfl ?_
              exact hQ _ _ _ _ _ _ _ (by unfold yMs; (repeat' split) <;> first | decide | (exfalso; omega)) hX (by omega) (by omega)
            · refine y_iconst rfl ?_
              refine y_goto rfl j_X14_missing_79 ?_
              refine y_static rfl rfl rfl rfl rfl ?_
              refine y_in (M := xm_X14_one) (ls := [some _]) rfl rfl rfl ?_
              refine y_iload_n rfl rfl ?_
              refine y_if_eqF rfl (by decide) ?_
              refine y_iconst rfl ?_
              refine y_goto rfl j_X14_one_9 ?_
              refine y_ireturn rfl rfl rfl ?_
              refine y_ret1 ?_
              refine y_iconst rfl ?_
              refine y_ishl rfl ?_
              refine y_ior rfl ?_
              refine y_ireturn rfl rfl rfl ?_
              exact hQ _ _ _ _ _ _ _ (by unfold yMs; (repeat' split) <;> first | decide | (exfalso; omega)) hX (by omega) (by omega)
          · refine y_iconst rfl ?_
            refine y_goto rfl j_X14_one_9 ?_
            refine y_ireturn rfl rfl rfl ?_
            refine y_ret1 ?_
            refine y_iconst rfl ?_
            refine y_ishl rfl ?_
            refine y_ior rfl ?_
            refine y_aload_n rfl rfl ?_
            refine y_getIv (v := I b 5) rfl ((hX.2.1 _ hb_b).1.trans ht_b) (Nat.lt_of_lt_of_le hb_b hX.1) rfl rfl (congrFun (hX.2.1 _ hb_b).2.1 5) ?_
            refine y_iload_n rfl rfl ?_
            refine y_icmp_ne rfl j_X14_missing_78 (fun h_25 => ?_) (fun h_26 => ?_)
            · refine y_iconst rfl ?_
              refine y_static rfl rfl rfl rfl rfl ?_
              refine y_in (M := xm_X14_one) (ls := [some _]) rfl rfl rfl ?_
              refine y_iload_n rfl rfl ?_
              refine y_if_eqT rfl j_X14_one_8 (by decide) ?_
              refine y_iconst rfl ?_
              refine y_ireturn rfl rfl rfl ?_
              refine y_ret1 ?_
              refine y_iconst rfl ?_
              refine y_ishl rfl ?_
              refine y_ior rfl ?_
              refine y_ireturn rfl rfl rfl ?_
              exact hQ _ _ _ _ _ _ _ (by unfold yMs; (repeat' split) <;> first | decide | (exfalso; omega)) hX (by omega) (by omega)
            · refine y_iconst rfl ?_
              refine y_goto rfl j_X14_missing_79 ?_
              refine y_static rfl rfl rfl rfl rfl ?_
              refine y_in (M := xm_X14_one) (ls := [some _]) rfl rfl rfl ?_
              refine y_iload_n rfl rfl ?_
              refine y_if_eqF rfl (by decide) ?_
              refine y_iconst rfl ?_
              refine y_goto rfl j_X14_one_9 ?_
              refine y_ireturn rfl rfl rfl ?_
              refine y_ret1 ?_
              refine y_iconst rfl ?_
              refine y_ishl rfl ?_
              refine y_ior rfl ?_
              refine y_ireturn rfl rfl rfl ?_
              exact hQ _ _ _ _ _ _ _ (by unfold yMs; (repeat' split) <;> first | decide | (exfalso; omega)) hX (by omega) (by omega)
        · rw [hal_c] at ha_20
          have hnA := hX1.1
          have hX := hX.trans hX1
          have hS := hS0.x hX
          have hR := hR0.x hn hX
          have hz := hX.sz h94
          have hxn := hX.1
          refine y_ret1 ?_
          refine y_if_neF rfl (by decide) ?_
          refine y_iconst rfl ?_
          refine y_goto rfl j_X14_missing_50 ?_
          refine y_static rfl rfl rfl rfl rfl ?_
          refine y_in (M := xm_X14_one) (ls := [some _]) rfl rfl rfl ?_
          refine y_iload_n rfl rfl ?_
          refine y_if_eqF rfl (by decide) ?_
          refine y_iconst rfl ?_
          refine y_goto rfl j_X14_one_9 ?_
          refine y_ireturn rfl rfl rfl ?_
          refine y_ret1 ?_
          refine y_iconst rfl ?_
          refine y_ishl rfl ?_
          refine y_ior rfl ?_
          refine y_aload_n rfl rfl ?_
          refine y_getIv (v := I b 3) rfl ((hX.2.1 _ hb_b).1.trans ht_b) (Nat.lt_of_lt_of_le hb_b hX.1) rfl rfl (congrFun (hX.2.1 _ hb_b).2.1 3) ?_
          refine y_static rfl rfl rfl rfl rfl ?_
          refine y_in (M := xm_X14_one) (ls := [some _]) rfl rfl rfl ?_
          refine y_iload_n rfl rfl ?_
          refine y_if_eq rfl j_X14_one_8 (fun h_27 => ?_) (fun h_28 => ?_)
          · refine y_iconst rfl ?_
            refine y_ireturn rfl rfl rfl ?_
            refine y_ret1 ?_
            refine y_iconst rfl ?_
            refine y_ishl rfl ?_
            refine y_ior rfl ?_
            refine y_aload_n rfl rfl ?_
            refine y_getIv (v := I b 5) rfl ((hX.2.1 _ hb_b).1.trans ht_b) (Nat.lt_of_lt_of_le hb_b hX.1) rfl rfl (congrFun (hX.2.1 _ hb_b).2.1 5) ?_
            refine y_iload_n rfl rfl ?_
            refine y_icmp_ne rfl j_X14_missing_78 (fun h_29 => ?_) (fun h_30 => ?_)
            · refine y_iconst rfl ?_
              refine y_static rfl rfl rfl rfl rfl ?_
              refine y_in (M := xm_X14_one) (ls := [some _]) rfl rfl rfl ?_
              refine y_iload_n rfl rfl ?_
              refine y_if_eqT rfl j_X14_one_8 (by decide) ?_
              refine y_iconst rfl ?_
              refine y_ireturn rfl rfl rfl ?_
              refine y_ret1 ?_
              refine y_iconst rfl ?_
              refine y_ishl rfl ?_
              refine y_ior rfl ?_
              refine y_ireturn rfl rfl rfl ?_
              exact hQ _ _ _ _ _ _ _ (by unfold yMs; (repeat' split) <;> first | decide | (exfalso; omega)) hX (by omega) (by omega)
            · refine y_iconst rfl ?_
              refine y_goto rfl j_X14_missing_79 ?_
              refine y_static rfl rfl rfl rfl rfl ?_
              refine y_in (M := xm_X14_one) (ls := [some _]) rfl rfl rfl ?_
              refine y_iload_n rfl rfl ?_
              refine y_if_eqF rfl (by decide) ?_
              refine y_iconst rfl ?_
              refine y_goto rfl j_X14_one_9 ?_
              refine y_ireturn rfl rfl rfl ?_
              refine y_ret1 ?_
              refine y_iconst rfl ?_
              refine y_ishl rfl ?_
              refine y_ior rfl ?_
              refine y_ireturn rfl rfl rfl ?_
              exact hQ _ _ _ _ _ _ _ (by unfold yMs; (repeat' split) <;> first | decide | (exfalso; omega)) hX (by omega) (by omega)
          · refine y_iconst rfl ?_
            refine y_goto rfl j_X14_one_9 ?_
            refine y_ireturn rfl rfl rfl ?_
            refine y_ret1 ?_
            refine y_iconst rfl ?_
            refine y_ishl rfl ?_
            refine y_ior rfl ?_
            refine y_aload_n rfl rfl ?_
            refine y_getIv (v := I b 5) rfl ((hX.2.1 _ hb_b).1.trans ht_b) (Nat.lt_of_lt_of_le hb_b hX.1) rfl rfl (congrFun (hX.2.1 _ hb_b).2.1 5) ?_
            refine y_iload_n rfl rfl ?_
            refine y_icmp_ne rfl j_X14_missing_78 (fun h_31 => ?_) (fun h_32 => ?_)
            · refine y_iconst rfl ?_
              refine y_static rfl rfl rfl rfl rfl ?_
              refine y_in (M := xm_X14_one) (ls := [some _]) rfl rfl rfl ?_
              refine y_iload_n rfl rfl ?_
              refine y_if_eqT rfl j_X14_one_8 (by decide) ?_
              refine y_iconst rfl ?_
              refine y_ireturn rfl rfl rfl ?_
              refine y_ret1 ?_
              refine y_iconst rfl ?_
              refine y_ishl rfl ?_
              refine y_ior rfl ?_
              refine y_ireturn rfl rfl rfl ?_
              exact hQ _ _ _ _ _ _ _ (by unfold yMs; (repeat' split) <;> first | decide | (exfalso; omega)) hX (by omega) (by omega)
            · refine y_iconst rfl ?_
              refine y_goto rfl j_X14_missing_79 ?_
              refine y_static rfl rfl rfl rfl rfl ?_
              refine y_in (M := xm_X14_one) (ls := [some _]) rfl rfl rfl ?_
              refine y_iload_n rfl rfl ?_
              refine y_if_eqF rfl (by decide) ?_
              refine y_iconst rfl ?_
              refine y_goto rfl j_X14_one_9 ?_
              refine y_ireturn rfl rfl rfl ?_
              refine y_ret1 ?_
              refine y_iconst rfl ?_
              refine y_ishl rfl ?_
              refine y_ior rfl ?_
              refine y_ireturn rfl rfl rfl ?_
              exact hQ _ _ _ _ _ _ _ (by unfold yMs; (repeat' split) <;> first | decide | (exfalso; omega)) hX (by omega) (by omega)
  · rw [yz_8] at h_2
    refine y_iconst rfl ?_
    refine y_goto rfl j_X14_missing_14 ?_
    refine y_static rfl rfl rfl rfl rfl ?_
    refine y_in (M := xm_X14_one) (ls := [some _]) rfl rfl rfl ?_
    refine y_iload_n rfl rfl ?_
    refine y_if_eqF rfl (by decide) ?_
    refine y_iconst rfl ?_
    refine y_goto rfl j_X14_one_9 ?_
    refine y_ireturn rfl rfl rfl ?_
    refine y_ret1 ?_
    refine y_aload_n rfl rfl ?_
    refine y_getIv (v := I b 1) rfl ((hX.2.1 _ hb_b).1.trans ht_b) (Nat.lt_of_lt_of_le hb_b hX.1) rfl rfl (congrFun (hX.2.1 _ hb_b).2.1 1) ?_
    refine y_bip rfl (by decide) ?_
    refine y_icmp_ne rfl j_X14_missing_49 (fun h_33 => ?_) (fun h_34 => ?_)
    · rw [yz_8] at h_33
      refine y_iconst rfl ?_
      refine y_static rfl rfl rfl rfl rfl ?_
      refine y_in (M := xm_X14_one) (ls := [some _]) rfl rfl rfl ?_
      refine y_iload_n rfl rfl ?_
      refine y_if_eqT rfl j_X14_one_8 (by decide) ?_
      refine y_iconst rfl ?_
      refine y_ireturn rfl rfl rfl ?_
      refine y_ret1 ?_
      refine y_iconst rfl ?_
      refine y_ishl rfl ?_
      refine y_ior rfl ?_
      refine y_aload_n rfl rfl ?_
      refine y_getIv (v := I b 3) rfl ((hX.2.1 _ hb_b).1.trans ht_b) (Nat.lt_of_lt_of_le hb_b hX.1) rfl rfl (congrFun (hX.2.1 _ hb_b).2.1 3) ?_
      refine y_static rfl rfl rfl rfl rfl ?_
      refine y_in (M := xm_X14_one) (ls := [some _]) rfl rfl rfl ?_
      refine y_iload_n rfl rfl ?_
      refine y_if_eq rfl j_X14_one_8 (fun h_35 => ?_) (fun h_36 => ?_)
      · refine y_iconst rfl ?_
        refine y_ireturn rfl rfl rfl ?_
        refine y_ret1 ?_
        refine y_iconst rfl ?_
        refine y_ishl rfl ?_
        refine y_ior rfl ?_
        refine y_aload_n rfl rfl ?_
        refine y_getIv (v := I b 5) rfl ((hX.2.1 _ hb_b).1.trans ht_b) (Nat.lt_of_lt_of_le hb_b hX.1) rfl rfl (congrFun (hX.2.1 _ hb_b).2.1 5) ?_
        refine y_iload_n rfl rfl ?_
        refine y_icmp_ne rfl j_X14_missing_78 (fun h_37 => ?_) (fun h_38 => ?_)
        · refine y_iconst rfl ?_
          refine y_static rfl rfl rfl rfl rfl ?_
          refine y_in (M := xm_X14_one) (ls := [some _]) rfl rfl rfl ?_
          refine y_iload_n rfl rfl ?_
          refine y_if_eqT rfl j_X14_one_8 (by decide) ?_
          refine y_iconst rfl ?_
          refine y_ireturn rfl rfl rfl ?_
          refine y_ret1 ?_
          refine y_iconst rfl ?_
          refine y_ishl rfl ?_
          refine y_ior rfl ?_
          refine y_ireturn rfl rfl rfl ?_
          exact hQ _ _ _ _ _ _ _ (by unfold yMs; (repeat' split) <;> first | decide | (exfalso; omega)) hX (by omega) (by omega)
        · refine y_iconst rfl ?_
          refine y_goto rfl j_X14_missing_79 ?_
          refine y_static rfl rfl rfl rfl rfl ?_
          refine y_in (M := xm_X14_one) (ls := [some _]) rfl rfl rfl ?_
          refine y_iload_n rfl rfl ?_
          refine y_if_eqF rfl (by decide) ?_
          refine y_iconst rfl ?_
          refine y_goto rfl j_X14_one_9 ?_
          refine y_ireturn rfl rfl rfl ?_
          refine y_ret1 ?_
          refine y_iconst rfl ?_
          refine y_ishl rfl ?_
          refine y_ior rfl ?_
          refine y_ireturn rfl rfl rfl ?_
          exact hQ _ _ _ _ _ _ _ (by unfold yMs; (repeat' split) <;> first | decide | (exfalso; omega)) hX (by omega) (by omega)
      · refine y_iconst rfl ?_
        refine y_goto rfl j_X14_one_9 ?_
        refine y_ireturn rfl rfl rfl ?_
        refine y_ret1 ?_
        refine y_iconst rfl ?_
        refine y_ishl rfl ?_
        refine y_ior rfl ?_
        refine y_aload_n rfl rfl ?_
        refine y_getIv (v := I b 5) rfl ((hX.2.1 _ hb_b).1.trans ht_b) (Nat.lt_of_lt_of_le hb_b hX.1) rfl rfl (congrFun (hX.2.1 _ hb_b).2.1 5) ?_
        refine y_iload_n rfl rfl ?_
        refine y_icmp_ne rfl j_X14_missing_78 (fun h_39 => ?_) (fun h_40 => ?_)
        · refine y_iconst rfl ?_
          refine y_static rfl rfl rfl rfl rfl ?_
          refine y_in (M := xm_X14_one) (ls := [some _]) rfl rfl rfl ?_
          refine y_iload_n rfl rfl ?_
          refine y_if_eqT rfl j_X14_one_8 (by decide) ?_
          refine y_iconst rfl ?_
          refine y_ireturn rfl rfl rfl ?_
          refine y_ret1 ?_
          refine y_iconst rfl ?_
          refine y_ishl rfl ?_
          refine y_ior rfl ?_
          refine y_ireturn rfl rfl rfl ?_
          exact hQ _ _ _ _ _ _ _ (by unfold yMs; (repeat' split) <;> first | decide | (exfalso; omega)) hX (by omega) (by omega)
        · refine y_iconst rfl ?_
          refine y_goto rfl j_X14_missing_79 ?_
          refine y_static rfl rfl rfl rfl rfl ?_
          refine y_in (M := xm_X14_one) (ls := [some _]) rfl rfl rfl ?_
          refine y_iload_n rfl rfl ?_
          refine y_if_eqF rfl (by decide) ?_
          refine y_iconst rfl ?_
          refine y_goto rfl j_X14_one_9 ?_
          refine y_ireturn rfl rfl rfl ?_
          refine y_ret1 ?_
          refine y_iconst rfl ?_
          refine y_ishl rfl ?_
          refine y_ior rfl ?_
          refine y_ireturn rfl rfl rfl ?_
          exact hQ _ _ _ _ _ _ _ (by unfold yMs; (repeat' split) <;> first | decide | (exfalso; omega)) hX (by omega) (by omega)
    · rw [yz_8] at h_34
      refine y_aload_n rfl rfl ?_
      refine y_getIv (v := I b 2) rfl ((hX.2.1 _ hb_b).1.trans ht_b) (Nat.lt_of_lt_of_le hb_b hX.1) rfl rfl (congrFun (hX.2.1 _ hb_b).2.1 2) ?_
      refine y_if_ne rfl j_X14_missing_49 (fun h_41 => ?_) (fun h_42 => ?_)
      · refine y_iconst rfl ?_
        refine y_static rfl rfl rfl rfl rfl ?_
        refine y_in (M := xm_X14_one) (ls := [some _]) rfl rfl rfl ?_
        refine y_iload_n rfl rfl ?_
        refine y_if_eqT rfl j_X14_one_8 (by decide) ?_
        refine y_iconst rfl ?_
        refine y_ireturn rfl rfl rfl ?_
        refine y_ret1 ?_
        refine y_iconst rfl ?_
        refine y_ishl rfl ?_
        refine y_ior rfl ?_
        refine y_aload_n rfl rfl ?_
        refine y_getIv (v := I b 3) rfl ((hX.2.1 _ hb_b).1.trans ht_b) (Nat.lt_of_lt_of_le hb_b hX.1) rfl rfl (congrFun (hX.2.1 _ hb_b).2.1 3) ?_
        refine y_static rfl rfl rfl rfl rfl ?_
        refine y_in (M := xm_X14_one) (ls := [some _]) rfl rfl rfl ?_
        refine y_iload_n rfl rfl ?_
        refine y_if_eq rfl j_X14_one_8 (fun h_43 => ?_) (fun h_44 => ?_)
        · refine y_iconst rfl ?_
          refine y_ireturn rfl rfl rfl ?_
          refine y_ret1 ?_
          refine y_iconst rfl ?_
          refine y_ishl rfl ?_
          refine y_ior rfl ?_
          refine y_aload_n rfl rfl ?_
          refine y_getIv (v := I b 5) rfl ((hX.2.1 _ hb_b).1.trans ht_b) (Nat.lt_of_lt_of_le hb_b hX.1) rfl rfl (congrFun (hX.2.1 _ hb_b).2.1 5) ?_
          refine y_iload_n rfl rfl ?_
          refine y_icmp_ne rfl j_X14_missing_78 (fun h_45 => ?_) (fun h_46 => ?_)
          · refine y_iconst rfl ?_
            refine y_static rfl rfl rfl rfl rfl ?_
            refine y_in (M := xm_X14_one) (ls := [some _]) rfl rfl rfl ?_
            refine y_iload_n rfl rfl ?_
            refine y_if_eqT rfl j_X14_one_8 (by decide) ?_
            refine y_iconst rfl ?_
            refine y_ireturn rfl rfl rfl ?_
            refine y_ret1 ?_
            refine y_iconst rfl ?_
            refine y_ishl rfl ?_
            refine y_ior rfl ?_
            refine y_ireturn rfl rfl rfl ?_
            exact hQ _ _ _ _ _ _ _ (by unfold yMs; (repeat' split) <;> first | decide | (exfalso; omega)) hX (by omega) (by omega)
          · refine y_iconst rfl ?_
            refine y_goto rfl j_X14_missing_79 ?_
            refine y_static rfl rfl rfl rfl rfl ?_
            refine y_in (M := xm_X14_one) (ls := [some _]) rfl rfl rfl ?_
            refine y_iload_n rfl rfl ?_
            refine y_if_eqF rfl (by decide) ?_
            refine y_iconst rfl ?_
            refine y_goto rfl j_X14_one_9 ?_
            refine y_ireturn rfl rfl rfl ?_
            refine y_ret1 ?_
            refine y_iconst rfl ?_
            refine y_ishl rfl ?_
            refine y_ior rfl ?_
            refine y_ireturn rfl rfl rfl ?_
            exact hQ _ _ _ _ _ _ _ (by unfold yMs; (repeat' split) <;> first | decide | (exfalso; omega)) hX (by omega) (by omega)
        · refine y_iconst rfl ?_
          refine y_goto rfl j_X14_one_9 ?_
          refine y_ireturn rfl rfl rfl ?_
          refine y_ret1 ?_
          refine y_iconst rfl ?_
          refine y_ishl rfl ?_
          refine y_ior rfl ?_
          refine y_aload_n rfl rfl ?_
          refine y_getIv (v := I b 5) rfl ((hX.2.1 _ hb_b).1.trans ht_b) (Nat.lt_of_lt_of_le hb_b hX.1) rfl rfl (congrFun (hX.2.1 _ hb_b).2.1 5) ?_
          refine y_iload_n rfl rfl ?_
          refine y_icmp_ne rfl j_X14_missing_78 (fun h_47 => ?_) (fun h_48 => ?_)
          · refine y_iconst rfl ?_
            refine y_static rfl rfl rfl rfl rfl ?_
            refine y_in (M := xm_X14_one) (ls := [some _]) rfl rfl rfl ?_
            refine y_iload_n rfl rfl ?_
            refine y_if_eqT rfl j_X14_one_8 (by decide) ?_
            refine y_iconst rfl ?_
            refine y_ireturn rfl rfl rfl ?_
            refine y_ret1 ?_
            refine y_iconst rfl ?_
            refine y_ishl rfl ?_
            refine y_ior rfl ?_
            refine y_ireturn rfl rfl rfl ?_
            exact hQ _ _ _ _ _ _ _ (by unfold yMs; (repeat' split) <;> first | decide | (exfalso; omega)) hX (by omega) (by omega)
          · refine y_iconst rfl ?_
            refine y_goto rfl j_X14_missing_79 ?_
            refine y_static rfl rfl rfl rfl rfl ?_
            refine y_in (M := xm_X14_one) (ls := [some _]) rfl rfl rfl ?_
            refine y_iload_n rfl rfl ?_
            refine y_if_eqF rfl (by decide) ?_
            refine y_iconst rfl ?_
            refine y_goto rfl j_X14_one_9 ?_
            refine y_ireturn rfl rfl rfl ?_
            refine y_ret1 ?_
            refine y_iconst rfl ?_
            refine y_ishl rfl ?_
            refine y_ior rfl ?_
            refine y_ireturn rfl rfl rfl ?_
            exact hQ _ _ _ _ _ _ _ (by unfold yMs; (repeat' split) <;> first | decide | (exfalso; omega)) hX (by omega) (by omega)
      · refine y_aload_n rfl rfl ?_
        refine y_iconst rfl ?_
        refine y_aload_n rfl rfl ?_
        refine y_getIv (v := I 83 1) rfl (ySh.t hS rfl) (ySh.n hS rfl) rfl rfl (congrFun (hX.2.1 83 (by omega)).2.1 1) ?_
        refine y_virt rfl rfl rfl rfl rfl (ySh.t hS rfl) (ySh.n hS rfl) ?_
        have hal_c : ySum (fun j => yHv I R (Int32.ofInt 0).toInt j (I 87 2).toInt.toNat) 5 = al := (ySum_eq fun j _ => yHv_x hR0 hn hX).trans hal
        refine s_isAllowed hS hR (Nat.le_trans hn hX.1) (Int.le_of_eq (congrArg Int32.toInt (congrFun (hX.2.1 83 (by omega)).2.1 1))) (fun ha_49 n49 tg49 I49 R49 c_49 s_49 hX1 hc_49 hs_49 => ?_) (fun ha_50 n50 tg50 I50 R50 c_50 s_50 hX1 hc_50 hs_50 => ?_)
        · rw [hal_c] at ha_49
          have hnA := hX1.1
          have hX := hX.trans hX1
          have hS := hS0.x hX
          have hR := hR0.x hn hX
          have hz := hX.sz h94
          have hxn := hX.1
          refine y_ret1 ?_
          refine y_if_neT rfl j_X14_missing_49 (by decide) ?_
          refine y_iconst rfl ?_
          refine y_static rfl rfl rfl rfl rfl ?_
          refine y_in (M := xm_X14_one) (ls := [some _]) rfl rfl rfl ?_
          refine y_iload_n rfl rfl ?_
          refine y_if_eqT rfl j_X14_one_8 (by decide) ?_
          refine y_iconst rfl ?_
          refine y_ireturn rfl rfl rfl ?_
          refine y_ret1 ?_
          refine y_iconst rfl ?_
          refine y_ishl rfl ?_
          refine y_ior rfl ?_
          refine y_aload_n rfl rfl ?_
          refine y_getIv (v := I b 3) rfl ((hX.2.1 _ hb_b).1.trans ht_b) (Nat.lt_of_lt_of_le hb_b hX.1) rfl rfl (congrFun (hX.2.1 _ hb_b).2.1 3) ?_
          refine y_static rfl rfl rfl rfl rfl ?_
          refine y_in (M := xm_X14_one) (ls := [some _]) rfl rfl rfl ?_
          refine y_iload_n rfl rfl ?_
          refine y_if_eq rfl j_X14_one_8 (fun h_51 => ?_) (fun h_52 => ?_)
          · refine y_iconst rfl ?_
            refine y_ireturn rfl rfl rfl ?_
            refine y_ret1 ?_
            refine y_iconst rfl ?_
            refine y_ishl rfl ?_
            refine y_ior rfl ?_
            refine y_aload_n rfl rfl ?_
            refine y_getIv (v := I b 5) rfl ((hX.2.1 _ hb_b).1.trans ht_b) (Nat.lt_of_lt_of_le hb_b hX.1) rfl rfl (congrFun (hX.2.1 _ hb_b).2.1 5) ?_
            refine y_iload_n rfl rfl ?_
            refine y_icmp_ne rfl j_X14_missing_78 (fun h_53 => ?_) (fun h_54 => ?_)
            · refine y_iconst rfl ?_
              refine y_static rfl rfl rfl rfl rfl ?_
              refine y_in (M := xm_X14_one) (ls := [some _]) rfl rfl rfl ?_
              refine y_iload_n rfl rfl ?_
              refine y_if_eqT rfl j_X14_one_8 (by decide) ?_
              refine y_iconst rfl ?_
              refine y_ireturn rfl rfl rfl ?_
              refine y_ret1 ?_
              refine y_iconst rfl ?_
              refine y_ishl rfl ?_
              refine y_ior rfl ?_
              refine y_ireturn rfl rfl rfl ?_
              exact hQ _ _ _ _ _ _ _ (by unfold yMs; (repeat' split) <;> first | decide | (exfalso; omega)) hX (by omega) (by omega)
            · refine y_iconst rfl ?_
              refine y_goto rfl j_X14_missing_79 ?_
              refine y_static rfl rfl rfl rfl rfl ?_
              refine y_in (M := xm_X14_one) (ls := [some _]) rfl rfl rfl ?_
              refine y_iload_n rfl rfl ?_
              refine y_if_eqF rfl (by decide) ?_
              refine y_iconst rfl ?_
              refine y_goto rfl j_X14_one_9 ?_
              refine y_ireturn rfl rfl rfl ?_
              refine y_ret1 ?_
              refine y_iconst rfl ?_
              refine y_ishl rfl ?_
              refine y_ior rfl ?_
              refine y_ireturn rfl rfl rfl ?_
              exact hQ _ _ _ _ _ _ _ (by unfold yMs; (repeat' split) <;> first | decide | (exfalso; omega)) hX (by omega) (by omega)
          · refine y_iconst rfl ?_
            refine y_goto rfl j_X14_one_9 ?_
            refine y_ireturn rfl rfl rfl ?_
            refine y_ret1 ?_
            refine y_iconst rfl ?_
            refine y_ishl rfl ?_
            refine y_ior rfl ?_
            refine y_aload_n rfl rfl ?_
            refine y_getIv (v := I b 5) rfl ((hX.2.1 _ hb_b).1.trans ht_b) (Nat.lt_of_lt_of_le hb_b hX.1) rfl rfl (congrFun (hX.2.1 _ hb_b).2.1 5) ?_
            refine y_iload_n rfl rfl ?_
            refine y_icmp_ne rfl j_X14_missing_78 (fun h_55 => ?_) (fun h_56 => ?_)
            · refine y_iconst rfl ?_
              refine y_static rfl rfl rfl rfl rfl ?_
              refine y_in (M := xm_X14_one) (ls := [some _]) rfl rfl rfl ?_
              refine y_iload_n rfl rfl ?_
              refine y_if_eqT rfl j_X14_one_8 (by decide) ?_
              refine y_iconst rfl ?_
              refine y_ireturn rfl rfl rfl ?_
              refine y_ret1 ?_
              refine y_iconst rfl ?_
              refine y_ishl rfl ?_
              refine y_ior rfl ?_
              refine y_ireturn rfl rfl rfl ?_
              exact hQ _ _ _ _ _ _ _ (by unfold yMs; (repeat' split) <;> first | decide | (exfalso; omega)) hX (by omega) (by omega)
            · refine y_iconst rfl ?_
              refine y_goto rfl j_X14_missing_79 ?_
              refine y_static rfl rfl rfl rfl rfl ?_
              refine y_in (M := xm_X14_one) (ls := [some _]) rfl rfl rfl ?_
              refine y_iload_n rfl rfl ?_
              refine y_if_eqF rfl (by decide) ?_
              refine y_iconst rfl ?_
              refine y_goto rfl j_X14_one_9 ?_
              refine y_ireturn rfl rfl rfl ?_
              refine y_ret1 ?_
              refine y_iconst rfl ?_
              refine y_ishl rfl ?_
              refine y_ior rfl ?_
              refine y_ireturn rfl rfl rfl ?_
              exact hQ _ _ _ _ _ _ _ (by unfold yMs; (repeat' split) <;> first | decide | (exfalso; omega)) hX (by omega) (by omega)
        · rw [hal_c] at ha_50
          have hnA := hX1.1
          have hX := hX.trans hX1
          have hS := hS0.x hX
          have hR := hR0.x hn hX
          have hz := hX.sz h94
          have hxn := hX.1
          refine y_ret1 ?_
          refine y_if_neF rfl (by decide) ?_
          refine y_iconst rfl ?_
          refine y_goto rfl j_X14_missing_50 ?_
          refine y_static rfl rfl rfl rfl rfl ?_
          refine y_in (M := xm_X14_one) (ls := [some _]) rfl rfl rfl ?_
          refine y_iload_n rfl rfl ?_
          refine y_if_eqF rfl (by decide) ?_
          refine y_iconst rfl ?_
          refine y_goto rfl j_X14_one_9 ?_
          refine y_ireturn rfl rfl rfl ?_
          refine y_ret1 ?_
          refine y_iconst rfl ?_
          refine y_ishl rfl ?_
          refine y_ior rfl ?_
          refine y_aload_n rfl rfl ?_
          refine y_getIv (v := I b 3) rfl ((hX.2.1 _ hb_b).1.trans ht_b) (Nat.lt_of_lt_of_le hb_b hX.1) rfl rfl (congrFun (hX.2.1 _ hb_b).2.1 3) ?_
          refine y_static rfl rfl rfl rfl rfl ?_
          refine y_in (M := xm_X14_one) (ls := [some _]) rfl rfl rfl ?_
          refine y_iload_n rfl rfl ?_
          refine y_if_eq rfl j_X14_one_8 (fun h_57 => ?_) (fun h_58 => ?_)
          · refine y_iconst rfl ?_
            refine y_ireturn rfl rfl rfl ?_
            refine y_ret1 ?_
            refine y_iconst rfl ?_
            refine y_ishl rfl ?_
            refine y_ior rfl ?_
            refine y_aload_n rfl rfl ?_
            refine y_getIv (v := I b 5) rfl ((hX.2.1 _ hb_b).1.trans ht_b) (Nat.lt_of_lt_of_le hb_b hX.1) rfl rfl (congrFun (hX.2.1 _ hb_b).2.1 5) ?_
            refine y_iload_n rfl rfl ?_
            refine y_icmp_ne rfl j_X14_missing_78 (fun h_59 => ?_) (fun h_60 => ?_)
            · refine y_iconst rfl ?_
              refine y_static rfl rfl rfl rfl rfl ?_
              refine y_in (M := xm_X14_one) (ls := [some _]) rfl rfl rfl ?_
              refine y_iload_n rfl rfl ?_
              refine y_if_eqT rfl j_X14_one_8 (by decide) ?_
              refine y_iconst rfl ?_
              refine y_ireturn rfl rfl rfl ?_
              refine y_ret1 ?_
              refine y_iconst rfl ?_
              refine y_ishl rfl ?_
              refine y_ior rfl ?_
              refine y_ireturn rfl rfl rfl ?_
              exact hQ _ _ _ _ _ _ _ (by unfold yMs; (repeat' split) <;> first | decide | (exfalso; omega)) hX (by omega) (by omega)
            · refine y_iconst rfl ?_
              refine y_goto rfl j_X14_missing_79 ?_
              refine y_static rfl rfl rfl rfl rfl ?_
              refine y_in (M := xm_X14_one) (ls := [some _]) rfl rfl rfl ?_
              refine y_iload_n rfl rfl ?_
              refine y_if_eqF rfl (by decide) ?_
              refine y_iconst rfl ?_
              refine y_goto rfl j_X14_one_9 ?_
              refine y_ireturn rfl rfl rfl ?_
              refine y_ret1 ?_
              refine y_iconst rfl ?_
              refine y_ishl rfl ?_
              refine y_ior rfl ?_
              refine y_ireturn rfl rfl rfl ?_
              exact hQ _ _ _ _ _ _ _ (by unfold yMs; (repeat' split) <;> first | decide | (exfalso; omega)) hX (by omega) (by omega)
          · refine y_iconst rfl ?_
            refine y_goto rfl j_X14_one_9 ?_
            refine y_ireturn rfl rfl rfl ?_
            refine y_ret1 ?_
            refine y_iconst rfl ?_
            refine y_ishl rfl ?_
            refine y_ior rfl ?_
            refine y_aload_n rfl rfl ?_
            refine y_getIv (v := I b 5) rfl ((hX.2.1 _ hb_b).1.trans ht_b) (Nat.lt_of_lt_of_le hb_b hX.1) rfl rfl (congrFun (hX.2.1 _ hb_b).2.1 5) ?_
            refine y_iload_n rfl rfl ?_
            refine y_icmp_ne rfl j_X14_missing_78 (fun h_61 => ?_) (fun h_62 => ?_)
            · refine y_iconst rfl ?_
              refine y_static rfl rfl rfl rfl rfl ?_
              refine y_in (M := xm_X14_one) (ls := [some _]) rfl rfl rfl ?_
              refine y_iload_n rfl rfl ?_
              refine y_if_eqT rfl j_X14_one_8 (by decide) ?_
              refine y_iconst rfl ?_
              refine y_ireturn rfl rfl rfl ?_
              refine y_ret1 ?_
              refine y_iconst rfl ?_
              refine y_ishl rfl ?_
              refine y_ior rfl ?_
              refine y_ireturn rfl rfl rfl ?_
              exact hQ _ _ _ _ _ _ _ (by unfold yMs; (repeat' split) <;> first | decide | (exfalso; omega)) hX (by omega) (by omega)
            · refine y_iconst rfl ?_
              refine y_goto rfl j_X14_missing_79 ?_
              refine y_static rfl rfl rfl rfl rfl ?_
              refine y_in (M := xm_X14_one) (ls := [some _]) rfl rfl rfl ?_
              refine y_iload_n rfl rfl ?_
              refine y_if_eqF rfl (by decide) ?_
              refine y_iconst rfl ?_
              refine y_goto rfl j_X14_one_9 ?_
              refine y_ireturn rfl rfl rfl ?_
              refine y_ret1 ?_
              refine y_iconst rfl ?_
              refine y_ishl rfl ?_
              refine y_ior rfl ?_
              refine y_ireturn rfl rfl rfl ?_
              exact hQ _ _ _ _ _ _ _ (by unfold yMs; (repeat' split) <;> first | decide | (exfalso; omega)) hX (by omega) (by omega)
theorem h_buy (hS0 : ySh n tg R) (hR0 : yRI K n tg I R) (hk6 : K < 600) {x1 : Int32} {lv : Int} (hlv : yLf I R x1 lv) (hQ1 : ¬ (0 ≤ x1.toInt ∧ x1.toInt < (I 88 2).toInt) → ∀ (v : Int32) n1 tg1 I1 R1 c1 s1, ySh n1 tg1 R1 → yRI (K + 1) n1 tg1 I1 R1 → yKp n tg I R n1 tg1 I1 R1 → I1 83 0 = Int32.ofInt 1 → yGm n I1 I → yRf n I R I1 R1 → c1 ≤ c + 0 → s1 ≤ s + 0 → Q (.inl (some (.int v))) (n1, tg1, I1, R1) c1 s1) (hQ2 : ∀ b, b = yAd R 88 x1.toInt.toNat → (0 ≤ x1.toInt ∧ x1.toInt < (I 88 2).toInt) ∧ ¬ (¬ (I b 1).toInt = 8 ∧ (I b 3).toInt = 0 ∧ lv = -1) → ∀ (v : Int32) n1 tg1 I1 R1 c1 s1, ySh n1 tg1 R1 → yRI (K + 1) n1 tg1 I1 R1 → yKp n tg I R n1 tg1 I1 R1 → I1 83 0 = Int32.ofInt 2 → yGm n I1 I → yRf n I R I1 R1 → c1 ≤ c + 0 → s1 ≤ s + 0 → Q (.inl (some (.int v))) (n1, tg1, I1, R1) c1 s1) (hQ0 : ∀ b, b = yAd R 88 x1.toInt.toNat → (0 ≤ x1.toInt ∧ x1.toInt < (I 88 2).toInt) ∧ (¬ (I b 1).toInt = 8 ∧ (I b 3).toInt = 0 ∧ lv = -1) → ∀ (v : Int32) n1 tg1 I1 R1 c1 s1, ySh n1 tg1 R1 → yRI (K + 1) n1 tg1 I1 R1 → yKp n tg I R n1 tg1 I1 R1 → I1 83 0 = Int32.ofInt 0 → v = I b 0 → yGm n I1 (upd2 (upd2 (upd2 (upd2 I b 4 (I b 0)) b 5 (I b 1)) b 1 (Int32.ofInt 8)) b 2 (Int32.ofInt 0)) → yX n tg (upd2 (upd2 (upd2 (upd2 (mAddC (upd2 (upd2 I 83 0 (Int32.ofInt 0)) 84 8 (I 84 8 - I b 0)) (I b 1) (I b 0)) b 4 (I b 0)) b 5 (I b 1)) b 1 (Int32.ofInt 8)) b 2 (Int32.ofInt 0)) R n1 tg1 I1 R1 → c1 ≤ c + 0 → s1 ≤ s + 0 → Q (.inl (some (.int v))) (n1, tg1, I1, R1) c1 s1) : yC 198 [.ref 83, .int x1] (n, tg, I, R) c s Q := by
  have hno := Nat.le_refl n
  have hn := hno
  have hRo := hR0
  have hK : yKp n tg I R n tg I R := yKp.rf
  have hX : yX n tg I R n tg I R := yX.rf
  have hS := hS0
  have hR := hR0
  have h94 : 94 ≤ n := hS0.1
  have hz : ySz I I := hX.sz h94
  have hxn := hX.1
  have hN := hR0.1
  have hnb : 94 ≤ n := hR0.2.2.2.2.2.2
  have hg : yGm n I I := yGm.rf
  have hday : I 83 1 = I 83 1 := rfl
  have hb83 : ∀ a, a ≠ 83 → a < n → I a = I a := fun _ _ _ => rfl
  have hRb : ∀ a, a < n → R a = R a := fun _ _ => rfl
  have hB : yX n tg I R n tg I R := yX.rf
  have h8 : ∀ a, 84 ≤ a → a ≤ 86 → I a = I a := fun _ _ _ => rfl
  have h3k : ∀ k, k ≠ 0 → I 83 k = I 83 k := fun _ _ => rfl
  refine y_in (M := xm_X14_buy) (ls := [some _, some _, _]) rfl rfl rfl ?_
  refine y_aload_n rfl rfl ?_
  refine y_aload_n rfl rfl ?_
  refine y_iload_n rfl rfl ?_
  refine y_virt rfl rfl rfl rfl rfl (ySh.t hS rfl) (ySh.n hS rfl) ?_
  refine y_in (M := xm_X14_isNoThing) (ls := [some _, some _]) rfl rfl rfl ?_
  refine y_iload_n rfl rfl ?_
  refine y_iconst rfl ?_
  refine y_aload_n rfl rfl ?_
  refine y_getR rfl (ySh.t hS rfl) (ySh.n hS rfl) rfl rfl (ySh.r hS rfl) ?_
  refine y_virt rfl rfl rfl rfl rfl (ySh.t hS rfl) (ySh.n hS rfl) ?_
  refine y_in (M := xm_Jx4a65c_size_8abf5) (ls := [some _]) rfl rfl rfl ?_
  refine y_aload_n rfl rfl ?_
  refine y_getI rfl (ySh.t hS rfl) (ySh.n hS rfl) rfl rfl ?_
  refine y_ireturn rfl rfl rfl ?_
  refine y_ret1 ?_
  refine y_iconst rfl ?_
  refine y_isub rfl ?_
  refine y_static rfl rfl rfl rfl rfl ?_
  refine r_isIn (fun h_1 h_2 => ?_) (fun h_3 => ?_)
  · rw [yz_0] at h_1
    try rw [ysub (by rw [yz_1]; omega) (by rw [yz_1]; omega), yz_1] at h_2
    refine y_ret1 ?_
    refine y_if_neT rfl j_X14_isNoThing_21 (by decide) ?_
    refine y_iconst rfl ?_
    refine y_ireturn rfl rfl rfl ?_
    refine y_ret1 ?_
    refine y_iconst rfl ?_
    refine y_virt rfl rfl rfl rfl rfl (ySh.t hS rfl) (ySh.n hS rfl) ?_
    refine y_in (M := xm_X14_start) (ls := [some _, some _, some _]) rfl rfl rfl ?_
    refine y_aload_n rfl rfl ?_
    refine y_iconst rfl ?_
    refine y_putI rfl (ySh.t hS rfl) (ySh.n hS rfl) rfl (Nat.le_of_ble_eq_true rfl) rfl rfl ?_
    refine y_nameI (fun I4 e4 => ?_)
    have hR1 := (hR0.grow hX).mod0 e4 (by decide) (by decide)
    have hK := (hK.x hRo hno hX).upI (upI e4) (by decide) (by decide) (fun i hi => by have := (hRo.l87.2.2.2.2 i hi).2.1; omega) (by rw [e4, upd2_ne (.inr (by decide))]; exact Int.le_refl _)
    have hth : I4 83 0 = Int32.ofInt (0) := by rw [e4, upd2_self]
    have hzz : ySz8 I I4 := ySz8_of (upI e4) (by rw [e4]; exact ⟨upd2_ne (.inr (by decide)), upd2_ne (.inr (by decide))⟩)
    have hB := (hB.trans hX).wr e4 rfl
    have h8 : ∀ a, 84 ≤ a → a ≤ 86 → I4 a = I a := fun a h1 h2 => (upI e4 a (by omega)).trans ((hX.2.1 a (by omega)).2.1.trans (h8 a h1 h2))
    have h3k : ∀ k, k ≠ 0 → I4 83 k = I 83 k := fun k hk => (congrFun (congrFun e4 83) k).trans ((upd2_ne (.inr hk)).trans ((congrFun (hX.2.1 83 (by omega)).2.1 k).trans (h3k k hk)))
    have hg := (hg.gx hX (by omega)).skip e4 (by decide)
    have hday : I4 83 1 = I 83 1 := (congrFun (congrFun e4 83) 1).trans ((upd2_ne (.inr (by decide))).trans ((congrFun (hX.2.1 83 (by omega)).2.1 1).trans hday))
    have hRb : ∀ a, a < n → R a = R a := fun a ha => (hX.2.1 a (by omega)).2.2.trans (hRb a ha)
    have hb83 : ∀ a, a ≠ 83 → a < n → I4 a = I a := fun a ha hb => (upI e4 a ha).trans ((hX.2.1 a (by omega)).2.1.trans (hb83 a ha hb))
    have hS0 := hS
    have hR0 := hR1
    have hn := Nat.le_refl n
    have h94 := hS0.1
    have hX := @yX.rf n tg I4 R
    have hS := hS0.x hX
    have hR := hR0.x hn hX
    have hz := hX.sz h94
    have hxn := hX.1
    have hN := hR0.1
    have hnb := hR0.2.2.2.2.2.2
    have hthB := hth
    refine y_aload_n rfl rfl ?_
    refine y_iload_n rfl rfl ?_
    refine y_iload_n rfl rfl ?_
    refine y_virt rfl rfl rfl rfl rfl (ySh.t hS rfl) (ySh.n hS rfl) ?_
    refine y_in (M := xm_X14_refuse) (ls := [some _, some _, some _]) rfl rfl rfl ?_
    refine y_iload_n rfl rfl ?_
    refine y_if_eqT rfl j_X14_refuse_16 (by decide) ?_
    refine y_aload_n rfl rfl ?_
    refine y_getIv (v := Int32.ofInt (0)) rfl (ySh.t hS rfl) (ySh.n hS rfl) rfl rfl hth ?_
    refine y_if_leT rfl j_X14_refuse_27 (by decide) ?_
    refine y_iconst rfl ?_
    refine y_ireturn rfl rfl rfl ?_
    refine y_ret1 ?_
    refine y_ireturn rfl rfl rfl ?_
    refine y_ret1 ?_
    refine y_if_eqT rfl j_X14_buy_15 (by decide) ?_
    refine y_aload_n rfl rfl ?_
    refine y_getR rfl (ySh.t hS rfl) (ySh.n hS rfl) rfl rfl (ySh.r hS rfl) ?_
    refine y_iload_n rfl rfl ?_
    refine y_virt rfl rfl rfl rfl rfl (ySh.t hS rfl) (ySh.n hS rfl) ?_
    refine l_get (nb := n) (ySh.t hS rfl) (ySh.n hS rfl) (Nat.le_trans hn hX.1) hR.l88 (by omega) (by omega) (fun b5 eb_b5 hlo_b5 hb0_b5 ht_b5 => ?_)
    have hb_b5 := Nat.lt_of_lt_of_le hb0_b5 hn
    replace ht_b5 := (hX.2.1 _ hb_b5).1.symm.trans ht_b5
    have hw_b5 := hR.thi hlo_b5 hb0_b5 ((hX.2.1 _ hb_b5).1.trans ht_b5)
    have hq_b5_1 := congrArg Int32.toInt (congrFun ((hg.gx hX (by omega)) _ hlo_b5 (by omega)) 1)
    refine y_ret1 ?_
    refine y_cast rfl ((hX.2.1 _ hb_b5).1.trans ht_b5) (Nat.lt_of_lt_of_le hb_b5 hX.1) ?_
    refine y_astore_n (ls' := [some _, some _, some _]) rfl rfl rfl ?_
    refine y_aload_n rfl rfl ?_
    refine y_aload_n rfl rfl ?_
    refine y_getIv (v := I b5 1) rfl ((hX.2.1 _ hb_b5).1.trans ht_b5) (Nat.lt_of_lt_of_le hb_b5 hX.1) rfl rfl (congrFun ((hg.gx hX (by omega)) _ hlo_b5 (by omega)) 1) ?_
    refine y_bip rfl (by decide) ?_
    refine y_icmp_eq rfl j_X14_buy_53 (fun h_6 => ?_) (fun h_7 => ?_)
    · rw [yz_8] at h_6
      refine y_iconst rfl ?_
      refine y_goto rfl j_X14_buy_58 ?_
      refine y_iconst rfl ?_
      refine y_virt rfl rfl rfl rfl rfl (ySh.t hS rfl) (ySh.n hS rfl) ?_
      refine y_in (M := xm_X14_refuse) (ls := [some _, some _, some _]) rfl rfl rfl ?_
      refine y_iload_n rfl rfl ?_
      refine y_if_eqF rfl (by decide) ?_
      refine y_aload_n rfl rfl ?_
      refine y_getIv (v := Int32.ofInt (0)) rfl (ySh.t hS rfl) (ySh.n hS rfl) rfl rfl hth ?_
      refine y_if_neF rfl (by decide) ?_
      refine y_aload_n rfl rfl ?_
      refine y_iload_n rfl rfl ?_
      refine y_putI rfl (ySh.t hS rfl) (ySh.n hS rfl) rfl (Nat.le_of_ble_eq_true rfl) rfl rfl ?_
      refine y_nameI (fun I8 e8 => ?_)
      have hR1 := (hR0.grow hX).mod0 e8 (by decide) (by decide)
      have hK := (hK.x hRo hno hX).upI (upI e8) (by decide) (by decide) (fun i hi => by have := (hRo.l87.2.2.2.2 i hi).2.1; omega) (by rw [e8, upd2_ne (.inr (by decide))]; exact Int.le_refl _)
      have hth : I8 83 0 = Int32.ofInt (2) := by rw [e8, upd2_self]
      have hzz : ySz8 I4 I8 := ySz8_of (upI e8) (by rw [e8]; exact ⟨upd2_ne (.inr (by decide)), upd2_ne (.inr (by decide))⟩)
      have hB := (hB.trans hX).wr e8 rfl
      have h8 : ∀ a, 84 ≤ a → a ≤ 86 → I8 a = I a := fun a h1 h2 => (upI e8 a (by omega)).trans ((hX.2.1 a (by omega)).2.1.trans (h8 a h1 h2))
      have h3k : ∀ k, k ≠ 0 → I8 83 k = I 83 k := fun k hk => (congrFun (congrFun e8 83) k).trans ((upd2_ne (.inr hk)).trans ((congrFun (hX.2.1 83 (by omega)).2.1 k).trans (h3k k hk)))
      have hg := (hg.gx hX (by omega)).skip e8 (by decide)
      have hday : I8 83 1 = I 83 1 := (congrFun (congrFun e8 83) 1).trans ((upd2_ne (.inr (by decide))).trans ((congrFun (hX.2.1 83 (by omega)).2.1 1).trans hday))
      have hRb : ∀ a, a < n → R a = R a := fun a ha => (hX.2.1 a (by omega)).2.2.trans (hRb a ha)
      have hb83 : ∀ a, a ≠ 83 → a < n → I8 a = I a := fun a ha hb => (upI e8 a ha).trans ((hX.2.1 a (by omega)).2.1.trans (hb83 a ha hb))
      have hS0 := hS
      have hR0 := hR1
      have ht_b5 := (hX.2.1 _ hb_b5).1.trans ht_b5
      have hb_b5 := Nat.lt_of_lt_of_le hb_b5 hX.1
      have hb0_b5 := hb_b5
      have hn := Nat.le_refl n
      have h94 := hS0.1
      have hX := @yX.rf n tg I8 R
      have hS := hS0.x hX
      have hR := hR0.x hn hX
      have hz := hX.sz h94
      have hxn := hX.1
      have hw_b5 := hR.thi hlo_b5 hb0_b5 ((hX.2.1 _ hb_b5).1.trans ht_b5)
      have hN := hR0.1
      have hnb := hR0.2.2.2.2.2.2
      have hthB := hth
      refine y_aload_n rfl rfl ?_
      refine y_getIv (v := Int32.ofInt (2)) rfl (ySh.t hS rfl) (ySh.n hS rfl) rfl rfl hth ?_
      refine y_if_leF rfl (by decide) ?_
      refine y_iconst rfl ?_
      refine y_goto rfl j_X14_refuse_28 ?_
      refine y_ireturn rfl rfl rfl ?_
      refine y_ret1 ?_
      refine y_if_eqF rfl (by decide) ?_
      refine y_iconst rfl ?_
      refine y_ireturn rfl rfl rfl ?_
      exact hQ2 _ eb_b5 (by omega) _ _ _ _ _ _ _ hS ((hR0.grow hX).up (Nat.le_succ K) hk6) (hK.x hRo hno hX) hth (hg.gx hX (by omega)) ((hB.trans hX).rf2 (by omega)) (by omega) (by omega)
    · rw [yz_8] at h_7
      refine y_aload_n rfl rfl ?_
      refine y_getIv (v := I b5 3) rfl ((hX.2.1 _ hb_b5).1.trans ht_b5) (Nat.lt_of_lt_of_le hb_b5 hX.1) rfl rfl (congrFun ((hg.gx hX (by omega)) _ hlo_b5 (by omega)) 3) ?_
      refine y_if_ne rfl j_X14_buy_53 (fun h_9 => ?_) (fun h_10 => ?_)
      · refine y_iconst rfl ?_
        refine y_goto rfl j_X14_buy_58 ?_
        refine y_iconst rfl ?_
        refine y_virt rfl rfl rfl rfl rfl (ySh.t hS rfl) (ySh.n hS rfl) ?_
        refine y_in (M := xm_X14_refuse) (ls := [some _, some _, some _]) rfl rfl rfl ?_
        refine y_iload_n rfl rfl ?_
        refine y_if_eqF rfl (by decide) ?_
        refine y_aload_n rfl rfl ?_
        refine y_getIv (v := Int32.ofInt (0)) rfl (ySh.t hS rfl) (ySh.n hS rfl) rfl rfl hth ?_
        refine y_if_neF rfl (by decide) ?_
        refine y_aload_n rfl rfl ?_
        refine y_iload_n rfl rfl ?_
        refine y_putI rfl (ySh.t hS rfl) (ySh.n hS rfl) rfl (Nat.le_of_ble_eq_true rfl) rfl rfl ?_
        refine y_nameI (fun I11 e11 => ?_)
        have hR1 := (hR0.grow hX).mod0 e11 (by decide) (by decide)
        have hK := (hK.x hRo hno hX).upI (upI e11) (by decide) (by decide) (fun i hi => by have := (hRo.l87.2.2.2.2 i hi).2.1; omega) (by rw [e11, upd2_ne (.inr (by decide))]; exact Int.le_refl _)
        have hth : I11 83 0 = Int32.ofInt (2) := by rw [e11, upd2_self]
        have hzz : ySz8 I4 I11 := ySz8_of (upI e11) (by rw [e11]; exact ⟨upd2_ne (.inr (by decide)), upd2_ne (.inr (by decide))⟩)
        have hB := (hB.trans hX).wr e11 rfl
        have h8 : ∀ a, 84 ≤ a → a ≤ 86 → I11 a = I a := fun a h1 h2 => (upI e11 a (by omega)).trans ((hX.2.1 a (by omega)).2.1.trans (h8 a h1 h2))
        have h3k : ∀ k, k ≠ 0 → I11 83 k = I 83 k := fun k hk => (congrFun (congrFun e11 83) k).trans ((upd2_ne (.inr hk)).trans ((congrFun (hX.2.1 83 (by omega)).2.1 k).trans (h3k k hk)))
        have hg := (hg.gx hX (by omega)).skip e11 (by decide)
        have hday : I11 83 1 = I 83 1 := (congrFun (congrFun e11 83) 1).trans ((upd2_ne (.inr (by decide))).trans ((congrFun (hX.2.1 83 (by omega)).2.1 1).trans hday))
        have hRb : ∀ a, a < n → R a = R a := fun a ha => (hX.2.1 a (by omega)).2.2.trans (hRb a ha)
        have hb83 : ∀ a, a ≠ 83 → a < n → I11 a = I a := fun a ha hb => (upI e11 a ha).trans ((hX.2.1 a (by omega)).2.1.trans (hb83 a ha hb))
        have hS0 := hS
        have hR0 := hR1
        have ht_b5 := (hX.2.1 _ hb_b5).1.trans ht_b5
        have hb_b5 := Nat.lt_of_lt_of_le hb_b5 hX.1
        have hb0_b5 := hb_b5
        have hn := Nat.le_refl n
        have h94 := hS0.1
        have hX := @yX.rf n tg I11 R
        have hS := hS0.x hX
        have hR := hR0.x hn hX
        have hz := hX.sz h94
        have hxn := hX.1
        have hw_b5 := hR.thi hlo_b5 hb0_b5 ((hX.2.1 _ hb_b5).1.trans ht_b5)
        have hN := hR0.1
        have hnb := hR0.2.2.2.2.2.2
        have hthB := hth
        refine y_aload_n rfl rfl ?_
        refine y_getIv (v := Int32.ofInt (2)) rfl (ySh.t hS rfl) (ySh.n hS rfl) rfl rfl hth ?_
        refine y_if_leF rfl (by decide) ?_
        refine y_iconst rfl ?_
        refine y_goto rfl j_X14_refuse_28 ?_
        refine y_ireturn rfl rfl rfl ?_
        refine y_ret1 ?_
        refine y_if_eqF rfl (by decide) ?_
        refine y_iconst rfl ?_
        refine y_ireturn rfl rfl rfl ?_
        exact hQ2 _ eb_b5 (by omega) _ _ _ _ _ _ _ hS ((hR0.grow hX).up (Nat.le_succ K) hk6) (hK.x hRo hno hX) hth (hg.gx hX (by omega)) ((hB.trans hX).rf2 (by omega)) (by omega) (by omega)
      · refine y_aload_n rfl rfl ?_
        refine y_iload_n rfl rfl ?_
        refine y_virt rfl rfl rfl rfl rfl (ySh.t hS rfl) (ySh.n hS rfl) ?_
        have hlv_c : yLf I4 R x1 lv := hlv.cg (by omega) (fun i hi => by
          have hq_ := hRo.l90.2.2.2.2 i hi
          exact ⟨yAd_eq (hX.2.1 90 (by omega)).2.2 (hX.2.1 _ (by have := hRo.lt6 90 (by decide) (by decide); omega)).2.2, (congrFun ((hg.gx hX (by omega)) _ hq_.2.1 hq_.2.2.1) 0), (congrFun ((hg.gx hX (by omega)) _ hq_.2.1 hq_.2.2.1) 5)⟩)
        refine r_leaseOf hS hR (Nat.le_trans hn hX.1) (fun v_12 hv_12 => ?_)
        have hl_12 := hlv_c v_12 hv_12
        replace hv_12 : v_12.toInt = -1 ∨ 0 ≤ v_12.toInt ∧ v_12.toInt < (I4 90 2).toInt := hv_12.imp (fun q => q.1) (fun q => ⟨q.1, q.2.1⟩)
        refine y_ret1 ?_
        refine y_iconst rfl ?_
        refine y_icmp_eq rfl j_X14_buy_57 (fun h_13 => ?_) (fun h_14 => ?_)
        · rw [yz_m1] at h_13
          refine y_iconst rfl ?_
          refine y_iconst rfl ?_
          refine y_virt rfl rfl rfl rfl rfl (ySh.t hS rfl) (ySh.n hS rfl) ?_
          refine y_in (M := xm_X14_refuse) (ls := [some _, some _, some _]) rfl rfl rfl ?_
          refine y_iload_n rfl rfl ?_
          refine y_if_eqT rfl j_X14_refuse_16 (by decide) ?_
          refine y_aload_n rfl rfl ?_
          refine y_getIv (v := Int32.ofInt (0)) rfl (ySh.t hS rfl) (ySh.n hS rfl) rfl rfl hth ?_
          refine y_if_leT rfl j_X14_refuse_27 (by decide) ?_
          refine y_iconst rfl ?_
          refine y_ireturn rfl rfl rfl ?_
          refine y_ret1 ?_
          refine y_if_eqT rfl j_X14_buy_67 (by decide) ?_
          refine y_aload_n rfl rfl ?_
          refine y_getR rfl (ySh.t hS rfl) (ySh.n hS rfl) rfl rfl (ySh.r hS rfl) ?_
          refine y_bip rfl (by decide) ?_
          refine y_dup2 rfl rfl rfl ?_
          refine y_ialoadw (j := 8) (J := I 84) rfl (ySh.t hS rfl) (ySh.n hS rfl) (by decide) (by decide) rfl (((hB.trans hX).n (by omega)).trans (by repeat (first | rfl | (rw [upd2_row (by first | decide | omega)]) | refine upd2_cg ?_))) ?_
          refine y_aload_n rfl rfl ?_
          refine y_getIv (v := I b5 0) rfl ((hX.2.1 _ hb_b5).1.trans ht_b5) (Nat.lt_of_lt_of_le hb_b5 hX.1) rfl rfl (congrFun ((hg.gx hX (by omega)) _ hlo_b5 (by omega)) 0) ?_
          refine y_isub rfl ?_
          refine y_iastoreC (j := 8) rfl (ySh.t hS rfl) (ySh.n hS rfl) (Nat.le_of_ble_eq_true rfl) (by decide) (by decide) rfl ?_
          refine y_nameI (fun I15 e15 => ?_)
          have hR1 := (hR0.grow hX).arr e15 (by decide)
          have hK := (hK.x hRo hno hX).upI (upI e15) (by decide) (by decide) (fun i hi => by have := (hRo.l87.2.2.2.2 i hi).2.1; omega) (by rw [e15, upd2_ne (.inl (by omega))]; exact Int.le_refl _)
          have hth := (show I15 83 0 = I4 83 0 by rw [e15, upd2_ne (.inl (by omega))]).trans hth
          have hzz : ySz I4 I15 := ySz_ofE (upI e15) (by omega)
          have hB := (hB.trans hX).wr e15 rfl
          have h3k : ∀ k, k ≠ 0 → I15 83 k = I 83 k := fun k hk => (congrFun (congrFun e15 83) k).trans ((upd2_ne (.inl (by omega))).trans ((congrFun (hX.2.1 83 (by omega)).2.1 k).trans (h3k k hk)))
          have hg := (hg.gx hX (by omega)).skip e15 (by decide)
          have hday : I15 83 1 = I 83 1 := (congrFun (congrFun e15 83) 1).trans ((upd2_ne (.inl (by omega))).trans ((congrFun (hX.2.1 83 (by omega)).2.1 1).trans hday))
          have hRb : ∀ a, a < n → R a = R a := fun a ha => (hX.2.1 a (by omega)).2.2.trans (hRb a ha)
          have hS0 := hS
          have hR0 := hR1
          have ht_b5 := (hX.2.1 _ hb_b5).1.trans ht_b5
          have hb_b5 := Nat.lt_of_lt_of_le hb_b5 hX.1
          have hb0_b5 := hb_b5
          have hn := Nat.le_refl n
          have h94 := hS0.1
          have hX := @yX.rf n tg I15 R
          have hS := hS0.x hX
          have hR := hR0.x hn hX
          have hz := hX.sz h94
          have hxn := hX.1
          have hw_b5 := hR.thi hlo_b5 hb0_b5 ((hX.2.1 _ hb_b5).1.trans ht_b5)
          have hN := hR0.1
          have hnb := hR0.2.2.2.2.2.2
          have hthB := hth
          refine y_aload_n rfl rfl ?_
          refine y_getIv (v := I b5 1) rfl ((hX.2.1 _ hb_b5).1.trans ht_b5) (Nat.lt_of_lt_of_le hb_b5 hX.1) rfl rfl (congrFun ((hg.gx hX (by omega)) _ hlo_b5 (by omega)) 1) ?_
          refine y_bip rfl (by decide) ?_
          refine y_icmp_eq rfl j_X14_buy_106 (fun h_16 => ?_) (fun h_17 => ?_)
          · rw [yz_9] at h_16
            refine y_aload_n rfl rfl ?_
            refine y_aload_n rfl rfl ?_
            refine y_getIv (v := I b5 0) rfl ((hX.2.1 _ hb_b5).1.trans ht_b5) (Nat.lt_of_lt_of_le hb_b5 hX.1) rfl rfl (congrFun ((hg.gx hX (by omega)) _ hlo_b5 (by omega)) 0) ?_
            refine y_putI rfl ((hX.2.1 _ hb_b5).1.trans ht_b5) (Nat.lt_of_lt_of_le hb_b5 hX.1) rfl (Nat.le_trans (by decide) (by omega : 94 ≤ _)) rfl rfl ?_
            refine y_nameI (fun I18 e18 => ?_)
            have hR1 := (hR0.grow hX).upT e18 hlo_b5 (by omega) ((hX.2.1 _ hb_b5).1.trans ht_b5) (fun h => absurd h (by decide))
            have hK := (hK.x hRo hno hX).upE hRo hno (upI e18) (by omega) (by omega) (by rw [((hX.2.1 _ hb_b5).1.trans ht_b5)]; decide) (by rw [e18, upd2_ne (.inl (by omega))]; exact Int.le_refl _)
            have hth := (show I18 83 0 = I15 83 0 by rw [e18, upd2_ne (.inl (by omega))]).trans hth
            have hzz : ySz I15 I18 := ySz_ofE (upI e18) (by omega)
            have hB := (hB.trans hX).wr e18 rfl
            have h3k : ∀ k, k ≠ 0 → I18 83 k = I 83 k := fun k hk => (congrFun (congrFun e18 83) k).trans ((upd2_ne (.inl (by omega))).trans ((congrFun (hX.2.1 83 (by omega)).2.1 k).trans (h3k k hk)))
            have hg := (hg.gx hX (by omega)).both e18
            have hday : I18 83 1 = I 83 1 := (congrFun (congrFun e18 83) 1).trans ((upd2_ne (.inl (by omega))).trans ((congrFun (hX.2.1 83 (by omega)).2.1 1).trans hday))
            have hRb : ∀ a, a < n → R a = R a := fun a ha => (hX.2.1 a (by omega)).2.2.trans (hRb a ha)
            have hS0 := hS
            have hR0 := hR1
            have ht_b5 := (hX.2.1 _ hb_b5).1.trans ht_b5
            have hb_b5 := Nat.lt_of_lt_of_le hb_b5 hX.1
            have hb0_b5 := hb_b5
            have hn := Nat.le_refl n
            have h94 := hS0.1
            have hX := @yX.rf n tg I18 R
            have hS := hS0.x hX
            have hR := hR0.x hn hX
            have hz := hX.sz h94
            have hxn := hX.1
            have hw_b5 := hR.thi hlo_b5 hb0_b5 ((hX.2.1 _ hb_b5).1.trans ht_b5)
            have hN := hR0.1
            have hnb := hR0.2.2.2.2.2.2
            have hthB := hth
            refine y_aload_n rfl rfl ?_
            refine y_aload_n rfl rfl ?_
            refine y_getIv (v := I b5 1) rfl ((hX.2.1 _ hb_b5).1.trans ht_b5) (Nat.lt_of_lt_of_le hb_b5 hX.1) rfl rfl ((congrFun ((hg.gx hX (by omega)) _ hlo_b5 (by omega)) 1).trans (by rw [upd2_ne (.inr (by decide))])) ?_
            refine y_putI rfl ((hX.2.1 _ hb_b5).1.trans ht_b5) (Nat.lt_of_lt_of_le hb_b5 hX.1) rfl (Nat.le_trans (by decide) (by omega : 94 ≤ _)) rfl rfl ?_
            refine y_nameI (fun I19 e19 => ?_)
            have hR1 := (hR0.grow hX).upT e19 hlo_b5 (by omega) ((hX.2.1 _ hb_b5).1.trans ht_b5) (fun h => absurd h (by decide))
            have hK := (hK.x hRo hno hX).upE hRo hno (upI e19) (by omega) (by omega) (by rw [((hX.2.1 _ hb_b5).1.trans ht_b5)]; decide) (by rw [e19, upd2_ne (.inl (by omega))]; exact Int.le_refl _)
            have hth := (show I19 83 0 = I18 83 0 by rw [e19, upd2_ne (.inl (by omega))]).trans hth
            have hzz : ySz I18 I19 := ySz_ofE (upI e19) (by omega)
            have hB := (hB.trans hX).wr e19 rfl
            have h3k : ∀ k, k ≠ 0 → I19 83 k = I 83 k := fun k hk => (congrFun (congrFun e19 83) k).trans ((upd2_ne (.inl (by omega))).trans ((congrFun (hX.2.1 83 (by omega)).2.1 k).trans (h3k k hk)))
            have hg := (hg.gx hX (by omega)).both e19
            have hday : I19 83 1 = I 83 1 := (congrFun (congrFun e19 83) 1).trans ((upd2_ne (.inl (by omega))).trans ((congrFun (hX.2.1 83 (by omega)).2.1 1).trans hday))
            have hRb : ∀ a, a < n → R a = R a := fun a ha => (hX.2.1 a (by omega)).2.2.trans (hRb a ha)
            have hS0 := hS
            have hR0 := hR1
            have ht_b5 := (hX.2.1 _ hb_b5).1.trans ht_b5
            have hb_b5 := Nat.lt_of_lt_of_le hb_b5 hX.1
            have hb0_b5 := hb_b5
            have hn := Nat.le_refl n
            have h94 := hS0.1
            have hX := @yX.rf n tg I19 R
            have hS := hS0.x hX
            have hR := hR0.x hn hX
            have hz := hX.sz h94
            have hxn := hX.1
            have hw_b5 := hR.thi hlo_b5 hb0_b5 ((hX.2.1 _ hb_b5).1.trans ht_b5)
            have hN := hR0.1
            have hnb := hR0.2.2.2.2.2.2
            have hthB := hth
            refine y_aload_n rfl rfl ?_
            refine y_bip rfl (by decide) ?_
            refine y_putI rfl ((hX.2.1 _ hb_b5).1.trans ht_b5) (Nat.lt_of_lt_of_le hb_b5 hX.1) rfl (Nat.le_trans (by decide) (by omega : 94 ≤ _)) rfl rfl ?_
            refine y_nameI (fun I20 e20 => ?_)
            have hR1 := (hR0.grow hX).upT e20 hlo_b5 (by omega) ((hX.2.1 _ hb_b5).1.trans ht_b5) (fun _ => (by rw [yz_8]; decide))
            have hK := (hK.x hRo hno hX).upE hRo hno (upI e20) (by omega) (by omega) (by rw [((hX.2.1 _ hb_b5).1.trans ht_b5)]; decide) (by rw [e20, upd2_ne (.inl (by omega))]; exact Int.le_refl _)
            have hth := (show I20 83 0 = I19 83 0 by rw [e20, upd2_ne (.inl (by omega))]).trans hth
            have hzz : ySz I19 I20 := ySz_ofE (upI e20) (by omega)
            have hB := (hB.trans hX).wr e20 rfl
            have h3k : ∀ k, k ≠ 0 → I20 83 k = I 83 k := fun k hk => (congrFun (congrFun e20 83) k).trans ((upd2_ne (.inl (by omega))).trans ((congrFun (hX.2.1 83 (by omega)).2.1 k).trans (h3k k hk)))
            have hg := (hg.gx hX (by omega)).both e20
            have hday : I20 83 1 = I 83 1 := (congrFun (congrFun e20 83) 1).trans ((upd2_ne (.inl (by omega))).trans ((congrFun (hX.2.1 83 (by omega)).2.1 1).trans hday))
            have hRb : ∀ a, a < n → R a = R a := fun a ha => (hX.2.1 a (by omega)).2.2.trans (hRb a ha)
            have hS0 := hS
            have hR0 := hR1
            have ht_b5 := (hX.2.1 _ hb_b5).1.trans ht_b5
            have hb_b5 := Nat.lt_of_lt_of_le hb_b5 hX.1
            have hb0_b5 := hb_b5
            have hn := Nat.le_refl n
            have h94 := hS0.1
            have hX := @yX.rf n tg I20 R
            have hS := hS0.x hX
            have hR := hR0.x hn hX
            have hz := hX.sz h94
            have hxn := hX.1
            have hw_b5 := hR.thi hlo_b5 hb0_b5 ((hX.2.1 _ hb_b5).1.trans ht_b5)
            have hN := hR0.1
            have hnb := hR0.2.2.2.2.2.2
            have hthB := hth
            refine y_aload_n rfl rfl ?_
            refine y_iconst rfl ?_
            refine y_putI rfl ((hX.2.1 _ hb_b5).1.trans ht_b5) (Nat.lt_of_lt_of_le hb_b5 hX.1) rfl (Nat.le_trans (by decide) (by omega : 94 ≤ _)) rfl rfl ?_
            refine y_nameI (fun I21 e21 => ?_)
            have hR1 := (hR0.grow hX).upT e21 hlo_b5 (by omega) ((hX.2.1 _ hb_b5).1.trans ht_b5) (fun h => absurd h (by decide))
            have hK := (hK.x hRo hno hX).upE hRo hno (upI e21) (by omega) (by omega) (by rw [((hX.2.1 _ hb_b5).1.trans ht_b5)]; decide) (by rw [e21, upd2_ne (.inl (by omega))]; exact Int.le_refl _)
            have hth := (show I21 83 0 = I20 83 0 by rw [e21, upd2_ne (.inl (by omega))]).trans hth
            have hzz : ySz I20 I21 := ySz_ofE (upI e21) (by omega)
            have hB := (hB.trans hX).wr e21 rfl
            have h3k : ∀ k, k ≠ 0 → I21 83 k = I 83 k := fun k hk => (congrFun (congrFun e21 83) k).trans ((upd2_ne (.inl (by omega))).trans ((congrFun (hX.2.1 83 (by omega)).2.1 k).trans (h3k k hk)))
            have hg := (hg.gx hX (by omega)).both e21
            have hday : I21 83 1 = I 83 1 := (congrFun (congrFun e21 83) 1).trans ((upd2_ne (.inl (by omega))).trans ((congrFun (hX.2.1 83 (by omega)).2.1 1).trans hday))
            have hRb : ∀ a, a < n → R a = R a := fun a ha => (hX.2.1 a (by omega)).2.2.trans (hRb a ha)
            have hS0 := hS
            have hR0 := hR1
            have ht_b5 := (hX.2.1 _ hb_b5).1.trans ht_b5
            have hb_b5 := Nat.lt_of_lt_of_le hb_b5 hX.1
            have hb0_b5 := hb_b5
            have hn := Nat.le_refl n
            have h94 := hS0.1
            have hX := @yX.rf n tg I21 R
            have hS := hS0.x hX
            have hR := hR0.x hn hX
            have hz := hX.sz h94
            have hxn := hX.1
            have hw_b5 := hR.thi hlo_b5 hb0_b5 ((hX.2.1 _ hb_b5).1.trans ht_b5)
            have hN := hR0.1
            have hnb := hR0.2.2.2.2.2.2
            have hthB := hth
            refine y_aload_n rfl rfl ?_
            refine y_getIv (v := I b5 0) rfl ((hX.2.1 _ hb_b5).1.trans ht_b5) (Nat.lt_of_lt_of_le hb_b5 hX.1) rfl rfl ((congrFun ((hg.gx hX (by omega)) _ hlo_b5 (by omega)) 0).trans (by rw [upd2_ne (.inr (by decide)), upd2_ne (.inr (by decide)), upd2_ne (.inr (by decide)), upd2_ne (.inr (by decide))])) ?_
            refine y_ireturn rfl rfl rfl ?_
            exact hQ0 _ eb_b5 (by omega) _ _ _ _ _ _ _ hS ((hR0.grow hX).up (Nat.le_succ K) hk6) (hK.x hRo hno hX) hth rfl (hg.gx hX (by omega)) (by first | (rw [mAddC, if_neg (by omega)]; exact hB.trans hX) | (rw [mAddC, if_pos (by omega)]; exact hB.trans hX)) (by omega) (by omega)
          · rw [yz_9] at h_17
            refine y_aload_n rfl rfl ?_
            refine y_getR rfl (ySh.t hS rfl) (ySh.n hS rfl) rfl rfl (ySh.r hS rfl) ?_
            refine y_aload_n rfl rfl ?_
            refine y_getIv (v := I b5 1) rfl ((hX.2.1 _ hb_b5).1.trans ht_b5) (Nat.lt_of_lt_of_le hb_b5 hX.1) rfl rfl (congrFun ((hg.gx hX (by omega)) _ hlo_b5 (by omega)) 1) ?_
            refine y_dup2 rfl rfl rfl ?_
            refine y_ialoadv (J := _) rfl (ySh.t hS rfl) (ySh.n hS rfl) (by omega) (by omega) ((hB.trans hX).n (by omega)) ?_
            refine y_aload_n rfl rfl ?_
            refine y_getIv (v := I b5 0) rfl ((hX.2.1 _ hb_b5).1.trans ht_b5) (Nat.lt_of_lt_of_le hb_b5 hX.1) rfl rfl (congrFun ((hg.gx hX (by omega)) _ hlo_b5 (by omega)) 0) ?_
            refine y_iadd rfl ?_
            refine y_iastore rfl (ySh.t hS rfl) (ySh.n hS rfl) (Nat.le_of_ble_eq_true rfl) (by omega) (by omega) ?_
            refine y_nameI (fun I22 e22 => ?_)
            have hR1 := (hR0.grow hX).arr e22 (by decide)
            have hK := (hK.x hRo hno hX).upI (upI e22) (by decide) (by decide) (fun i hi => by have := (hRo.l87.2.2.2.2 i hi).2.1; omega) (by rw [e22, upd2_ne (.inl (by omega))]; exact Int.le_refl _)
            have hth := (show I22 83 0 = I15 83 0 by rw [e22, upd2_ne (.inl (by omega))]).trans hth
            have hzz : ySz I15 I22 := ySz_ofE (upI e22) (by omega)
            have hB := (hB.trans hX).wr e22 rfl
            have h3k : ∀ k, k ≠ 0 → I22 83 k = I 83 k := fun k hk => (congrFun (congrFun e22 83) k).trans ((upd2_ne (.inl (by omega))).trans ((congrFun (hX.2.1 83 (by omega)).2.1 k).trans (h3k k hk)))
            have hg := (hg.gx hX (by omega)).skip e22 (by decide)
            have hday : I22 83 1 = I 83 1 := (congrFun (congrFun e22 83) 1).trans ((upd2_ne (.inl (by omega))).trans ((congrFun (hX.2.1 83 (by omega)).2.1 1).trans hday))
            have hRb : ∀ a, a < n → R a = R a := fun a ha => (hX.2.1 a (by omega)).2.2.trans (hRb a ha)
            have hS0 := hS
            have hR0 := hR1
            have ht_b5 := (hX.2.1 _ hb_b5).1.trans ht_b5
            have hb_b5 := Nat.lt_of_lt_of_le hb_b5 hX.1
            have hb0_b5 := hb_b5
            have hn := Nat.le_refl n
            have h94 := hS0.1
            have hX := @yX.rf n tg I22 R
            have hS := hS0.x hX
            have hR := hR0.x hn hX
            have hz := hX.sz h94
            have hxn := hX.1
            have hw_b5 := hR.thi hlo_b5 hb0_b5 ((hX.2.1 _ hb_b5).1.trans ht_b5)
            have hN := hR0.1
            have hnb := hR0.2.2.2.2.2.2
            have hthB := hth
            refine y_aload_n rfl rfl ?_
            refine y_aload_n rfl rfl ?_
            refine y_getIv (v := I b5 0) rfl ((hX.2.1 _ hb_b5).1.trans ht_b5) (Nat.lt_of_lt_of_le hb_b5 hX.1) rfl rfl (congrFun ((hg.gx hX (by omega)) _ hlo_b5 (by omega)) 0) ?_
            refine y_putI rfl ((hX.2.1 _ hb_b5).1.trans ht_b5) (Nat.lt_of_lt_of_le hb_b5 hX.1) rfl (Nat.le_trans (by decide) (by omega : 94 ≤ _)) rfl rfl ?_
            refine y_nameI (fun I23 e23 => ?_)
            have hR1 := (hR0.grow hX).upT e23 hlo_b5 (by omega) ((hX.2.1 _ hb_b5).1.trans ht_b5) (fun h => absurd h (by decide))
            have hK := (hK.x hRo hno hX).upE hRo hno (upI e23) (by omega) (by omega) (by rw [((hX.2.1 _ hb_b5).1.trans ht_b5)]; decide) (by rw [e23, upd2_ne (.inl (by omega))]; exact Int.le_refl _)
            have hth := (show I23 83 0 = I22 83 0 by rw [e23, upd2_ne (.inl (by omega))]).trans hth
            have hzz : ySz I22 I23 := ySz_ofE (upI e23) (by omega)
            have hB := (hB.trans hX).wr e23 rfl
            have h3k : ∀ k, k ≠ 0 → I23 83 k = I 83 k := fun k hk => (congrFun (congrFun e23 83) k).trans ((upd2_ne (.inl (by omega))).trans ((congrFun (hX.2.1 83 (by omega)).2.1 k).trans (h3k k hk)))
            have hg := (hg.gx hX (by omega)).both e23
            have hday : I23 83 1 = I 83 1 := (congrFun (congrFun e23 83) 1).trans ((upd2_ne (.inl (by omega))).trans ((congrFun (hX.2.1 83 (by omega)).2.1 1).trans hday))
            have hRb : ∀ a, a < n → R a = R a := fun a ha => (hX.2.1 a (by omega)).2.2.trans (hRb a ha)
            have hS0 := hS
            have hR0 := hR1
            have ht_b5 := (hX.2.1 _ hb_b5).1.trans ht_b5
            have hb_b5 := Nat.lt_of_lt_of_le hb_b5 hX.1
            have hb0_b5 := hb_b5
            have hn := Nat.le_refl n
            have h94 := hS0.1
            have hX := @yX.rf n tg I23 R
            have hS := hS0.x hX
            have hR := hR0.x hn hX
            have hz := hX.sz h94
            have hxn := hX.1
            have hw_b5 := hR.thi hlo_b5 hb0_b5 ((hX.2.1 _ hb_b5).1.trans ht_b5)
            have hN := hR0.1
            have hnb := hR0.2.2.2.2.2.2
            have hthB := hth
            refine y_aload_n rfl rfl ?_
            refine y_aload_n rfl rfl ?_
            refine y_getIv (v := I b5 1) rfl ((hX.2.1 _ hb_b5).1.trans ht_b5) (Nat.lt_of_lt_of_le hb_b5 hX.1) rfl rfl ((congrFun ((hg.gx hX (by omega)) _ hlo_b5 (by omega)) 1).trans (by rw [upd2_ne (.inr (by decide))])) ?_
            refine y_putI rfl ((hX.2.1 _ hb_b5).1.trans ht_b5) (Nat.lt_of_lt_of_le hb_b5 hX.1) rfl (Nat.le_trans (by decide) (by omega : 94 ≤ _)) rfl rfl ?_
            refine y_nameI (fun I24 e24 => ?_)
            have hR1 := (hR0.grow hX).upT e24 hlo_b5 (by omega) ((hX.2.1 _ hb_b5).1.trans ht_b5) (fun h => absurd h (by decide))
            have hK := (hK.x hRo hno hX).upE hRo hno (upI e24) (by omega) (by omega) (by rw [((hX.2.1 _ hb_b5).1.trans ht_b5)]; decide) (by rw [e24, upd2_ne (.inl (by omega))]; exact Int.le_refl _)
            have hth := (show I24 83 0 = I23 83 0 by rw [e24, upd2_ne (.inl (by omega))]).trans hth
            have hzz : ySz I23 I24 := ySz_ofE (upI e24) (by omega)
            have hB := (hB.trans hX).wr e24 rfl
            have h3k : ∀ k, k ≠ 0 → I24 83 k = I 83 k := fun k hk => (congrFun (congrFun e24 83) k).trans ((upd2_ne (.inl (by omega))).trans ((congrFun (hX.2.1 83 (by omega)).2.1 k).trans (h3k k hk)))
            have hg := (hg.gx hX (by omega)).both e24
            have hday : I24 83 1 = I 83 1 := (congrFun (congrFun e24 83) 1).trans ((upd2_ne (.inl (by omega))).trans ((congrFun (hX.2.1 83 (by omega)).2.1 1).trans hday))
            have hRb : ∀ a, a < n → R a = R a := fun a ha => (hX.2.1 a (by omega)).2.2.trans (hRb a ha)
            have hS0 := hS
            have hR0 := hR1
            have ht_b5 := (hX.2.1 _ hb_b5).1.trans ht_b5
            have hb_b5 := Nat.lt_of_lt_of_le hb_b5 hX.1
            have hb0_b5 := hb_b5
            have hn := Nat.le_refl n
            have h94 := hS0.1
            have hX := @yX.rf n tg I24 R
            have hS := hS0.x hX
            have hR := hR0.x hn hX
            have hz := hX.sz h94
            have hxn := hX.1
            have hw_b5 := hR.thi hlo_b5 hb0_b5 ((hX.2.1 _ hb_b5).1.trans ht_b5)
            have hN := hR0.1
            have hnb := hR0.2.2.2.2.2.2
            have hthB := hth
            refine y_aload_n rfl rfl ?_
            refine y_bip rfl (by decide) ?_
            refine y_putI rfl ((hX.2.1 _ hb_b5).1.trans ht_b5) (Nat.lt_of_lt_of_le hb_b5 hX.1) rfl (Nat.le_trans (by decide) (by omega : 94 ≤ _)) rfl rfl ?_
            refine y_nameI (fun I25 e25 => ?_)
            have hR1 := (hR0.grow hX).upT e25 hlo_b5 (by omega) ((hX.2.1 _ hb_b5).1.trans ht_b5) (fun _ => (by rw [yz_8]; decide))
            have hK := (hK.x hRo hno hX).upE hRo hno (upI e25) (by omega) (by omega) (by rw [((hX.2.1 _ hb_b5).1.trans ht_b5)]; decide) (by rw [e25, upd2_ne (.inl (by omega))]; exact Int.le_refl _)
            have hth := (show I25 83 0 = I24 83 0 by rw [e25, upd2_ne (.inl (by omega))]).trans hth
            have hzz : ySz I24 I25 := ySz_ofE (upI e25) (by omega)
            have hB := (hB.trans hX).wr e25 rfl
            have h3k : ∀ k, k ≠ 0 → I25 83 k = I 83 k := fun k hk => (congrFun (congrFun e25 83) k).trans ((upd2_ne (.inl (by omega))).trans ((congrFun (hX.2.1 83 (by omega)).2.1 k).trans (h3k k hk)))
            have hg := (hg.gx hX (by omega)).both e25
            have hday : I25 83 1 = I 83 1 := (congrFun (congrFun e25 83) 1).trans ((upd2_ne (.inl (by omega))).trans ((congrFun (hX.2.1 83 (by omega)).2.1 1).trans hday))
            have hRb : ∀ a, a < n → R a = R a := fun a ha => (hX.2.1 a (by omega)).2.2.trans (hRb a ha)
            have hS0 := hS
            have hR0 := hR1
            have ht_b5 := (hX.2.1 _ hb_b5).1.trans ht_b5
            have hb_b5 := Nat.lt_of_lt_of_le hb_b5 hX.1
            have hb0_b5 := hb_b5
            have hn := Nat.le_refl n
            have h94 := hS0.1
            have hX := @yX.rf n tg I25 R
            have hS := hS0.x hX
            have hR := hR0.x hn hX
            have hz := hX.sz h94
            have hxn := hX.1
            have hw_b5 := hR.thi hlo_b5 hb0_b5 ((hX.2.1 _ hb_b5).1.trans ht_b5)
            have hN := hR0.1
            have hnb := hR0.2.2.2.2.2.2
            have hthB := hth
            refine y_aload_n rfl rfl ?_
            refine y_iconst rfl ?_
            refine y_putI rfl ((hX.2.1 _ hb_b5).1.trans ht_b5) (Nat.lt_of_lt_of_le hb_b5 hX.1) rfl (Nat.le_trans (by decide) (by omega : 94 ≤ _)) rfl rfl ?_
            refine y_nameI (fun I26 e26 => ?_)
            have hR1 := (hR0.grow hX).upT e26 hlo_b5 (by omega) ((hX.2.1 _ hb_b5).1.trans ht_b5) (fun h => absurd h (by decide))
            have hK := (hK.x hRo hno hX).upE hRo hno (upI e26) (by omega) (by omega) (by rw [((hX.2.1 _ hb_b5).1.trans ht_b5)]; decide) (by rw [e26, upd2_ne (.inl (by omega))]; exact Int.le_refl _)
            have hth := (show I26 83 0 = I25 83 0 by rw [e26, upd2_ne (.inl (by omega))]).trans hth
            have hzz : ySz I25 I26 := ySz_ofE (upI e26) (by omega)
            have hB := (hB.trans hX).wr e26 rfl
            have h3k : ∀ k, k ≠ 0 → I26 83 k = I 83 k := fun k hk => (congrFun (congrFun e26 83) k).trans ((upd2_ne (.inl (by omega))).trans ((congrFun (hX.2.1 83 (by omega)).2.1 k).trans (h3k k hk)))
            have hg := (hg.gx hX (by omega)).both e26
            have hday : I26 83 1 = I 83 1 := (congrFun (congrFun e26 83) 1).trans ((upd2_ne (.inl (by omega))).trans ((congrFun (hX.2.1 83 (by omega)).2.1 1).trans hday))
            have hRb : ∀ a, a < n → R a = R a := fun a ha => (hX.2.1 a (by omega)).2.2.trans (hRb a ha)
            have hS0 := hS
            have hR0 := hR1
            have ht_b5 := (hX.2.1 _ hb_b5).1.trans ht_b5
            have hb_b5 := Nat.lt_of_lt_of_le hb_b5 hX.1
            have hb0_b5 := hb_b5
            have hn := Nat.le_refl n
            have h94 := hS0.1
            have hX := @yX.rf n tg I26 R
            have hS := hS0.x hX
            have hR := hR0.x hn hX
            have hz := hX.sz h94
            have hxn := hX.1
            have hw_b5 := hR.thi hlo_b5 hb0_b5 ((hX.2.1 _ hb_b5).1.trans ht_b5)
            have hN := hR0.1
            have hnb := hR0.2.2.2.2.2.2
            have hthB := hth
            refine y_aload_n rfl rfl ?_
            refine y_getIv (v := I b5 0) rfl ((hX.2.1 _ hb_b5).1.trans ht_b5) (Nat.lt_of_lt_of_le hb_b5 hX.1) rfl rfl ((congrFun ((hg.gx hX (by omega)) _ hlo_b5 (by omega)) 0).trans (by rw [upd2_ne (.inr (by decide)), upd2_ne (.inr (by decide)), upd2_ne (.inr (by decide)), upd2_ne (.inr (by decide))])) ?_
            refine y_ireturn rfl rfl rfl ?_
            exact hQ0 _ eb_b5 (by omega) _ _ _ _ _ _ _ hS ((hR0.grow hX).up (Nat.le_succ K) hk6) (hK.x hRo hno hX) hth rfl (hg.gx hX (by omega)) (by first | (rw [mAddC, if_neg (by omega)]; exact hB.trans hX) | (rw [mAddC, if_pos (by omega)]; exact hB.trans hX)) (by omega) (by omega)
        · rw [yz_m1] at h_14
          refine y_iconst rfl ?_
          refine y_goto rfl j_X14_buy_58 ?_
          refine y_iconst rfl ?_
          refine y_virt rfl rfl rfl rfl rfl (ySh.t hS rfl) (ySh.n hS rfl) ?_
          refine y_in (M := xm_X14_refuse) (ls := [some _, some _, some _]) rfl rfl rfl ?_
          refine y_iload_n rfl rfl ?_
          refine y_if_eqF rfl (by decide) ?_
          refine y_aload_n rfl rfl ?_
          refine y_getIv (v := Int32.ofInt (0)) rfl (ySh.t hS rfl) (ySh.n hS rfl) rfl rfl hth ?_
          refine y_if_neF rfl (by decide) ?_
          refine y_aload_n rfl rfl ?_
          refine y_iload_n rfl rfl ?_
          refine y_putI rfl (ySh.t hS rfl) (ySh.n hS rfl) rfl (Nat.le_of_ble_eq_true rfl) rfl rfl ?_
          refine y_nameI (fun I27 e27 => ?_)
          have hR1 := (hR0.grow hX).mod0 e27 (by decide) (by decide)
          have hK := (hK.x hRo hno hX).upI (upI e27) (by decide) (by decide) (fun i hi => by have := (hRo.l87.2.2.2.2 i hi).2.1; omega) (by rw [e27, upd2_ne (.inr (by decide))]; exact Int.le_refl _)
          have hth : I27 83 0 = Int32.ofInt (2) := by rw [e27, upd2_self]
          have hzz : ySz8 I4 I27 := ySz8_of (upI e27) (by rw [e27]; exact ⟨upd2_ne (.inr (by decide)), upd2_ne (.inr (by decide))⟩)
          have hB := (hB.trans hX).wr e27 rfl
          have h8 : ∀ a, 84 ≤ a → a ≤ 86 → I27 a = I a := fun a h1 h2 => (upI e27 a (by omega)).trans ((hX.2.1 a (by omega)).2.1.trans (h8 a h1 h2))
          have h3k : ∀ k, k ≠ 0 → I27 83 k = I 83 k := fun k hk => (congrFun (congrFun e27 83) k).trans ((upd2_ne (.inr hk)).trans ((congrFun (hX.2.1 83 (by omega)).2.1 k).trans (h3k k hk)))
          have hg := (hg.gx hX (by omega)).skip e27 (by decide)
          have hday : I27 83 1 = I 83 1 := (congrFun (congrFun e27 83) 1).trans ((upd2_ne (.inr (by decide))).trans ((congrFun (hX.2.1 83 (by omega)).2.1 1).trans hday))
          have hRb : ∀ a, a < n → R a = R a := fun a ha => (hX.2.1 a (by omega)).2.2.trans (hRb a ha)
          have hb83 : ∀ a, a ≠ 83 → a < n → I27 a = I a := fun a ha hb => (upI e27 a ha).trans ((hX.2.1 a (by omega)).2.1.trans (hb83 a ha hb))
          have hS0 := hS
          have hR0 := hR1
          have ht_b5 := (hX.2.1 _ hb_b5).1.trans ht_b5
          have hb_b5 := Nat.lt_of_lt_of_le hb_b5 hX.1
          have hb0_b5 := hb_b5
          have hn := Nat.le_refl n
          have h94 := hS0.1
          have hX := @yX.rf n tg I27 R
          have hS := hS0.x hX
          have hR := hR0.x hn hX
          have hz := hX.sz h94
          have hxn := hX.1
          have hw_b5 := hR.thi hlo_b5 hb0_b5 ((hX.2.1 _ hb_b5).1.trans ht_b5)
          have hN := hR0.1
          have hnb := hR0.2.2.2.2.2.2
          have hthB := hth
          refine y_aload_n rfl rfl ?_
          refine y_getIv (v := Int32.ofInt (2)) rfl (ySh.t hS rfl) (ySh.n hS rfl) rfl rfl hth ?_
          refine y_if_leF rfl (by decide) ?_
          refine y_iconst rfl ?_
          refine y_goto rfl j_X14_refuse_28 ?_
          refine y_ireturn rfl rfl rfl ?_
          refine y_ret1 ?_
          refine y_if_eqF rfl (by decide) ?_
          refine y_iconst rfl ?_
          refine y_ireturn rfl rfl rfl ?_
          exact hQ2 _ eb_b5 (by omega) _ _ _ _ _ _ _ hS ((hR0.grow hX).up (Nat.le_succ K) hk6) (hK.x hRo hno hX) hth (hg.gx hX (by omega)) ((hB.trans hX).rf2 (by omega)) (by omega) (by omega)
  · rw [yz_0] at h_3
    try rw [ysub (by rw [yz_1]; omega) (by rw [yz_1]; omega), yz_1] at h_3
    refine y_ret1 ?_
    refine y_if_neF rfl (by decide) ?_
    refine y_iconst rfl ?_
    refine y_goto rfl j_X14_isNoThing_22 ?_
    refine y_ireturn rfl rfl rfl ?_
    refine y_ret1 ?_
    refine y_iconst rfl ?_
    refine y_virt rfl rfl rfl rfl rfl (ySh.t hS rfl) (ySh.n hS rfl) ?_
    refine y_in (M := xm_X14_start) (ls := [some _, some _, some _]) rfl rfl rfl ?_
    refine y_aload_n rfl rfl ?_
    refine y_iconst rfl ?_
    refine y_putI rfl (ySh.t hS rfl) (ySh.n hS rfl) rfl (Nat.le_of_ble_eq_true rfl) rfl rfl ?_
    refine y_nameI (fun I28 e28 => ?_)
    have hR1 := (hR0.grow hX).mod0 e28 (by decide) (by decide)
    have hK := (hK.x hRo hno hX).upI (upI e28) (by decide) (by decide) (fun i hi => by have := (hRo.l87.2.2.2.2 i hi).2.1; omega) (by rw [e28, upd2_ne (.inr (by decide))]; exact Int.le_refl _)
    have hth : I28 83 0 = Int32.ofInt (0) := by rw [e28, upd2_self]
    have hzz : ySz8 I I28 := ySz8_of (upI e28) (by rw [e28]; exact ⟨upd2_ne (.inr (by decide)), upd2_ne (.inr (by decide))⟩)
    have hB := (hB.trans hX).wr e28 rfl
    have h8 : ∀ a, 84 ≤ a → a ≤ 86 → I28 a = I a := fun a h1 h2 => (upI e28 a (by omega)).trans ((hX.2.1 a (by omega)).2.1.trans (h8 a h1 h2))
    have h3k : ∀ k, k ≠ 0 → I28 83 k = I 83 k := fun k hk => (congrFun (congrFun e28 83) k).trans ((upd2_ne (.inr hk)).trans ((congrFun (hX.2.1 83 (by omega)).2.1 k).trans (h3k k hk)))
    have hg := (hg.gx hX (by omega)).skip e28 (by decide)
    have hday : I28 83 1 = I 83 1 := (congrFun (congrFun e28 83) 1).trans ((upd2_ne (.inr (by decide))).trans ((congrFun (hX.2.1 83 (by omega)).2.1 1).trans hday))
    have hRb : ∀ a, a < n → R a = R a := fun a ha => (hX.2.1 a (by omega)).2.2.trans (hRb a ha)
    have hb83 : ∀ a, a ≠ 83 → a < n → I28 a = I a := fun a ha hb => (upI e28 a ha).trans ((hX.2.1 a (by omega)).2.1.trans (hb83 a ha hb))
    have hS0 := hS
    have hR0 := hR1
    have hn := Nat.le_refl n
    have h94 := hS0.1
    have hX := @yX.rf n tg I28 R
    have hS := hS0.x hX
    have hR := hR0.x hn hX
    have hz := hX.sz h94
    have hxn := hX.1
    have hN := hR0.1
    have hnb := hR0.2.2.2.2.2.2
    have hthB := hth
    refine y_aload_n rfl rfl ?_
    refine y_iload_n rfl rfl ?_
    refine y_iload_n rfl rfl ?_
    refine y_virt rfl rfl rfl rfl rfl (ySh.t hS rfl) (ySh.n hS rfl) ?_
    refine y_in (M := xm_X14_refuse) (ls := [some _, some _, some _]) rfl rfl rfl ?_
    refine y_iload_n rfl rfl ?_
    refine y_if_eqF rfl (by decide) ?_
    refine y_aload_n rfl rfl ?_
    refine y_getIv (v := Int32.ofInt (0)) rfl (ySh.t hS rfl) (ySh.n hS rfl) rfl rfl hth ?_
    refine y_if_neF rfl (by decide) ?_
    refine y_aload_n rfl rfl ?_
    refine y_iload_n rfl rfl ?_
    refine y_putI rfl (ySh.t hS rfl) (ySh.n hS rfl) rfl (Nat.le_of_ble_eq_true rfl) rfl rfl ?_
    refine y_nameI (fun I29 e29 => ?_)
    have hR1 := (hR0.grow hX).mod0 e29 (by decide) (by decide)
    have hK := (hK.x hRo hno hX).upI (upI e29) (by decide) (by decide) (fun i hi => by have := (hRo.l87.2.2.2.2 i hi).2.1; omega) (by rw [e29, upd2_ne (.inr (by decide))]; exact Int.le_refl _)
    have hth : I29 83 0 = Int32.ofInt (1) := by rw [e29, upd2_self]
    have hzz : ySz8 I28 I29 := ySz8_of (upI e29) (by rw [e29]; exact ⟨upd2_ne (.inr (by decide)), upd2_ne (.inr (by decide))⟩)
    have hB := (hB.trans hX).wr e29 rfl
    have h8 : ∀ a, 84 ≤ a → a ≤ 86 → I29 a = I a := fun a h1 h2 => (upI e29 a (by omega)).trans ((hX.2.1 a (by omega)).2.1.trans (h8 a h1 h2))
    have h3k : ∀ k, k ≠ 0 → I29 83 k = I 83 k := fun k hk => (congrFun (congrFun e29 83) k).trans ((upd2_ne (.inr hk)).trans ((congrFun (hX.2.1 83 (by omega)).2.1 k).trans (h3k k hk)))
    have hg := (hg.gx hX (by omega)).skip e29 (by decide)
    have hday : I29 83 1 = I 83 1 := (congrFun (congrFun e29 83) 1).trans ((upd2_ne (.inr (by decide))).trans ((congrFun (hX.2.1 83 (by omega)).2.1 1).trans hday))
    have hRb : ∀ a, a < n → R a = R a := fun a ha => (hX.2.1 a (by omega)).2.2.trans (hRb a ha)
    have hb83 : ∀ a, a ≠ 83 → a < n → I29 a = I a := fun a ha hb => (upI e29 a ha).trans ((hX.2.1 a (by omega)).2.1.trans (hb83 a ha hb))
    have hS0 := hS
    have hR0 := hR1
    have hn := Nat.le_refl n
    have h94 := hS0.1
    have hX := @yX.rf n tg I29 R
    have hS := hS0.x hX
    have hR := hR0.x hn hX
    have hz := hX.sz h94
    have hxn := hX.1
    have hN := hR0.1
    have hnb := hR0.2.2.2.2.2.2
    have hthB := hth
    refine y_aload_n rfl rfl ?_
    refine y_getIv (v := Int32.ofInt (1)) rfl (ySh.t hS rfl) (ySh.n hS rfl) rfl rfl hth ?_
    refine y_if_leF rfl (by decide) ?_
    refine y_iconst rfl ?_
    refine y_goto rfl j_X14_refuse_28 ?_
    refine y_ireturn rfl rfl rfl ?_
    refine y_ret1 ?_
    refine y_ireturn rfl rfl rfl ?_
    refine y_ret1 ?_
    refine y_if_eqF rfl (by decide) ?_
    refine y_iconst rfl ?_
    refine y_ireturn rfl rfl rfl ?_
    exact hQ1 (by omega) _ _ _ _ _ _ _ hS ((hR0.grow hX).up (Nat.le_succ K) hk6) (hK.x hRo hno hX) hth (hg.gx hX (by omega)) ((hB.trans hX).rf2 (by omega)) (by omega) (by omega)
/-- which things the house holds -/
def yFW (I : Nat → Nat → Int32) (R : Nat → Nat → Value) (j : Nat) : Int32 := if (I (yAd R 88 j) 1).toInt = 8 ∧ ¬ (I (yAd R 88 j) 2).toInt = 0 then Int32.ofInt 1 else Int32.ofInt 0
theorem yFz_st {f : Nat → Int32} {x v : Int32} {z : Int} (h0 : 0 ≤ z) (hx : x = yFz f z.toNat) (hv : v = f z.toNat) : x + v = yFz f (z + 1).toNat := by
  rw [show (z + 1).toNat = z.toNat + 1 by omega, hx, hv]; rfl
theorem yFz_cg {f g : Nat → Int32} {k : Nat} (h : ∀ j, j < k → f j = g j) : yFz f k = yFz g k := by
  induction k with
  | zero => rfl
  | succ k ih => show yFz f k + f k = yFz g k + g k; rw [ih fun j hj => h j (Nat.lt_succ_of_lt hj), h k (Nat.lt_succ_self k)]
theorem yFW.gx {n1 : Nat} {tg1 : Nat → yT} {I1 : Nat → Nat → Int32} {R1 : Nat → Nat → Value} (h3 : yRI K nb tg I R) (hn : nb ≤ n) (h94 : 94 ≤ n) (hX : yX n tg I R n1 tg1 I1 R1) : yFz (yFW I1 R1) (I1 88 2).toInt.toNat = yFz (yFW I R) (I 88 2).toInt.toNat := by
  rw [congrFun (hX.2.1 88 (by omega)).2.1 2]
  refine yFz_cg fun j hj => ?_
  have hq := h3.l88.2.2.2.2 j (by omega)
  unfold yFW
  rw [yAd_eq (hX.2.1 88 (by omega)).2.2 (hX.2.1 _ (by have := h3.lt6 88 (by decide) (by decide); omega)).2.2, (hX.2.1 _ (Nat.lt_of_lt_of_le hq.2.2.1 hn)).2.1]
theorem e_h_take1 (hS0 : ySh n tg R) (hR0 : yRI K nb tg I R) (hn : nb ≤ n) {x1 : Int32} (hx : ∀ (x2 : Int32) n1 tg1 I1 R1, yX n tg I R n1 tg1 I1 R1 → x2 = yFz (yFW I R) (I 88 2).toInt.toNat → yW xm_X14_take xc_X14_take_141 [some (.ref 83), some (.int x1), some (.int x2), none, none] [] (n1, tg1, I1, R1) c s Q) : ∀ (m : Nat) (z : Int) (it : Nat) (x2 : Int32) (n1 : Nat) (tg1 : Nat → yT) (I1 : Nat → Nat → Int32) (R1 : Nat → Nat → Value), yX n tg I R n1 tg1 I1 R1 → n ≤ it → yIt nb n1 tg1 I1 R1 it 88 z → x2 = yFz (yFW I R) z.toNat → (I 88 2).toInt - z < m → yW xm_X14_take xc_X14_take_89 [some (.ref 83), some (.int x1), some (.int x2), some (.ref it), none] [] (n1, tg1, I1, R1) c s Q := by
  intro m
  induction m with
  | zero =>
    intro z it x2 n1 tg1 I1 R1 hX hit hI_it hacc hm
    have hz := hX.sz hS0.1
    have h7 := hI_it.2.2.2.2.2.2.1
    exfalso; omega
  | succ m ih =>
    intro z it x2 n1 tg1 I1 R1 hX hit hI_it hacc hm
    have hS := hS0.x hX
    have hR := hR0.x hn hX
    have h94 : 94 ≤ n := hS0.1
    have hz := hX.sz h94
    have hxn := hX.1
    have hN := hR0.1
    have hnb : 94 ≤ nb := hR0.2.2.2.2.2.2
    refine y_aload_n rfl rfl ?_
    refine y_intf rfl rfl rfl rfl rfl hI_it.2.2.1 hI_it.2.1 ?_
    refine i_hasNext hI_it (fun h_1 => ?_) (fun h_2 => ?_)
    · refine y_ret1 ?_
      refine y_if_eqF rfl (by decide) ?_
      refine y_aload_n rfl rfl ?_
      refine y_intf rfl rfl rfl rfl rfl hI_it.2.2.1 hI_it.2.1 ?_
      have hz0 := hI_it.2.2.2.2.2.1
      refine i_next (nb := nb) (Nat.le_trans (by decide) (by have := hI_it.1; omega : 94 ≤ _)) (Nat.le_trans hn hX.1) hI_it hR.l88 (by omega) h_1 (fun b3 I3 eb_b3 hlo_b3 hb0_b3 ht_b3 hI1 hIe => ?_)
      have hfb : b3 = yAd R 88 z.toNat := eb_b3.trans (yAd_eq (hX.2.1 88 (by omega)).2.2 (hX.2.1 _ (by have := hR0.lt6 88 (by decide) (by decide); omega)).2.2)
      have hb_b3 := Nat.lt_of_lt_of_le hb0_b3 hn
      replace ht_b3 := (hX.2.1 _ hb_b3).1.symm.trans ht_b3
      have hI_it := hI1
      have hX := hX.upI (by omega) hIe
      have hS := hS0.x hX
      have hR := hR0.x hn hX
      have hz := hX.sz h94
      have hxn := hX.1
      have hw_b3 := hR.thi hlo_b3 hb0_b3 ((hX.2.1 _ hb_b3).1.trans ht_b3)
      refine y_ret1 ?_
      refine y_cast rfl ((hX.2.1 _ hb_b3).1.trans ht_b3) (Nat.lt_of_lt_of_le hb_b3 hX.1) ?_
      refine y_astore (ls' := [some _, some _, some _, some _, some _]) rfl rfl rfl ?_
      refine y_iload_n rfl rfl ?_
      refine y_aload rfl rfl ?_
      refine y_getIv (v := I b3 1) rfl ((hX.2.1 _ hb_b3).1.trans ht_b3) (Nat.lt_of_lt_of_le hb_b3 hX.1) rfl rfl (congrFun (hX.2.1 _ hb_b3).2.1 1) ?_
      refine y_bip rfl (by decide) ?_
      refine y_icmp_ne rfl j_X14_take_132 (fun h_4 => ?_) (fun h_5 => ?_)
      · rw [yz_8] at h_4
        refine y_iconst rfl ?_
        refine y_static rfl rfl rfl rfl rfl ?_
        refine r_oneE (fun v_ hv_ => ?_)
        refine y_ret1 ?_
        refine y_iadd rfl ?_
        refine y_istore_n (ls' := [some _, some _, some _, some _, some _]) rfl rfl rfl ?_
        refine y_goto rfl j_X14_take_89 ?_
        refine y_fgt (ls := [some _, some _, some _, some _, none]) ⟨rfl, rfl, rfl, rfl, trivial⟩ ?_
        exact ih _ _ _ _ _ _ _ hX (by omega) hI_it (yFz_st hz0 hacc (by show _ = (if (I (yAd R 88 z.toNat) 1).toInt = 8 ∧ ¬ (I (yAd R 88 z.toNat) 2).toInt = 0 then Int32.ofInt 1 else Int32.ofInt 0); rw [← hfb]; first | exact (yext (hv_.trans (by decide))).trans (if_pos (by omega)).symm | exact (yext (hv_.trans (by decide))).trans (if_neg (by omega)).symm)) (by omega)
      · rw [yz_8] at h_5
        refine y_aload rfl rfl ?_
        refine y_getIv (v := I b3 2) rfl ((hX.2.1 _ hb_b3).1.trans ht_b3) (Nat.lt_of_lt_of_le hb_b3 hX.1) rfl rfl (congrFun (hX.2.1 _ hb_b3).2.1 2) ?_
        refine y_if_eq rfl j_X14_take_132 (fun h_6 => ?_) (fun h_7 => ?_)
        · refine y_iconst rfl ?_
          refine y_static rfl rfl rfl rfl rfl ?_
          refine r_oneE (fun v_ hv_ => ?_)
          refine y_ret1 ?_
          refine y_iadd rfl ?_
          refine y_istore_n (ls' := [some _, some _, some _, some _, some _]) rfl rfl rfl ?_
          refine y_goto rfl j_X14_take_89 ?_
          refine y_fgt (ls := [some _, some _, some _, some _, none]) ⟨rfl, rfl, rfl, rfl, trivial⟩ ?_
          exact ih _ _ _ _ _ _ _ hX (by omega) hI_it (yFz_st hz0 hacc (by show _ = (if (I (yAd R 88 z.toNat) 1).toInt = 8 ∧ ¬ (I (yAd R 88 z.toNat) 2).toInt = 0 then Int32.ofInt 1 else Int32.ofInt 0); rw [← hfb]; first | exact (yext (hv_.trans (by decide))).trans (if_pos (by omega)).symm | exact (yext (hv_.trans (by decide))).trans (if_neg (by omega)).symm)) (by omega)
        · refine y_iconst rfl ?_
          refine y_goto rfl j_X14_take_133 ?_
          refine y_static rfl rfl rfl rfl rfl ?_
          refine r_oneE (fun v_ hv_ => ?_)
          refine y_ret1 ?_
          refine y_iadd rfl ?_
          refine y_istore_n (ls' := [some _, some _, some _, some _, some _]) rfl rfl rfl ?_
          refine y_goto rfl j_X14_take_89 ?_
          refine y_fgt (ls := [some _, some _, some _, some _, none]) ⟨rfl, rfl, rfl, rfl, trivial⟩ ?_
          exact ih _ _ _ _ _ _ _ hX (by omega) hI_it (yFz_st hz0 hacc (by show _ = (if (I (yAd R 88 z.toNat) 1).toInt = 8 ∧ ¬ (I (yAd R 88 z.toNat) 2).toInt = 0 then Int32.ofInt 1 else Int32.ofInt 0); rw [← hfb]; first | exact (yext (hv_.trans (by decide))).trans (if_pos (by omega)).symm | exact (yext (hv_.trans (by decide))).trans (if_neg (by omega)).symm)) (by omega)
    · refine y_ret1 ?_
      refine y_if_eqT rfl j_X14_take_141 (by decide) ?_
      refine y_fgt (ls := [some _, some _, some _, none, none]) ⟨rfl, rfl, rfl, trivial⟩ ?_
      exact hx _ _ _ _ _ hX (by have h7_ := hI_it.2.2.2.2.2.2.1; have h6_ := hI_it.2.2.2.2.2.1; rw [show (I 88 2).toInt.toNat = z.toNat by omega]; exact hacc)
theorem h_take (hS0 : ySh n tg R) (hR0 : yRI K n tg I R) (hk6 : K < 600) {x1 : Int32} (hQ1 : ¬ (0 ≤ x1.toInt ∧ x1.toInt < (I 88 2).toInt) → ∀ (v : Int32) n1 tg1 I1 R1 c1 s1, ySh n1 tg1 R1 → yRI (K + 1) n1 tg1 I1 R1 → yKp n tg I R n1 tg1 I1 R1 → I1 83 0 = Int32.ofInt 1 → yGm n I1 I → yRf n I R I1 R1 → c1 ≤ c + 1 → s1 ≤ s + 4 → Q (.inl (some (.int v))) (n1, tg1, I1, R1) c1 s1) (hQ2 : ∀ b, b = yAd R 88 x1.toInt.toNat → (0 ≤ x1.toInt ∧ x1.toInt < (I 88 2).toInt) ∧ ¬ ((I b 1).toInt = 8 ∧ (I b 2).toInt = 0) → ∀ (v : Int32) n1 tg1 I1 R1 c1 s1, ySh n1 tg1 R1 → yRI (K + 1) n1 tg1 I1 R1 → yKp n tg I R n1 tg1 I1 R1 → I1 83 0 = Int32.ofInt 2 → yGm n I1 I → yRf n I R I1 R1 → c1 ≤ c + 1 → s1 ≤ s + 4 → Q (.inl (some (.int v))) (n1, tg1, I1, R1) c1 s1) (hQ0 : ∀ b, b = yAd R 88 x1.toInt.toNat → (0 ≤ x1.toInt ∧ x1.toInt < (I 88 2).toInt) ∧ ((I b 1).toInt = 8 ∧ (I b 2).toInt = 0) → ∀ (v : Int32) n1 tg1 I1 R1 c1 s1, ySh n1 tg1 R1 → yRI (K + 1) n1 tg1 I1 R1 → yKp n tg I R n1 tg1 I1 R1 → I1 83 0 = Int32.ofInt 0 → v = yFz (yFW I1 R1) (I1 88 2).toInt.toNat → yGm n I1 (upd2 I b 2 (Int32.ofInt 1)) → yX n tg (upd2 (upd2 I 83 0 (Int32.ofInt 0)) b 2 (Int32.ofInt 1)) R n1 tg1 I1 R1 → c1 ≤ c + 1 → s1 ≤ s + 4 → Q (.inl (some (.int v))) (n1, tg1, I1, R1) c1 s1) : yC 199 [.ref 83, .int x1] (n, tg, I, R) c s Q := by
  have hno := Nat.le_refl n
  have hn := hno
  have hRo := hR0
  have hK : yKp n tg I R n tg I R := yKp.rf
  have hX : yX n tg I R n tg I R := yX.rf
  have hS := hS0
  have hR := hR0
  have h94 : 94 ≤ n := hS0.1
  have hz : ySz I I := hX.sz h94
  have hxn := hX.1
  have hN := hR0.1
  have hnb : 94 ≤ n := hR0.2.2.2.2.2.2
  have hg : yGm n I I := yGm.rf
  have hday : I 83 1 = I 83 1 := rfl
  have hb83 : ∀ a, a ≠ 83 → a < n → I a = I a := fun _ _ _ => rfl
  have hRb : ∀ a, a < n → R a = R a := fun _ _ => rfl
  have hB : yX n tg I R n tg I R := yX.rf
  have h8 : ∀ a, 84 ≤ a → a ≤ 86 → I a = I a := fun _ _ _ => rfl
  have h3k : ∀ k, k ≠ 0 → I 83 k = I 83 k := fun _ _ => rfl
  refine y_in (M := xm_X14_take) (ls := [some _, some _, _, _, _]) rfl rfl rfl ?_
  refine y_aload_n rfl rfl ?_
  refine y_aload_n rfl rfl ?_
  refine y_iload_n rfl rfl ?_
  refine y_virt rfl rfl rfl rfl rfl (ySh.t hS rfl) (ySh.n hS rfl) ?_
  refine y_in (M := xm_X14_isNoThing) (ls := [some _, some _]) rfl rfl rfl ?_
  refine y_iload_n rfl rfl ?_
  refine y_iconst rfl ?_
  refine y_aload_n rfl rfl ?_
  refine y_getR rfl (ySh.t hS rfl) (ySh.n hS rfl) rfl rfl (ySh.r hS rfl) ?_
  refine y_virt rfl rfl rfl rfl rfl (ySh.t hS rfl) (ySh.n hS rfl) ?_
  refine y_in (M := xm_Jx4a65c_size_8abf5) (ls := [some _]) rfl rfl rfl ?_
  refine y_aload_n rfl rfl ?_
  refine y_getI rfl (ySh.t hS rfl) (ySh.n hS rfl) rfl rfl ?_
  refine y_ireturn rfl rfl rfl ?_
  refine y_ret1 ?_
  refine y_iconst rfl ?_
  refine y_isub rfl ?_
  refine y_static rfl rfl rfl rfl rfl ?_
  refine r_isIn (fun h_1 h_2 => ?_) (fun h_3 => ?_)
  · rw [yz_0] at h_1
    try rw [ysub (by rw [yz_1]; omega) (by rw [yz_1]; omega), yz_1] at h_2
    refine y_ret1 ?_
    refine y_if_neT rfl j_X14_isNoThing_21 (by decide) ?_
    refine y_iconst rfl ?_
    refine y_ireturn rfl rfl rfl ?_
    refine y_ret1 ?_
    refine y_iconst rfl ?_
    refine y_virt rfl rfl rfl rfl rfl (ySh.t hS rfl) (ySh.n hS rfl) ?_
    refine y_in (M := xm_X14_start) (ls := [some _, some _, some _]) rfl rfl rfl ?_
    refine y_aload_n rfl rfl ?_
    refine y_iconst rfl ?_
    refine y_putI rfl (ySh.t hS rfl) (ySh.n hS rfl) rfl (Nat.le_of_ble_eq_true rfl) rfl rfl ?_
    refine y_nameI (fun I4 e4 => ?_)
    have hR1 := (hR0.grow hX).mod0 e4 (by decide) (by decide)
    have hK := (hK.x hRo hno hX).upI (upI e4) (by decide) (by decide) (fun i hi => by have := (hRo.l87.2.2.2.2 i hi).2.1; omega) (by rw [e4, upd2_ne (.inr (by decide))]; exact Int.le_refl _)
    have hth : I4 83 0 = Int32.ofInt (0) := by rw [e4, upd2_self]
    have hzz : ySz8 I I4 := ySz8_of (upI e4) (by rw [e4]; exact ⟨upd2_ne (.inr (by decide)), upd2_ne (.inr (by decide))⟩)
    have hB := (hB.trans hX).wr e4 rfl
    have h8 : ∀ a, 84 ≤ a → a ≤ 86 → I4 a = I a := fun a h1 h2 => (upI e4 a (by omega)).trans ((hX.2.1 a (by omega)).2.1.trans (h8 a h1 h2))
    have h3k : ∀ k, k ≠ 0 → I4 83 k = I 83 k := fun k hk => (congrFun (congrFun e4 83) k).trans ((upd2_ne (.inr hk)).trans ((congrFun (hX.2.1 83 (by omega)).2.1 k).trans (h3k k hk)))
    have hg := (hg.gx hX (by omega)).skip e4 (by decide)
    have hday : I4 83 1 = I 83 1 := (congrFun (congrFun e4 83) 1).trans ((upd2_ne (.inr (by decide))).trans ((congrFun (hX.2.1 83 (by omega)).2.1 1).trans hday))
    have hRb : ∀ a, a < n → R a = R a := fun a ha => (hX.2.1 a (by omega)).2.2.trans (hRb a ha)
    have hb83 : ∀ a, a ≠ 83 → a < n → I4 a = I a := fun a ha hb => (upI e4 a ha).trans ((hX.2.1 a (by omega)).2.1.trans (hb83 a ha hb))
    have hS0 := hS
    have hR0 := hR1
    have hn := Nat.le_refl n
    have h94 := hS0.1
    have hX := @yX.rf n tg I4 R
    have hS := hS0.x hX
    have hR := hR0.x hn hX
    have hz := hX.sz h94
    have hxn := hX.1
    have hN := hR0.1
    have hnb := hR0.2.2.2.2.2.2
    have hthB := hth
    refine y_aload_n rfl rfl ?_
    refine y_iload_n rfl rfl ?_
    refine y_iload_n rfl rfl ?_
    refine y_virt rfl rfl rfl rfl rfl (ySh.t hS rfl) (ySh.n hS rfl) ?_
    refine y_in (M := xm_X14_refuse) (ls := [some _, some _, some _]) rfl rfl rfl ?_
    refine y_iload_n rfl rfl ?_
    refine y_if_eqT rfl j_X14_refuse_16 (by decide) ?_
    refine y_aload_n rfl rfl ?_
    refine y_getIv (v := Int32.ofInt (0)) rfl (ySh.t hS rfl) (ySh.n hS rfl) rfl rfl hth ?_
    refine y_if_leT rfl j_X14_refuse_27 (by decide) ?_
    refine y_iconst rfl ?_
    refine y_ireturn rfl rfl rfl ?_
    refine y_ret1 ?_
    refine y_ireturn rfl rfl rfl ?_
    refine y_ret1 ?_
    refine y_if_neF rfl (by decide) ?_
    refine y_aload_n rfl rfl ?_
    refine y_aload_n rfl rfl ?_
    refine y_getR rfl (ySh.t hS rfl) (ySh.n hS rfl) rfl rfl (ySh.r hS rfl) ?_
    refine y_iload_n rfl rfl ?_
    refine y_virt rfl rfl rfl rfl rfl (ySh.t hS rfl) (ySh.n hS rfl) ?_
    refine l_get (nb := n) (ySh.t hS rfl) (ySh.n hS rfl) (Nat.le_trans hn hX.1) hR.l88 (by omega) (by omega) (fun b5 eb_b5 hlo_b5 hb0_b5 ht_b5 => ?_)
    have hb_b5 := Nat.lt_of_lt_of_le hb0_b5 hn
    replace ht_b5 := (hX.2.1 _ hb_b5).1.symm.trans ht_b5
    have hw_b5 := hR.thi hlo_b5 hb0_b5 ((hX.2.1 _ hb_b5).1.trans ht_b5)
    have hq_b5_1 := congrArg Int32.toInt (congrFun ((hg.gx hX (by omega)) _ hlo_b5 (by omega)) 1)
    refine y_ret1 ?_
    refine y_cast rfl ((hX.2.1 _ hb_b5).1.trans ht_b5) (Nat.lt_of_lt_of_le hb_b5 hX.1) ?_
    refine y_getIv (v := I b5 1) rfl ((hX.2.1 _ hb_b5).1.trans ht_b5) (Nat.lt_of_lt_of_le hb_b5 hX.1) rfl rfl (congrFun ((hg.gx hX (by omega)) _ hlo_b5 (by omega)) 1) ?_
    refine y_bip rfl (by decide) ?_
    refine y_icmp_ne rfl j_X14_take_50 (fun h_6 => ?_) (fun h_7 => ?_)
    · rw [yz_8] at h_6
      refine y_iconst rfl ?_
      refine y_goto rfl j_X14_take_55 ?_
      refine y_iconst rfl ?_
      refine y_virt rfl rfl rfl rfl rfl (ySh.t hS rfl) (ySh.n hS rfl) ?_
      refine y_in (M := xm_X14_refuse) (ls := [some _, some _, some _]) rfl rfl rfl ?_
      refine y_iload_n rfl rfl ?_
      refine y_if_eqF rfl (by decide) ?_
      refine y_aload_n rfl rfl ?_
      refine y_getIv (v := Int32.ofInt (0)) rfl (ySh.t hS rfl) (ySh.n hS rfl) rfl rfl hth ?_
      refine y_if_neF rfl (by decide) ?_
      refine y_aload_n rfl rfl ?_
      refine y_iload_n rfl rfl ?_
      refine y_putI rfl (ySh.t hS rfl) (ySh.n hS rfl) rfl (Nat.le_of_ble_eq_true rfl) rfl rfl ?_
      refine y_nameI (fun I8 e8 => ?_)
      have hR1 := (hR0.grow hX).mod0 e8 (by decide) (by decide)
      have hK := (hK.x hRo hno hX).upI (upI e8) (by decide) (by decide) (fun i hi => by have := (hRo.l87.2.2.2.2 i hi).2.1; omega) (by rw [e8, upd2_ne (.inr (by decide))]; exact Int.le_refl _)
      have hth : I8 83 0 = Int32.ofInt (2) := by rw [e8, upd2_self]
      have hzz : ySz8 I4 I8 := ySz8_of (upI e8) (by rw [e8]; exact ⟨upd2_ne (.inr (by decide)), upd2_ne (.inr (by decide))⟩)
      have hB := (hB.trans hX).wr e8 rfl
      have h8 : ∀ a, 84 ≤ a → a ≤ 86 → I8 a = I a := fun a h1 h2 => (upI e8 a (by omega)).trans ((hX.2.1 a (by omega)).2.1.trans (h8 a h1 h2))
      have h3k : ∀ k, k ≠ 0 → I8 83 k = I 83 k := fun k hk => (congrFun (congrFun e8 83) k).trans ((upd2_ne (.inr hk)).trans ((congrFun (hX.2.1 83 (by omega)).2.1 k).trans (h3k k hk)))
      have hg := (hg.gx hX (by omega)).skip e8 (by decide)
      have hday : I8 83 1 = I 83 1 := (congrFun (congrFun e8 83) 1).trans ((upd2_ne (.inr (by decide))).trans ((congrFun (hX.2.1 83 (by omega)).2.1 1).trans hday))
      have hRb : ∀ a, a < n → R a = R a := fun a ha => (hX.2.1 a (by omega)).2.2.trans (hRb a ha)
      have hb83 : ∀ a, a ≠ 83 → a < n → I8 a = I a := fun a ha hb => (upI e8 a ha).trans ((hX.2.1 a (by omega)).2.1.trans (hb83 a ha hb))
      have hS0 := hS
      have hR0 := hR1
      have ht_b5 := (hX.2.1 _ hb_b5).1.trans ht_b5
      have hb_b5 := Nat.lt_of_lt_of_le hb_b5 hX.1
      have hb0_b5 := hb_b5
      have hn := Nat.le_refl n
      have h94 := hS0.1
      have hX := @yX.rf n tg I8 R
      have hS := hS0.x hX
      have hR := hR0.x hn hX
      have hz := hX.sz h94
      have hxn := hX.1
      have hw_b5 := hR.thi hlo_b5 hb0_b5 ((hX.2.1 _ hb_b5).1.trans ht_b5)
      have hN := hR0.1
      have hnb := hR0.2.2.2.2.2.2
      have hthB := hth
      refine y_aload_n rfl rfl ?_
      refine y_getIv (v := Int32.ofInt (2)) rfl (ySh.t hS rfl) (ySh.n hS rfl) rfl rfl hth ?_
      refine y_if_leF rfl (by decide) ?_
      refine y_iconst rfl ?_
      refine y_goto rfl j_X14_refuse_28 ?_
      refine y_ireturn rfl rfl rfl ?_
      refine y_ret1 ?_
      refine y_if_eqF rfl (by decide) ?_
      refine y_iconst rfl ?_
      refine y_ireturn rfl rfl rfl ?_
      exact hQ2 _ eb_b5 (by omega) _ _ _ _ _ _ _ hS ((hR0.grow hX).up (Nat.le_succ K) hk6) (hK.x hRo hno hX) hth (hg.gx hX (by omega)) ((hB.trans hX).rf2 (by omega)) (by omega) (by omega)
    · rw [yz_8] at h_7
      refine y_aload_n rfl rfl ?_
      refine y_getR rfl (ySh.t hS rfl) (ySh.n hS rfl) rfl rfl (ySh.r hS rfl) ?_
      refine y_iload_n rfl rfl ?_
      refine y_virt rfl rfl rfl rfl rfl (ySh.t hS rfl) (ySh.n hS rfl) ?_
      refine l_get (nb := n) (ySh.t hS rfl) (ySh.n hS rfl) (Nat.le_trans hn hX.1) hR.l88 (by omega) (by omega) (fun c9 eb_c9 _ _ _ => ?_)
      rw [show c9 = b5 from eb_c9.trans eb_b5.symm]
      refine y_ret1 ?_
      refine y_cast rfl ((hX.2.1 _ hb_b5).1.trans ht_b5) (Nat.lt_of_lt_of_le hb_b5 hX.1) ?_
      refine y_getIv (v := I b5 2) rfl ((hX.2.1 _ hb_b5).1.trans ht_b5) (Nat.lt_of_lt_of_le hb_b5 hX.1) rfl rfl (congrFun ((hg.gx hX (by omega)) _ hlo_b5 (by omega)) 2) ?_
      refine y_if_eq rfl j_X14_take_54 (fun h_10 => ?_) (fun h_11 => ?_)
      · refine y_iconst rfl ?_
        refine y_iconst rfl ?_
        refine y_virt rfl rfl rfl rfl rfl (ySh.t hS rfl) (ySh.n hS rfl) ?_
        refine y_in (M := xm_X14_refuse) (ls := [some _, some _, some _]) rfl rfl rfl ?_
        refine y_iload_n rfl rfl ?_
        refine y_if_eqT rfl j_X14_refuse_16 (by decide) ?_
        refine y_aload_n rfl rfl ?_
        refine y_getIv (v := Int32.ofInt (0)) rfl (ySh.t hS rfl) (ySh.n hS rfl) rfl rfl hth ?_
        refine y_if_leT rfl j_X14_refuse_27 (by decide) ?_
        refine y_iconst rfl ?_
        refine y_ireturn rfl rfl rfl ?_
        refine y_ret1 ?_
        refine y_if_eqT rfl j_X14_take_64 (by decide) ?_
        refine y_aload_n rfl rfl ?_
        refine y_getR rfl (ySh.t hS rfl) (ySh.n hS rfl) rfl rfl (ySh.r hS rfl) ?_
        refine y_iload_n rfl rfl ?_
        refine y_virt rfl rfl rfl rfl rfl (ySh.t hS rfl) (ySh.n hS rfl) ?_
        refine l_get (nb := n) (ySh.t hS rfl) (ySh.n hS rfl) (Nat.le_trans hn hX.1) hR.l88 (by omega) (by omega) (fun c12 eb_c12 _ _ _ => ?_)
        rw [show c12 = b5 from eb_c12.trans eb_b5.symm]
        refine y_ret1 ?_
        refine y_cast rfl ((hX.2.1 _ hb_b5).1.trans ht_b5) (Nat.lt_of_lt_of_le hb_b5 hX.1) ?_
        refine y_iconst rfl ?_
        refine y_putI rfl ((hX.2.1 _ hb_b5).1.trans ht_b5) (Nat.lt_of_lt_of_le hb_b5 hX.1) rfl (Nat.le_trans (by decide) (by omega : 94 ≤ _)) rfl rfl ?_
        refine y_nameI (fun I13 e13 => ?_)
        have hR1 := (hR0.grow hX).upT e13 hlo_b5 (by omega) ((hX.2.1 _ hb_b5).1.trans ht_b5) (fun h => absurd h (by decide))
        have hK := (hK.x hRo hno hX).upE hRo hno (upI e13) (by omega) (by omega) (by rw [((hX.2.1 _ hb_b5).1.trans ht_b5)]; decide) (by rw [e13, upd2_ne (.inl (by omega))]; exact Int.le_refl _)
        have hth := (show I13 83 0 = I4 83 0 by rw [e13, upd2_ne (.inl (by omega))]).trans hth
        have hzz : ySz I4 I13 := ySz_ofE (upI e13) (by omega)
        have hB := (hB.trans hX).wr e13 rfl
        have h8 : ∀ a, 84 ≤ a → a ≤ 86 → I13 a = I a := fun a h1 h2 => (upI e13 a (by omega)).trans ((hX.2.1 a (by omega)).2.1.trans (h8 a h1 h2))
        have h3k : ∀ k, k ≠ 0 → I13 83 k = I 83 k := fun k hk => (congrFun (congrFun e13 83) k).trans ((upd2_ne (.inl (by omega))).trans ((congrFun (hX.2.1 83 (by omega)).2.1 k).trans (h3k k hk)))
        have hg := (hg.gx hX (by omega)).both e13
        have hday : I13 83 1 = I 83 1 := (congrFun (congrFun e13 83) 1).trans ((upd2_ne (.inl (by omega))).trans ((congrFun (hX.2.1 83 (by omega)).2.1 1).trans hday))
        have hRb : ∀ a, a < n → R a = R a := fun a ha => (hX.2.1 a (by omega)).2.2.trans (hRb a ha)
        have hS0 := hS
        have hR0 := hR1
        have ht_b5 := (hX.2.1 _ hb_b5).1.trans ht_b5
        have hb_b5 := Nat.lt_of_lt_of_le hb_b5 hX.1
        have hb0_b5 := hb_b5
        have hn := Nat.le_refl n
        have h94 := hS0.1
        have hX := @yX.rf n tg I13 R
        have hS := hS0.x hX
        have hR := hR0.x hn hX
        have hz := hX.sz h94
        have hxn := hX.1
        have hw_b5 := hR.thi hlo_b5 hb0_b5 ((hX.2.1 _ hb_b5).1.trans ht_b5)
        have hN := hR0.1
        have hnb := hR0.2.2.2.2.2.2
        have hthB := hth
        refine y_iconst rfl ?_
        refine y_istore_n (ls' := [some _, some _, some _, _, _]) rfl rfl rfl ?_
        refine y_aload_n rfl rfl ?_
        refine y_getR rfl (ySh.t hS rfl) (ySh.n hS rfl) rfl rfl (ySh.r hS rfl) ?_
        refine y_virt rfl rfl rfl rfl rfl (ySh.t hS rfl) (ySh.n hS rfl) ?_
        refine l_iter (nb := n) (l := 88) hS (ySh.t hS rfl) (ySh.n hS rfl) (by omega) (Nat.le_trans hn hX.1) hR.l88.2.2.2.1 (fun n14 tg14 I14 R14 hnA hX1 hI_it14 => ?_)
        have hX := hX.trans hX1
        have hS := hS0.x hX
        have hR := hR0.x hn hX
        have hz := hX.sz h94
        have hxn := hX.1
        have hw_b5 := hR.thi hlo_b5 hb0_b5 ((hX.2.1 _ hb_b5).1.trans ht_b5)
        have hth := (congrFun (hX1.2.1 83 (by omega)).2.1 0).trans hth
        refine y_ret1 ?_
        refine y_astore_n (ls' := [some _, some _, some _, some _, _]) rfl rfl rfl ?_
        refine e_h_take1 hS0 hR0 hn (fun x_16 n15 tg15 I15 R15 hX hc_16 => ?_) 100000 0 _ _ _ _ _ _ hX (by omega) hI_it14 rfl (by omega)
        have hc_16 := hc_16.trans (yFW.gx hR0 hn h94 hX).symm
        have hS := hS0.x hX
        have hR := hR0.x hn hX
        have hz := hX.sz h94
        have hxn := hX.1
        have hw_b5 := hR.thi hlo_b5 hb0_b5 ((hX.2.1 _ hb_b5).1.trans ht_b5)
        have hth := (congrFun (hX.2.1 83 (by omega)).2.1 0).trans hthB
        refine y_iload_n rfl rfl ?_
        refine y_ireturn rfl rfl rfl ?_
        exact hQ0 _ eb_b5 (by omega) _ _ _ _ _ _ _ hS ((hR0.grow hX).up (Nat.le_succ K) hk6) (hK.x hRo hno hX) hth hc_16 (hg.gx hX (by omega)) (hB.trans hX) (by omega) (by omega)
      · refine y_iconst rfl ?_
        refine y_goto rfl j_X14_take_55 ?_
        refine y_iconst rfl ?_
        refine y_virt rfl rfl rfl rfl rfl (ySh.t hS rfl) (ySh.n hS rfl) ?_
        refine y_in (M := xm_X14_refuse) (ls := [some _, some _, some _]) rfl rfl rfl ?_
        refine y_iload_n rfl rfl ?_
        refine y_if_eqF rfl (by decide) ?_
        refine y_aload_n rfl rfl ?_
        refine y_getIv (v := Int32.ofInt (0)) rfl (ySh.t hS rfl) (ySh.n hS rfl) rfl rfl hth ?_
        refine y_if_neF rfl (by decide) ?_
        refine y_aload_n rfl rfl ?_
        refine y_iload_n rfl rfl ?_
        refine y_putI rfl (ySh.t hS rfl) (ySh.n hS rfl) rfl (Nat.le_of_ble_eq_true rfl) rfl rfl ?_
        refine y_nameI (fun I17 e17 => ?_)
        have hR1 := (hR0.grow hX).mod0 e17 (by decide) (by decide)
        have hK := (hK.x hRo hno hX).upI (upI e17) (by decide) (by decide) (fun i hi => by have := (hRo.l87.2.2.2.2 i hi).2.1; omega) (by rw [e17, upd2_ne (.inr (by decide))]; exact Int.le_refl _)
        have hth : I17 83 0 = Int32.ofInt (2) := by rw [e17, upd2_self]
        have hzz : ySz8 I4 I17 := ySz8_of (upI e17) (by rw [e17]; exact ⟨upd2_ne (.inr (by decide)), upd2_ne (.inr (by decide))⟩)
        have hB := (hB.trans hX).wr e17 rfl
        have h8 : ∀ a, 84 ≤ a → a ≤ 86 → I17 a = I a := fun a h1 h2 => (upI e17 a (by omega)).trans ((hX.2.1 a (by omega)).2.1.trans (h8 a h1 h2))
        have h3k : ∀ k, k ≠ 0 → I17 83 k = I 83 k := fun k hk => (congrFun (congrFun e17 83) k).trans ((upd2_ne (.inr hk)).trans ((congrFun (hX.2.1 83 (by omega)).2.1 k).trans (h3k k hk)))
        have hg := (hg.gx hX (by omega)).skip e17 (by decide)
        have hday : I17 83 1 = I 83 1 := (congrFun (congrFun e17 83) 1).trans ((upd2_ne (.inr (by decide))).trans ((congrFun (hX.2.1 83 (by omega)).2.1 1).trans hday))
        have hRb : ∀ a, a < n → R a = R a := fun a ha => (hX.2.1 a (by omega)).2.2.trans (hRb a ha)
        have hb83 : ∀ a, a ≠ 83 → a < n → I17 a = I a := fun a ha hb => (upI e17 a ha).trans ((hX.2.1 a (by omega)).2.1.trans (hb83 a ha hb))
        have hS0 := hS
        have hR0 := hR1
        have ht_b5 := (hX.2.1 _ hb_b5).1.trans ht_b5
        have hb_b5 := Nat.lt_of_lt_of_le hb_b5 hX.1
        have hb0_b5 := hb_b5
        have hn := Nat.le_refl n
        have h94 := hS0.1
        have hX := @yX.rf n tg I17 R
        have hS := hS0.x hX
        have hR := hR0.x hn hX
        have hz := hX.sz h94
        have hxn := hX.1
        have hw_b5 := hR.thi hlo_b5 hb0_b5 ((hX.2.1 _ hb_b5).1.trans ht_b5)
        have hN := hR0.1
        have hnb := hR0.2.2.2.2.2.2
        have hthB := hth
        refine y_aload_n rfl rfl ?_
        refine y_getIv (v := Int32.ofInt (2)) rfl (ySh.t hS rfl) (ySh.n hS rfl) rfl rfl hth ?_
        refine y_if_leF rfl (by decide) ?_
        refine y_iconst rfl ?_
        refine y_goto rfl j_X14_refuse_28 ?_
        refine y_ireturn rfl rfl rfl ?_
        refine y_ret1 ?_
        refine y_if_eqF rfl (by decide) ?_
        refine y_iconst rfl ?_
        refine y_ireturn rfl rfl rfl ?_
        exact hQ2 _ eb_b5 (by omega) _ _ _ _ _ _ _ hS ((hR0.grow hX).up (Nat.le_succ K) hk6) (hK.x hRo hno hX) hth (hg.gx hX (by omega)) ((hB.trans hX).rf2 (by omega)) (by omega) (by omega)
  · rw [yz_0] at h_3
    try rw [ysub (by rw [yz_1]; omega) (by rw [yz_1]; omega), yz_1] at h_3
    refine y_ret1 ?_
    refine y_if_neF rfl (by decide) ?_
    refine y_iconst rfl ?_
    refine y_goto rfl j_X14_isNoThing_22 ?_
    refine y_ireturn rfl rfl rfl ?_
    refine y_ret1 ?_
    refine y_iconst rfl ?_
    refine y_virt rfl rfl rfl rfl rfl (ySh.t hS rfl) (ySh.n hS rfl) ?_
    refine y_in (M := xm_X14_start) (ls := [some _, some _, some _]) rfl rfl rfl ?_
    refine y_aload_n rfl rfl ?_
    refine y_iconst rfl ?_
    refine y_putI rfl (ySh.t hS rfl) (ySh.n hS rfl) rfl (Nat.le_of_ble_eq_true rfl) rfl rfl ?_
    refine y_nameI (fun I18 e18 => ?_)
    have hR1 := (hR0.grow hX).mod0 e18 (by decide) (by decide)
    have hK := (hK.x hRo hno hX).upI (upI e18) (by decide) (by decide) (fun i hi => by have := (hRo.l87.2.2.2.2 i hi).2.1; omega) (by rw [e18, upd2_ne (.inr (by decide))]; exact Int.le_refl _)
    have hth : I18 83 0 = Int32.ofInt (0) := by rw [e18, upd2_self]
    have hzz : ySz8 I I18 := ySz8_of (upI e18) (by rw [e18]; exact ⟨upd2_ne (.inr (by decide)), upd2_ne (.inr (by decide))⟩)
    have hB := (hB.trans hX).wr e18 rfl
    have h8 : ∀ a, 84 ≤ a → a ≤ 86 → I18 a = I a := fun a h1 h2 => (upI e18 a (by omega)).trans ((hX.2.1 a (by omega)).2.1.trans (h8 a h1 h2))
    have h3k : ∀ k, k ≠ 0 → I18 83 k = I 83 k := fun k hk => (congrFun (congrFun e18 83) k).trans ((upd2_ne (.inr hk)).trans ((congrFun (hX.2.1 83 (by omega)).2.1 k).trans (h3k k hk)))
    have hg := (hg.gx hX (by omega)).skip e18 (by decide)
    have hday : I18 83 1 = I 83 1 := (congrFun (congrFun e18 83) 1).trans ((upd2_ne (.inr (by decide))).trans ((congrFun (hX.2.1 83 (by omega)).2.1 1).trans hday))
    have hRb : ∀ a, a < n → R a = R a := fun a ha => (hX.2.1 a (by omega)).2.2.trans (hRb a ha)
    have hb83 : ∀ a, a ≠ 83 → a < n → I18 a = I a := fun a ha hb => (upI e18 a ha).trans ((hX.2.1 a (by omega)).2.1.trans (hb83 a ha hb))
    have hS0 := hS
    have hR0 := hR1
    have hn := Nat.le_refl n
    have h94 := hS0.1
    have hX := @yX.rf n tg I18 R
    have hS := hS0.x hX
    have hR := hR0.x hn hX
    have hz := hX.sz h94
    have hxn := hX.1
    have hN := hR0.1
    have hnb := hR0.2.2.2.2.2.2
    have hthB := hth
    refine y_aload_n rfl rfl ?_
    refine y_iload_n rfl rfl ?_
    refine y_iload_n rfl rfl ?_
    refine y_virt rfl rfl rfl rfl rfl (ySh.t hS rfl) (ySh.n hS rfl) ?_
    refine y_in (M := xm_X14_refuse) (ls := [some _, some _, some _]) rfl rfl rfl ?_
    refine y_iload_n rfl rfl ?_
    refine y_if_eqF rfl (by decide) ?_
    refine y_aload_n rfl rfl ?_
    refine y_getIv (v := Int32.ofInt (0)) rfl (ySh.t hS rfl) (ySh.n hS rfl) rfl rfl hth ?_
    refine y_if_neF rfl (by decide) ?_
    refine y_aload_n rfl rfl ?_
    refine y_iload_n rfl rfl ?_
    refine y_putI rfl (ySh.t hS rfl) (ySh.n hS rfl) rfl (Nat.le_of_ble_eq_true rfl) rfl rfl ?_
    refine y_nameI (fun I19 e19 => ?_)
    have hR1 := (hR0.grow hX).mod0 e19 (by decide) (by decide)
    have hK := (hK.x hRo hno hX).upI (upI e19) (by decide) (by decide) (fun i hi => by have := (hRo.l87.2.2.2.2 i hi).2.1; omega) (by rw [e19, upd2_ne (.inr (by decide))]; exact Int.le_refl _)
    have hth : I19 83 0 = Int32.ofInt (1) := by rw [e19, upd2_self]
    have hzz : ySz8 I18 I19 := ySz8_of (upI e19) (by rw [e19]; exact ⟨upd2_ne (.inr (by decide)), upd2_ne (.inr (by decide))⟩)
    have hB := (hB.trans hX).wr e19 rfl
    have h8 : ∀ a, 84 ≤ a → a ≤ 86 → I19 a = I a := fun a h1 h2 => (upI e19 a (by omega)).trans ((hX.2.1 a (by omega)).2.1.trans (h8 a h1 h2))
    have h3k : ∀ k, k ≠ 0 → I19 83 k = I 83 k := fun k hk => (congrFun (congrFun e19 83) k).trans ((upd2_ne (.inr hk)).trans ((congrFun (hX.2.1 83 (by omega)).2.1 k).trans (h3k k hk)))
    have hg := (hg.gx hX (by omega)).skip e19 (by decide)
    have hday : I19 83 1 = I 83 1 := (congrFun (congrFun e19 83) 1).trans ((upd2_ne (.inr (by decide))).trans ((congrFun (hX.2.1 83 (by omega)).2.1 1).trans hday))
    have hRb : ∀ a, a < n → R a = R a := fun a ha => (hX.2.1 a (by omega)).2.2.trans (hRb a ha)
    have hb83 : ∀ a, a ≠ 83 → a < n → I19 a = I a := fun a ha hb => (upI e19 a ha).trans ((hX.2.1 a (by omega)).2.1.trans (hb83 a ha hb))
    have hS0 := hS
    have hR0 := hR1
    have hn := Nat.le_refl n
    have h94 := hS0.1
    have hX := @yX.rf n tg I19 R
    have hS := hS0.x hX
    have hR := hR0.x hn hX
    have hz := hX.sz h94
    have hxn := hX.1
    have hN := hR0.1
    have hnb := hR0.2.2.2.2.2.2
    have hthB := hth
    refine y_aload_n rfl rfl ?_
    refine y_getIv (v := Int32.ofInt (1)) rfl (ySh.t hS rfl) (ySh.n hS rfl) rfl rfl hth ?_
    refine y_if_leF rfl (by decide) ?_
    refine y_iconst rfl ?_
    refine y_goto rfl j_X14_refuse_28 ?_
    refine y_ireturn rfl rfl rfl ?_
    refine y_ret1 ?_
    refine y_ireturn rfl rfl rfl ?_
    refine y_ret1 ?_
    refine y_if_neT rfl j_X14_take_62 (by decide) ?_
    refine y_iconst rfl ?_
    refine y_ireturn rfl rfl rfl ?_
    exact hQ1 (by omega) _ _ _ _ _ _ _ hS ((hR0.grow hX).up (Nat.le_succ K) hk6) (hK.x hRo hno hX) hth (hg.gx hX (by omega)) ((hB.trans hX).rf2 (by omega)) (by omega) (by omega)
theorem h_ruin (hS0 : ySh n tg R) (hR0 : yRI K n tg I R) (hk6 : K < 600) {x1 : Int32} {lv : Int} (hlv : yLf I R x1 lv) (hQ1 : ¬ (0 ≤ x1.toInt ∧ x1.toInt < (I 88 2).toInt) → ∀ (v : Int32) n1 tg1 I1 R1 c1 s1, ySh n1 tg1 R1 → yRI (K + 1) n1 tg1 I1 R1 → yKp n tg I R n1 tg1 I1 R1 → I1 83 0 = Int32.ofInt 1 → yGm n I1 I → yRf n I R I1 R1 → c1 ≤ c + 0 → s1 ≤ s + 0 → Q (.inl (some (.int v))) (n1, tg1, I1, R1) c1 s1) (hQ2 : ∀ b, b = yAd R 88 x1.toInt.toNat → (0 ≤ x1.toInt ∧ x1.toInt < (I 88 2).toInt) ∧ ¬ (I b 3).toInt = 0 → ∀ (v : Int32) n1 tg1 I1 R1 c1 s1, ySh n1 tg1 R1 → yRI (K + 1) n1 tg1 I1 R1 → yKp n tg I R n1 tg1 I1 R1 → I1 83 0 = Int32.ofInt 2 → yGm n I1 I → yRf n I R I1 R1 → c1 ≤ c + 0 → s1 ≤ s + 0 → Q (.inl (some (.int v))) (n1, tg1, I1, R1) c1 s1) (hQ0a : ∀ b, b = yAd R 88 x1.toInt.toNat → (0 ≤ x1.toInt ∧ x1.toInt < (I 88 2).toInt) ∧ (I b 3).toInt = 0 ∧ lv = -1 → ∀ (v : Int32) n1 tg1 I1 R1 c1 s1, ySh n1 tg1 R1 → yRI (K + 1) n1 tg1 I1 R1 → yKp n tg I R n1 tg1 I1 R1 → I1 83 0 = Int32.ofInt 0 → v = I b 0 → yGm n I1 (upd2 I b 3 (Int32.ofInt 1)) → yX n tg (upd2 (upd2 I 83 0 (Int32.ofInt 0)) b 3 (Int32.ofInt 1)) R n1 tg1 I1 R1 → c1 ≤ c + 0 → s1 ≤ s + 0 → Q (.inl (some (.int v))) (n1, tg1, I1, R1) c1 s1) (hQ0b : ∀ b, b = yAd R 88 x1.toInt.toNat → ∀ d, d = yAd R 90 lv.toNat → (0 ≤ x1.toInt ∧ x1.toInt < (I 88 2).toInt) ∧ (I b 3).toInt = 0 ∧ 0 ≤ lv ∧ lv < (I 90 2).toInt → ∀ (v : Int32) n1 tg1 I1 R1 c1 s1, ySh n1 tg1 R1 → yRI (K + 1) n1 tg1 I1 R1 → yKp n tg I R n1 tg1 I1 R1 → I1 83 0 = Int32.ofInt 0 → v = I b 0 → yGm n I1 (upd2 (upd2 I b 3 (Int32.ofInt 1)) d 5 (Int32.ofInt 1)) → yX n tg (upd2 (upd2 (upd2 I 83 0 (Int32.ofInt 0)) b 3 (Int32.ofInt 1)) d 5 (Int32.ofInt 1)) R n1 tg1 I1 R1 → c1 ≤ c + 0 → s1 ≤ s + 0 → Q (.inl (some (.int v))) (n1, tg1, I1, R1) c1 s1) : yC 200 [.ref 83, .int x1] (n, tg, I, R) c s Q := by
  have hno := Nat.le_refl n
  have hn := hno
  have hRo := hR0
  have hK : yKp n tg I R n tg I R := yKp.rf
  have hX : yX n tg I R n tg I R := yX.rf
  have hS := hS0
  have hR := hR0
  have h94 : 94 ≤ n := hS0.1
  have hz : ySz I I := hX.sz h94
  have hxn := hX.1
  have hN := hR0.1
  have hnb : 94 ≤ n := hR0.2.2.2.2.2.2
  have hg : yGm n I I := yGm.rf
  have hday : I 83 1 = I 83 1 := rfl
  have hb83 : ∀ a, a ≠ 83 → a < n → I a = I a := fun _ _ _ => rfl
  have hRb : ∀ a, a < n → R a = R a := fun _ _ => rfl
  have hB : yX n tg I R n tg I R := yX.rf
  have h8 : ∀ a, 84 ≤ a → a ≤ 86 → I a = I a := fun _ _ _ => rfl
  have h3k : ∀ k, k ≠ 0 → I 83 k = I 83 k := fun _ _ => rfl
  refine y_in (M := xm_X14_ruin) (ls := [some _, some _]) rfl rfl rfl ?_
  refine y_aload_n rfl rfl ?_
  refine y_aload_n rfl rfl ?_
  refine y_iload_n rfl rfl ?_
  refine y_virt rfl rfl rfl rfl rfl (ySh.t hS rfl) (ySh.n hS rfl) ?_
  refine y_in (M := xm_X14_isNoThing) (ls := [some _, some _]) rfl rfl rfl ?_
  refine y_iload_n rfl rfl ?_
  refine y_iconst rfl ?_
  refine y_aload_n rfl rfl ?_
  refine y_getR rfl (ySh.t hS rfl) (ySh.n hS rfl) rfl rfl (ySh.r hS rfl) ?_
  refine y_virt rfl rfl rfl rfl rfl (ySh.t hS rfl) (ySh.n hS rfl) ?_
  refine y_in (M := xm_Jx4a65c_size_8abf5) (ls := [some _]) rfl rfl rfl ?_
  refine y_aload_n rfl rfl ?_
  refine y_getI rfl (ySh.t hS rfl) (ySh.n hS rfl) rfl rfl ?_
  refine y_ireturn rfl rfl rfl ?_
  refine y_ret1 ?_
  refine y_iconst rfl ?_
  refine y_isub rfl ?_
  refine y_static rfl rfl rfl rfl rfl ?_
  refine r_isIn (fun h_1 h_2 => ?_) (fun h_3 => ?_)
  · rw [yz_0] at h_1
    try rw [ysub (by rw [yz_1]; omega) (by rw [yz_1]; omega), yz_1] at h_2
    refine y_ret1 ?_
    refine y_if_neT rfl j_X14_isNoThing_21 (by decide) ?_
    refine y_iconst rfl ?_
    refine y_ireturn rfl rfl rfl ?_
    refine y_ret1 ?_
    refine y_iconst rfl ?_
    refine y_virt rfl rfl rfl rfl rfl (ySh.t hS rfl) (ySh.n hS rfl) ?_
    refine y_in (M := xm_X14_start) (ls := [some _, some _, some _]) rfl rfl rfl ?_
    refine y_aload_n rfl rfl ?_
    refine y_iconst rfl ?_
    refine y_putI rfl (ySh.t hS rfl) (ySh.n hS rfl) rfl (Nat.le_of_ble_eq_true rfl) rfl rfl ?_
    refine y_nameI (fun I4 e4 => ?_)
    have hR1 := (hR0.grow hX).mod0 e4 (by decide) (by decide)
    have hK := (hK.x hRo hno hX).upI (upI e4) (by decide) (by decide) (fun i hi => by have := (hRo.l87.2.2.2.2 i hi).2.1; omega) (by rw [e4, upd2_ne (.inr (by decide))]; exact Int.le_refl _)
    have hth : I4 83 0 = Int32.ofInt (0) := by rw [e4, upd2_self]
    have hzz : ySz8 I I4 := ySz8_of (upI e4) (by rw [e4]; exact ⟨upd2_ne (.inr (by decide)), upd2_ne (.inr (by decide))⟩)
    have hB := (hB.trans hX).wr e4 rfl
    have h8 : ∀ a, 84 ≤ a → a ≤ 86 → I4 a = I a := fun a h1 h2 => (upI e4 a (by omega)).trans ((hX.2.1 a (by omega)).2.1.trans (h8 a h1 h2))
    have h3k : ∀ k, k ≠ 0 → I4 83 k = I 83 k := fun k hk => (congrFun (congrFun e4 83) k).trans ((upd2_ne (.inr hk)).trans ((congrFun (hX.2.1 83 (by omega)).2.1 k).trans (h3k k hk)))
    have hg := (hg.gx hX (by omega)).skip e4 (by decide)
    have hday : I4 83 1 = I 83 1 := (congrFun (congrFun e4 83) 1).trans ((upd2_ne (.inr (by decide))).trans ((congrFun (hX.2.1 83 (by omega)).2.1 1).trans hday))
    have hRb : ∀ a, a < n → R a = R a := fun a ha => (hX.2.1 a (by omega)).2.2.trans (hRb a ha)
    have hb83 : ∀ a, a ≠ 83 → a < n → I4 a = I a := fun a ha hb => (upI e4 a ha).trans ((hX.2.1 a (by omega)).2.1.trans (hb83 a ha hb))
    have hS0 := hS
    have hR0 := hR1
    have hn := Nat.le_refl n
    have h94 := hS0.1
    have hX := @yX.rf n tg I4 R
    have hS := hS0.x hX
    have hR := hR0.x hn hX
    have hz := hX.sz h94
    have hxn := hX.1
    have hN := hR0.1
    have hnb := hR0.2.2.2.2.2.2
    have hthB := hth
    refine y_aload_n rfl rfl ?_
    refine y_iload_n rfl rfl ?_
    refine y_iload_n rfl rfl ?_
    refine y_virt rfl rfl rfl rfl rfl (ySh.t hS rfl) (ySh.n hS rfl) ?_
    refine y_in (M := xm_X14_refuse) (ls := [some _, some _, some _]) rfl rfl rfl ?_
    refine y_iload_n rfl rfl ?_
    refine y_if_eqT rfl j_X14_refuse_16 (by decide) ?_
    refine y_aload_n rfl rfl ?_
    refine y_getIv (v := Int32.ofInt (0)) rfl (ySh.t hS rfl) (ySh.n hS rfl) rfl rfl hth ?_
    refine y_if_leT rfl j_X14_refuse_27 (by decide) ?_
    refine y_iconst rfl ?_
    refine y_ireturn rfl rfl rfl ?_
    refine y_ret1 ?_
    refine y_ireturn rfl rfl rfl ?_
    refine y_ret1 ?_
    refine y_if_neF rfl (by decide) ?_
    refine y_aload_n rfl rfl ?_
    refine y_aload_n rfl rfl ?_
    refine y_getR rfl (ySh.t hS rfl) (ySh.n hS rfl) rfl rfl (ySh.r hS rfl) ?_
    refine y_iload_n rfl rfl ?_
    refine y_virt rfl rfl rfl rfl rfl (ySh.t hS rfl) (ySh.n hS rfl) ?_
    refine l_get (nb := n) (ySh.t hS rfl) (ySh.n hS rfl) (Nat.le_trans hn hX.1) hR.l88 (by omega) (by omega) (fun b5 eb_b5 hlo_b5 hb0_b5 ht_b5 => ?_)
    have hb_b5 := Nat.lt_of_lt_of_le hb0_b5 hn
    replace ht_b5 := (hX.2.1 _ hb_b5).1.symm.trans ht_b5
    have hw_b5 := hR.thi hlo_b5 hb0_b5 ((hX.2.1 _ hb_b5).1.trans ht_b5)
    have hq_b5_1 := congrArg Int32.toInt (congrFun ((hg.gx hX (by omega)) _ hlo_b5 (by omega)) 1)
    refine y_ret1 ?_
    refine y_cast rfl ((hX.2.1 _ hb_b5).1.trans ht_b5) (Nat.lt_of_lt_of_le hb_b5 hX.1) ?_
    refine y_getIv (v := I b5 3) rfl ((hX.2.1 _ hb_b5).1.trans ht_b5) (Nat.lt_of_lt_of_le hb_b5 hX.1) rfl rfl (congrFun ((hg.gx hX (by omega)) _ hlo_b5 (by omega)) 3) ?_
    refine y_iconst rfl ?_
    refine y_virt rfl rfl rfl rfl rfl (ySh.t hS rfl) (ySh.n hS rfl) ?_
    refine y_in (M := xm_X14_refuse) (ls := [some _, some _, some _]) rfl rfl rfl ?_
    refine y_iload_n rfl rfl ?_
    refine y_if_eq rfl j_X14_refuse_16 (fun h_6 => ?_) (fun h_7 => ?_)
    · refine y_aload_n rfl rfl ?_
      refine y_getIv (v := Int32.ofInt (0)) rfl (ySh.t hS rfl) (ySh.n hS rfl) rfl rfl hth ?_
      refine y_if_leT rfl j_X14_refuse_27 (by decide) ?_
      refine y_iconst rfl ?_
      refine y_ireturn rfl rfl rfl ?_
      refine y_ret1 ?_
      refine y_if_eqT rfl j_X14_ruin_37 (by decide) ?_
      refine y_aload_n rfl rfl ?_
      refine y_getR rfl (ySh.t hS rfl) (ySh.n hS rfl) rfl rfl (ySh.r hS rfl) ?_
      refine y_iload_n rfl rfl ?_
      refine y_virt rfl rfl rfl rfl rfl (ySh.t hS rfl) (ySh.n hS rfl) ?_
      refine l_get (nb := n) (ySh.t hS rfl) (ySh.n hS rfl) (Nat.le_trans hn hX.1) hR.l88 (by omega) (by omega) (fun c8 eb_c8 _ _ _ => ?_)
      rw [show c8 = b5 from eb_c8.trans eb_b5.symm]
      refine y_ret1 ?_
      refine y_cast rfl ((hX.2.1 _ hb_b5).1.trans ht_b5) (Nat.lt_of_lt_of_le hb_b5 hX.1) ?_
      refine y_iconst rfl ?_
      refine y_putI rfl ((hX.2.1 _ hb_b5).1.trans ht_b5) (Nat.lt_of_lt_of_le hb_b5 hX.1) rfl (Nat.le_trans (by decide) (by omega : 94 ≤ _)) rfl rfl ?_
      refine y_nameI (fun I9 e9 => ?_)
      have hR1 := (hR0.grow hX).upT e9 hlo_b5 (by omega) ((hX.2.1 _ hb_b5).1.trans ht_b5) (fun h => absurd h (by decide))
      have hK := (hK.x hRo hno hX).upE hRo hno (upI e9) (by omega) (by omega) (by rw [((hX.2.1 _ hb_b5).1.trans ht_b5)]; decide) (by rw [e9, upd2_ne (.inl (by omega))]; exact Int.le_refl _)
      have hth := (show I9 83 0 = I4 83 0 by rw [e9, upd2_ne (.inl (by omega))]).trans hth
      have hzz : ySz I4 I9 := ySz_ofE (upI e9) (by omega)
      have hB := (hB.trans hX).wr e9 rfl
      have h8 : ∀ a, 84 ≤ a → a ≤ 86 → I9 a = I a := fun a h1 h2 => (upI e9 a (by omega)).trans ((hX.2.1 a (by omega)).2.1.trans (h8 a h1 h2))
      have h3k : ∀ k, k ≠ 0 → I9 83 k = I 83 k := fun k hk => (congrFun (congrFun e9 83) k).trans ((upd2_ne (.inl (by omega))).trans ((congrFun (hX.2.1 83 (by omega)).2.1 k).trans (h3k k hk)))
      have hg := (hg.gx hX (by omega)).both e9
      have hday : I9 83 1 = I 83 1 := (congrFun (congrFun e9 83) 1).trans ((upd2_ne (.inl (by omega))).trans ((congrFun (hX.2.1 83 (by omega)).2.1 1).trans hday))
      have hRb : ∀ a, a < n → R a = R a := fun a ha => (hX.2.1 a (by omega)).2.2.trans (hRb a ha)
      have hS0 := hS
      have hR0 := hR1
      have ht_b5 := (hX.2.1 _ hb_b5).1.trans ht_b5
      have hb_b5 := Nat.lt_of_lt_of_le hb_b5 hX.1
      have hb0_b5 := hb_b5
      have hn := Nat.le_refl n
      have h94 := hS0.1
      have hX := @yX.rf n tg I9 R
      have hS := hS0.x hX
      have hR := hR0.x hn hX
      have hz := hX.sz h94
      have hxn := hX.1
      have hw_b5 := hR.thi hlo_b5 hb0_b5 ((hX.2.1 _ hb_b5).1.trans ht_b5)
      have hN := hR0.1
      have hnb := hR0.2.2.2.2.2.2
      have hthB := hth
      refine y_aload_n rfl rfl ?_
      refine y_iload_n rfl rfl ?_
      refine y_virt rfl rfl rfl rfl rfl (ySh.t hS rfl) (ySh.n hS rfl) ?_
      have hlv_c : yLf I9 R x1 lv := hlv.cg (by omega) (fun i hi => by
        have hq_ := hRo.l90.2.2.2.2 i hi
        exact ⟨yAd_eq (hX.2.1 90 (by omega)).2.2 (hX.2.1 _ (by have := hRo.lt6 90 (by decide) (by decide); omega)).2.2, ((congrFun ((hg.gx hX (by omega)) _ hq_.2.1 hq_.2.2.1) 0).trans (by rw [upd2_ne (.inr (by decide))])), ((congrFun ((hg.gx hX (by omega)) _ hq_.2.1 hq_.2.2.1) 5).trans (by rw [upd2_ne (.inr (by decide))]))⟩)
      refine r_leaseOf hS hR (Nat.le_trans hn hX.1) (fun v_10 hv_10 => ?_)
      have hl_10 := hlv_c v_10 hv_10
      replace hv_10 : v_10.toInt = -1 ∨ 0 ≤ v_10.toInt ∧ v_10.toInt < (I9 90 2).toInt := hv_10.imp (fun q => q.1) (fun q => ⟨q.1, q.2.1⟩)
      refine y_ret1 ?_
      refine y_iconst rfl ?_
      refine y_icmp_eq rfl j_X14_ruin_80 (fun h_11 => ?_) (fun h_12 => ?_)
      · rw [yz_m1] at h_11
        refine y_aload_n rfl rfl ?_
        refine y_getR rfl (ySh.t hS rfl) (ySh.n hS rfl) rfl rfl (ySh.r hS rfl) ?_
        refine y_iload_n rfl rfl ?_
        refine y_virt rfl rfl rfl rfl rfl (ySh.t hS rfl) (ySh.n hS rfl) ?_
        refine l_get (nb := n) (ySh.t hS rfl) (ySh.n hS rfl) (Nat.le_trans hn hX.1) hR.l88 (by omega) (by omega) (fun c13 eb_c13 _ _ _ => ?_)
        rw [show c13 = b5 from eb_c13.trans eb_b5.symm]
        refine y_ret1 ?_
        refine y_cast rfl ((hX.2.1 _ hb_b5).1.trans ht_b5) (Nat.lt_of_lt_of_le hb_b5 hX.1) ?_
        refine y_getIv (v := I b5 0) rfl ((hX.2.1 _ hb_b5).1.trans ht_b5) (Nat.lt_of_lt_of_le hb_b5 hX.1) rfl rfl ((congrFun ((hg.gx hX (by omega)) _ hlo_b5 (by omega)) 0).trans (by rw [upd2_ne (.inr (by decide))])) ?_
        refine y_ireturn rfl rfl rfl ?_
        exact hQ0a _ eb_b5 (by omega) _ _ _ _ _ _ _ hS ((hR0.grow hX).up (Nat.le_succ K) hk6) (hK.x hRo hno hX) hth rfl (hg.gx hX (by omega)) (hB.trans hX) (by omega) (by omega)
      · rw [yz_m1] at h_12
        refine y_aload_n rfl rfl ?_
        refine y_getR rfl (ySh.t hS rfl) (ySh.n hS rfl) rfl rfl (ySh.r hS rfl) ?_
        refine y_aload_n rfl rfl ?_
        refine y_iload_n rfl rfl ?_
        refine y_virt rfl rfl rfl rfl rfl (ySh.t hS rfl) (ySh.n hS rfl) ?_
        have hlv_c : yLf I9 R x1 lv := hlv.cg (by omega) (fun i hi => by
          have hq_ := hRo.l90.2.2.2.2 i hi
          exact ⟨yAd_eq (hX.2.1 90 (by omega)).2.2 (hX.2.1 _ (by have := hRo.lt6 90 (by decide) (by decide); omega)).2.2, ((congrFun ((hg.gx hX (by omega)) _ hq_.2.1 hq_.2.2.1) 0).trans (by rw [upd2_ne (.inr (by decide))])), ((congrFun ((hg.gx hX (by omega)) _ hq_.2.1 hq_.2.2.1) 5).trans (by rw [upd2_ne (.inr (by decide))]))⟩)
        refine r_leaseOf hS hR (Nat.le_trans hn hX.1) (fun v_14 hv_14 => ?_)
        have hl_14 := hlv_c v_14 hv_14
        replace hv_14 : v_14.toInt = -1 ∨ 0 ≤ v_14.toInt ∧ v_14.toInt < (I9 90 2).toInt := hv_14.imp (fun q => q.1) (fun q => ⟨q.1, q.2.1⟩)
        refine y_ret1 ?_
        refine y_virt rfl rfl rfl rfl rfl (ySh.t hS rfl) (ySh.n hS rfl) ?_
        refine l_get (nb := n) (ySh.t hS rfl) (ySh.n hS rfl) (Nat.le_trans hn hX.1) hR.l90 (by omega) (by omega) (fun b15 eb_b15 hlo_b15 hb0_b15 ht_b15 => ?_)
        have hb_b15 := Nat.lt_of_lt_of_le hb0_b15 hn
        replace ht_b15 := (hX.2.1 _ hb_b15).1.symm.trans ht_b15
        have hw_b15 := hR.lea hlo_b15 hb0_b15 ((hX.2.1 _ hb_b15).1.trans ht_b15)
        refine y_ret1 ?_
        refine y_cast rfl ((hX.2.1 _ hb_b15).1.trans ht_b15) (Nat.lt_of_lt_of_le hb_b15 hX.1) ?_
        refine y_iconst rfl ?_
        refine y_putI rfl ((hX.2.1 _ hb_b15).1.trans ht_b15) (Nat.lt_of_lt_of_le hb_b15 hX.1) rfl (Nat.le_trans (by decide) (by omega : 94 ≤ _)) rfl rfl ?_
        refine y_nameI (fun I16 e16 => ?_)
        have hR1 := (hR0.grow hX).upL e16 hlo_b15 (by omega) ((hX.2.1 _ hb_b15).1.trans ht_b15) (by decide)
        have hK := (hK.x hRo hno hX).upE hRo hno (upI e16) (by omega) (by omega) (by rw [((hX.2.1 _ hb_b15).1.trans ht_b15)]; decide) (by rw [e16, upd2_ne (.inl (by omega))]; exact Int.le_refl _)
        have hth := (show I16 83 0 = I9 83 0 by rw [e16, upd2_ne (.inl (by omega))]).trans hth
        have hzz : ySz I9 I16 := ySz_ofE (upI e16) (by omega)
        have hB := (hB.trans hX).wr e16 rfl
        have h8 : ∀ a, 84 ≤ a → a ≤ 86 → I16 a = I a := fun a h1 h2 => (upI e16 a (by omega)).trans ((hX.2.1 a (by omega)).2.1.trans (h8 a h1 h2))
        have h3k : ∀ k, k ≠ 0 → I16 83 k = I 83 k := fun k hk => (congrFun (congrFun e16 83) k).trans ((upd2_ne (.inl (by omega))).trans ((congrFun (hX.2.1 83 (by omega)).2.1 k).trans (h3k k hk)))
        have hg := (hg.gx hX (by omega)).both e16
        have hday : I16 83 1 = I 83 1 := (congrFun (congrFun e16 83) 1).trans ((upd2_ne (.inl (by omega))).trans ((congrFun (hX.2.1 83 (by omega)).2.1 1).trans hday))
        have hRb : ∀ a, a < n → R a = R a := fun a ha => (hX.2.1 a (by omega)).2.2.trans (hRb a ha)
        have hS0 := hS
        have hR0 := hR1
        have ht_b5 := (hX.2.1 _ hb_b5).1.trans ht_b5
        have hb_b5 := Nat.lt_of_lt_of_le hb_b5 hX.1
        have hb0_b5 := hb_b5
        have ht_b15 := (hX.2.1 _ hb_b15).1.trans ht_b15
        have hb_b15 := Nat.lt_of_lt_of_le hb_b15 hX.1
        have hb0_b15 := hb_b15
        have hn := Nat.le_refl n
        have h94 := hS0.1
        have hX := @yX.rf n tg I16 R
        have hS := hS0.x hX
        have hR := hR0.x hn hX
        have hz := hX.sz h94
        have hxn := hX.1
        have hw_b5 := hR.thi hlo_b5 hb0_b5 ((hX.2.1 _ hb_b5).1.trans ht_b5)
        have hw_b15 := hR.lea hlo_b15 hb0_b15 ((hX.2.1 _ hb_b15).1.trans ht_b15)
        have hN := hR0.1
        have hnb := hR0.2.2.2.2.2.2
        have hthB := hth
        refine y_aload_n rfl rfl ?_
        refine y_getR rfl (ySh.t hS rfl) (ySh.n hS rfl) rfl rfl (ySh.r hS rfl) ?_
        refine y_iload_n rfl rfl ?_
        refine y_virt rfl rfl rfl rfl rfl (ySh.t hS rfl) (ySh.n hS rfl) ?_
        refine l_get (nb := n) (ySh.t hS rfl) (ySh.n hS rfl) (Nat.le_trans hn hX.1) hR.l88 (by omega) (by omega) (fun c17 eb_c17 _ _ _ => ?_)
        rw [show c17 = b5 from eb_c17.trans eb_b5.symm]
        refine y_ret1 ?_
        refine y_cast rfl ((hX.2.1 _ hb_b5).1.trans ht_b5) (Nat.lt_of_lt_of_le hb_b5 hX.1) ?_
        refine y_getIv (v := I b5 0) rfl ((hX.2.1 _ hb_b5).1.trans ht_b5) (Nat.lt_of_lt_of_le hb_b5 hX.1) rfl rfl ((congrFun ((hg.gx hX (by omega)) _ hlo_b5 (by omega)) 0).trans (by rw [upd2_ne (.inr (by decide)), upd2_ne (.inr (by decide))])) ?_
        refine y_ireturn rfl rfl rfl ?_
        exact hQ0b _ eb_b5 _ (eb_b15.trans (by rw [show v_14.toInt.toNat = lv.toNat by omega])) (by omega) _ _ _ _ _ _ _ hS ((hR0.grow hX).up (Nat.le_succ K) hk6) (hK.x hRo hno hX) hth rfl (hg.gx hX (by omega)) (hB.trans hX) (by omega) (by omega)
    · refine y_aload_n rfl rfl ?_
      refine y_getIv (v := Int32.ofInt (0)) rfl (ySh.t hS rfl) (ySh.n hS rfl) rfl rfl hth ?_
      refine y_if_neF rfl (by decide) ?_
      refine y_aload_n rfl rfl ?_
      refine y_iload_n rfl rfl ?_
      refine y_putI rfl (ySh.t hS rfl) (ySh.n hS rfl) rfl (Nat.le_of_ble_eq_true rfl) rfl rfl ?_
      refine y_nameI (fun I18 e18 => ?_)
      have hR1 := (hR0.grow hX).mod0 e18 (by decide) (by decide)
      have hK := (hK.x hRo hno hX).upI (upI e18) (by decide) (by decide) (fun i hi => by have := (hRo.l87.2.2.2.2 i hi).2.1; omega) (by rw [e18, upd2_ne (.inr (by decide))]; exact Int.le_refl _)
      have hth : I18 83 0 = Int32.ofInt (2) := by rw [e18, upd2_self]
      have hzz : ySz8 I4 I18 := ySz8_of (upI e18) (by rw [e18]; exact ⟨upd2_ne (.inr (by decide)), upd2_ne (.inr (by decide))⟩)
      have hB := (hB.trans hX).wr e18 rfl
      have h8 : ∀ a, 84 ≤ a → a ≤ 86 → I18 a = I a := fun a h1 h2 => (upI e18 a (by omega)).trans ((hX.2.1 a (by omega)).2.1.trans (h8 a h1 h2))
      have h3k : ∀ k, k ≠ 0 → I18 83 k = I 83 k := fun k hk => (congrFun (congrFun e18 83) k).trans ((upd2_ne (.inr hk)).trans ((congrFun (hX.2.1 83 (by omega)).2.1 k).trans (h3k k hk)))
      have hg := (hg.gx hX (by omega)).skip e18 (by decide)
      have hday : I18 83 1 = I 83 1 := (congrFun (congrFun e18 83) 1).trans ((upd2_ne (.inr (by decide))).trans ((congrFun (hX.2.1 83 (by omega)).2.1 1).trans hday))
      have hRb : ∀ a, a < n → R a = R a := fun a ha => (hX.2.1 a (by omega)).2.2.trans (hRb a ha)
      have hb83 : ∀ a, a ≠ 83 → a < n → I18 a = I a := fun a ha hb => (upI e18 a ha).trans ((hX.2.1 a (by omega)).2.1.trans (hb83 a ha hb))
      have hS0 := hS
      have hR0 := hR1
      have ht_b5 := (hX.2.1 _ hb_b5).1.trans ht_b5
      have hb_b5 := Nat.lt_of_lt_of_le hb_b5 hX.1
      have hb0_b5 := hb_b5
      have hn := Nat.le_refl n
      have h94 := hS0.1
      have hX := @yX.rf n tg I18 R
      have hS := hS0.x hX
      have hR := hR0.x hn hX
      have hz := hX.sz h94
      have hxn := hX.1
      have hw_b5 := hR.thi hlo_b5 hb0_b5 ((hX.2.1 _ hb_b5).1.trans ht_b5)
      have hN := hR0.1
      have hnb := hR0.2.2.2.2.2.2
      have hthB := hth
      refine y_aload_n rfl rfl ?_
      refine y_getIv (v := Int32.ofInt (2)) rfl (ySh.t hS rfl) (ySh.n hS rfl) rfl rfl hth ?_
      refine y_if_leF rfl (by decide) ?_
      refine y_iconst rfl ?_
      refine y_goto rfl j_X14_refuse_28 ?_
      refine y_ireturn rfl rfl rfl ?_
      refine y_ret1 ?_
      refine y_if_eqF rfl (by decide) ?_
      refine y_iconst rfl ?_
      refine y_ireturn rfl rfl rfl ?_
      exact hQ2 _ eb_b5 (by omega) _ _ _ _ _ _ _ hS ((hR0.grow hX).up (Nat.le_succ K) hk6) (hK.x hRo hno hX) hth (hg.gx hX (by omega)) ((hB.trans hX).rf2 (by omega)) (by omega) (by omega)
  · rw [yz_0] at h_3
    try rw [ysub (by rw [yz_1]; omega) (by rw [yz_1]; omega), yz_1] at h_3
    refine y_ret1 ?_
    refine y_if_neF rfl (by decide) ?_
    refine y_iconst rfl ?_
    refine y_goto rfl j_X14_isNoThing_22 ?_
    refine y_ireturn rfl rfl rfl ?_
    refine y_ret1 ?_
    refine y_iconst rfl ?_
    refine y_virt rfl rfl rfl rfl rfl (ySh.t hS rfl) (ySh.n hS rfl) ?_
    refine y_in (M := xm_X14_start) (ls := [some _, some _, some _]) rfl rfl rfl ?_
    refine y_aload_n rfl rfl ?_
    refine y_iconst rfl ?_
    refine y_putI rfl (ySh.t hS rfl) (ySh.n hS rfl) rfl (Nat.le_of_ble_eq_true rfl) rfl rfl ?_
    refine y_nameI (fun I19 e19 => ?_)
    have hR1 := (hR0.grow hX).mod0 e19 (by decide) (by decide)
    have hK := (hK.x hRo hno hX).upI (upI e19) (by decide) (by decide) (fun i hi => by have := (hRo.l87.2.2.2.2 i hi).2.1; omega) (by rw [e19, upd2_ne (.inr (by decide))]; exact Int.le_refl _)
    have hth : I19 83 0 = Int32.ofInt (0) := by rw [e19, upd2_self]
    have hzz : ySz8 I I19 := ySz8_of (upI e19) (by rw [e19]; exact ⟨upd2_ne (.inr (by decide)), upd2_ne (.inr (by decide))⟩)
    have hB := (hB.trans hX).wr e19 rfl
    have h8 : ∀ a, 84 ≤ a → a ≤ 86 → I19 a = I a := fun a h1 h2 => (upI e19 a (by omega)).trans ((hX.2.1 a (by omega)).2.1.trans (h8 a h1 h2))
    have h3k : ∀ k, k ≠ 0 → I19 83 k = I 83 k := fun k hk => (congrFun (congrFun e19 83) k).trans ((upd2_ne (.inr hk)).trans ((congrFun (hX.2.1 83 (by omega)).2.1 k).trans (h3k k hk)))
    have hg := (hg.gx hX (by omega)).skip e19 (by decide)
    have hday : I19 83 1 = I 83 1 := (congrFun (congrFun e19 83) 1).trans ((upd2_ne (.inr (by decide))).trans ((congrFun (hX.2.1 83 (by omega)).2.1 1).trans hday))
    have hRb : ∀ a, a < n → R a = R a := fun a ha => (hX.2.1 a (by omega)).2.2.trans (hRb a ha)
    have hb83 : ∀ a, a ≠ 83 → a < n → I19 a = I a := fun a ha hb => (upI e19 a ha).trans ((hX.2.1 a (by omega)).2.1.trans (hb83 a ha hb))
    have hS0 := hS
    have hR0 := hR1
    have hn := Nat.le_refl n
    have h94 := hS0.1
    have hX := @yX.rf n tg I19 R
    have hS := hS0.x hX
    have hR := hR0.x hn hX
    have hz := hX.sz h94
    have hxn := hX.1
    have hN := hR0.1
    have hnb := hR0.2.2.2.2.2.2
    have hthB := hth
    refine y_aload_n rfl rfl ?_
    refine y_iload_n rfl rfl ?_
    refine y_iload_n rfl rfl ?_
    refine y_virt rfl rfl rfl rfl rfl (ySh.t hS rfl) (ySh.n hS rfl) ?_
    refine y_in (M := xm_X14_refuse) (ls := [some _, some _, some _]) rfl rfl rfl ?_
    refine y_iload_n rfl rfl ?_
    refine y_if_eqF rfl (by decide) ?_
    refine y_aload_n rfl rfl ?_
    refine y_getIv (v := Int32.ofInt (0)) rfl (ySh.t hS rfl) (ySh.n hS rfl) rfl rfl hth ?_
    refine y_if_neF rfl (by decide) ?_
    refine y_aload_n rfl rfl ?_
    refine y_iload_n rfl rfl ?_
    refine y_putI rfl (ySh.t hS rfl) (ySh.n hS rfl) rfl (Nat.le_of_ble_eq_true rfl) rfl rfl ?_
    refine y_nameI (fun I20 e20 => ?_)
    have hR1 := (hR0.grow hX).mod0 e20 (by decide) (by decide)
    have hK := (hK.x hRo hno hX).upI (upI e20) (by decide) (by decide) (fun i hi => by have := (hRo.l87.2.2.2.2 i hi).2.1; omega) (by rw [e20, upd2_ne (.inr (by decide))]; exact Int.le_refl _)
    have hth : I20 83 0 = Int32.ofInt (1) := by rw [e20, upd2_self]
    have hzz : ySz8 I19 I20 := ySz8_of (upI e20) (by rw [e20]; exact ⟨upd2_ne (.inr (by decide)), upd2_ne (.inr (by decide))⟩)
    have hB := (hB.trans hX).wr e20 rfl
    have h8 : ∀ a, 84 ≤ a → a ≤ 86 → I20 a = I a := fun a h1 h2 => (upI e20 a (by omega)).trans ((hX.2.1 a (by omega)).2.1.trans (h8 a h1 h2))
    have h3k : ∀ k, k ≠ 0 → I20 83 k = I 83 k := fun k hk => (congrFun (congrFun e20 83) k).trans ((upd2_ne (.inr hk)).trans ((congrFun (hX.2.1 83 (by omega)).2.1 k).trans (h3k k hk)))
    have hg := (hg.gx hX (by omega)).skip e20 (by decide)
    have hday : I20 83 1 = I 83 1 := (congrFun (congrFun e20 83) 1).trans ((upd2_ne (.inr (by decide))).trans ((congrFun (hX.2.1 83 (by omega)).2.1 1).trans hday))
    have hRb : ∀ a, a < n → R a = R a := fun a ha => (hX.2.1 a (by omega)).2.2.trans (hRb a ha)
    have hb83 : ∀ a, a ≠ 83 → a < n → I20 a = I a := fun a ha hb => (upI e20 a ha).trans ((hX.2.1 a (by omega)).2.1.trans (hb83 a ha hb))
    have hS0 := hS
    have hR0 := hR1
    have hn := Nat.le_refl n
    have h94 := hS0.1
    have hX := @yX.rf n tg I20 R
    have hS := hS0.x hX
    have hR := hR0.x hn hX
    have hz := hX.sz h94
    have hxn := hX.1
    have hN := hR0.1
    have hnb := hR0.2.2.2.2.2.2
    have hthB := hth
    refine y_aload_n rfl rfl ?_
    refine y_getIv (v := Int32.ofInt (1)) rfl (ySh.t hS rfl) (ySh.n hS rfl) rfl rfl hth ?_
    refine y_if_leF rfl (by decide) ?_
    refine y_iconst rfl ?_
    refine y_goto rfl j_X14_refuse_28 ?_
    refine y_ireturn rfl rfl rfl ?_
    refine y_ret1 ?_
    refine y_ireturn rfl rfl rfl ?_
    refine y_ret1 ?_
    refine y_if_neT rfl j_X14_ruin_35 (by decide) ?_
    refine y_iconst rfl ?_
    refine y_ireturn rfl rfl rfl ?_
    exact hQ1 (by omega) _ _ _ _ _ _ _ hS ((hR0.grow hX).up (Nat.le_succ K) hk6) (hK.x hRo hno hX) hth (hg.gx hX (by omega)) ((hB.trans hX).rf2 (by omega)) (by omega) (by omega)
theorem h_end (hS0 : ySh n tg R) (hR0 : yRI K n tg I R) (hk6 : K < 600) {x1 x2 : Int32} (hQ1 : ¬ (0 ≤ x1.toInt ∧ x1.toInt < (I 90 2).toInt) → ∀ (v : Int32) n1 tg1 I1 R1 c1 s1, ySh n1 tg1 R1 → yRI (K + 1) n1 tg1 I1 R1 → yKp n tg I R n1 tg1 I1 R1 → I1 83 0 = Int32.ofInt 1 → yGm n I1 I → yRf n I R I1 R1 → c1 ≤ c + 0 → s1 ≤ s + 0 → Q (.inl (some (.int v))) (n1, tg1, I1, R1) c1 s1) (hQ2 : ∀ b, b = yAd R 90 x1.toInt.toNat → (0 ≤ x1.toInt ∧ x1.toInt < (I 90 2).toInt) ∧ ¬ (I b 5).toInt = 0 → ∀ (v : Int32) n1 tg1 I1 R1 c1 s1, ySh n1 tg1 R1 → yRI (K + 1) n1 tg1 I1 R1 → yKp n tg I R n1 tg1 I1 R1 → I1 83 0 = Int32.ofInt 2 → yGm n I1 I → yRf n I R I1 R1 → c1 ≤ c + 0 → s1 ≤ s + 0 → Q (.inl (some (.int v))) (n1, tg1, I1, R1) c1 s1) (hQ0a : ∀ b, b = yAd R 90 x1.toInt.toNat → (0 ≤ x1.toInt ∧ x1.toInt < (I 90 2).toInt) ∧ (I b 5).toInt = 0 ∧ x2.toInt = 0 → ∀ (v : Int32) n1 tg1 I1 R1 c1 s1, ySh n1 tg1 R1 → yRI (K + 1) n1 tg1 I1 R1 → yKp n tg I R n1 tg1 I1 R1 → I1 83 0 = Int32.ofInt 0 → v = I b 6 → yGm n I1 (upd2 I b 5 (Int32.ofInt 1)) → yX n tg (upd2 (upd2 I 83 0 (Int32.ofInt 0)) b 5 (Int32.ofInt 1)) R n1 tg1 I1 R1 → c1 ≤ c + 0 → s1 ≤ s + 0 → Q (.inl (some (.int v))) (n1, tg1, I1, R1) c1 s1) (hQ0b : ∀ b, b = yAd R 90 x1.toInt.toNat → ∀ d, d = yAd R 88 (I b 0).toInt.toNat → (0 ≤ x1.toInt ∧ x1.toInt < (I 90 2).toInt) ∧ (I b 5).toInt = 0 ∧ ¬ x2.toInt = 0 → ∀ (v : Int32) n1 tg1 I1 R1 c1 s1, ySh n1 tg1 R1 → yRI (K + 1) n1 tg1 I1 R1 → yKp n tg I R n1 tg1 I1 R1 → I1 83 0 = Int32.ofInt 0 → v = I b 6 → yGm n I1 (upd2 (upd2 (upd2 I b 5 (Int32.ofInt 1)) d 1 (I b 1)) d 2 (Int32.ofInt 1)) → yX n tg (upd2 (upd2 (upd2 (upd2 I 83 0 (Int32.ofInt 0)) b 5 (Int32.ofInt 1)) d 1 (I b 1)) d 2 (Int32.ofInt 1)) R n1 tg1 I1 R1 → c1 ≤ c + 0 → s1 ≤ s + 0 → Q (.inl (some (.int v))) (n1, tg1, I1, R1) c1 s1) : yC 207 [.ref 83, .int x1, .int x2] (n, tg, I, R) c s Q := by
  have hno := Nat.le_refl n
  have hn := hno
  have hRo := hR0
  have hK : yKp n tg I R n tg I R := yKp.rf
  have hX : yX n tg I R n tg I R := yX.rf
  have hS := hS0
  have hR := hR0
  have h94 : 94 ≤ n := hS0.1
  have hz : ySz I I := hX.sz h94
  have hxn := hX.1
  have hN := hR0.1
  have hnb : 94 ≤ n := hR0.2.2.2.2.2.2
  have hg : yGm n I I := yGm.rf
  have hday : I 83 1 = I 83 1 := rfl
  have hb83 : ∀ a, a ≠ 83 → a < n → I a = I a := fun _ _ _ => rfl
  have hRb : ∀ a, a < n → R a = R a := fun _ _ => rfl
  have hB : yX n tg I R n tg I R := yX.rf
  have h8 : ∀ a, 84 ≤ a → a ≤ 86 → I a = I a := fun _ _ _ => rfl
  have h3k : ∀ k, k ≠ 0 → I 83 k = I 83 k := fun _ _ => rfl
  refine y_in (M := xm_X14_end) (ls := [some _, some _, some _, _]) rfl rfl rfl ?_
  refine y_aload_n rfl rfl ?_
  refine y_iload_n rfl rfl ?_
  refine y_iconst rfl ?_
  refine y_aload_n rfl rfl ?_
  refine y_getR rfl (ySh.t hS rfl) (ySh.n hS rfl) rfl rfl (ySh.r hS rfl) ?_
  refine y_virt rfl rfl rfl rfl rfl (ySh.t hS rfl) (ySh.n hS rfl) ?_
  refine y_in (M := xm_Jx4a65c_size_8abf5) (ls := [some _]) rfl rfl rfl ?_
  refine y_aload_n rfl rfl ?_
  refine y_getI rfl (ySh.t hS rfl) (ySh.n hS rfl) rfl rfl ?_
  refine y_ireturn rfl rfl rfl ?_
  refine y_ret1 ?_
  refine y_iconst rfl ?_
  refine y_isub rfl ?_
  refine y_static rfl rfl rfl rfl rfl ?_
  refine r_isIn (fun h_1 h_2 => ?_) (fun h_3 => ?_)
  · rw [yz_0] at h_1
    try rw [ysub (by rw [yz_1]; omega) (by rw [yz_1]; omega), yz_1] at h_2
    refine y_ret1 ?_
    refine y_if_neT rfl j_X14_end_22 (by decide) ?_
    refine y_iconst rfl ?_
    refine y_iconst rfl ?_
    refine y_virt rfl rfl rfl rfl rfl (ySh.t hS rfl) (ySh.n hS rfl) ?_
    refine y_in (M := xm_X14_start) (ls := [some _, some _, some _]) rfl rfl rfl ?_
    refine y_aload_n rfl rfl ?_
    refine y_iconst rfl ?_
    refine y_putI rfl (ySh.t hS rfl) (ySh.n hS rfl) rfl (Nat.le_of_ble_eq_true rfl) rfl rfl ?_
    refine y_nameI (fun I4 e4 => ?_)
    have hR1 := (hR0.grow hX).mod0 e4 (by decide) (by decide)
    have hK := (hK.x hRo hno hX).upI (upI e4) (by decide) (by decide) (fun i hi => by have := (hRo.l87.2.2.2.2 i hi).2.1; omega) (by rw [e4, upd2_ne (.inr (by decide))]; exact Int.le_refl _)
    have hth : I4 83 0 = Int32.ofInt (0) := by rw [e4, upd2_self]
    have hzz : ySz8 I I4 := ySz8_of (upI e4) (by rw [e4]; exact ⟨upd2_ne (.inr (by decide)), upd2_ne (.inr (by decide))⟩)
    have hB := (hB.trans hX).wr e4 rfl
    have h8 : ∀ a, 84 ≤ a → a ≤ 86 → I4 a = I a := fun a h1 h2 => (upI e4 a (by omega)).trans ((hX.2.1 a (by omega)).2.1.trans (h8 a h1 h2))
    have h3k : ∀ k, k ≠ 0 → I4 83 k = I 83 k := fun k hk => (congrFun (congrFun e4 83) k).trans ((upd2_ne (.inr hk)).trans ((congrFun (hX.2.1 83 (by omega)).2.1 k).trans (h3k k hk)))
    have hg := (hg.gx hX (by omega)).skip e4 (by decide)
    have hday : I4 83 1 = I 83 1 := (congrFun (congrFun e4 83) 1).trans ((upd2_ne (.inr (by decide))).trans ((congrFun (hX.2.1 83 (by omega)).2.1 1).trans hday))
    have hRb : ∀ a, a < n → R a = R a := fun a ha => (hX.2.1 a (by omega)).2.2.trans (hRb a ha)
    have hb83 : ∀ a, a ≠ 83 → a < n → I4 a = I a := fun a ha hb => (upI e4 a ha).trans ((hX.2.1 a (by omega)).2.1.trans (hb83 a ha hb))
    have hS0 := hS
    have hR0 := hR1
    have hn := Nat.le_refl n
    have h94 := hS0.1
    have hX := @yX.rf n tg I4 R
    have hS := hS0.x hX
    have hR := hR0.x hn hX
    have hz := hX.sz h94
    have hxn := hX.1
    have hN := hR0.1
    have hnb := hR0.2.2.2.2.2.2
    have hthB := hth
    refine y_aload_n rfl rfl ?_
    refine y_iload_n rfl rfl ?_
    refine y_iload_n rfl rfl ?_
    refine y_virt rfl rfl rfl rfl rfl (ySh.t hS rfl) (ySh.n hS rfl) ?_
    refine y_in (M := xm_X14_refuse) (ls := [some _, some _, some _]) rfl rfl rfl ?_
    refine y_iload_n rfl rfl ?_
    refine y_if_eqT rfl j_X14_refuse_16 (by decide) ?_
    refine y_aload_n rfl rfl ?_
    refine y_getIv (v := Int32.ofInt (0)) rfl (ySh.t hS rfl) (ySh.n hS rfl) rfl rfl hth ?_
    refine y_if_leT rfl j_X14_refuse_27 (by decide) ?_
    refine y_iconst rfl ?_
    refine y_ireturn rfl rfl rfl ?_
    refine y_ret1 ?_
    refine y_ireturn rfl rfl rfl ?_
    refine y_ret1 ?_
    refine y_if_neF rfl (by decide) ?_
    refine y_aload_n rfl rfl ?_
    refine y_aload_n rfl rfl ?_
    refine y_getR rfl (ySh.t hS rfl) (ySh.n hS rfl) rfl rfl (ySh.r hS rfl) ?_
    refine y_iload_n rfl rfl ?_
    refine y_virt rfl rfl rfl rfl rfl (ySh.t hS rfl) (ySh.n hS rfl) ?_
    refine l_get (nb := n) (ySh.t hS rfl) (ySh.n hS rfl) (Nat.le_trans hn hX.1) hR.l90 (by omega) (by omega) (fun b5 eb_b5 hlo_b5 hb0_b5 ht_b5 => ?_)
    have hb_b5 := Nat.lt_of_lt_of_le hb0_b5 hn
    replace ht_b5 := (hX.2.1 _ hb_b5).1.symm.trans ht_b5
    have hw_b5 := hR.lea hlo_b5 hb0_b5 ((hX.2.1 _ hb_b5).1.trans ht_b5)
    have hq_b5_0 := congrArg Int32.toInt (congrFun ((hg.gx hX (by omega)) _ hlo_b5 (by omega)) 0)
    have hq_b5_1 := congrArg Int32.toInt (congrFun ((hg.gx hX (by omega)) _ hlo_b5 (by omega)) 1)
    refine y_ret1 ?_
    refine y_cast rfl ((hX.2.1 _ hb_b5).1.trans ht_b5) (Nat.lt_of_lt_of_le hb_b5 hX.1) ?_
    refine y_getIv (v := I b5 5) rfl ((hX.2.1 _ hb_b5).1.trans ht_b5) (Nat.lt_of_lt_of_le hb_b5 hX.1) rfl rfl (congrFun ((hg.gx hX (by omega)) _ hlo_b5 (by omega)) 5) ?_
    refine y_iconst rfl ?_
    refine y_virt rfl rfl rfl rfl rfl (ySh.t hS rfl) (ySh.n hS rfl) ?_
    refine y_in (M := xm_X14_refuse) (ls := [some _, some _, some _]) rfl rfl rfl ?_
    refine y_iload_n rfl rfl ?_
    refine y_if_eq rfl j_X14_refuse_16 (fun h_6 => ?_) (fun h_7 => ?_)
    · refine y_aload_n rfl rfl ?_
      refine y_getIv (v := Int32.ofInt (0)) rfl (ySh.t hS rfl) (ySh.n hS rfl) rfl rfl hth ?_
      refine y_if_leT rfl j_X14_refuse_27 (by decide) ?_
      refine y_iconst rfl ?_
      refine y_ireturn rfl rfl rfl ?_
      refine y_ret1 ?_
      refine y_if_eqT rfl j_X14_end_54 (by decide) ?_
      refine y_aload_n rfl rfl ?_
      refine y_getR rfl (ySh.t hS rfl) (ySh.n hS rfl) rfl rfl (ySh.r hS rfl) ?_
      refine y_iload_n rfl rfl ?_
      refine y_virt rfl rfl rfl rfl rfl (ySh.t hS rfl) (ySh.n hS rfl) ?_
      refine l_get (nb := n) (ySh.t hS rfl) (ySh.n hS rfl) (Nat.le_trans hn hX.1) hR.l90 (by omega) (by omega) (fun c8 eb_c8 _ _ _ => ?_)
      rw [show c8 = b5 from eb_c8.trans eb_b5.symm]
      refine y_ret1 ?_
      refine y_cast rfl ((hX.2.1 _ hb_b5).1.trans ht_b5) (Nat.lt_of_lt_of_le hb_b5 hX.1) ?_
      refine y_astore_n (ls' := [some _, some _, some _, some _]) rfl rfl rfl ?_
      refine y_aload_n rfl rfl ?_
      refine y_iconst rfl ?_
      refine y_putI rfl ((hX.2.1 _ hb_b5).1.trans ht_b5) (Nat.lt_of_lt_of_le hb_b5 hX.1) rfl (Nat.le_trans (by decide) (by omega : 94 ≤ _)) rfl rfl ?_
      refine y_nameI (fun I9 e9 => ?_)
      have hR1 := (hR0.grow hX).upL e9 hlo_b5 (by omega) ((hX.2.1 _ hb_b5).1.trans ht_b5) (by decide)
      have hK := (hK.x hRo hno hX).upE hRo hno (upI e9) (by omega) (by omega) (by rw [((hX.2.1 _ hb_b5).1.trans ht_b5)]; decide) (by rw [e9, upd2_ne (.inl (by omega))]; exact Int.le_refl _)
      have hth := (show I9 83 0 = I4 83 0 by rw [e9, upd2_ne (.inl (by omega))]).trans hth
      have hzz : ySz I4 I9 := ySz_ofE (upI e9) (by omega)
      have hB := (hB.trans hX).wr e9 rfl
      have h8 : ∀ a, 84 ≤ a → a ≤ 86 → I9 a = I a := fun a h1 h2 => (upI e9 a (by omega)).trans ((hX.2.1 a (by omega)).2.1.trans (h8 a h1 h2))
      have h3k : ∀ k, k ≠ 0 → I9 83 k = I 83 k := fun k hk => (congrFun (congrFun e9 83) k).trans ((upd2_ne (.inl (by omega))).trans ((congrFun (hX.2.1 83 (by omega)).2.1 k).trans (h3k k hk)))
      have hg := (hg.gx hX (by omega)).both e9
      have hday : I9 83 1 = I 83 1 := (congrFun (congrFun e9 83) 1).trans ((upd2_ne (.inl (by omega))).trans ((congrFun (hX.2.1 83 (by omega)).2.1 1).trans hday))
      have hRb : ∀ a, a < n → R a = R a := fun a ha => (hX.2.1 a (by omega)).2.2.trans (hRb a ha)
      have hS0 := hS
      have hR0 := hR1
      have ht_b5 := (hX.2.1 _ hb_b5).1.trans ht_b5
      have hb_b5 := Nat.lt_of_lt_of_le hb_b5 hX.1
      have hb0_b5 := hb_b5
      have hn := Nat.le_refl n
      have h94 := hS0.1
      have hX := @yX.rf n tg I9 R
      have hS := hS0.x hX
      have hR := hR0.x hn hX
      have hz := hX.sz h94
      have hxn := hX.1
      have hw_b5 := hR.lea hlo_b5 hb0_b5 ((hX.2.1 _ hb_b5).1.trans ht_b5)
      have hN := hR0.1
      have hnb := hR0.2.2.2.2.2.2
      have hthB := hth
      refine y_iload_n rfl rfl ?_
      refine y_if_eq rfl j_X14_end_96 (fun h_10 => ?_) (fun h_11 => ?_)
      · refine y_aload_n rfl rfl ?_
        refine y_getIv (v := I b5 6) rfl ((hX.2.1 _ hb_b5).1.trans ht_b5) (Nat.lt_of_lt_of_le hb_b5 hX.1) rfl rfl ((congrFun ((hg.gx hX (by omega)) _ hlo_b5 (by omega)) 6).trans (by rw [upd2_ne (.inr (by decide))])) ?_
        refine y_ireturn rfl rfl rfl ?_
        exact hQ0a _ eb_b5 (by omega) _ _ _ _ _ _ _ hS ((hR0.grow hX).up (Nat.le_succ K) hk6) (hK.x hRo hno hX) hth rfl (hg.gx hX (by omega)) (hB.trans hX) (by omega) (by omega)
      · refine y_aload_n rfl rfl ?_
        refine y_getR rfl (ySh.t hS rfl) (ySh.n hS rfl) rfl rfl (ySh.r hS rfl) ?_
        refine y_aload_n rfl rfl ?_
        refine y_getIv (v := I b5 0) rfl ((hX.2.1 _ hb_b5).1.trans ht_b5) (Nat.lt_of_lt_of_le hb_b5 hX.1) rfl rfl ((congrFun ((hg.gx hX (by omega)) _ hlo_b5 (by omega)) 0).trans (by rw [upd2_ne (.inr (by decide))])) ?_
        refine y_virt rfl rfl rfl rfl rfl (ySh.t hS rfl) (ySh.n hS rfl) ?_
        refine l_get (nb := n) (ySh.t hS rfl) (ySh.n hS rfl) (Nat.le_trans hn hX.1) hR.l88 (by omega) (by omega) (fun b12 eb_b12 hlo_b12 hb0_b12 ht_b12 => ?_)
        have hb_b12 := Nat.lt_of_lt_of_le hb0_b12 hn
        replace ht_b12 := (hX.2.1 _ hb_b12).1.symm.trans ht_b12
        have hw_b12 := hR.thi hlo_b12 hb0_b12 ((hX.2.1 _ hb_b12).1.trans ht_b12)
        refine y_ret1 ?_
        refine y_cast rfl ((hX.2.1 _ hb_b12).1.trans ht_b12) (Nat.lt_of_lt_of_le hb_b12 hX.1) ?_
        refine y_aload_n rfl rfl ?_
        refine y_getIv (v := I b5 1) rfl ((hX.2.1 _ hb_b5).1.trans ht_b5) (Nat.lt_of_lt_of_le hb_b5 hX.1) rfl rfl ((congrFun ((hg.gx hX (by omega)) _ hlo_b5 (by omega)) 1).trans (by rw [upd2_ne (.inr (by decide))])) ?_
        refine y_static rfl rfl rfl rfl rfl ?_
        refine y_in (M := xm_X14_give) (ls := [some _, some _]) rfl rfl rfl ?_
        refine y_aload_n rfl rfl ?_
        refine y_iload_n rfl rfl ?_
        refine y_putI rfl ((hX.2.1 _ hb_b12).1.trans ht_b12) (Nat.lt_of_lt_of_le hb_b12 hX.1) rfl (Nat.le_trans (by decide) (by omega : 94 ≤ _)) rfl rfl ?_
        refine y_nameI (fun I13 e13 => ?_)
        have hR1 := (hR0.grow hX).upT e13 hlo_b12 (by omega) ((hX.2.1 _ hb_b12).1.trans ht_b12) (fun _ => ⟨by omega, by omega⟩)
        have hK := (hK.x hRo hno hX).upE hRo hno (upI e13) (by omega) (by omega) (by rw [((hX.2.1 _ hb_b12).1.trans ht_b12)]; decide) (by rw [e13, upd2_ne (.inl (by omega))]; exact Int.le_refl _)
        have hth := (show I13 83 0 = I9 83 0 by rw [e13, upd2_ne (.inl (by omega))]).trans hth
        have hzz : ySz I9 I13 := ySz_ofE (upI e13) (by omega)
        have hB := (hB.trans hX).wr e13 rfl
        have h8 : ∀ a, 84 ≤ a → a ≤ 86 → I13 a = I a := fun a h1 h2 => (upI e13 a (by omega)).trans ((hX.2.1 a (by omega)).2.1.trans (h8 a h1 h2))
        have h3k : ∀ k, k ≠ 0 → I13 83 k = I 83 k := fun k hk => (congrFun (congrFun e13 83) k).trans ((upd2_ne (.inl (by omega))).trans ((congrFun (hX.2.1 83 (by omega)).2.1 k).trans (h3k k hk)))
        have hg := (hg.gx hX (by omega)).both e13
        have hday : I13 83 1 = I 83 1 := (congrFun (congrFun e13 83) 1).trans ((upd2_ne (.inl (by omega))).trans ((congrFun (hX.2.1 83 (by omega)).2.1 1).trans hday))
        have hRb : ∀ a, a < n → R a = R a := fun a ha => (hX.2.1 a (by omega)).2.2.trans (hRb a ha)
        have hS0 := hS
        have hR0 := hR1
        have ht_b5 := (hX.2.1 _ hb_b5).1.trans ht_b5
        have hb_b5 := Nat.lt_of_lt_of_le hb_b5 hX.1
        have hb0_b5 := hb_b5
        have ht_b12 := (hX.2.1 _ hb_b12).1.trans ht_b12
        have hb_b12 := Nat.lt_of_lt_of_le hb_b12 hX.1
        have hb0_b12 := hb_b12
        have hn := Nat.le_refl n
        have h94 := hS0.1
        have hX := @yX.rf n tg I13 R
        have hS := hS0.x hX
        have hR := hR0.x hn hX
        have hz := hX.sz h94
        have hxn := hX.1
        have hw_b5 := hR.lea hlo_b5 hb0_b5 ((hX.2.1 _ hb_b5).1.trans ht_b5)
        have hw_b12 := hR.thi hlo_b12 hb0_b12 ((hX.2.1 _ hb_b12).1.trans ht_b12)
        have hN := hR0.1
        have hnb := hR0.2.2.2.2.2.2
        have hthB := hth
        refine y_aload_n rfl rfl ?_
        refine y_iconst rfl ?_
        refine y_putI rfl ((hX.2.1 _ hb_b12).1.trans ht_b12) (Nat.lt_of_lt_of_le hb_b12 hX.1) rfl (Nat.le_trans (by decide) (by omega : 94 ≤ _)) rfl rfl ?_
        refine y_nameI (fun I14 e14 => ?_)
        have hR1 := (hR0.grow hX).upT e14 hlo_b12 (by omega) ((hX.2.1 _ hb_b12).1.trans ht_b12) (fun h => absurd h (by decide))
        have hK := (hK.x hRo hno hX).upE hRo hno (upI e14) (by omega) (by omega) (by rw [((hX.2.1 _ hb_b12).1.trans ht_b12)]; decide) (by rw [e14, upd2_ne (.inl (by omega))]; exact Int.le_refl _)
        have hth := (show I14 83 0 = I13 83 0 by rw [e14, upd2_ne (.inl (by omega))]).trans hth
        have hzz : ySz I13 I14 := ySz_ofE (upI e14) (by omega)
        have hB := (hB.trans hX).wr e14 rfl
        have h8 : ∀ a, 84 ≤ a → a ≤ 86 → I14 a = I a := fun a h1 h2 => (upI e14 a (by omega)).trans ((hX.2.1 a (by omega)).2.1.trans (h8 a h1 h2))
        have h3k : ∀ k, k ≠ 0 → I14 83 k = I 83 k := fun k hk => (congrFun (congrFun e14 83) k).trans ((upd2_ne (.inl (by omega))).trans ((congrFun (hX.2.1 83 (by omega)).2.1 k).trans (h3k k hk)))
        have hg := (hg.gx hX (by omega)).both e14
        have hday : I14 83 1 = I 83 1 := (congrFun (congrFun e14 83) 1).trans ((upd2_ne (.inl (by omega))).trans ((congrFun (hX.2.1 83 (by omega)).2.1 1).trans hday))
        have hRb : ∀ a, a < n → R a = R a := fun a ha => (hX.2.1 a (by omega)).2.2.trans (hRb a ha)
        have hS0 := hS
        have hR0 := hR1
        have ht_b5 := (hX.2.1 _ hb_b5).1.trans ht_b5
        have hb_b5 := Nat.lt_of_lt_of_le hb_b5 hX.1
        have hb0_b5 := hb_b5
        have ht_b12 := (hX.2.1 _ hb_b12).1.trans ht_b12
        have hb_b12 := Nat.lt_of_lt_of_le hb_b12 hX.1
        have hb0_b12 := hb_b12
        have hn := Nat.le_refl n
        have h94 := hS0.1
        have hX := @yX.rf n tg I14 R
        have hS := hS0.x hX
        have hR := hR0.x hn hX
        have hz := hX.sz h94
        have hxn := hX.1
        have hw_b5 := hR.lea hlo_b5 hb0_b5 ((hX.2.1 _ hb_b5).1.trans ht_b5)
        have hw_b12 := hR.thi hlo_b12 hb0_b12 ((hX.2.1 _ hb_b12).1.trans ht_b12)
        have hN := hR0.1
        have hnb := hR0.2.2.2.2.2.2
        have hthB := hth
        refine y_return rfl ?_
        refine y_ret0 ?_
        refine y_aload_n rfl rfl ?_
        refine y_getIv (v := I b5 6) rfl ((hX.2.1 _ hb_b5).1.trans ht_b5) (Nat.lt_of_lt_of_le hb_b5 hX.1) rfl rfl ((congrFun ((hg.gx hX (by omega)) _ hlo_b5 (by omega)) 6).trans (by rw [upd2_ne (.inr (by decide)), upd2_ne (.inr (by decide)), upd2_ne (.inr (by decide))])) ?_
        refine y_ireturn rfl rfl rfl ?_
        exact hQ0b _ eb_b5 _ eb_b12 (by omega) _ _ _ _ _ _ _ hS ((hR0.grow hX).up (Nat.le_succ K) hk6) (hK.x hRo hno hX) hth rfl (hg.gx hX (by omega)) (hB.trans hX) (by omega) (by omega)
    · refine y_aload_n rfl rfl ?_
      refine y_getIv (v := Int32.ofInt (0)) rfl (ySh.t hS rfl) (ySh.n hS rfl) rfl rfl hth ?_
      refine y_if_neF rfl (by decide) ?_
      refine y_aload_n rfl rfl ?_
      refine y_iload_n rfl rfl ?_
      refine y_putI rfl (ySh.t hS rfl) (ySh.n hS rfl) rfl (Nat.le_of_ble_eq_true rfl) rfl rfl ?_
      refine y_nameI (fun I15 e15 => ?_)
      have hR1 := (hR0.grow hX).mod0 e15 (by decide) (by decide)
      have hK := (hK.x hRo hno hX).upI (upI e15) (by decide) (by decide) (fun i hi => by have := (hRo.l87.2.2.2.2 i hi).2.1; omega) (by rw [e15, upd2_ne (.inr (by decide))]; exact Int.le_refl _)
      have hth : I15 83 0 = Int32.ofInt (2) := by rw [e15, upd2_self]
      have hzz : ySz8 I4 I15 := ySz8_of (upI e15) (by rw [e15]; exact ⟨upd2_ne (.inr (by decide)), upd2_ne (.inr (by decide))⟩)
      have hB := (hB.trans hX).wr e15 rfl
      have h8 : ∀ a, 84 ≤ a → a ≤ 86 → I15 a = I a := fun a h1 h2 => (upI e15 a (by omega)).trans ((hX.2.1 a (by omega)).2.1.trans (h8 a h1 h2))
      have h3k : ∀ k, k ≠ 0 → I15 83 k = I 83 k := fun k hk => (congrFun (congrFun e15 83) k).trans ((upd2_ne (.inr hk)).trans ((congrFun (hX.2.1 83 (by omega)).2.1 k).trans (h3k k hk)))
      have hg := (hg.gx hX (by omega)).skip e15 (by decide)
      have hday : I15 83 1 = I 83 1 := (congrFun (congrFun e15 83) 1).trans ((upd2_ne (.inr (by decide))).trans ((congrFun (hX.2.1 83 (by omega)).2.1 1).trans hday))
      have hRb : ∀ a, a < n → R a = R a := fun a ha => (hX.2.1 a (by omega)).2.2.trans (hRb a ha)
      have hb83 : ∀ a, a ≠ 83 → a < n → I15 a = I a := fun a ha hb => (upI e15 a ha).trans ((hX.2.1 a (by omega)).2.1.trans (hb83 a ha hb))
      have hS0 := hS
      have hR0 := hR1
      have ht_b5 := (hX.2.1 _ hb_b5).1.trans ht_b5
      have hb_b5 := Nat.lt_of_lt_of_le hb_b5 hX.1
      have hb0_b5 := hb_b5
      have hn := Nat.le_refl n
      have h94 := hS0.1
      have hX := @yX.rf n tg I15 R
      have hS := hS0.x hX
      have hR := hR0.x hn hX
      have hz := hX.sz h94
      have hxn := hX.1
      have hw_b5 := hR.lea hlo_b5 hb0_b5 ((hX.2.1 _ hb_b5).1.trans ht_b5)
      have hN := hR0.1
      have hnb := hR0.2.2.2.2.2.2
      have hthB := hth
      refine y_aload_n rfl rfl ?_
      refine y_getIv (v := Int32.ofInt (2)) rfl (ySh.t hS rfl) (ySh.n hS rfl) rfl rfl hth ?_
      refine y_if_leF rfl (by decide) ?_
      refine y_iconst rfl ?_
      refine y_goto rfl j_X14_refuse_28 ?_
      refine y_ireturn rfl rfl rfl ?_
      refine y_ret1 ?_
      refine y_if_eqF rfl (by decide) ?_
      refine y_iconst rfl ?_
      refine y_ireturn rfl rfl rfl ?_
      exact hQ2 _ eb_b5 (by omega) _ _ _ _ _ _ _ hS ((hR0.grow hX).up (Nat.le_succ K) hk6) (hK.x hRo hno hX) hth (hg.gx hX (by omega)) ((hB.trans hX).rf2 (by omega)) (by omega) (by omega)
  · rw [yz_0] at h_3
    try rw [ysub (by rw [yz_1]; omega) (by rw [yz_1]; omega), yz_1] at h_3
    refine y_ret1 ?_
    refine y_if_neF rfl (by decide) ?_
    refine y_iconst rfl ?_
    refine y_goto rfl j_X14_end_23 ?_
    refine y_iconst rfl ?_
    refine y_virt rfl rfl rfl rfl rfl (ySh.t hS rfl) (ySh.n hS rfl) ?_
    refine y_in (M := xm_X14_start) (ls := [some _, some _, some _]) rfl rfl rfl ?_
    refine y_aload_n rfl rfl ?_
    refine y_iconst rfl ?_
    refine y_putI rfl (ySh.t hS rfl) (ySh.n hS rfl) rfl (Nat.le_of_ble_eq_true rfl) rfl rfl ?_
    refine y_nameI (fun I16 e16 => ?_)
    have hR1 := (hR0.grow hX).mod0 e16 (by decide) (by decide)
    have hK := (hK.x hRo hno hX).upI (upI e16) (by decide) (by decide) (fun i hi => by have := (hRo.l87.2.2.2.2 i hi).2.1; omega) (by rw [e16, upd2_ne (.inr (by decide))]; exact Int.le_refl _)
    have hth : I16 83 0 = Int32.ofInt (0) := by rw [e16, upd2_self]
    have hzz : ySz8 I I16 := ySz8_of (upI e16) (by rw [e16]; exact ⟨upd2_ne (.inr (by decide)), upd2_ne (.inr (by decide))⟩)
    have hB := (hB.trans hX).wr e16 rfl
    have h8 : ∀ a, 84 ≤ a → a ≤ 86 → I16 a = I a := fun a h1 h2 => (upI e16 a (by omega)).trans ((hX.2.1 a (by omega)).2.1.trans (h8 a h1 h2))
    have h3k : ∀ k, k ≠ 0 → I16 83 k = I 83 k := fun k hk => (congrFun (congrFun e16 83) k).trans ((upd2_ne (.inr hk)).trans ((congrFun (hX.2.1 83 (by omega)).2.1 k).trans (h3k k hk)))
    have hg := (hg.gx hX (by omega)).skip e16 (by decide)
    have hday : I16 83 1 = I 83 1 := (congrFun (congrFun e16 83) 1).trans ((upd2_ne (.inr (by decide))).trans ((congrFun (hX.2.1 83 (by omega)).2.1 1).trans hday))
    have hRb : ∀ a, a < n → R a = R a := fun a ha => (hX.2.1 a (by omega)).2.2.trans (hRb a ha)
    have hb83 : ∀ a, a ≠ 83 → a < n → I16 a = I a := fun a ha hb => (upI e16 a ha).trans ((hX.2.1 a (by omega)).2.1.trans (hb83 a ha hb))
    have hS0 := hS
    have hR0 := hR1
    have hn := Nat.le_refl n
    have h94 := hS0.1
    have hX := @yX.rf n tg I16 R
    have hS := hS0.x hX
    have hR := hR0.x hn hX
    have hz := hX.sz h94
    have hxn := hX.1
    have hN := hR0.1
    have hnb := hR0.2.2.2.2.2.2
    have hthB := hth
    refine y_aload_n rfl rfl ?_
    refine y_iload_n rfl rfl ?_
    refine y_iload_n rfl rfl ?_
    refine y_virt rfl rfl rfl rfl rfl (ySh.t hS rfl) (ySh.n hS rfl) ?_
    refine y_in (M := xm_X14_refuse) (ls := [some _, some _, some _]) rfl rfl rfl ?_
    refine y_iload_n rfl rfl ?_
    refine y_if_eqF rfl (by decide) ?_
    refine y_aload_n rfl rfl ?_
    refine y_getIv (v := Int32.ofInt (0)) rfl (ySh.t hS rfl) (ySh.n hS rfl) rfl rfl hth ?_
    refine y_if_neF rfl (by decide) ?_
    refine y_aload_n rfl rfl ?_
    refine y_iload_n rfl rfl ?_
    refine y_putI rfl (ySh.t hS rfl) (ySh.n hS rfl) rfl (Nat.le_of_ble_eq_true rfl) rfl rfl ?_
    refine y_nameI (fun I17 e17 => ?_)
    have hR1 := (hR0.grow hX).mod0 e17 (by decide) (by decide)
    have hK := (hK.x hRo hno hX).upI (upI e17) (by decide) (by decide) (fun i hi => by have := (hRo.l87.2.2.2.2 i hi).2.1; omega) (by rw [e17, upd2_ne (.inr (by decide))]; exact Int.le_refl _)
    have hth : I17 83 0 = Int32.ofInt (1) := by rw [e17, upd2_self]
    have hzz : ySz8 I16 I17 := ySz8_of (upI e17) (by rw [e17]; exact ⟨upd2_ne (.inr (by decide)), upd2_ne (.inr (by decide))⟩)
    have hB := (hB.trans hX).wr e17 rfl
    have h8 : ∀ a, 84 ≤ a → a ≤ 86 → I17 a = I a := fun a h1 h2 => (upI e17 a (by omega)).trans ((hX.2.1 a (by omega)).2.1.trans (h8 a h1 h2))
    have h3k : ∀ k, k ≠ 0 → I17 83 k = I 83 k := fun k hk => (congrFun (congrFun e17 83) k).trans ((upd2_ne (.inr hk)).trans ((congrFun (hX.2.1 83 (by omega)).2.1 k).trans (h3k k hk)))
    have hg := (hg.gx hX (by omega)).skip e17 (by decide)
    have hday : I17 83 1 = I 83 1 := (congrFun (congrFun e17 83) 1).trans ((upd2_ne (.inr (by decide))).trans ((congrFun (hX.2.1 83 (by omega)).2.1 1).trans hday))
    have hRb : ∀ a, a < n → R a = R a := fun a ha => (hX.2.1 a (by omega)).2.2.trans (hRb a ha)
    have hb83 : ∀ a, a ≠ 83 → a < n → I17 a = I a := fun a ha hb => (upI e17 a ha).trans ((hX.2.1 a (by omega)).2.1.trans (hb83 a ha hb))
    have hS0 := hS
    have hR0 := hR1
    have hn := Nat.le_refl n
    have h94 := hS0.1
    have hX := @yX.rf n tg I17 R
    have hS := hS0.x hX
    have hR := hR0.x hn hX
    have hz := hX.sz h94
    have hxn := hX.1
    have hN := hR0.1
    have hnb := hR0.2.2.2.2.2.2
    have hthB := hth
    refine y_aload_n rfl rfl ?_
    refine y_getIv (v := Int32.ofInt (1)) rfl (ySh.t hS rfl) (ySh.n hS rfl) rfl rfl hth ?_
    refine y_if_leF rfl (by decide) ?_
    refine y_iconst rfl ?_
    refine y_goto rfl j_X14_refuse_28 ?_
    refine y_ireturn rfl rfl rfl ?_
    refine y_ret1 ?_
    refine y_ireturn rfl rfl rfl ?_
    refine y_ret1 ?_
    refine y_if_neT rfl j_X14_end_52 (by decide) ?_
    refine y_iconst rfl ?_
    refine y_ireturn rfl rfl rfl ?_
    exact hQ1 (by omega) _ _ _ _ _ _ _ hS ((hR0.grow hX).up (Nat.le_succ K) hk6) (hK.x hRo hno hX) hth (hg.gx hX (by omega)) ((hB.trans hX).rf2 (by omega)) (by omega) (by omega)
theorem h_thing (hS0 : ySh n tg R) (hR0 : yRI K n tg I R) (hk6 : K < 600) {x1 x2 : Int32} (hQ1 : ¬ (x2.toInt = -1 ∨ 0 ≤ x2.toInt ∧ x2.toInt < (I 83 8).toInt) → ∀ (v : Int32) n1 tg1 I1 R1 c1 s1, ySh n1 tg1 R1 → yRI (K + 1) n1 tg1 I1 R1 → yKp n tg I R n1 tg1 I1 R1 → I1 83 0 = Int32.ofInt 1 → yGm n I1 I → (I1 88 2).toInt = (I 88 2).toInt → (I1 89 2).toInt = (I 89 2).toInt → (I1 90 2).toInt = (I 90 2).toInt → (I1 91 2).toInt = (I 91 2).toInt → (I1 92 2).toInt = (I 92 2).toInt → yLk I R R1 → yRf n I R I1 R1 → c1 ≤ c + 2 → s1 ≤ s + 1310 → Q (.inl (some (.int v))) (n1, tg1, I1, R1) c1 s1) (hQ2 : (x2.toInt = -1 ∨ 0 ≤ x2.toInt ∧ x2.toInt < (I 83 8).toInt) ∧ ¬ (1 ≤ x1.toInt ∧ x1.toInt ≤ 999) → ∀ (v : Int32) n1 tg1 I1 R1 c1 s1, ySh n1 tg1 R1 → yRI (K + 1) n1 tg1 I1 R1 → yKp n tg I R n1 tg1 I1 R1 → I1 83 0 = Int32.ofInt 2 → yGm n I1 I → (I1 88 2).toInt = (I 88 2).toInt → (I1 89 2).toInt = (I 89 2).toInt → (I1 90 2).toInt = (I 90 2).toInt → (I1 91 2).toInt = (I 91 2).toInt → (I1 92 2).toInt = (I 92 2).toInt → yLk I R R1 → yRf n I R I1 R1 → c1 ≤ c + 2 → s1 ≤ s + 1310 → Q (.inl (some (.int v))) (n1, tg1, I1, R1) c1 s1) (hQ3 : (x2.toInt = -1 ∨ 0 ≤ x2.toInt ∧ x2.toInt < (I 83 8).toInt) ∧ (1 ≤ x1.toInt ∧ x1.toInt ≤ 999) ∧ (I 88 2).toInt = 16 → ∀ (v : Int32) n1 tg1 I1 R1 c1 s1, ySh n1 tg1 R1 → yRI (K + 1) n1 tg1 I1 R1 → yKp n tg I R n1 tg1 I1 R1 → I1 83 0 = Int32.ofInt 3 → yGm n I1 I → (I1 88 2).toInt = (I 88 2).toInt → (I1 89 2).toInt = (I 89 2).toInt → (I1 90 2).toInt = (I 90 2).toInt → (I1 91 2).toInt = (I 91 2).toInt → (I1 92 2).toInt = (I 92 2).toInt → yLk I R R1 → yRf n I R I1 R1 → c1 ≤ c + 2 → s1 ≤ s + 1310 → Q (.inl (some (.int v))) (n1, tg1, I1, R1) c1 s1) (hQ0 : ∀ own, (x2.toInt = -1 ∧ own = Int32.ofInt 9 ∨ ¬ x2.toInt = -1 ∧ own = x2) → (x2.toInt = -1 ∨ 0 ≤ x2.toInt ∧ x2.toInt < (I 83 8).toInt) ∧ (1 ≤ x1.toInt ∧ x1.toInt ≤ 999) ∧ (I 88 2).toInt < 16 → ∀ (v : Int32) n1 tg1 I1 R1 c1 s1, ySh n1 tg1 R1 → yRI (K + 1) n1 tg1 I1 R1 → yKp n tg I R n1 tg1 I1 R1 → I1 83 0 = Int32.ofInt 0 → v.toInt = (I 88 2).toInt → yGm n I1 I → (I1 88 2).toInt = (I 88 2).toInt + 1 → (I1 89 2).toInt = (I 89 2).toInt → (I1 90 2).toInt = (I 90 2).toInt → (I1 91 2).toInt = (I 91 2).toInt → (I1 92 2).toInt = (I 92 2).toInt → yLk I R R1 → ∀ x, x = yAd R1 88 (I 88 2).toInt.toNat → n ≤ x → I1 x 0 = x1 → I1 x 1 = own → I1 x 2 = (Int32.ofInt 1) → I1 x 3 = (Int32.ofInt 0) → I1 x 4 = (Int32.ofInt 0) → I1 x 5 = (Int32.ofInt (-1)) → y8 I I1 → c1 ≤ c + 2 → s1 ≤ s + 1310 → Q (.inl (some (.int v))) (n1, tg1, I1, R1) c1 s1) : yC 196 [.ref 83, .int x1, .int x2] (n, tg, I, R) c s Q := by
  have hno := Nat.le_refl n
  have hn := hno
  have hRo := hR0
  have hK : yKp n tg I R n tg I R := yKp.rf
  have hX : yX n tg I R n tg I R := yX.rf
  have hS := hS0
  have hR := hR0
  have h94 : 94 ≤ n := hS0.1
  have hz : ySz I I := hX.sz h94
  have hxn := hX.1
  have hN := hR0.1
  have hnb : 94 ≤ n := hR0.2.2.2.2.2.2
  have hg : yGm n I I := yGm.rf
  have hday : I 83 1 = I 83 1 := rfl
  have hb83 : ∀ a, a ≠ 83 → a < n → I a = I a := fun _ _ _ => rfl
  have hRb : ∀ a, a < n → R a = R a := fun _ _ => rfl
  have hB : yX n tg I R n tg I R := yX.rf
  have h8 : ∀ a, 84 ≤ a → a ≤ 86 → I a = I a := fun _ _ _ => rfl
  have h3k : ∀ k, k ≠ 0 → I 83 k = I 83 k := fun _ _ => rfl
  refine y_in (M := xm_X14_thing) (ls := [some _, some _, some _]) rfl rfl rfl ?_
  refine y_aload_n rfl rfl ?_
  refine y_iload_n rfl rfl ?_
  refine y_iconst rfl ?_
  refine y_icmp_eq rfl j_X14_thing_18 (fun h_1 => ?_) (fun h_2 => ?_)
  · rw [yz_m1] at h_1
    refine y_iconst rfl ?_
    refine y_iconst rfl ?_
    refine y_virt rfl rfl rfl rfl rfl (ySh.t hS rfl) (ySh.n hS rfl) ?_
    refine y_in (M := xm_X14_start) (ls := [some _, some _, some _]) rfl rfl rfl ?_
    refine y_aload_n rfl rfl ?_
    refine y_iconst rfl ?_
    refine y_putI rfl (ySh.t hS rfl) (ySh.n hS rfl) rfl (Nat.le_of_ble_eq_true rfl) rfl rfl ?_
    refine y_nameI (fun I3 e3 => ?_)
    have hR1 := (hR0.grow hX).mod0 e3 (by decide) (by decide)
    have hK := (hK.x hRo hno hX).upI (upI e3) (by decide) (by decide) (fun i hi => by have := (hRo.l87.2.2.2.2 i hi).2.1; omega) (by rw [e3, upd2_ne (.inr (by decide))]; exact Int.le_refl _)
    have hth : I3 83 0 = Int32.ofInt (0) := by rw [e3, upd2_self]
    have hzz : ySz8 I I3 := ySz8_of (upI e3) (by rw [e3]; exact ⟨upd2_ne (.inr (by decide)), upd2_ne (.inr (by decide))⟩)
    have hB := (hB.trans hX).wr e3 rfl
    have h8 : ∀ a, 84 ≤ a → a ≤ 86 → I3 a = I a := fun a h1 h2 => (upI e3 a (by omega)).trans ((hX.2.1 a (by omega)).2.1.trans (h8 a h1 h2))
    have h3k : ∀ k, k ≠ 0 → I3 83 k = I 83 k := fun k hk => (congrFun (congrFun e3 83) k).trans ((upd2_ne (.inr hk)).trans ((congrFun (hX.2.1 83 (by omega)).2.1 k).trans (h3k k hk)))
    have hg := (hg.gx hX (by omega)).skip e3 (by decide)
    have hday : I3 83 1 = I 83 1 := (congrFun (congrFun e3 83) 1).trans ((upd2_ne (.inr (by decide))).trans ((congrFun (hX.2.1 83 (by omega)).2.1 1).trans hday))
    have hRb : ∀ a, a < n → R a = R a := fun a ha => (hX.2.1 a (by omega)).2.2.trans (hRb a ha)
    have hb83 : ∀ a, a ≠ 83 → a < n → I3 a = I a := fun a ha hb => (upI e3 a ha).trans ((hX.2.1 a (by omega)).2.1.trans (hb83 a ha hb))
    have hS0 := hS
    have hR0 := hR1
    have hn := Nat.le_refl n
    have h94 := hS0.1
    have hX := @yX.rf n tg I3 R
    have hS := hS0.x hX
    have hR := hR0.x hn hX
    have hz := hX.sz h94
    have hxn := hX.1
    have hN := hR0.1
    have hnb := hR0.2.2.2.2.2.2
    have hthB := hth
    refine y_aload_n rfl rfl ?_
    refine y_iload_n rfl rfl ?_
    refine y_iload_n rfl rfl ?_
    refine y_virt rfl rfl rfl rfl rfl (ySh.t hS rfl) (ySh.n hS rfl) ?_
    refine y_in (M := xm_X14_refuse) (ls := [some _, some _, some _]) rfl rfl rfl ?_
    refine y_iload_n rfl rfl ?_
    refine y_if_eqT rfl j_X14_refuse_16 (by decide) ?_
    refine y_aload_n rfl rfl ?_
    refine y_getIv (v := Int32.ofInt (0)) rfl (ySh.t hS rfl) (ySh.n hS rfl) rfl rfl hth ?_
    refine y_if_leT rfl j_X14_refuse_27 (by decide) ?_
    refine y_iconst rfl ?_
    refine y_ireturn rfl rfl rfl ?_
    refine y_ret1 ?_
    refine y_ireturn rfl rfl rfl ?_
    refine y_ret1 ?_
    refine y_if_neF rfl (by decide) ?_
    refine y_aload_n rfl rfl ?_
    refine y_iload_n rfl rfl ?_
    refine y_iconst rfl ?_
    refine y_sip rfl (by decide) ?_
    refine y_static rfl rfl rfl rfl rfl ?_
    refine r_isIn (fun h_4 h_5 => ?_) (fun h_6 => ?_)
    · rw [yz_1] at h_4
      rw [yz_999] at h_5
      refine y_ret1 ?_
      refine y_if_neT rfl j_X14_thing_42 (by decide) ?_
      refine y_iconst rfl ?_
      refine y_iconst rfl ?_
      refine y_virt rfl rfl rfl rfl rfl (ySh.t hS rfl) (ySh.n hS rfl) ?_
      refine y_in (M := xm_X14_refuse) (ls := [some _, some _, some _]) rfl rfl rfl ?_
      refine y_iload_n rfl rfl ?_
      refine y_if_eqT rfl j_X14_refuse_16 (by decide) ?_
      refine y_aload_n rfl rfl ?_
      refine y_getIv (v := Int32.ofInt (0)) rfl (ySh.t hS rfl) (ySh.n hS rfl) rfl rfl hth ?_
      refine y_if_leT rfl j_X14_refuse_27 (by decide) ?_
      refine y_iconst rfl ?_
      refine y_ireturn rfl rfl rfl ?_
      refine y_ret1 ?_
      refine y_if_neF rfl (by decide) ?_
      refine y_aload_n rfl rfl ?_
      refine y_aload_n rfl rfl ?_
      refine y_getR rfl (ySh.t hS rfl) (ySh.n hS rfl) rfl rfl (ySh.r hS rfl) ?_
      refine y_virt rfl rfl rfl rfl rfl (ySh.t hS rfl) (ySh.n hS rfl) ?_
      refine y_in (M := xm_Jx4a65c_size_8abf5) (ls := [some _]) rfl rfl rfl ?_
      refine y_aload_n rfl rfl ?_
      refine y_getI rfl (ySh.t hS rfl) (ySh.n hS rfl) rfl rfl ?_
      refine y_ireturn rfl rfl rfl ?_
      refine y_ret1 ?_
      refine y_bip rfl (by decide) ?_
      refine y_icmp_ne rfl j_X14_thing_67 (fun h_7 => ?_) (fun h_8 => ?_)
      · rw [yz_16] at h_7
        refine y_iconst rfl ?_
        refine y_iconst rfl ?_
        refine y_virt rfl rfl rfl rfl rfl (ySh.t hS rfl) (ySh.n hS rfl) ?_
        refine y_in (M := xm_X14_refuse) (ls := [some _, some _, some _]) rfl rfl rfl ?_
        refine y_iload_n rfl rfl ?_
        refine y_if_eqT rfl j_X14_refuse_16 (by decide) ?_
        refine y_aload_n rfl rfl ?_
        refine y_getIv (v := Int32.ofInt (0)) rfl (ySh.t hS rfl) (ySh.n hS rfl) rfl rfl hth ?_
        refine y_if_leT rfl j_X14_refuse_27 (by decide) ?_
        refine y_iconst rfl ?_
        refine y_ireturn rfl rfl rfl ?_
        refine y_ret1 ?_
        refine y_if_eqT rfl j_X14_thing_77 (by decide) ?_
        refine y_aload_n rfl rfl ?_
        refine y_getR rfl (ySh.t hS rfl) (ySh.n hS rfl) rfl rfl (ySh.r hS rfl) ?_
        refine y_newX rfl rfl rfl (fun n9 tg9 I9 R9 hA => ?_)
        have hnA := hA.1
        have hnw := yNw.al hX hA
        have ht_f10 : tg9 n = (20, 0) := hA.2.1
        have ha_f10 : n < n9 := by omega
        have hX := hX.y.trans hA.y
        have hS := hS0.y hX
        have hR := hR0.y hn hX
        have hz := hX.sz h94
        have hxn := hX.1
        have hth := (congrFun (hA.2.2.2.2 83 (by omega)).2.1 0).trans hth
        have hz_f10 : ∀ k, I9 n k = 0 := hA.2.2.1
        refine y_dup rfl rfl ?_
        refine y_iload_n rfl rfl ?_
        refine y_iload_n rfl rfl ?_
        refine y_iconst rfl ?_
        refine y_icmp_ne rfl j_X14_thing_96 (fun h_11 => ?_) (fun h_12 => ?_)
        · rw [yz_m1] at h_11
          refine y_iload_n rfl rfl ?_
          refine y_init rfl rfl rfl rfl rfl ?_
          refine y_in (M := xm_X12_init) (ls := [some _, some _, some _]) rfl rfl rfl ?_
          refine y_aload_n rfl rfl ?_
          refine y_obj rfl ha_f10 rfl ?_
          refine y_aload_n rfl rfl ?_
          refine y_iconst rfl ?_
          refine y_putI rfl ht_f10 ha_f10 rfl (Nat.le_trans (by decide) (by omega : 94 ≤ _)) rfl rfl ?_
          refine y_nameI (fun I13 e13 => ?_)
          have hX := hX.upI (by omega) (upI e13)
          have hS := hS0.y hX
          have hR := hR0.y hn hX
          have hz := hX.sz h94
          have hxn := hX.1
          have hth := (congrFun (upI e13 83 (by omega)) 0).trans hth
          refine y_aload_n rfl rfl ?_
          refine y_iconst rfl ?_
          refine y_putI rfl ht_f10 ha_f10 rfl (Nat.le_trans (by decide) (by omega : 94 ≤ _)) rfl rfl ?_
          refine y_nameI (fun I14 e14 => ?_)
          have hX := hX.upI (by omega) (upI e14)
          have hS := hS0.y hX
          have hR := hR0.y hn hX
          have hz := hX.sz h94
          have hxn := hX.1
          have hth := (congrFun (upI e14 83 (by omega)) 0).trans hth
          refine y_aload_n rfl rfl ?_
          refine y_iload_n rfl rfl ?_
          refine y_putI rfl ht_f10 ha_f10 rfl (Nat.le_trans (by decide) (by omega : 94 ≤ _)) rfl rfl ?_
          refine y_nameI (fun I15 e15 => ?_)
          have hX := hX.upI (by omega) (upI e15)
          have hS := hS0.y hX
          have hR := hR0.y hn hX
          have hz := hX.sz h94
          have hxn := hX.1
          have hth := (congrFun (upI e15 83 (by omega)) 0).trans hth
          refine y_aload_n rfl rfl ?_
          refine y_iload_n rfl rfl ?_
          refine y_putI rfl ht_f10 ha_f10 rfl (Nat.le_trans (by decide) (by omega : 94 ≤ _)) rfl rfl ?_
          refine y_nameI (fun I16 e16 => ?_)
          have hX := hX.upI (by omega) (upI e16)
          have hS := hS0.y hX
          have hR := hR0.y hn hX
          have hz := hX.sz h94
          have hxn := hX.1
          have hth := (congrFun (upI e16 83 (by omega)) 0).trans hth
          refine y_return rfl ?_
          refine y_ret0 ?_
          refine y_virt rfl rfl rfl rfl rfl (ySh.t hS rfl) (ySh.n hS rfl) ?_
          refine l_add hS (by decide) (by decide) (ySh.t hS rfl) (Nat.le_trans hn hX.1) hR.l88 (by omega) (by omega) ha_f10 (fun n17 tg17 I17 R17 c_17 s_17 hAd hc_17 hs_17 => ?_)
          have hsA := hAd.sz
          have hsz87 := congrArg Int32.toInt (congrFun (hAd.I 87 (by omega) (by decide)) 2)
          have hsz89 := congrArg Int32.toInt (congrFun (hAd.I 89 (by omega) (by decide)) 2)
          have hsz90 := congrArg Int32.toInt (congrFun (hAd.I 90 (by omega) (by decide)) 2)
          have hsz91 := congrArg Int32.toInt (congrFun (hAd.I 91 (by omega) (by decide)) 2)
          have hsz92 := congrArg Int32.toInt (congrFun (hAd.I 92 (by omega) (by decide)) 2)
          have hszp := congrArg Int32.toInt (congrFun (hAd.I 83 (by omega) (by decide)) 8)
          have hLk0 := yAdd.lk hR (Nat.le_trans hn hX.1) hAd (by decide) (by decide)
          have hcs : ∀ l', 87 ≤ l' → l' ≤ 92 → (I16 l' 2).toInt = (I l' 2).toInt := fun l' h1 h2 => by rw [(hX.2.1 l' (by omega)).2.1, hb83 l' (by omega) (by omega)]
          have hLk : yLk I R R17 := fun l' h1 h2 i hi => (hLk0.1 l' h1 h2 i (by rw [hcs l' h1 h2]; exact hi)).trans (yAd_eq ((hX.2.1 l' (by omega)).2.2.trans (hRb l' (by omega))) ((hX.2.1 _ (by have := hRo.lt6 l' h1 h2; omega)).2.2.trans (hRb _ (hRo.lt6 l' h1 h2))))
          have hAx : yAd R17 88 (I 88 2).toInt.toNat = n := by rw [← hcs 88 (by decide) (by decide)]; exact hLk0.2
          have hno_x : n ≤ n := by omega
          have hg := (hg.y hX (by omega)).add hAd (by omega) (by decide)
          have h8 : ∀ a, 84 ≤ a → a ≤ 86 → I17 a = I a := fun a h1 h2 => (hAd.I a (by omega) (by omega)).trans ((hX.2.1 a (by omega)).2.1.trans (h8 a h1 h2))
          have h3k : ∀ k, k ≠ 0 → I17 83 k = I 83 k := fun k hk => (congrFun (hAd.I 83 (by omega) (by decide)) k).trans ((congrFun (hX.2.1 83 (by omega)).2.1 k).trans (h3k k hk))
          have hday := (congrFun (hAd.I 83 (by omega) (by decide)) 1).trans ((congrFun (hX.2.1 83 (by omega)).2.1 1).trans hday)
          have hf0 : I17 n 0 = x1 := by rw [hAd.I _ ha_f10 (by omega)]; simp only [e16, e15, e14, e13, upd2]; first | rfl | (simp; done) | (simp; exact hz_f10 _) | (simp; omega) | exact hz_f10 _
          have hf1 : I17 n 1 = x2 := by rw [hAd.I _ ha_f10 (by omega)]; simp only [e16, e15, e14, e13, upd2]; first | rfl | (simp; done) | (simp; exact hz_f10 _) | (simp; omega) | exact hz_f10 _
          have hf2 : I17 n 2 = (Int32.ofInt 1) := by rw [hAd.I _ ha_f10 (by omega)]; simp only [e16, e15, e14, e13, upd2]; first | rfl | (simp; done) | (simp; exact hz_f10 _) | (simp; omega) | exact hz_f10 _
          have hf3 : I17 n 3 = (Int32.ofInt 0) := by rw [hAd.I _ ha_f10 (by omega)]; simp only [e16, e15, e14, e13, upd2]; first | rfl | (simp; done) | (simp; exact hz_f10 _) | (simp; omega) | exact hz_f10 _
          have hf4 : I17 n 4 = (Int32.ofInt 0) := by rw [hAd.I _ ha_f10 (by omega)]; simp only [e16, e15, e14, e13, upd2]; first | rfl | (simp; done) | (simp; exact hz_f10 _) | (simp; omega) | exact hz_f10 _
          have hf5 : I17 n 5 = (Int32.ofInt (-1)) := by rw [hAd.I _ ha_f10 (by omega)]; simp only [e16, e15, e14, e13, upd2]; first | rfl | (simp; done) | (simp; exact hz_f10 _) | (simp; omega) | exact hz_f10 _
          have hnA := hAd.n
          have hNu : yNum K I17 := yNum.add (K := K) hR.1 hAd (by omega) (by decide) (by decide) (Nat.le_refl K) (by omega) (fun h => by omega) (fun h => by omega) (fun h => by omega) (fun h => by omega) (fun h => by omega) (fun h => by omega)
          have htx : tg17 n = (20, 0) := (hAd.tg _ ha_f10).trans ht_f10
          have hIx := hAd.I _ ha_f10 (by omega)
          have hOb : yOb K n17 tg17 I17 R17 n := ⟨fun _ => by rw [hIx]; simp only [e16, e15, e14, e13, upd2]; first | omega | (simp; omega) | simp | (simp; decide) | decide, fun hq => absurd (show (20 : Nat) = 19 from congrArg Prod.fst (htx.symm.trans hq)) (by decide), fun hq => absurd (show (20 : Nat) = 18 from congrArg Prod.fst (htx.symm.trans hq)) (by decide), fun hq => absurd (show (20 : Nat) = 21 from congrArg Prod.fst (htx.symm.trans hq)) (by decide)⟩
          have hR1 : yRI K n17 tg17 I17 R17 := yRI.add hR (Nat.le_trans hn hX.1) hAd (by decide) (by decide) rfl (by omega) ha_f10 ht_f10 hnw (Nat.le_refl K) hNu hOb (fun h => absurd h (by decide)) (fun h => absurd h (by decide))
          have hK := (hK.y hRo hno hX).add hRo hno hR.di hAd (by decide) (by decide) (hR.zl 88 (by decide) (by decide))
          have hS := hS.add hAd (by decide) (by decide) (hR.zl 88 (by decide) (by decide))
          have hth := (congrFun (hAd.I 83 (by omega) (by decide)) 0).trans hth
          have ht_f10 := (hAd.tg _ ha_f10).trans ht_f10
          have ha_f10 := Nat.lt_of_lt_of_le ha_f10 hAd.n
          have hS0 := hS
          have hR0 := hR1
          have hn := Nat.le_refl n17
          have h94 := hS0.1
          have hX := @yX.rf n17 tg17 I17 R17
          have hS := hS0.x hX
          have hR := hR0.x hn hX
          have hz := hX.sz h94
          have hxn := hX.1
          have hN := hR0.1
          have hnb := hR0.2.2.2.2.2.2
          have hthB := hth
          refine y_ret1 ?_
          refine y_pop rfl rfl ?_
          refine y_aload_n rfl rfl ?_
          refine y_getR rfl (ySh.t hS rfl) (ySh.n hS rfl) rfl rfl (ySh.r hS rfl) ?_
          refine y_virt rfl rfl rfl rfl rfl (ySh.t hS rfl) (ySh.n hS rfl) ?_
          refine y_in (M := xm_Jx4a65c_size_8abf5) (ls := [some _]) rfl rfl rfl ?_
          refine y_aload_n rfl rfl ?_
          refine y_getI rfl (ySh.t hS rfl) (ySh.n hS rfl) rfl rfl ?_
          refine y_ireturn rfl rfl rfl ?_
          refine y_ret1 ?_
          refine y_iconst rfl ?_
          refine y_isub rfl ?_
          refine y_ireturn rfl rfl rfl ?_
          exact hQ0 _ (by first | exact .inl ⟨by omega, rfl⟩ | exact .inr ⟨by omega, rfl⟩) (by omega) _ _ _ _ _ _ _ hS ((hR0.grow hX).up (Nat.le_succ K) hk6) (hK.x hRo hno hX) hth (by first | omega | (rw [ysub (by rw [yz_1]; omega) (by rw [yz_1]; omega), yz_1]; omega)) (hg.gx hX (by omega)) (by omega) (by omega) (by omega) (by omega) (by omega) hLk _ hAx.symm hno_x hf0 hf1 hf2 hf3 hf4 hf5 ⟨fun a_ h1_ h2_ => (hX.2.1 a_ (by omega)).2.1.trans (h8 a_ h1_ h2_), fun k_ hk_ => (congrFun (hX.2.1 83 (by omega)).2.1 k_).trans (h3k k_ hk_)⟩ (by omega) (by omega)
        · rw [yz_m1] at h_12
          refine y_bip rfl (by decide) ?_
          refine y_goto rfl j_X14_thing_97 ?_
          refine y_init rfl rfl rfl rfl rfl ?_
          refine y_in (M := xm_X12_init) (ls := [some _, some _, some _]) rfl rfl rfl ?_
          refine y_aload_n rfl rfl ?_
          refine y_obj rfl ha_f10 rfl ?_
          refine y_aload_n rfl rfl ?_
          refine y_iconst rfl ?_
          refine y_putI rfl ht_f10 ha_f10 rfl (Nat.le_trans (by decide) (by omega : 94 ≤ _)) rfl rfl ?_
          refine y_nameI (fun I18 e18 => ?_)
          have hX := hX.upI (by omega) (upI e18)
          have hS := hS0.y hX
          have hR := hR0.y hn hX
          have hz := hX.sz h94
          have hxn := hX.1
          have hth := (congrFun (upI e18 83 (by omega)) 0).trans hth
          refine y_aload_n rfl rfl ?_
          refine y_iconst rfl ?_
          refine y_putI rfl ht_f10 ha_f10 rfl (Nat.le_trans (by decide) (by omega : 94 ≤ _)) rfl rfl ?_
          refine y_nameI (fun I19 e19 => ?_)
          have hX := hX.upI (by omega) (upI e19)
          have hS := hS0.y hX
          have hR := hR0.y hn hX
          have hz := hX.sz h94
          have hxn := hX.1
          have hth := (congrFun (upI e19 83 (by omega)) 0).trans hth
          refine y_aload_n rfl rfl ?_
          refine y_iload_n rfl rfl ?_
          refine y_putI rfl ht_f10 ha_f10 rfl (Nat.le_trans (by decide) (by omega : 94 ≤ _)) rfl rfl ?_
          refine y_nameI (fun I20 e20 => ?_)
          have hX := hX.upI (by omega) (upI e20)
          have hS := hS0.y hX
          have hR := hR0.y hn hX
          have hz := hX.sz h94
          have hxn := hX.1
          have hth := (congrFun (upI e20 83 (by omega)) 0).trans hth
          refine y_aload_n rfl rfl ?_
          refine y_iload_n rfl rfl ?_
          refine y_putI rfl ht_f10 ha_f10 rfl (Nat.le_trans (by decide) (by omega : 94 ≤ _)) rfl rfl ?_
          refine y_nameI (fun I21 e21 => ?_)
          have hX := hX.upI (by omega) (upI e21)
          have hS := hS0.y hX
          have hR := hR0.y hn hX
          have hz := hX.sz h94
          have hxn := hX.1
          have hth := (congrFun (upI e21 83 (by omega)) 0).trans hth
          refine y_return rfl ?_
          refine y_ret0 ?_
          refine y_virt rfl rfl rfl rfl rfl (ySh.t hS rfl) (ySh.n hS rfl) ?_
          refine l_add hS (by decide) (by decide) (ySh.t hS rfl) (Nat.le_trans hn hX.1) hR.l88 (by omega) (by omega) ha_f10 (fun n22 tg22 I22 R22 c_22 s_22 hAd hc_22 hs_22 => ?_)
          have hsA := hAd.sz
          have hsz87 := congrArg Int32.toInt (congrFun (hAd.I 87 (by omega) (by decide)) 2)
          have hsz89 := congrArg Int32.toInt (congrFun (hAd.I 89 (by omega) (by decide)) 2)
          have hsz90 := congrArg Int32.toInt (congrFun (hAd.I 90 (by omega) (by decide)) 2)
          have hsz91 := congrArg Int32.toInt (congrFun (hAd.I 91 (by omega) (by decide)) 2)
          have hsz92 := congrArg Int32.toInt (congrFun (hAd.I 92 (by omega) (by decide)) 2)
          have hszp := congrArg Int32.toInt (congrFun (hAd.I 83 (by omega) (by decide)) 8)
          have hLk0 := yAdd.lk hR (Nat.le_trans hn hX.1) hAd (by decide) (by decide)
          have hcs : ∀ l', 87 ≤ l' → l' ≤ 92 → (I21 l' 2).toInt = (I l' 2).toInt := fun l' h1 h2 => by rw [(hX.2.1 l' (by omega)).2.1, hb83 l' (by omega) (by omega)]
          have hLk : yLk I R R22 := fun l' h1 h2 i hi => (hLk0.1 l' h1 h2 i (by rw [hcs l' h1 h2]; exact hi)).trans (yAd_eq ((hX.2.1 l' (by omega)).2.2.trans (hRb l' (by omega))) ((hX.2.1 _ (by have := hRo.lt6 l' h1 h2; omega)).2.2.trans (hRb _ (hRo.lt6 l' h1 h2))))
          have hAx : yAd R22 88 (I 88 2).toInt.toNat = n := by rw [← hcs 88 (by decide) (by decide)]; exact hLk0.2
          have hno_x : n ≤ n := by omega
          have hg := (hg.y hX (by omega)).add hAd (by omega) (by decide)
          have h8 : ∀ a, 84 ≤ a → a ≤ 86 → I22 a = I a := fun a h1 h2 => (hAd.I a (by omega) (by omega)).trans ((hX.2.1 a (by omega)).2.1.trans (h8 a h1 h2))
          have h3k : ∀ k, k ≠ 0 → I22 83 k = I 83 k := fun k hk => (congrFun (hAd.I 83 (by omega) (by decide)) k).trans ((congrFun (hX.2.1 83 (by omega)).2.1 k).trans (h3k k hk))
          have hday := (congrFun (hAd.I 83 (by omega) (by decide)) 1).trans ((congrFun (hX.2.1 83 (by omega)).2.1 1).trans hday)
          have hf0 : I22 n 0 = x1 := by rw [hAd.I _ ha_f10 (by omega)]; simp only [e21, e20, e19, e18, upd2]; first | rfl | (simp; done) | (simp; exact hz_f10 _) | (simp; omega) | exact hz_f10 _
          have hf1 : I22 n 1 = (Int32.ofInt 9) := by rw [hAd.I _ ha_f10 (by omega)]; simp only [e21, e20, e19, e18, upd2]; first | rfl | (simp; done) | (simp; exact hz_f10 _) | (simp; omega) | exact hz_f10 _
          have hf2 : I22 n 2 = (Int32.ofInt 1) := by rw [hAd.I _ ha_f10 (by omega)]; simp only [e21, e20, e19, e18, upd2]; first | rfl | (simp; done) | (simp; exact hz_f10 _) | (simp; omega) | exact hz_f10 _
          have hf3 : I22 n 3 = (Int32.ofInt 0) := by rw [hAd.I _ ha_f10 (by omega)]; simp only [e21, e20, e19, e18, upd2]; first | rfl | (simp; done) | (simp; exact hz_f10 _) | (simp; omega) | exact hz_f10 _
          have hf4 : I22 n 4 = (Int32.ofInt 0) := by rw [hAd.I _ ha_f10 (by omega)]; simp only [e21, e20, e19, e18, upd2]; first | rfl | (simp; done) | (simp; exact hz_f10 _) | (simp; omega) | exact hz_f10 _
          have hf5 : I22 n 5 = (Int32.ofInt (-1)) := by rw [hAd.I _ ha_f10 (by omega)]; simp only [e21, e20, e19, e18, upd2]; first | rfl | (simp; done) | (simp; exact hz_f10 _) | (simp; omega) | exact hz_f10 _
          have hnA := hAd.n
          have hNu : yNum K I22 := yNum.add (K := K) hR.1 hAd (by omega) (by decide) (by decide) (Nat.le_refl K) (by omega) (fun h => by omega) (fun h => by omega) (fun h => by omega) (fun h => by omega) (fun h => by omega) (fun h => by omega)
          have htx : tg22 n = (20, 0) := (hAd.tg _ ha_f10).trans ht_f10
          have hIx := hAd.I _ ha_f10 (by omega)
          have hOb : yOb K n22 tg22 I22 R22 n := ⟨fun _ => by rw [hIx]; simp only [e21, e20, e19, e18, upd2]; first | omega | (simp; omega) | simp | (simp; decide) | decide, fun hq => absurd (show (20 : Nat) = 19 from congrArg Prod.fst (htx.symm.trans hq)) (by decide), fun hq => absurd (show (20 : Nat) = 18 from congrArg Prod.fst (htx.symm.trans hq)) (by decide), fun hq => absurd (show (20 : Nat) = 21 from congrArg Prod.fst (htx.symm.trans hq)) (by decide)⟩
          have hR1 : yRI K n22 tg22 I22 R22 := yRI.add hR (Nat.le_trans hn hX.1) hAd (by decide) (by decide) rfl (by omega) ha_f10 ht_f10 hnw (Nat.le_refl K) hNu hOb (fun h => absurd h (by decide)) (fun h => absurd h (by decide))
          have hK := (hK.y hRo hno hX).add hRo hno hR.di hAd (by decide) (by decide) (hR.zl 88 (by decide) (by decide))
          have hS := hS.add hAd (by decide) (by decide) (hR.zl 88 (by decide) (by decide))
          have hth := (congrFun (hAd.I 83 (by omega) (by decide)) 0).trans hth
          have ht_f10 := (hAd.tg _ ha_f10).trans ht_f10
          have ha_f10 := Nat.lt_of_lt_of_le ha_f10 hAd.n
          have hS0 := hS
          have hR0 := hR1
          have hn := Nat.le_refl n22
          have h94 := hS0.1
          have hX := @yX.rf n22 tg22 I22 R22
          have hS := hS0.x hX
          have hR := hR0.x hn hX
          have hz := hX.sz h94
          have hxn := hX.1
          have hN := hR0.1
          have hnb := hR0.2.2.2.2.2.2
          have hthB := hth
          refine y_ret1 ?_
          refine y_pop rfl rfl ?_
          refine y_aload_n rfl rfl ?_
          refine y_getR rfl (ySh.t hS rfl) (ySh.n hS rfl) rfl rfl (ySh.r hS rfl) ?_
          refine y_virt rfl rfl rfl rfl rfl (ySh.t hS rfl) (ySh.n hS rfl) ?_
          refine y_in (M := xm_Jx4a65c_size_8abf5) (ls := [some _]) rfl rfl rfl ?_
          refine y_aload_n rfl rfl ?_
          refine y_getI rfl (ySh.t hS rfl) (ySh.n hS rfl) rfl rfl ?_
          refine y_ireturn rfl rfl rfl ?_
          refine y_ret1 ?_
          refine y_iconst rfl ?_
          refine y_isub rfl ?_
          refine y_ireturn rfl rfl rfl ?_
          exact hQ0 _ (by first | exact .inl ⟨by omega, rfl⟩ | exact .inr ⟨by omega, rfl⟩) (by omega) _ _ _ _ _ _ _ hS ((hR0.grow hX).up (Nat.le_succ K) hk6) (hK.x hRo hno hX) hth (by first | omega | (rw [ysub (by rw [yz_1]; omega) (by rw [yz_1]; omega), yz_1]; omega)) (hg.gx hX (by omega)) (by omega) (by omega) (by omega) (by omega) (by omega) hLk _ hAx.symm hno_x hf0 hf1 hf2 hf3 hf4 hf5 ⟨fun a_ h1_ h2_ => (hX.2.1 a_ (by omega)).2.1.trans (h8 a_ h1_ h2_), fun k_ hk_ => (congrFun (hX.2.1 83 (by omega)).2.1 k_).trans (h3k k_ hk_)⟩ (by omega) (by omega)
      · rw [yz_16] at h_8
        refine y_iconst rfl ?_
        refine y_goto rfl j_X14_thing_68 ?_
        refine y_iconst rfl ?_
        refine y_virt rfl rfl rfl rfl rfl (ySh.t hS rfl) (ySh.n hS rfl) ?_
        refine y_in (M := xm_X14_refuse) (ls := [some _, some _, some _]) rfl rfl rfl ?_
        refine y_iload_n rfl rfl ?_
        refine y_if_eqF rfl (by decide) ?_
        refine y_aload_n rfl rfl ?_
        refine y_getIv (v := Int32.ofInt (0)) rfl (ySh.t hS rfl) (ySh.n hS rfl) rfl rfl hth ?_
        refine y_if_neF rfl (by decide) ?_
        refine y_aload_n rfl rfl ?_
        refine y_iload_n rfl rfl ?_
        refine y_putI rfl (ySh.t hS rfl) (ySh.n hS rfl) rfl (Nat.le_of_ble_eq_true rfl) rfl rfl ?_
        refine y_nameI (fun I23 e23 => ?_)
        have hR1 := (hR0.grow hX).mod0 e23 (by decide) (by decide)
        have hK := (hK.x hRo hno hX).upI (upI e23) (by decide) (by decide) (fun i hi => by have := (hRo.l87.2.2.2.2 i hi).2.1; omega) (by rw [e23, upd2_ne (.inr (by decide))]; exact Int.le_refl _)
        have hth : I23 83 0 = Int32.ofInt (3) := by rw [e23, upd2_self]
        have hzz : ySz8 I3 I23 := ySz8_of (upI e23) (by rw [e23]; exact ⟨upd2_ne (.inr (by decide)), upd2_ne (.inr (by decide))⟩)
        have hB := (hB.trans hX).wr e23 rfl
        have h8 : ∀ a, 84 ≤ a → a ≤ 86 → I23 a = I a := fun a h1 h2 => (upI e23 a (by omega)).trans ((hX.2.1 a (by omega)).2.1.trans (h8 a h1 h2))
        have h3k : ∀ k, k ≠ 0 → I23 83 k = I 83 k := fun k hk => (congrFun (congrFun e23 83) k).trans ((upd2_ne (.inr hk)).trans ((congrFun (hX.2.1 83 (by omega)).2.1 k).trans (h3k k hk)))
        have hg := (hg.gx hX (by omega)).skip e23 (by decide)
        have hday : I23 83 1 = I 83 1 := (congrFun (congrFun e23 83) 1).trans ((upd2_ne (.inr (by decide))).trans ((congrFun (hX.2.1 83 (by omega)).2.1 1).trans hday))
        have hRb : ∀ a, a < n → R a = R a := fun a ha => (hX.2.1 a (by omega)).2.2.trans (hRb a ha)
        have hb83 : ∀ a, a ≠ 83 → a < n → I23 a = I a := fun a ha hb => (upI e23 a ha).trans ((hX.2.1 a (by omega)).2.1.trans (hb83 a ha hb))
        have hS0 := hS
        have hR0 := hR1
        have hn := Nat.le_refl n
        have h94 := hS0.1
        have hX := @yX.rf n tg I23 R
        have hS := hS0.x hX
        have hR := hR0.x hn hX
        have hz := hX.sz h94
        have hxn := hX.1
        have hN := hR0.1
        have hnb := hR0.2.2.2.2.2.2
        have hthB := hth
        refine y_aload_n rfl rfl ?_
        refine y_getIv (v := Int32.ofInt (3)) rfl (ySh.t hS rfl) (ySh.n hS rfl) rfl rfl hth ?_
        refine y_if_leF rfl (by decide) ?_
        refine y_iconst rfl ?_
        refine y_goto rfl j_X14_refuse_28 ?_
        refine y_ireturn rfl rfl rfl ?_
        refine y_ret1 ?_
        refine y_if_eqF rfl (by decide) ?_
        refine y_iconst rfl ?_
        refine y_ireturn rfl rfl rfl ?_
        exact hQ3 (by omega) _ _ _ _ _ _ _ hS ((hR0.grow hX).up (Nat.le_succ K) hk6) (hK.x hRo hno hX) hth (hg.gx hX (by omega)) (by omega) (by omega) (by omega) (by omega) (by omega) (fun l_ h1_ h2_ i_ _ => yAd_eq ((hX.2.1 l_ (by omega)).2.2.trans (hRb l_ (by omega))) ((hX.2.1 _ (by have := hRo.lt6 l_ h1_ h2_; omega)).2.2.trans (hRb _ (hRo.lt6 l_ h1_ h2_)))) ((hB.trans hX).rf2 (by omega)) (by omega) (by omega)
    · rw [yz_1] at h_6
      rw [yz_999] at h_6
      refine y_ret1 ?_
      refine y_if_neF rfl (by decide) ?_
      refine y_iconst rfl ?_
      refine y_goto rfl j_X14_thing_43 ?_
      refine y_iconst rfl ?_
      refine y_virt rfl rfl rfl rfl rfl (ySh.t hS rfl) (ySh.n hS rfl) ?_
      refine y_in (M := xm_X14_refuse) (ls := [some _, some _, some _]) rfl rfl rfl ?_
      refine y_iload_n rfl rfl ?_
      refine y_if_eqF rfl (by decide) ?_
      refine y_aload_n rfl rfl ?_
      refine y_getIv (v := Int32.ofInt (0)) rfl (ySh.t hS rfl) (ySh.n hS rfl) rfl rfl hth ?_
      refine y_if_neF rfl (by decide) ?_
      refine y_aload_n rfl rfl ?_
      refine y_iload_n rfl rfl ?_
      refine y_putI rfl (ySh.t hS rfl) (ySh.n hS rfl) rfl (Nat.le_of_ble_eq_true rfl) rfl rfl ?_
      refine y_nameI (fun I24 e24 => ?_)
      have hR1 := (hR0.grow hX).mod0 e24 (by decide) (by decide)
      have hK := (hK.x hRo hno hX).upI (upI e24) (by decide) (by decide) (fun i hi => by have := (hRo.l87.2.2.2.2 i hi).2.1; omega) (by rw [e24, upd2_ne (.inr (by decide))]; exact Int.le_refl _)
      have hth : I24 83 0 = Int32.ofInt (2) := by rw [e24, upd2_self]
      have hzz : ySz8 I3 I24 := ySz8_of (upI e24) (by rw [e24]; exact ⟨upd2_ne (.inr (by decide)), upd2_ne (.inr (by decide))⟩)
      have hB := (hB.trans hX).wr e24 rfl
      have h8 : ∀ a, 84 ≤ a → a ≤ 86 → I24 a = I a := fun a h1 h2 => (upI e24 a (by omega)).trans ((hX.2.1 a (by omega)).2.1.trans (h8 a h1 h2))
      have h3k : ∀ k, k ≠ 0 → I24 83 k = I 83 k := fun k hk => (congrFun (congrFun e24 83) k).trans ((upd2_ne (.inr hk)).trans ((congrFun (hX.2.1 83 (by omega)).2.1 k).trans (h3k k hk)))
      have hg := (hg.gx hX (by omega)).skip e24 (by decide)
      have hday : I24 83 1 = I 83 1 := (congrFun (congrFun e24 83) 1).trans ((upd2_ne (.inr (by decide))).trans ((congrFun (hX.2.1 83 (by omega)).2.1 1).trans hday))
      have hRb : ∀ a, a < n → R a = R a := fun a ha => (hX.2.1 a (by omega)).2.2.trans (hRb a ha)
      have hb83 : ∀ a, a ≠ 83 → a < n → I24 a = I a := fun a ha hb => (upI e24 a ha).trans ((hX.2.1 a (by omega)).2.1.trans (hb83 a ha hb))
      have hS0 := hS
      have hR0 := hR1
      have hn := Nat.le_refl n
      have h94 := hS0.1
      have hX := @yX.rf n tg I24 R
      have hS := hS0.x hX
      have hR := hR0.x hn hX
      have hz := hX.sz h94
      have hxn := hX.1
      have hN := hR0.1
      have hnb := hR0.2.2.2.2.2.2
      have hthB := hth
      refine y_aload_n rfl rfl ?_
      refine y_getIv (v := Int32.ofInt (2)) rfl (ySh.t hS rfl) (ySh.n hS rfl) rfl rfl hth ?_
      refine y_if_leF rfl (by decide) ?_
      refine y_iconst rfl ?_
      refine y_goto rfl j_X14_refuse_28 ?_
      refine y_ireturn rfl rfl rfl ?_
      refine y_ret1 ?_
      refine y_if_neT rfl j_X14_thing_75 (by decide) ?_
      refine y_iconst rfl ?_
      refine y_ireturn rfl rfl rfl ?_
      exact hQ2 (by omega) _ _ _ _ _ _ _ hS ((hR0.grow hX).up (Nat.le_succ K) hk6) (hK.x hRo hno hX) hth (hg.gx hX (by omega)) (by omega) (by omega) (by omega) (by omega) (by omega) (fun l_ h1_ h2_ i_ _ => yAd_eq ((hX.2.1 l_ (by omega)).2.2.trans (hRb l_ (by omega))) ((hX.2.1 _ (by have := hRo.lt6 l_ h1_ h2_; omega)).2.2.trans (hRb _ (hRo.lt6 l_ h1_ h2_)))) ((hB.trans hX).rf2 (by omega)) (by omega) (by omega)
  · rw [yz_m1] at h_2
    refine y_aload_n rfl rfl ?_
    refine y_iload_n rfl rfl ?_
    refine y_virt rfl rfl rfl rfl rfl (ySh.t hS rfl) (ySh.n hS rfl) ?_
    refine y_in (M := xm_X14_isNobody) (ls := [some _, some _]) rfl rfl rfl ?_
    refine y_iload_n rfl rfl ?_
    refine y_iconst rfl ?_
    refine y_aload_n rfl rfl ?_
    refine y_getIv (v := I 83 8) rfl (ySh.t hS rfl) (ySh.n hS rfl) rfl rfl ((congrFun ((hB.trans hX).n (by omega : 83 < n)) 8).trans (by repeat (first | rfl | rw [upd2_ne (by first | exact .inl (by omega) | exact .inr (by decide))]))) ?_
    refine y_iconst rfl ?_
    refine y_isub rfl ?_
    refine y_static rfl rfl rfl rfl rfl ?_
    refine r_isIn (fun h_25 h_26 => ?_) (fun h_27 => ?_)
    · rw [yz_0] at h_25
      try rw [ysub (by rw [yz_1]; omega) (by rw [yz_1]; omega), yz_1] at h_26
      refine y_ret1 ?_
      refine y_if_neT rfl j_X14_isNobody_18 (by decide) ?_
      refine y_iconst rfl ?_
      refine y_ireturn rfl rfl rfl ?_
      refine y_ret1 ?_
      refine y_if_eqT rfl j_X14_thing_18 (by decide) ?_
      refine y_iconst rfl ?_
      refine y_iconst rfl ?_
      refine y_virt rfl rfl rfl rfl rfl (ySh.t hS rfl) (ySh.n hS rfl) ?_
      refine y_in (M := xm_X14_start) (ls := [some _, some _, some _]) rfl rfl rfl ?_
      refine y_aload_n rfl rfl ?_
      refine y_iconst rfl ?_
      refine y_putI rfl (ySh.t hS rfl) (ySh.n hS rfl) rfl (Nat.le_of_ble_eq_true rfl) rfl rfl ?_
      refine y_nameI (fun I28 e28 => ?_)
      have hR1 := (hR0.grow hX).mod0 e28 (by decide) (by decide)
      have hK := (hK.x hRo hno hX).upI (upI e28) (by decide) (by decide) (fun i hi => by have := (hRo.l87.2.2.2.2 i hi).2.1; omega) (by rw [e28, upd2_ne (.inr (by decide))]; exact Int.le_refl _)
      have hth : I28 83 0 = Int32.ofInt (0) := by rw [e28, upd2_self]
      have hzz : ySz8 I I28 := ySz8_of (upI e28) (by rw [e28]; exact ⟨upd2_ne (.inr (by decide)), upd2_ne (.inr (by decide))⟩)
      have hB := (hB.trans hX).wr e28 rfl
      have h8 : ∀ a, 84 ≤ a → a ≤ 86 → I28 a = I a := fun a h1 h2 => (upI e28 a (by omega)).trans ((hX.2.1 a (by omega)).2.1.trans (h8 a h1 h2))
      have h3k : ∀ k, k ≠ 0 → I28 83 k = I 83 k := fun k hk => (congrFun (congrFun e28 83) k).trans ((upd2_ne (.inr hk)).trans ((congrFun (hX.2.1 83 (by omega)).2.1 k).trans (h3k k hk)))
      have hg := (hg.gx hX (by omega)).skip e28 (by decide)
      have hday : I28 83 1 = I 83 1 := (congrFun (congrFun e28 83) 1).trans ((upd2_ne (.inr (by decide))).trans ((congrFun (hX.2.1 83 (by omega)).2.1 1).trans hday))
      have hRb : ∀ a, a < n → R a = R a := fun a ha => (hX.2.1 a (by omega)).2.2.trans (hRb a ha)
      have hb83 : ∀ a, a ≠ 83 → a < n → I28 a = I a := fun a ha hb => (upI e28 a ha).trans ((hX.2.1 a (by omega)).2.1.trans (hb83 a ha hb))
      have hS0 := hS
      have hR0 := hR1
      have hn := Nat.le_refl n
      have h94 := hS0.1
      have hX := @yX.rf n tg I28 R
      have hS := hS0.x hX
      have hR := hR0.x hn hX
      have hz := hX.sz h94
      have hxn := hX.1
      have hN := hR0.1
      have hnb := hR0.2.2.2.2.2.2
      have hthB := hth
      refine y_aload_n rfl rfl ?_
      refine y_iload_n rfl rfl ?_
      refine y_iload_n rfl rfl ?_
      refine y_virt rfl rfl rfl rfl rfl (ySh.t hS rfl) (ySh.n hS rfl) ?_
      refine y_in (M := xm_X14_refuse) (ls := [some _, some _, some _]) rfl rfl rfl ?_
      refine y_iload_n rfl rfl ?_
      refine y_if_eqT rfl j_X14_refuse_16 (by decide) ?_
      refine y_aload_n rfl rfl ?_
      refine y_getIv (v := Int32.ofInt (0)) rfl (ySh.t hS rfl) (ySh.n hS rfl) rfl rfl hth ?_
      refine y_if_leT rfl j_X14_refuse_27 (by decide) ?_
      refine y_iconst rfl ?_
      refine y_ireturn rfl rfl rfl ?_
      refine y_ret1 ?_
      refine y_ireturn rfl rfl rfl ?_
      refine y_ret1 ?_
      refine y_if_neF rfl (by decide) ?_
      refine y_aload_n rfl rfl ?_
      refine y_iload_n rfl rfl ?_
      refine y_iconst rfl ?_
      refine y_sip rfl (by decide) ?_
      refine y_static rfl rfl rfl rfl rfl ?_
      refine r_isIn (fun h_29 h_30 => ?_) (fun h_31 => ?_)
      · rw [yz_1] at h_29
        rw [yz_999] at h_30
        refine y_ret1 ?_
        refine y_if_neT rfl j_X14_thing_42 (by decide) ?_
        refine y_iconst rfl ?_
        refine y_iconst rfl ?_
        refine y_virt rfl rfl rfl rfl rfl (ySh.t hS rfl) (ySh.n hS rfl) ?_
        refine y_in (M := xm_X14_refuse) (ls := [some _, some _, some _]) rfl rfl rfl ?_
        refine y_iload_n rfl rfl ?_
        refine y_if_eqT rfl j_X14_refuse_16 (by decide) ?_
        refine y_aload_n rfl rfl ?_
        refine y_getIv (v := Int32.ofInt (0)) rfl (ySh.t hS rfl) (ySh.n hS rfl) rfl rfl hth ?_
        refine y_if_leT rfl j_X14_refuse_27 (by decide) ?_
        refine y_iconst rfl ?_
        refine y_ireturn rfl rfl rfl ?_
        refine y_ret1 ?_
        refine y_if_neF rfl (by decide) ?_
        refine y_aload_n rfl rfl ?_
        refine y_aload_n rfl rfl ?_
        refine y_getR rfl (ySh.t hS rfl) (ySh.n hS rfl) rfl rfl (ySh.r hS rfl) ?_
        refine y_virt rfl rfl rfl rfl rfl (ySh.t hS rfl) (ySh.n hS rfl) ?_
        refine y_in (M := xm_Jx4a65c_size_8abf5) (ls := [some _]) rfl rfl rfl ?_
        refine y_aload_n rfl rfl ?_
        refine y_getI rfl (ySh.t hS rfl) (ySh.n hS rfl) rfl rfl ?_
        refine y_ireturn rfl rfl rfl ?_
        refine y_ret1 ?_
        refine y_bip rfl (by decide) ?_
        refine y_icmp_ne rfl j_X14_thing_67 (fun h_32 => ?_) (fun h_33 => ?_)
        · rw [yz_16] at h_32
          refine y_iconst rfl ?_
          refine y_iconst rfl ?_
          refine y_virt rfl rfl rfl rfl rfl (ySh.t hS rfl) (ySh.n hS rfl) ?_
          refine y_in (M := xm_X14_refuse) (ls := [some _, some _, some _]) rfl rfl rfl ?_
          refine y_iload_n rfl rfl ?_
          refine y_if_eqT rfl j_X14_refuse_16 (by decide) ?_
          refine y_aload_n rfl rfl ?_
          refine y_getIv (v := Int32.ofInt (0)) rfl (ySh.t hS rfl) (ySh.n hS rfl) rfl rfl hth ?_
          refine y_if_leT rfl j_X14_refuse_27 (by decide) ?_
          refine y_iconst rfl ?_
          refine y_ireturn rfl rfl rfl ?_
          refine y_ret1 ?_
          refine y_if_eqT rfl j_X14_thing_77 (by decide) ?_
          refine y_aload_n rfl rfl ?_
          refine y_getR rfl (ySh.t hS rfl) (ySh.n hS rfl) rfl rfl (ySh.r hS rfl) ?_
          refine y_newX rfl rfl rfl (fun n34 tg34 I34 R34 hA => ?_)
          have hnA := hA.1
          have hnw := yNw.al hX hA
          have ht_f35 : tg34 n = (20, 0) := hA.2.1
          have ha_f35 : n < n34 := by omega
          have hX := hX.y.trans hA.y
          have hS := hS0.y hX
          have hR := hR0.y hn hX
          have hz := hX.sz h94
          have hxn := hX.1
          have hth := (congrFun (hA.2.2.2.2 83 (by omega)).2.1 0).trans hth
          have hz_f35 : ∀ k, I34 n k = 0 := hA.2.2.1
          refine y_dup rfl rfl ?_
          refine y_iload_n rfl rfl ?_
          refine y_iload_n rfl rfl ?_
          refine y_iconst rfl ?_
          refine y_icmp_ne rfl j_X14_thing_96 (fun h_36 => ?_) (fun h_37 => ?_)
          · rw [yz_m1] at h_36
            refine y_iload_n rfl rfl ?_
            refine y_init rfl rfl rfl rfl rfl ?_
            refine y_in (M := xm_X12_init) (ls := [some _, some _, some _]) rfl rfl rfl ?_
            refine y_aload_n rfl rfl ?_
            refine y_obj rfl ha_f35 rfl ?_
            refine y_aload_n rfl rfl ?_
            refine y_iconst rfl ?_
            refine y_putI rfl ht_f35 ha_f35 rfl (Nat.le_trans (by decide) (by omega : 94 ≤ _)) rfl rfl ?_
            refine y_nameI (fun I38 e38 => ?_)
            have hX := hX.upI (by omega) (upI e38)
            have hS := hS0.y hX
            have hR := hR0.y hn hX
            have hz := hX.sz h94
            have hxn := hX.1
            have hth := (congrFun (upI e38 83 (by omega)) 0).trans hth
            refine y_aload_n rfl rfl ?_
            refine y_iconst rfl ?_
            refine y_putI rfl ht_f35 ha_f35 rfl (Nat.le_trans (by decide) (by omega : 94 ≤ _)) rfl rfl ?_
            refine y_nameI (fun I39 e39 => ?_)
            have hX := hX.upI (by omega) (upI e39)
            have hS := hS0.y hX
            have hR := hR0.y hn hX
            have hz := hX.sz h94
            have hxn := hX.1
            have hth := (congrFun (upI e39 83 (by omega)) 0).trans hth
            refine y_aload_n rfl rfl ?_
            refine y_iload_n rfl rfl ?_
            refine y_putI rfl ht_f35 ha_f35 rfl (Nat.le_trans (by decide) (by omega : 94 ≤ _)) rfl rfl ?_
            refine y_nameI (fun I40 e40 => ?_)
            have hX := hX.upI (by omega) (upI e40)
            have hS := hS0.y hX
            have hR := hR0.y hn hX
            have hz := hX.sz h94
            have hxn := hX.1
            have hth := (congrFun (upI e40 83 (by omega)) 0).trans hth
            refine y_aload_n rfl rfl ?_
            refine y_iload_n rfl rfl ?_
            refine y_putI rfl ht_f35 ha_f35 rfl (Nat.le_trans (by decide) (by omega : 94 ≤ _)) rfl rfl ?_
            refine y_nameI (fun I41 e41 => ?_)
            have hX := hX.upI (by omega) (upI e41)
            have hS := hS0.y hX
            have hR := hR0.y hn hX
            have hz := hX.sz h94
            have hxn := hX.1
            have hth := (congrFun (upI e41 83 (by omega)) 0).trans hth
            refine y_return rfl ?_
            refine y_ret0 ?_
            refine y_virt rfl rfl rfl rfl rfl (ySh.t hS rfl) (ySh.n hS rfl) ?_
            refine l_add hS (by decide) (by decide) (ySh.t hS rfl) (Nat.le_trans hn hX.1) hR.l88 (by omega) (by omega) ha_f35 (fun n42 tg42 I42 R42 c_42 s_42 hAd hc_42 hs_42 => ?_)
            have hsA := hAd.sz
            have hsz87 := congrArg Int32.toInt (congrFun (hAd.I 87 (by omega) (by decide)) 2)
            have hsz89 := congrArg Int32.toInt (congrFun (hAd.I 89 (by omega) (by decide)) 2)
            have hsz90 := congrArg Int32.toInt (congrFun (hAd.I 90 (by omega) (by decide)) 2)
            have hsz91 := congrArg Int32.toInt (congrFun (hAd.I 91 (by omega) (by decide)) 2)
            have hsz92 := congrArg Int32.toInt (congrFun (hAd.I 92 (by omega) (by decide)) 2)
            have hszp := congrArg Int32.toInt (congrFun (hAd.I 83 (by omega) (by decide)) 8)
            have hLk0 := yAdd.lk hR (Nat.le_trans hn hX.1) hAd (by decide) (by decide)
            have hcs : ∀ l', 87 ≤ l' → l' ≤ 92 → (I41 l' 2).toInt = (I l' 2).toInt := fun l' h1 h2 => by rw [(hX.2.1 l' (by omega)).2.1, hb83 l' (by omega) (by omega)]
            have hLk : yLk I R R42 := fun l' h1 h2 i hi => (hLk0.1 l' h1 h2 i (by rw [hcs l' h1 h2]; exact hi)).trans (yAd_eq ((hX.2.1 l' (by omega)).2.2.trans (hRb l' (by omega))) ((hX.2.1 _ (by have := hRo.lt6 l' h1 h2; omega)).2.2.trans (hRb _ (hRo.lt6 l' h1 h2))))
            have hAx : yAd R42 88 (I 88 2).toInt.toNat = n := by rw [← hcs 88 (by decide) (by decide)]; exact hLk0.2
            have hno_x : n ≤ n := by omega
            have hg := (hg.y hX (by omega)).add hAd (by omega) (by decide)
            have h8 : ∀ a, 84 ≤ a → a ≤ 86 → I42 a = I a := fun a h1 h2 => (hAd.I a (by omega) (by omega)).trans ((hX.2.1 a (by omega)).2.1.trans (h8 a h1 h2))
            have h3k : ∀ k, k ≠ 0 → I42 83 k = I 83 k := fun k hk => (congrFun (hAd.I 83 (by omega) (by decide)) k).trans ((congrFun (hX.2.1 83 (by omega)).2.1 k).trans (h3k k hk))
            have hday := (congrFun (hAd.I 83 (by omega) (by decide)) 1).trans ((congrFun (hX.2.1 83 (by omega)).2.1 1).trans hday)
            have hf0 : I42 n 0 = x1 := by rw [hAd.I _ ha_f35 (by omega)]; simp only [e41, e40, e39, e38, upd2]; first | rfl | (simp; done) | (simp; exact hz_f35 _) | (simp; omega) | exact hz_f35 _
            have hf1 : I42 n 1 = x2 := by rw [hAd.I _ ha_f35 (by omega)]; simp only [e41, e40, e39, e38, upd2]; first | rfl | (simp; done) | (simp; exact hz_f35 _) | (simp; omega) | exact hz_f35 _
            have hf2 : I42 n 2 = (Int32.ofInt 1) := by rw [hAd.I _ ha_f35 (by omega)]; simp only [e41, e40, e39, e38, upd2]; first | rfl | (simp; done) | (simp; exact hz_f35 _) | (simp; omega) | exact hz_f35 _
            have hf3 : I42 n 3 = (Int32.ofInt 0) := by rw [hAd.I _ ha_f35 (by omega)]; simp only [e41, e40, e39, e38, upd2]; first | rfl | (simp; done) | (simp; exact hz_f35 _) | (simp; omega) | exact hz_f35 _
            have hf4 : I42 n 4 = (Int32.ofInt 0) := by rw [hAd.I _ ha_f35 (by omega)]; simp only [e41, e40, e39, e38, upd2]; first | rfl | (simp; done) | (simp; exact hz_f35 _) | (simp; omega) | exact hz_f35 _
            have hf5 : I42 n 5 = (Int32.ofInt (-1)) := by rw [hAd.I _ ha_f35 (by omega)]; simp only [e41, e40, e39, e38, upd2]; first | rfl | (simp; done) | (simp; exact hz_f35 _) | (simp; omega) | exact hz_f35 _
            have hnA := hAd.n
            have hNu : yNum K I42 := yNum.add (K := K) hR.1 hAd (by omega) (by decide) (by decide) (Nat.le_refl K) (by omega) (fun h => by omega) (fun h => by omega) (fun h => by omega) (fun h => by omega) (fun h => by omega) (fun h => by omega)
            have htx : tg42 n = (20, 0) := (hAd.tg _ ha_f35).trans ht_f35
            have hIx := hAd.I _ ha_f35 (by omega)
            have hOb : yOb K n42 tg42 I42 R42 n := ⟨fun _ => by rw [hIx]; simp only [e41, e40, e39, e38, upd2]; first | omega | (simp; omega) | simp | (simp; decide) | decide, fun hq => absurd (show (20 : Nat) = 19 from congrArg Prod.fst (htx.symm.trans hq)) (by decide), fun hq => absurd (show (20 : Nat) = 18 from congrArg Prod.fst (htx.symm.trans hq)) (by decide), fun hq => absurd (show (20 : Nat) = 21 from congrArg Prod.fst (htx.symm.trans hq)) (by decide)⟩
            have hR1 : yRI K n42 tg42 I42 R42 := yRI.add hR (Nat.le_trans hn hX.1) hAd (by decide) (by decide) rfl (by omega) ha_f35 ht_f35 hnw (Nat.le_refl K) hNu hOb (fun h => absurd h (by decide)) (fun h => absurd h (by decide))
            have hK := (hK.y hRo hno hX).add hRo hno hR.di hAd (by decide) (by decide) (hR.zl 88 (by decide) (by decide))
            have hS := hS.add hAd (by decide) (by decide) (hR.zl 88 (by decide) (by decide))
            have hth := (congrFun (hAd.I 83 (by omega) (by decide)) 0).trans hth
            have ht_f35 := (hAd.tg _ ha_f35).trans ht_f35
            have ha_f35 := Nat.lt_of_lt_of_le ha_f35 hAd.n
            have hS0 := hS
            have hR0 := hR1
            have hn := Nat.le_refl n42
            have h94 := hS0.1
            have hX := @yX.rf n42 tg42 I42 R42
            have hS := hS0.x hX
            have hR := hR0.x hn hX
            have hz := hX.sz h94
            have hxn := hX.1
            have hN := hR0.1
            have hnb := hR0.2.2.2.2.2.2
            have hthB := hth
            refine y_ret1 ?_
            refine y_pop rfl rfl ?_
            refine y_aload_n rfl rfl ?_
            refine y_getR rfl (ySh.t hS rfl) (ySh.n hS rfl) rfl rfl (ySh.r hS rfl) ?_
            refine y_virt rfl rfl rfl rfl rfl (ySh.t hS rfl) (ySh.n hS rfl) ?_
            refine y_in (M := xm_Jx4a65c_size_8abf5) (ls := [some _]) rfl rfl rfl ?_
            refine y_aload_n rfl rfl ?_
            refine y_getI rfl (ySh.t hS rfl) (ySh.n hS rfl) rfl rfl ?_
            refine y_ireturn rfl rfl rfl ?_
            refine y_ret1 ?_
            refine y_iconst rfl ?_
            refine y_isub rfl ?_
            refine y_ireturn rfl rfl rfl ?_
            exact hQ0 _ (by first | exact .inl ⟨by omega, rfl⟩ | exact .inr ⟨by omega, rfl⟩) (by omega) _ _ _ _ _ _ _ hS ((hR0.grow hX).up (Nat.le_succ K) hk6) (hK.x hRo hno hX) hth (by first | omega | (rw [ysub (by rw [yz_1]; omega) (by rw [yz_1]; omega), yz_1]; omega)) (hg.gx hX (by omega)) (by omega) (by omega) (by omega) (by omega) (by omega) hLk _ hAx.symm hno_x hf0 hf1 hf2 hf3 hf4 hf5 ⟨fun a_ h1_ h2_ => (hX.2.1 a_ (by omega)).2.1.trans (h8 a_ h1_ h2_), fun k_ hk_ => (congrFun (hX.2.1 83 (by omega)).2.1 k_).trans (h3k k_ hk_)⟩ (by omega) (by omega)
          · rw [yz_m1] at h_37
            refine y_bip rfl (by decide) ?_
            refine y_goto rfl j_X14_thing_97 ?_
            refine y_init rfl rfl rfl rfl rfl ?_
            refine y_in (M := xm_X12_init) (ls := [some _, some _, some _]) rfl rfl rfl ?_
            refine y_aload_n rfl rfl ?_
            refine y_obj rfl ha_f35 rfl ?_
            refine y_aload_n rfl rfl ?_
            refine y_iconst rfl ?_
            refine y_putI rfl ht_f35 ha_f35 rfl (Nat.le_trans (by decide) (by omega : 94 ≤ _)) rfl rfl ?_
            refine y_nameI (fun I43 e43 => ?_)
            have hX := hX.upI (by omega) (upI e43)
            have hS := hS0.y hX
            have hR := hR0.y hn hX
            have hz := hX.sz h94
            have hxn := hX.1
            have hth := (congrFun (upI e43 83 (by omega)) 0).trans hth
            refine y_aload_n rfl rfl ?_
            refine y_iconst rfl ?_
            refine y_putI rfl ht_f35 ha_f35 rfl (Nat.le_trans (by decide) (by omega : 94 ≤ _)) rfl rfl ?_
            refine y_nameI (fun I44 e44 => ?_)
            have hX := hX.upI (by omega) (upI e44)
            have hS := hS0.y hX
            have hR := hR0.y hn hX
            have hz := hX.sz h94
            have hxn := hX.1
            have hth := (congrFun (upI e44 83 (by omega)) 0).trans hth
            refine y_aload_n rfl rfl ?_
            refine y_iload_n rfl rfl ?_
            refine y_putI rfl ht_f35 ha_f35 rfl (Nat.le_trans (by decide) (by omega : 94 ≤ _)) rfl rfl ?_
            refine y_nameI (fun I45 e45 => ?_)
            have hX := hX.upI (by omega) (upI e45)
            have hS := hS0.y hX
            have hR := hR0.y hn hX
            have hz := hX.sz h94
            have hxn := hX.1
            have hth := (congrFun (upI e45 83 (by omega)) 0).trans hth
            refine y_aload_n rfl rfl ?_
            refine y_iload_n rfl rfl ?_
            refine y_putI rfl ht_f35 ha_f35 rfl (Nat.le_trans (by decide) (by omega : 94 ≤ _)) rfl rfl ?_
            refine y_nameI (fun I46 e46 => ?_)
            have hX := hX.upI (by omega) (upI e46)
            have hS := hS0.y hX
            have hR := hR0.y hn hX
            have hz := hX.sz h94
            have hxn := hX.1
            have hth := (congrFun (upI e46 83 (by omega)) 0).trans hth
            refine y_return rfl ?_
            refine y_ret0 ?_
            refine y_virt rfl rfl rfl rfl rfl (ySh.t hS rfl) (ySh.n hS rfl) ?_
            refine l_add hS (by decide) (by decide) (ySh.t hS rfl) (Nat.le_trans hn hX.1) hR.l88 (by omega) (by omega) ha_f35 (fun n47 tg47 I47 R47 c_47 s_47 hAd hc_47 hs_47 => ?_)
            have hsA := hAd.sz
            have hsz87 := congrArg Int32.toInt (congrFun (hAd.I 87 (by omega) (by decide)) 2)
            have hsz89 := congrArg Int32.toInt (congrFun (hAd.I 89 (by omega) (by decide)) 2)
            have hsz90 := congrArg Int32.toInt (congrFun (hAd.I 90 (by omega) (by decide)) 2)
            have hsz91 := congrArg Int32.toInt (congrFun (hAd.I 91 (by omega) (by decide)) 2)
            have hsz92 := congrArg Int32.toInt (congrFun (hAd.I 92 (by omega) (by decide)) 2)
            have hszp := congrArg Int32.toInt (congrFun (hAd.I 83 (by omega) (by decide)) 8)
            have hLk0 := yAdd.lk hR (Nat.le_trans hn hX.1) hAd (by decide) (by decide)
            have hcs : ∀ l', 87 ≤ l' → l' ≤ 92 → (I46 l' 2).toInt = (I l' 2).toInt := fun l' h1 h2 => by rw [(hX.2.1 l' (by omega)).2.1, hb83 l' (by omega) (by omega)]
            have hLk : yLk I R R47 := fun l' h1 h2 i hi => (hLk0.1 l' h1 h2 i (by rw [hcs l' h1 h2]; exact hi)).trans (yAd_eq ((hX.2.1 l' (by omega)).2.2.trans (hRb l' (by omega))) ((hX.2.1 _ (by have := hRo.lt6 l' h1 h2; omega)).2.2.trans (hRb _ (hRo.lt6 l' h1 h2))))
            have hAx : yAd R47 88 (I 88 2).toInt.toNat = n := by rw [← hcs 88 (by decide) (by decide)]; exact hLk0.2
            have hno_x : n ≤ n := by omega
            have hg := (hg.y hX (by omega)).add hAd (by omega) (by decide)
            have h8 : ∀ a, 84 ≤ a → a ≤ 86 → I47 a = I a := fun a h1 h2 => (hAd.I a (by omega) (by omega)).trans ((hX.2.1 a (by omega)).2.1.trans (h8 a h1 h2))
            have h3k : ∀ k, k ≠ 0 → I47 83 k = I 83 k := fun k hk => (congrFun (hAd.I 83 (by omega) (by decide)) k).trans ((congrFun (hX.2.1 83 (by omega)).2.1 k).trans (h3k k hk))
            have hday := (congrFun (hAd.I 83 (by omega) (by decide)) 1).trans ((congrFun (hX.2.1 83 (by omega)).2.1 1).trans hday)
            have hf0 : I47 n 0 = x1 := by rw [hAd.I _ ha_f35 (by omega)]; simp only [e46, e45, e44, e43, upd2]; first | rfl | (simp; done) | (simp; exact hz_f35 _) | (simp; omega) | exact hz_f35 _
            have hf1 : I47 n 1 = (Int32.ofInt 9) := by rw [hAd.I _ ha_f35 (by omega)]; simp only [e46, e45, e44, e43, upd2]; first | rfl | (simp; done) | (simp; exact hz_f35 _) | (simp; omega) | exact hz_f35 _
            have hf2 : I47 n 2 = (Int32.ofInt 1) := by rw [hAd.I _ ha_f35 (by omega)]; simp only [e46, e45, e44, e43, upd2]; first | rfl | (simp; done) | (simp; exact hz_f35 _) | (simp; omega) | exact hz_f35 _
            have hf3 : I47 n 3 = (Int32.ofInt 0) := by rw [hAd.I _ ha_f35 (by omega)]; simp only [e46, e45, e44, e43, upd2]; first | rfl | (simp; done) | (simp; exact hz_f35 _) | (simp; omega) | exact hz_f35 _
            have hf4 : I47 n 4 = (Int32.ofInt 0) := by rw [hAd.I _ ha_f35 (by omega)]; simp only [e46, e45, e44, e43, upd2]; first | rfl | (simp; done) | (simp; exact hz_f35 _) | (simp; omega) | exact hz_f35 _
            have hf5 : I47 n 5 = (Int32.ofInt (-1)) := by rw [hAd.I _ ha_f35 (by omega)]; simp only [e46, e45, e44, e43, upd2]; first | rfl | (simp; done) | (simp; exact hz_f35 _) | (simp; omega) | exact hz_f35 _
            have hnA := hAd.n
            have hNu : yNum K I47 := yNum.add (K := K) hR.1 hAd (by omega) (by decide) (by decide) (Nat.le_refl K) (by omega) (fun h => by omega) (fun h => by omega) (fun h => by omega) (fun h => by omega) (fun h => by omega) (fun h => by omega)
            have htx : tg47 n = (20, 0) := (hAd.tg _ ha_f35).trans ht_f35
            have hIx := hAd.I _ ha_f35 (by omega)
            have hOb : yOb K n47 tg47 I47 R47 n := ⟨fun _ => by rw [hIx]; simp only [e46, e45, e44, e43, upd2]; first | omega | (simp; omega) | simp | (simp; decide) | decide, fun hq => absurd (show (20 : Nat) = 19 from congrArg Prod.fst (htx.symm.trans hq)) (by decide), fun hq => absurd (show (20 : Nat) = 18 from congrArg Prod.fst (htx.symm.trans hq)) (by decide), fun hq => absurd (show (20 : Nat) = 21 from congrArg Prod.fst (htx.symm.trans hq)) (by decide)⟩
            have hR1 : yRI K n47 tg47 I47 R47 := yRI.add hR (Nat.le_trans hn hX.1) hAd (by decide) (by decide) rfl (by omega) ha_f35 ht_f35 hnw (Nat.le_refl K) hNu hOb (fun h => absurd h (by decide)) (fun h => absurd h (by decide))
            have hK := (hK.y hRo hno hX).add hRo hno hR.di hAd (by decide) (by decide) (hR.zl 88 (by decide) (by decide))
            have hS := hS.add hAd (by decide) (by decide) (hR.zl 88 (by decide) (by decide))
            have hth := (congrFun (hAd.I 83 (by omega) (by decide)) 0).trans hth
            have ht_f35 := (hAd.tg _ ha_f35).trans ht_f35
            have ha_f35 := Nat.lt_of_lt_of_le ha_f35 hAd.n
            have hS0 := hS
            have hR0 := hR1
            have hn := Nat.le_refl n47
            have h94 := hS0.1
            have hX := @yX.rf n47 tg47 I47 R47
            have hS := hS0.x hX
            have hR := hR0.x hn hX
            have hz := hX.sz h94
            have hxn := hX.1
            have hN := hR0.1
            have hnb := hR0.2.2.2.2.2.2
            have hthB := hth
            refine y_ret1 ?_
            refine y_pop rfl rfl ?_
            refine y_aload_n rfl rfl ?_
            refine y_getR rfl (ySh.t hS rfl) (ySh.n hS rfl) rfl rfl (ySh.r hS rfl) ?_
            refine y_virt rfl rfl rfl rfl rfl (ySh.t hS rfl) (ySh.n hS rfl) ?_
            refine y_in (M := xm_Jx4a65c_size_8abf5) (ls := [some _]) rfl rfl rfl ?_
            refine y_aload_n rfl rfl ?_
            refine y_getI rfl (ySh.t hS rfl) (ySh.n hS rfl) rfl rfl ?_
            refine y_ireturn rfl rfl rfl ?_
            refine y_ret1 ?_
            refine y_iconst rfl ?_
            refine y_isub rfl ?_
            refine y_ireturn rfl rfl rfl ?_
            exact hQ0 _ (by first | exact .inl ⟨by omega, rfl⟩ | exact .inr ⟨by omega, rfl⟩) (by omega) _ _ _ _ _ _ _ hS ((hR0.grow hX).up (Nat.le_succ K) hk6) (hK.x hRo hno hX) hth (by first | omega | (rw [ysub (by rw [yz_1]; omega) (by rw [yz_1]; omega), yz_1]; omega)) (hg.gx hX (by omega)) (by omega) (by omega) (by omega) (by omega) (by omega) hLk _ hAx.symm hno_x hf0 hf1 hf2 hf3 hf4 hf5 ⟨fun a_ h1_ h2_ => (hX.2.1 a_ (by omega)).2.1.trans (h8 a_ h1_ h2_), fun k_ hk_ => (congrFun (hX.2.1 83 (by omega)).2.1 k_).trans (h3k k_ hk_)⟩ (by omega) (by omega)
        · rw [yz_16] at h_33
          refine y_iconst rfl ?_
          refine y_goto rfl j_X14_thing_68 ?_
          refine y_iconst rfl ?_
          refine y_virt rfl rfl rfl rfl rfl (ySh.t hS rfl) (ySh.n hS rfl) ?_
          refine y_in (M := xm_X14_refuse) (ls := [some _, some _, some _]) rfl rfl rfl ?_
          refine y_iload_n rfl rfl ?_
          refine y_if_eqF rfl (by decide) ?_
          refine y_aload_n rfl rfl ?_
          refine y_getIv (v := Int32.ofInt (0)) rfl (ySh.t hS rfl) (ySh.n hS rfl) rfl rfl hth ?_
          refine y_if_neF rfl (by decide) ?_
          refine y_aload_n rfl rfl ?_
          refine y_iload_n rfl rfl ?_
          refine y_putI rfl (ySh.t hS rfl) (ySh.n hS rfl) rfl (Nat.le_of_ble_eq_true rfl) rfl rfl ?_
          refine y_nameI (fun I48 e48 => ?_)
          have hR1 := (hR0.grow hX).mod0 e48 (by decide) (by decide)
          have hK := (hK.x hRo hno hX).upI (upI e48) (by decide) (by decide) (fun i hi => by have := (hRo.l87.2.2.2.2 i hi).2.1; omega) (by rw [e48, upd2_ne (.inr (by decide))]; exact Int.le_refl _)
          have hth : I48 83 0 = Int32.ofInt (3) := by rw [e48, upd2_self]
          have hzz : ySz8 I28 I48 := ySz8_of (upI e48) (by rw [e48]; exact ⟨upd2_ne (.inr (by decide)), upd2_ne (.inr (by decide))⟩)
          have hB := (hB.trans hX).wr e48 rfl
          have h8 : ∀ a, 84 ≤ a → a ≤ 86 → I48 a = I a := fun a h1 h2 => (upI e48 a (by omega)).trans ((hX.2.1 a (by omega)).2.1.trans (h8 a h1 h2))
          have h3k : ∀ k, k ≠ 0 → I48 83 k = I 83 k := fun k hk => (congrFun (congrFun e48 83) k).trans ((upd2_ne (.inr hk)).trans ((congrFun (hX.2.1 83 (by omega)).2.1 k).trans (h3k k hk)))
          have hg := (hg.gx hX (by omega)).skip e48 (by decide)
          have hday : I48 83 1 = I 83 1 := (congrFun (congrFun e48 83) 1).trans ((upd2_ne (.inr (by decide))).trans ((congrFun (hX.2.1 83 (by omega)).2.1 1).trans hday))
          have hRb : ∀ a, a < n → R a = R a := fun a ha => (hX.2.1 a (by omega)).2.2.trans (hRb a ha)
          have hb83 : ∀ a, a ≠ 83 → a < n → I48 a = I a := fun a ha hb => (upI e48 a ha).trans ((hX.2.1 a (by omega)).2.1.trans (hb83 a ha hb))
          have hS0 := hS
          have hR0 := hR1
          have hn := Nat.le_refl n
          have h94 := hS0.1
          have hX := @yX.rf n tg I48 R
          have hS := hS0.x hX
          have hR := hR0.x hn hX
          have hz := hX.sz h94
          have hxn := hX.1
          have hN := hR0.1
          have hnb := hR0.2.2.2.2.2.2
          have hthB := hth
          refine y_aload_n rfl rfl ?_
          refine y_getIv (v := Int32.ofInt (3)) rfl (ySh.t hS rfl) (ySh.n hS rfl) rfl rfl hth ?_
          refine y_if_leF rfl (by decide) ?_
          refine y_iconst rfl ?_
          refine y_goto rfl j_X14_refuse_28 ?_
          refine y_ireturn rfl rfl rfl ?_
          refine y_ret1 ?_
          refine y_if_eqF rfl (by decide) ?_
          refine y_iconst rfl ?_
          refine y_ireturn rfl rfl rfl ?_
          exact hQ3 (by omega) _ _ _ _ _ _ _ hS ((hR0.grow hX).up (Nat.le_succ K) hk6) (hK.x hRo hno hX) hth (hg.gx hX (by omega)) (by omega) (by omega) (by omega) (by omega) (by omega) (fun l_ h1_ h2_ i_ _ => yAd_eq ((hX.2.1 l_ (by omega)).2.2.trans (hRb l_ (by omega))) ((hX.2.1 _ (by have := hRo.lt6 l_ h1_ h2_; omega)).2.2.trans (hRb _ (hRo.lt6 l_ h1_ h2_)))) ((hB.trans hX).rf2 (by omega)) (by omega) (by omega)
      · rw [yz_1] at h_31
        rw [yz_999] at h_31
        refine y_ret1 ?_
        refine y_if_neF rfl (by decide) ?_
        refine y_iconst rfl ?_
        refine y_goto rfl j_X14_thing_43 ?_
        refine y_iconst rfl ?_
        refine y_virt rfl rfl rfl rfl rfl (ySh.t hS rfl) (ySh.n hS rfl) ?_
        refine y_in (M := xm_X14_refuse) (ls := [some _, some _, some _]) rfl rfl rfl ?_
        refine y_iload_n rfl rfl ?_
        refine y_if_eqF rfl (by decide) ?_
        refine y_aload_n rfl rfl ?_
        refine y_getIv (v := Int32.ofInt (0)) rfl (ySh.t hS rfl) (ySh.n hS rfl) rfl rfl hth ?_
        refine y_if_neF rfl (by decide) ?_
        refine y_aload_n rfl rfl ?_
        refine y_iload_n rfl rfl ?_
        refine y_putI rfl (ySh.t hS rfl) (ySh.n hS rfl) rfl (Nat.le_of_ble_eq_true rfl) rfl rfl ?_
        refine y_nameI (fun I49 e49 => ?_)
        have hR1 := (hR0.grow hX).mod0 e49 (by decide) (by decide)
        have hK := (hK.x hRo hno hX).upI (upI e49) (by decide) (by decide) (fun i hi => by have := (hRo.l87.2.2.2.2 i hi).2.1; omega) (by rw [e49, upd2_ne (.inr (by decide))]; exact Int.le_refl _)
        have hth : I49 83 0 = Int32.ofInt (2) := by rw [e49, upd2_self]
        have hzz : ySz8 I28 I49 := ySz8_of (upI e49) (by rw [e49]; exact ⟨upd2_ne (.inr (by decide)), upd2_ne (.inr (by decide))⟩)
        have hB := (hB.trans hX).wr e49 rfl
        have h8 : ∀ a, 84 ≤ a → a ≤ 86 → I49 a = I a := fun a h1 h2 => (upI e49 a (by omega)).trans ((hX.2.1 a (by omega)).2.1.trans (h8 a h1 h2))
        have h3k : ∀ k, k ≠ 0 → I49 83 k = I 83 k := fun k hk => (congrFun (congrFun e49 83) k).trans ((upd2_ne (.inr hk)).trans ((congrFun (hX.2.1 83 (by omega)).2.1 k).trans (h3k k hk)))
        have hg := (hg.gx hX (by omega)).skip e49 (by decide)
        have hday : I49 83 1 = I 83 1 := (congrFun (congrFun e49 83) 1).trans ((upd2_ne (.inr (by decide))).trans ((congrFun (hX.2.1 83 (by omega)).2.1 1).trans hday))
        have hRb : ∀ a, a < n → R a = R a := fun a ha => (hX.2.1 a (by omega)).2.2.trans (hRb a ha)
        have hb83 : ∀ a, a ≠ 83 → a < n → I49 a = I a := fun a ha hb => (upI e49 a ha).trans ((hX.2.1 a (by omega)).2.1.trans (hb83 a ha hb))
        have hS0 := hS
        have hR0 := hR1
        have hn := Nat.le_refl n
        have h94 := hS0.1
        have hX := @yX.rf n tg I49 R
        have hS := hS0.x hX
        have hR := hR0.x hn hX
        have hz := hX.sz h94
        have hxn := hX.1
        have hN := hR0.1
        have hnb := hR0.2.2.2.2.2.2
        have hthB := hth
        refine y_aload_n rfl rfl ?_
        refine y_getIv (v := Int32.ofInt (2)) rfl (ySh.t hS rfl) (ySh.n hS rfl) rfl rfl hth ?_
        refine y_if_leF rfl (by decide) ?_
        refine y_iconst rfl ?_
        refine y_goto rfl j_X14_refuse_28 ?_
        refine y_ireturn rfl rfl rfl ?_
        refine y_ret1 ?_
        refine y_if_neT rfl j_X14_thing_75 (by decide) ?_
        refine y_iconst rfl ?_
        refine y_ireturn rfl rfl rfl ?_
        exact hQ2 (by omega) _ _ _ _ _ _ _ hS ((hR0.grow hX).up (Nat.le_succ K) hk6) (hK.x hRo hno hX) hth (hg.gx hX (by omega)) (by omega) (by omega) (by omega) (by omega) (by omega) (fun l_ h1_ h2_ i_ _ => yAd_eq ((hX.2.1 l_ (by omega)).2.2.trans (hRb l_ (by omega))) ((hX.2.1 _ (by have := hRo.lt6 l_ h1_ h2_; omega)).2.2.trans (hRb _ (hRo.lt6 l_ h1_ h2_)))) ((hB.trans hX).rf2 (by omega)) (by omega) (by omega)
    · rw [yz_0] at h_27
      try rw [ysub (by rw [yz_1]; omega) (by rw [yz_1]; omega), yz_1] at h_27
      refine y_ret1 ?_
      refine y_if_neF rfl (by decide) ?_
      refine y_iconst rfl ?_
      refine y_goto rfl j_X14_isNobody_19 ?_
      refine y_ireturn rfl rfl rfl ?_
      refine y_ret1 ?_
      refine y_if_eqF rfl (by decide) ?_
      refine y_iconst rfl ?_
      refine y_goto rfl j_X14_thing_19 ?_
      refine y_iconst rfl ?_
      refine y_virt rfl rfl rfl rfl rfl (ySh.t hS rfl) (ySh.n hS rfl) ?_
      refine y_in (M := xm_X14_start) (ls := [some _, some _, some _]) rfl rfl rfl ?_
      refine y_aload_n rfl rfl ?_
      refine y_iconst rfl ?_
      refine y_putI rfl (ySh.t hS rfl) (ySh.n hS rfl) rfl (Nat.le_of_ble_eq_true rfl) rfl rfl ?_
      refine y_nameI (fun I50 e50 => ?_)
      have hR1 := (hR0.grow hX).mod0 e50 (by decide) (by decide)
      have hK := (hK.x hRo hno hX).upI (upI e50) (by decide) (by decide) (fun i hi => by have := (hRo.l87.2.2.2.2 i hi).2.1; omega) (by rw [e50, upd2_ne (.inr (by decide))]; exact Int.le_refl _)
      have hth : I50 83 0 = Int32.ofInt (0) := by rw [e50, upd2_self]
      have hzz : ySz8 I I50 := ySz8_of (upI e50) (by rw [e50]; exact ⟨upd2_ne (.inr (by decide)), upd2_ne (.inr (by decide))⟩)
      have hB := (hB.trans hX).wr e50 rfl
      have h8 : ∀ a, 84 ≤ a → a ≤ 86 → I50 a = I a := fun a h1 h2 => (upI e50 a (by omega)).trans ((hX.2.1 a (by omega)).2.1.trans (h8 a h1 h2))
      have h3k : ∀ k, k ≠ 0 → I50 83 k = I 83 k := fun k hk => (congrFun (congrFun e50 83) k).trans ((upd2_ne (.inr hk)).trans ((congrFun (hX.2.1 83 (by omega)).2.1 k).trans (h3k k hk)))
      have hg := (hg.gx hX (by omega)).skip e50 (by decide)
      have hday : I50 83 1 = I 83 1 := (congrFun (congrFun e50 83) 1).trans ((upd2_ne (.inr (by decide))).trans ((congrFun (hX.2.1 83 (by omega)).2.1 1).trans hday))
      have hRb : ∀ a, a < n → R a = R a := fun a ha => (hX.2.1 a (by omega)).2.2.trans (hRb a ha)
      have hb83 : ∀ a, a ≠ 83 → a < n → I50 a = I a := fun a ha hb => (upI e50 a ha).trans ((hX.2.1 a (by omega)).2.1.trans (hb83 a ha hb))
      have hS0 := hS
      have hR0 := hR1
      have hn := Nat.le_refl n
      have h94 := hS0.1
      have hX := @yX.rf n tg I50 R
      have hS := hS0.x hX
      have hR := hR0.x hn hX
      have hz := hX.sz h94
      have hxn := hX.1
      have hN := hR0.1
      have hnb := hR0.2.2.2.2.2.2
      have hthB := hth
      refine y_aload_n rfl rfl ?_
      refine y_iload_n rfl rfl ?_
      refine y_iload_n rfl rfl ?_
      refine y_virt rfl rfl rfl rfl rfl (ySh.t hS rfl) (ySh.n hS rfl) ?_
      refine y_in (M := xm_X14_refuse) (ls := [some _, some _, some _]) rfl rfl rfl ?_
      refine y_iload_n rfl rfl ?_
      refine y_if_eqF rfl (by decide) ?_
      refine y_aload_n rfl rfl ?_
      refine y_getIv (v := Int32.ofInt (0)) rfl (ySh.t hS rfl) (ySh.n hS rfl) rfl rfl hth ?_
      refine y_if_neF rfl (by decide) ?_
      refine y_aload_n rfl rfl ?_
      refine y_iload_n rfl rfl ?_
      refine y_putI rfl (ySh.t hS rfl) (ySh.n hS rfl) rfl (Nat.le_of_ble_eq_true rfl) rfl rfl ?_
      refine y_nameI (fun I51 e51 => ?_)
      have hR1 := (hR0.grow hX).mod0 e51 (by decide) (by decide)
      have hK := (hK.x hRo hno hX).upI (upI e51) (by decide) (by decide) (fun i hi => by have := (hRo.l87.2.2.2.2 i hi).2.1; omega) (by rw [e51, upd2_ne (.inr (by decide))]; exact Int.le_refl _)
      have hth : I51 83 0 = Int32.ofInt (1) := by rw [e51, upd2_self]
      have hzz : ySz8 I50 I51 := ySz8_of (upI e51) (by rw [e51]; exact ⟨upd2_ne (.inr (by decide)), upd2_ne (.inr (by decide))⟩)
      have hB := (hB.trans hX).wr e51 rfl
      have h8 : ∀ a, 84 ≤ a → a ≤ 86 → I51 a = I a := fun a h1 h2 => (upI e51 a (by omega)).trans ((hX.2.1 a (by omega)).2.1.trans (h8 a h1 h2))
      have h3k : ∀ k, k ≠ 0 → I51 83 k = I 83 k := fun k hk => (congrFun (congrFun e51 83) k).trans ((upd2_ne (.inr hk)).trans ((congrFun (hX.2.1 83 (by omega)).2.1 k).trans (h3k k hk)))
      have hg := (hg.gx hX (by omega)).skip e51 (by decide)
      have hday : I51 83 1 = I 83 1 := (congrFun (congrFun e51 83) 1).trans ((upd2_ne (.inr (by decide))).trans ((congrFun (hX.2.1 83 (by omega)).2.1 1).trans hday))
      have hRb : ∀ a, a < n → R a = R a := fun a ha => (hX.2.1 a (by omega)).2.2.trans (hRb a ha)
      have hb83 : ∀ a, a ≠ 83 → a < n → I51 a = I a := fun a ha hb => (upI e51 a ha).trans ((hX.2.1 a (by omega)).2.1.trans (hb83 a ha hb))
      have hS0 := hS
      have hR0 := hR1
      have hn := Nat.le_refl n
      have h94 := hS0.1
      have hX := @yX.rf n tg I51 R
      have hS := hS0.x hX
      have hR := hR0.x hn hX
      have hz := hX.sz h94
      have hxn := hX.1
      have hN := hR0.1
      have hnb := hR0.2.2.2.2.2.2
      have hthB := hth
      refine y_aload_n rfl rfl ?_
      refine y_getIv (v := Int32.ofInt (1)) rfl (ySh.t hS rfl) (ySh.n hS rfl) rfl rfl hth ?_
      refine y_if_leF rfl (by decide) ?_
      refine y_iconst rfl ?_
      refine y_goto rfl j_X14_refuse_28 ?_
      refine y_ireturn rfl rfl rfl ?_
      refine y_ret1 ?_
      refine y_ireturn rfl rfl rfl ?_
      refine y_ret1 ?_
      refine y_if_neT rfl j_X14_thing_75 (by decide) ?_
      refine y_iconst rfl ?_
      refine y_ireturn rfl rfl rfl ?_
      exact hQ1 (by omega) _ _ _ _ _ _ _ hS ((hR0.grow hX).up (Nat.le_succ K) hk6) (hK.x hRo hno hX) hth (hg.gx hX (by omega)) (by omega) (by omega) (by omega) (by omega) (by omega) (fun l_ h1_ h2_ i_ _ => yAd_eq ((hX.2.1 l_ (by omega)).2.2.trans (hRb l_ (by omega))) ((hX.2.1 _ (by have := hRo.lt6 l_ h1_ h2_; omega)).2.2.trans (hRb _ (hRo.lt6 l_ h1_ h2_)))) ((hB.trans hX).rf2 (by omega)) (by omega) (by omega)
theorem h_lease (hS0 : ySh n tg R) (hR0 : yRI K n tg I R) (hk6 : K < 600) {x1 x2 x3 x4 : Int32} {lv : Int} (hlv : yLf I R x1 lv) {al : Int} (hal : ySum (fun j => yHv I R 3 j (I 87 2).toInt.toNat) 5 = al) (hQ1 : ¬ ((0 ≤ x1.toInt ∧ x1.toInt < (I 88 2).toInt) ∧ (0 ≤ x2.toInt ∧ x2.toInt < (I 83 8).toInt)) → ∀ (v : Int32) n1 tg1 I1 R1 c1 s1, ySh n1 tg1 R1 → yRI (K + 1) n1 tg1 I1 R1 → yKp n tg I R n1 tg1 I1 R1 → I1 83 0 = Int32.ofInt 1 → yGm n I1 I → (I1 88 2).toInt = (I 88 2).toInt → (I1 89 2).toInt = (I 89 2).toInt → (I1 90 2).toInt = (I 90 2).toInt → (I1 91 2).toInt = (I 91 2).toInt → (I1 92 2).toInt = (I 92 2).toInt → yLk I R R1 → yRf n I R I1 R1 → c1 ≤ c + 4 → s1 ≤ s + 1330 → Q (.inl (some (.int v))) (n1, tg1, I1, R1) c1 s1) (hQ2 : ((0 ≤ x1.toInt ∧ x1.toInt < (I 88 2).toInt) ∧ (0 ≤ x2.toInt ∧ x2.toInt < (I 83 8).toInt)) ∧ ¬ ((0 ≤ x3.toInt ∧ x3.toInt ≤ 99) ∧ (x3.toInt ≤ x4.toInt ∧ x4.toInt ≤ 99)) → ∀ (v : Int32) n1 tg1 I1 R1 c1 s1, ySh n1 tg1 R1 → yRI (K + 1) n1 tg1 I1 R1 → yKp n tg I R n1 tg1 I1 R1 → I1 83 0 = Int32.ofInt 2 → yGm n I1 I → (I1 88 2).toInt = (I 88 2).toInt → (I1 89 2).toInt = (I 89 2).toInt → (I1 90 2).toInt = (I 90 2).toInt → (I1 91 2).toInt = (I 91 2).toInt → (I1 92 2).toInt = (I 92 2).toInt → yLk I R R1 → yRf n I R I1 R1 → c1 ≤ c + 4 → s1 ≤ s + 1330 → Q (.inl (some (.int v))) (n1, tg1, I1, R1) c1 s1) (hQ3 : ∀ b, b = yAd R 88 x1.toInt.toNat → ((0 ≤ x1.toInt ∧ x1.toInt < (I 88 2).toInt) ∧ (0 ≤ x2.toInt ∧ x2.toInt < (I 83 8).toInt)) ∧ ((0 ≤ x3.toInt ∧ x3.toInt ≤ 99) ∧ (x3.toInt ≤ x4.toInt ∧ x4.toInt ≤ 99)) ∧ ¬ ((I 90 2).toInt < 8 ∧ (I b 1).toInt = 8 ∧ ¬ (I b 2).toInt = 0 ∧ (¬ (I b 5).toInt = x2.toInt ∨ 3 ≤ al) ∧ (I b 3).toInt = 0 ∧ lv = -1) → ∀ (v : Int32) n1 tg1 I1 R1 c1 s1, ySh n1 tg1 R1 → yRI (K + 1) n1 tg1 I1 R1 → yKp n tg I R n1 tg1 I1 R1 → I1 83 0 = Int32.ofInt 3 → yGm n I1 I → (I1 88 2).toInt = (I 88 2).toInt → (I1 89 2).toInt = (I 89 2).toInt → (I1 90 2).toInt = (I 90 2).toInt → (I1 91 2).toInt = (I 91 2).toInt → (I1 92 2).toInt = (I 92 2).toInt → yLk I R R1 → yRf n I R I1 R1 → c1 ≤ c + 4 → s1 ≤ s + 1330 → Q (.inl (some (.int v))) (n1, tg1, I1, R1) c1 s1) (hQ0 : ∀ b, b = yAd R 88 x1.toInt.toNat → ((0 ≤ x1.toInt ∧ x1.toInt < (I 88 2).toInt) ∧ (0 ≤ x2.toInt ∧ x2.toInt < (I 83 8).toInt)) ∧ ((0 ≤ x3.toInt ∧ x3.toInt ≤ 99) ∧ (x3.toInt ≤ x4.toInt ∧ x4.toInt ≤ 99)) ∧ ((I 90 2).toInt < 8 ∧ (I b 1).toInt = 8 ∧ ¬ (I b 2).toInt = 0 ∧ (¬ (I b 5).toInt = x2.toInt ∨ 3 ≤ al) ∧ (I b 3).toInt = 0 ∧ lv = -1) → ∀ (v : Int32) n1 tg1 I1 R1 c1 s1, ySh n1 tg1 R1 → yRI (K + 1) n1 tg1 I1 R1 → yKp n tg I R n1 tg1 I1 R1 → I1 83 0 = Int32.ofInt 0 → v.toInt = (I 90 2).toInt → yGm n I1 I → (I1 88 2).toInt = (I 88 2).toInt → (I1 89 2).toInt = (I 89 2).toInt → (I1 90 2).toInt = (I 90 2).toInt + 1 → (I1 91 2).toInt = (I 91 2).toInt → (I1 92 2).toInt = (I 92 2).toInt → yLk I R R1 → ∀ x, x = yAd R1 90 (I 90 2).toInt.toNat → n ≤ x → I1 x 0 = x1 → I1 x 1 = x2 → I1 x 2 = x3 → I1 x 3 = x4 → I1 x 4 = (I 83 1) → I1 x 5 = (Int32.ofInt 0) → I1 x 6 = (Int32.ofInt 0) → I1 x 7 = (Int32.ofInt 0) → y8 I I1 → c1 ≤ c + 4 → s1 ≤ s + 1330 → Q (.inl (some (.int v))) (n1, tg1, I1, R1) c1 s1) : yC 206 [.ref 83, .int x1, .int x2, .int x3, .int x4] (n, tg, I, R) c s Q := by
  have hno := Nat.le_refl n
  have hn := hno
  have hRo := hR0
  have hK : yKp n tg I R n tg I R := yKp.rf
  have hX : yX n tg I R n tg I R := yX.rf
  have hS := hS0
  have hR := hR0
  have h94 : 94 ≤ n := hS0.1
  have hz : ySz I I := hX.sz h94
  have hxn := hX.1
  have hN := hR0.1
  have hnb : 94 ≤ n := hR0.2.2.2.2.2.2
  have hg : yGm n I I := yGm.rf
  have hday : I 83 1 = I 83 1 := rfl
  have hb83 : ∀ a, a ≠ 83 → a < n → I a = I a := fun _ _ _ => rfl
  have hRb : ∀ a, a < n → R a = R a := fun _ _ => rfl
  have hB : yX n tg I R n tg I R := yX.rf
  have h8 : ∀ a, 84 ≤ a → a ≤ 86 → I a = I a := fun _ _ _ => rfl
  have h3k : ∀ k, k ≠ 0 → I 83 k = I 83 k := fun _ _ => rfl
  refine y_in (M := xm_X14_lease) (ls := [some _, some _, some _, some _, some _, _]) rfl rfl rfl ?_
  refine y_aload_n rfl rfl ?_
  refine y_aload_n rfl rfl ?_
  refine y_iload_n rfl rfl ?_
  refine y_virt rfl rfl rfl rfl rfl (ySh.t hS rfl) (ySh.n hS rfl) ?_
  refine y_in (M := xm_X14_isNoThing) (ls := [some _, some _]) rfl rfl rfl ?_
  refine y_iload_n rfl rfl ?_
  refine y_iconst rfl ?_
  refine y_aload_n rfl rfl ?_
  refine y_getR rfl (ySh.t hS rfl) (ySh.n hS rfl) rfl rfl (ySh.r hS rfl) ?_
  refine y_virt rfl rfl rfl rfl rfl (ySh.t hS rfl) (ySh.n hS rfl) ?_
  refine y_in (M := xm_Jx4a65c_size_8abf5) (ls := [some _]) rfl rfl rfl ?_
  refine y_aload_n rfl rfl ?_
  refine y_getI rfl (ySh.t hS rfl) (ySh.n hS rfl) rfl rfl ?_
  refine y_ireturn rfl rfl rfl ?_
  refine y_ret1 ?_
  refine y_iconst rfl ?_
  refine y_isub rfl ?_
  refine y_static rfl rfl rfl rfl rfl ?_
  refine r_isIn (fun h_1 h_2 => ?_) (fun h_3 => ?_)
  · rw [yz_0] at h_1
    try rw [ysub (by rw [yz_1]; omega) (by rw [yz_1]; omega), yz_1] at h_2
    refine y_ret1 ?_
    refine y_if_neT rfl j_X14_isNoThing_21 (by decide) ?_
    refine y_iconst rfl ?_
    refine y_ireturn rfl rfl rfl ?_
    refine y_ret1 ?_
    refine y_if_neF rfl (by decide) ?_
    refine y_aload_n rfl rfl ?_
    refine y_iload_n rfl rfl ?_
    refine y_virt rfl rfl rfl rfl rfl (ySh.t hS rfl) (ySh.n hS rfl) ?_
    refine y_in (M := xm_X14_isNobody) (ls := [some _, some _]) rfl rfl rfl ?_
    refine y_iload_n rfl rfl ?_
    refine y_iconst rfl ?_
    refine y_aload_n rfl rfl ?_
    refine y_getIv (v := I 83 8) rfl (ySh.t hS rfl) (ySh.n hS rfl) rfl rfl ((congrFun ((hB.trans hX).n (by omega : 83 < n)) 8).trans (by repeat (first | rfl | rw [upd2_ne (by first | exact .inl (by omega) | exact .inr (by decide))]))) ?_
    refine y_iconst rfl ?_
    refine y_isub rfl ?_
    refine y_static rfl rfl rfl rfl rfl ?_
    refine r_isIn (fun h_4 h_5 => ?_) (fun h_6 => ?_)
    · rw [yz_0] at h_4
      try rw [ysub (by rw [yz_1]; omega) (by rw [yz_1]; omega), yz_1] at h_5
      refine y_ret1 ?_
      refine y_if_neT rfl j_X14_isNobody_18 (by decide) ?_
      refine y_iconst rfl ?_
      refine y_ireturn rfl rfl rfl ?_
      refine y_ret1 ?_
      refine y_if_eqT rfl j_X14_lease_21 (by decide) ?_
      refine y_iconst rfl ?_
      refine y_iconst rfl ?_
      refine y_virt rfl rfl rfl rfl rfl (ySh.t hS rfl) (ySh.n hS rfl) ?_
      refine y_in (M := xm_X14_start) (ls := [some _, some _, some _]) rfl rfl rfl ?_
      refine y_aload_n rfl rfl ?_
      refine y_iconst rfl ?_
      refine y_putI rfl (ySh.t hS rfl) (ySh.n hS rfl) rfl (Nat.le_of_ble_eq_true rfl) rfl rfl ?_
      refine y_nameI (fun I7 e7 => ?_)
      have hR1 := (hR0.grow hX).mod0 e7 (by decide) (by decide)
      have hK := (hK.x hRo hno hX).upI (upI e7) (by decide) (by decide) (fun i hi => by have := (hRo.l87.2.2.2.2 i hi).2.1; omega) (by rw [e7, upd2_ne (.inr (by decide))]; exact Int.le_refl _)
      have hth : I7 83 0 = Int32.ofInt (0) := by rw [e7, upd2_self]
      have hzz : ySz8 I I7 := ySz8_of (upI e7) (by rw [e7]; exact ⟨upd2_ne (.inr (by decide)), upd2_ne (.inr (by decide))⟩)
      have hB := (hB.trans hX).wr e7 rfl
      have h8 : ∀ a, 84 ≤ a → a ≤ 86 → I7 a = I a := fun a h1 h2 => (upI e7 a (by omega)).trans ((hX.2.1 a (by omega)).2.1.trans (h8 a h1 h2))
      have h3k : ∀ k, k ≠ 0 → I7 83 k = I 83 k := fun k hk => (congrFun (congrFun e7 83) k).trans ((upd2_ne (.inr hk)).trans ((congrFun (hX.2.1 83 (by omega)).2.1 k).trans (h3k k hk)))
      have hg := (hg.gx hX (by omega)).skip e7 (by decide)
      have hday : I7 83 1 = I 83 1 := (congrFun (congrFun e7 83) 1).trans ((upd2_ne (.inr (by decide))).trans ((congrFun (hX.2.1 83 (by omega)).2.1 1).trans hday))
      have hRb : ∀ a, a < n → R a = R a := fun a ha => (hX.2.1 a (by omega)).2.2.trans (hRb a ha)
      have hb83 : ∀ a, a ≠ 83 → a < n → I7 a = I a := fun a ha hb => (upI e7 a ha).trans ((hX.2.1 a (by omega)).2.1.trans (hb83 a ha hb))
      have hS0 := hS
      have hR0 := hR1
      have hn := Nat.le_refl n
      have h94 := hS0.1
      have hX := @yX.rf n tg I7 R
      have hS := hS0.x hX
      have hR := hR0.x hn hX
      have hz := hX.sz h94
      have hxn := hX.1
      have hN := hR0.1
      have hnb := hR0.2.2.2.2.2.2
      have hthB := hth
      refine y_aload_n rfl rfl ?_
      refine y_iload_n rfl rfl ?_
      refine y_iload_n rfl rfl ?_
      refine y_virt rfl rfl rfl rfl rfl (ySh.t hS rfl) (ySh.n hS rfl) ?_
      refine y_in (M := xm_X14_refuse) (ls := [some _, some _, some _]) rfl rfl rfl ?_
      refine y_iload_n rfl rfl ?_
      refine y_if_eqT rfl j_X14_refuse_16 (by decide) ?_
      refine y_aload_n rfl rfl ?_
      refine y_getIv (v := Int32.ofInt (0)) rfl (ySh.t hS rfl) (ySh.n hS rfl) rfl rfl hth ?_
      refine y_if_leT rfl j_X14_refuse_27 (by decide) ?_
      refine y_iconst rfl ?_
      refine y_ireturn rfl rfl rfl ?_
      refine y_ret1 ?_
      refine y_ireturn rfl rfl rfl ?_
      refine y_ret1 ?_
      refine y_if_neF rfl (by decide) ?_
      refine y_aload_n rfl rfl ?_
      refine y_iload_n rfl rfl ?_
      refine y_iconst rfl ?_
      refine y_bip rfl (by decide) ?_
      refine y_static rfl rfl rfl rfl rfl ?_
      refine r_isIn (fun h_8 h_9 => ?_) (fun h_10 => ?_)
      · rw [yz_0] at h_8
        rw [yz_99] at h_9
        refine y_ret1 ?_
        refine y_if_eqF rfl (by decide) ?_
        refine y_iload rfl rfl ?_
        refine y_iload_n rfl rfl ?_
        refine y_bip rfl (by decide) ?_
        refine y_static rfl rfl rfl rfl rfl ?_
        refine r_isIn (fun h_11 h_12 => ?_) (fun h_13 => ?_)
        · rw [yz_99] at h_12
          refine y_ret1 ?_
          refine y_if_neT rfl j_X14_lease_55 (by decide) ?_
          refine y_iconst rfl ?_
          refine y_iconst rfl ?_
          refine y_virt rfl rfl rfl rfl rfl (ySh.t hS rfl) (ySh.n hS rfl) ?_
          refine y_in (M := xm_X14_refuse) (ls := [some _, some _, some _]) rfl rfl rfl ?_
          refine y_iload_n rfl rfl ?_
          refine y_if_eqT rfl j_X14_refuse_16 (by decide) ?_
          refine y_aload_n rfl rfl ?_
          refine y_getIv (v := Int32.ofInt (0)) rfl (ySh.t hS rfl) (ySh.n hS rfl) rfl rfl hth ?_
          refine y_if_leT rfl j_X14_refuse_27 (by decide) ?_
          refine y_iconst rfl ?_
          refine y_ireturn rfl rfl rfl ?_
          refine y_ret1 ?_
          refine y_if_eqT rfl j_X14_lease_65 (by decide) ?_
          refine y_aload_n rfl rfl ?_
          refine y_getR rfl (ySh.t hS rfl) (ySh.n hS rfl) rfl rfl (ySh.r hS rfl) ?_
          refine y_iload_n rfl rfl ?_
          refine y_virt rfl rfl rfl rfl rfl (ySh.t hS rfl) (ySh.n hS rfl) ?_
          refine l_get (nb := n) (ySh.t hS rfl) (ySh.n hS rfl) (Nat.le_trans hn hX.1) hR.l88 (by omega) (by omega) (fun b14 eb_b14 hlo_b14 hb0_b14 ht_b14 => ?_)
          have hb_b14 := Nat.lt_of_lt_of_le hb0_b14 hn
          replace ht_b14 := (hX.2.1 _ hb_b14).1.symm.trans ht_b14
          have hw_b14 := hR.thi hlo_b14 hb0_b14 ((hX.2.1 _ hb_b14).1.trans ht_b14)
          have hq_b14_1 := congrArg Int32.toInt (congrFun ((hg.gx hX (by omega)) _ hlo_b14 (by omega)) 1)
          refine y_ret1 ?_
          refine y_cast rfl ((hX.2.1 _ hb_b14).1.trans ht_b14) (Nat.lt_of_lt_of_le hb_b14 hX.1) ?_
          refine y_astore (ls' := [some _, some _, some _, some _, some _, some _]) rfl rfl rfl ?_
          refine y_aload_n rfl rfl ?_
          refine y_aload_n rfl rfl ?_
          refine y_getR rfl (ySh.t hS rfl) (ySh.n hS rfl) rfl rfl (ySh.r hS rfl) ?_
          refine y_virt rfl rfl rfl rfl rfl (ySh.t hS rfl) (ySh.n hS rfl) ?_
          refine y_in (M := xm_Jx4a65c_size_8abf5) (ls := [some _]) rfl rfl rfl ?_
          refine y_aload_n rfl rfl ?_
          refine y_getI rfl (ySh.t hS rfl) (ySh.n hS rfl) rfl rfl ?_
          refine y_ireturn rfl rfl rfl ?_
          refine y_ret1 ?_
          refine y_bip rfl (by decide) ?_
          refine y_icmp_eq rfl j_X14_lease_147 (fun h_15 => ?_) (fun h_16 => ?_)
          · rw [yz_8] at h_15
            refine y_iconst rfl ?_
            refine y_goto rfl j_X14_lease_152 ?_
            refine y_iconst rfl ?_
            refine y_virt rfl rfl rfl rfl rfl (ySh.t hS rfl) (ySh.n hS rfl) ?_
            refine y_in (M := xm_X14_refuse) (ls := [some _, some _, some _]) rfl rfl rfl ?_
            refine y_iload_n rfl rfl ?_
            refine y_if_eqF rfl (by decide) ?_
            refine y_aload_n rfl rfl ?_
            refine y_getIv (v := Int32.ofInt (0)) rfl (ySh.t hS rfl) (ySh.n hS rfl) rfl rfl hth ?_
            refine y_if_neF rfl (by decide) ?_
            refine y_aload_n rfl rfl ?_
            refine y_iload_n rfl rfl ?_
            refine y_putI rfl (ySh.t hS rfl) (ySh.n hS rfl) rfl (Nat.le_of_ble_eq_true rfl) rfl rfl ?_
            refine y_nameI (fun I17 e17 => ?_)
            have hR1 := (hR0.grow hX).mod0 e17 (by decide) (by decide)
            have hK := (hK.x hRo hno hX).upI (upI e17) (by decide) (by decide) (fun i hi => by have := (hRo.l87.2.2.2.2 i hi).2.1; omega) (by rw [e17, upd2_ne (.inr (by decide))]; exact Int.le_refl _)
            have hth : I17 83 0 = Int32.ofInt (3) := by rw [e17, upd2_self]
            have hzz : ySz8 I7 I17 := ySz8_of (upI e17) (by rw [e17]; exact ⟨upd2_ne (.inr (by decide)), upd2_ne (.inr (by decide))⟩)
            have hB := (hB.trans hX).wr e17 rfl
            have h8 : ∀ a, 84 ≤ a → a ≤ 86 → I17 a = I a := fun a h1 h2 => (upI e17 a (by omega)).trans ((hX.2.1 a (by omega)).2.1.trans (h8 a h1 h2))
            have h3k : ∀ k, k ≠ 0 → I17 83 k = I 83 k := fun k hk => (congrFun (congrFun e17 83) k).trans ((upd2_ne (.inr hk)).trans ((congrFun (hX.2.1 83 (by omega)).2.1 k).trans (h3k k hk)))
            have hg := (hg.gx hX (by omega)).skip e17 (by decide)
            have hday : I17 83 1 = I 83 1 := (congrFun (congrFun e17 83) 1).trans ((upd2_ne (.inr (by decide))).trans ((congrFun (hX.2.1 83 (by omega)).2.1 1).trans hday))
            have hRb : ∀ a, a < n → R a = R a := fun a ha => (hX.2.1 a (by omega)).2.2.trans (hRb a ha)
            have hb83 : ∀ a, a ≠ 83 → a < n → I17 a = I a := fun a ha hb => (upI e17 a ha).trans ((hX.2.1 a (by omega)).2.1.trans (hb83 a ha hb))
            have hS0 := hS
            have hR0 := hR1
            have ht_b14 := (hX.2.1 _ hb_b14).1.trans ht_b14
            have hb_b14 := Nat.lt_of_lt_of_le hb_b14 hX.1
            have hb0_b14 := hb_b14
            have hn := Nat.le_refl n
            have h94 := hS0.1
            have hX := @yX.rf n tg I17 R
            have hS := hS0.x hX
            have hR := hR0.x hn hX
            have hz := hX.sz h94
            have hxn := hX.1
            have hw_b14 := hR.thi hlo_b14 hb0_b14 ((hX.2.1 _ hb_b14).1.trans ht_b14)
            have hN := hR0.1
            have hnb := hR0.2.2.2.2.2.2
            have hthB := hth
            refine y_aload_n rfl rfl ?_
            refine y_getIv (v := Int32.ofInt (3)) rfl (ySh.t hS rfl) (ySh.n hS rfl) rfl rfl hth ?_
            refine y_if_leF rfl (by decide) ?_
            refine y_iconst rfl ?_
            refine y_goto rfl j_X14_refuse_28 ?_
            refine y_ireturn rfl rfl rfl ?_
            refine y_ret1 ?_
            refine y_if_eqF rfl (by decide) ?_
            refine y_iconst rfl ?_
            refine y_ireturn rfl rfl rfl ?_
            exact hQ3 _ eb_b14 (by omega) _ _ _ _ _ _ _ hS ((hR0.grow hX).up (Nat.le_succ K) hk6) (hK.x hRo hno hX) hth (hg.gx hX (by omega)) (by omega) (by omega) (by omega) (by omega) (by omega) (fun l_ h1_ h2_ i_ _ => yAd_eq ((hX.2.1 l_ (by omega)).2.2.trans (hRb l_ (by omega))) ((hX.2.1 _ (by have := hRo.lt6 l_ h1_ h2_; omega)).2.2.trans (hRb _ (hRo.lt6 l_ h1_ h2_)))) ((hB.trans hX).rf2 (by omega)) (by omega) (by omega)
          · rw [yz_8] at h_16
            refine y_aload rfl rfl ?_
            refine y_getIv (v := I b14 1) rfl ((hX.2.1 _ hb_b14).1.trans ht_b14) (Nat.lt_of_lt_of_le hb_b14 hX.1) rfl rfl (congrFun ((hg.gx hX (by omega)) _ hlo_b14 (by omega)) 1) ?_
            refine y_bip rfl (by decide) ?_
            refine y_icmp_ne rfl j_X14_lease_147 (fun h_18 => ?_) (fun h_19 => ?_)
            · rw [yz_8] at h_18
              refine y_iconst rfl ?_
              refine y_goto rfl j_X14_lease_152 ?_
              refine y_iconst rfl ?_
              refine y_virt rfl rfl rfl rfl rfl (ySh.t hS rfl) (ySh.n hS rfl) ?_
              refine y_in (M := xm_X14_refuse) (ls := [some _, some _, some _]) rfl rfl rfl ?_
              refine y_iload_n rfl rfl ?_
              refine y_if_eqF rfl (by decide) ?_
              refine y_aload_n rfl rfl ?_
              refine y_getIv (v := Int32.ofInt (0)) rfl (ySh.t hS rfl) (ySh.n hS rfl) rfl rfl hth ?_
              refine y_if_neF rfl (by decide) ?_
              refine y_aload_n rfl rfl ?_
              refine y_iload_n rfl rfl ?_
              refine y_putI rfl (ySh.t hS rfl) (ySh.n hS rfl) rfl (Nat.le_of_ble_eq_true rfl) rfl rfl ?_
              refine y_nameI (fun I20 e20 => ?_)
              have hR1 := (hR0.grow hX).mod0 e20 (by decide) (by decide)
              have hK := (hK.x hRo hno hX).upI (upI e20) (by decide) (by decide) (fun i hi => by have := (hRo.l87.2.2.2.2 i hi).2.1; omega) (by rw [e20, upd2_ne (.inr (by decide))]; exact Int.le_refl _)
              have hth : I20 83 0 = Int32.ofInt (3) := by rw [e20, upd2_self]
              have hzz : ySz8 I7 I20 := ySz8_of (upI e20) (by rw [e20]; exact ⟨upd2_ne (.inr (by decide)), upd2_ne (.inr (by decide))⟩)
              have hB := (hB.trans hX).wr e20 rfl
              have h8 : ∀ a, 84 ≤ a → a ≤ 86 → I20 a = I a := fun a h1 h2 => (upI e20 a (by omega)).trans ((hX.2.1 a (by omega)).2.1.trans (h8 a h1 h2))
              have h3k : ∀ k, k ≠ 0 → I20 83 k = I 83 k := fun k hk => (congrFun (congrFun e20 83) k).trans ((upd2_ne (.inr hk)).trans ((congrFun (hX.2.1 83 (by omega)).2.1 k).trans (h3k k hk)))
              have hg := (hg.gx hX (by omega)).skip e20 (by decide)
              have hday : I20 83 1 = I 83 1 := (congrFun (congrFun e20 83) 1).trans ((upd2_ne (.inr (by decide))).trans ((congrFun (hX.2.1 83 (by omega)).2.1 1).trans hday))
              have hRb : ∀ a, a < n → R a = R a := fun a ha => (hX.2.1 a (by omega)).2.2.trans (hRb a ha)
              have hb83 : ∀ a, a ≠ 83 → a < n → I20 a = I a := fun a ha hb => (upI e20 a ha).trans ((hX.2.1 a (by omega)).2.1.trans (hb83 a ha hb))
              have hS0 := hS
              have hR0 := hR1
              have ht_b14 := (hX.2.1 _ hb_b14).1.trans ht_b14
              have hb_b14 := Nat.lt_of_lt_of_le hb_b14 hX.1
              have hb0_b14 := hb_b14
              have hn := Nat.le_refl n
              have h94 := hS0.1
              have hX := @yX.rf n tg I20 R
              have hS := hS0.x hX
              have hR := hR0.x hn hX
              have hz := hX.sz h94
              have hxn := hX.1
              have hw_b14 := hR.thi hlo_b14 hb0_b14 ((hX.2.1 _ hb_b14).1.trans ht_b14)
              have hN := hR0.1
              have hnb := hR0.2.2.2.2.2.2
              have hthB := hth
              refine y_aload_n rfl rfl ?_
              refine y_getIv (v := Int32.ofInt (3)) rfl (ySh.t hS rfl) (ySh.n hS rfl) rfl rfl hth ?_
              refine y_if_leF rfl (by decide) ?_
              refine y_iconst rfl ?_
              refine y_goto rfl j_X14_refuse_28 ?_
              refine y_ireturn rfl rfl rfl ?_
              refine y_ret1 ?_
              refine y_if_eqF rfl (by decide) ?_
              refine y_iconst rfl ?_
              refine y_ireturn rfl rfl rfl ?_
              exact hQ3 _ eb_b14 (by omega) _ _ _ _ _ _ _ hS ((hR0.grow hX).up (Nat.le_succ K) hk6) (hK.x hRo hno hX) hth (hg.gx hX (by omega)) (by omega) (by omega) (by omega) (by omega) (by omega) (fun l_ h1_ h2_ i_ _ => yAd_eq ((hX.2.1 l_ (by omega)).2.2.trans (hRb l_ (by omega))) ((hX.2.1 _ (by have := hRo.lt6 l_ h1_ h2_; omega)).2.2.trans (hRb _ (hRo.lt6 l_ h1_ h2_)))) ((hB.trans hX).rf2 (by omega)) (by omega) (by omega)
            · rw [yz_8] at h_19
              refine y_aload rfl rfl ?_
              refine y_getIv (v := I b14 2) rfl ((hX.2.1 _ hb_b14).1.trans ht_b14) (Nat.lt_of_lt_of_le hb_b14 hX.1) rfl rfl (congrFun ((hg.gx hX (by omega)) _ hlo_b14 (by omega)) 2) ?_
              refine y_if_eq rfl j_X14_lease_147 (fun h_21 => ?_) (fun h_22 => ?_)
              · refine y_iconst rfl ?_
                refine y_goto rfl j_X14_lease_152 ?_
                refine y_iconst rfl ?_
                refine y_virt rfl rfl rfl rfl rfl (ySh.t hS rfl) (ySh.n hS rfl) ?_
                refine y_in (M := xm_X14_refuse) (ls := [some _, some _, some _]) rfl rfl rfl ?_
                refine y_iload_n rfl rfl ?_
                refine y_if_eqF rfl (by decide) ?_
                refine y_aload_n rfl rfl ?_
                refine y_getIv (v := Int32.ofInt (0)) rfl (ySh.t hS rfl) (ySh.n hS rfl) rfl rfl hth ?_
                refine y_if_neF rfl (by decide) ?_
                refine y_aload_n rfl rfl ?_
                refine y_iload_n rfl rfl ?_
                refine y_putI rfl (ySh.t hS rfl) (ySh.n hS rfl) rfl (Nat.le_of_ble_eq_true rfl) rfl rfl ?_
                refine y_nameI (fun I23 e23 => ?_)
                have hR1 := (hR0.grow hX).mod0 e23 (by decide) (by decide)
                have hK := (hK.x hRo hno hX).upI (upI e23) (by decide) (by decide) (fun i hi => by have := (hRo.l87.2.2.2.2 i hi).2.1; omega) (by rw [e23, upd2_ne (.inr (by decide))]; exact Int.le_refl _)
                have hth : I23 83 0 = Int32.ofInt (3) := by rw [e23, upd2_self]
                have hzz : ySz8 I7 I23 := ySz8_of (upI e23) (by rw [e23]; exact ⟨upd2_ne (.inr (by decide)), upd2_ne (.inr (by decide))⟩)
                have hB := (hB.trans hX).wr e23 rfl
                have h8 : ∀ a, 84 ≤ a → a ≤ 86 → I23 a = I a := fun a h1 h2 => (upI e23 a (by omega)).trans ((hX.2.1 a (by omega)).2.1.trans (h8 a h1 h2))
                have h3k : ∀ k, k ≠ 0 → I23 83 k = I 83 k := fun k hk => (congrFun (congrFun e23 83) k).trans ((upd2_ne (.inr hk)).trans ((congrFun (hX.2.1 83 (by omega)).2.1 k).trans (h3k k hk)))
                have hg := (hg.gx hX (by omega)).skip e23 (by decide)
                have hday : I23 83 1 = I 83 1 := (congrFun (congrFun e23 83) 1).trans ((upd2_ne (.inr (by decide))).trans ((congrFun (hX.2.1 83 (by omega)).2.1 1).trans hday))
                have hRb : ∀ a, a < n → R a = R a := fun a ha => (hX.2.1 a (by omega)).2.2.trans (hRb a ha)
                have hb83 : ∀ a, a ≠ 83 → a < n → I23 a = I a := fun a ha hb => (upI e23 a ha).trans ((hX.2.1 a (by omega)).2.1.trans (hb83 a ha hb))
                have hS0 := hS
                have hR0 := hR1
                have ht_b14 := (hX.2.1 _ hb_b14).1.trans ht_b14
                have hb_b14 := Nat.lt_of_lt_of_le hb_b14 hX.1
                have hb0_b14 := hb_b14
                have hn := Nat.le_refl n
                have h94 := hS0.1
                have hX := @yX.rf n tg I23 R
                have hS := hS0.x hX
                have hR := hR0.x hn hX
                have hz := hX.sz h94
                have hxn := hX.1
                have hw_b14 := hR.thi hlo_b14 hb0_b14 ((hX.2.1 _ hb_b14).1.trans ht_b14)
                have hN := hR0.1
                have hnb := hR0.2.2.2.2.2.2
                have hthB := hth
                refine y_aload_n rfl rfl ?_
                refine y_getIv (v := Int32.ofInt (3)) rfl (ySh.t hS rfl) (ySh.n hS rfl) rfl rfl hth ?_
                refine y_if_leF rfl (by decide) ?_
                refine y_iconst rfl ?_
                refine y_goto rfl j_X14_refuse_28 ?_
                refine y_ireturn rfl rfl rfl ?_
                refine y_ret1 ?_
                refine y_if_eqF rfl (by decide) ?_
                refine y_iconst rfl ?_
                refine y_ireturn rfl rfl rfl ?_
                exact hQ3 _ eb_b14 (by omega) _ _ _ _ _ _ _ hS ((hR0.grow hX).up (Nat.le_succ K) hk6) (hK.x hRo hno hX) hth (hg.gx hX (by omega)) (by omega) (by omega) (by omega) (by omega) (by omega) (fun l_ h1_ h2_ i_ _ => yAd_eq ((hX.2.1 l_ (by omega)).2.2.trans (hRb l_ (by omega))) ((hX.2.1 _ (by have := hRo.lt6 l_ h1_ h2_; omega)).2.2.trans (hRb _ (hRo.lt6 l_ h1_ h2_)))) ((hB.trans hX).rf2 (by omega)) (by omega) (by omega)
              · refine y_aload rfl rfl ?_
                refine y_getIv (v := I b14 5) rfl ((hX.2.1 _ hb_b14).1.trans ht_b14) (Nat.lt_of_lt_of_le hb_b14 hX.1) rfl rfl (congrFun ((hg.gx hX (by omega)) _ hlo_b14 (by omega)) 5) ?_
                refine y_iload_n rfl rfl ?_
                refine y_icmp_ne rfl j_X14_lease_130 (fun h_24 => ?_) (fun h_25 => ?_)
                · refine y_aload rfl rfl ?_
                  refine y_getIv (v := I b14 3) rfl ((hX.2.1 _ hb_b14).1.trans ht_b14) (Nat.lt_of_lt_of_le hb_b14 hX.1) rfl rfl (congrFun ((hg.gx hX (by omega)) _ hlo_b14 (by omega)) 3) ?_
                  refine y_if_ne rfl j_X14_lease_147 (fun h_26 => ?_) (fun h_27 => ?_)
                  · refine y_iconst rfl ?_
                    refine y_goto rfl j_X14_lease_152 ?_
                    refine y_iconst rfl ?_
                    refine y_virt rfl rfl rfl rfl rfl (ySh.t hS rfl) (ySh.n hS rfl) ?_
                    refine y_in (M := xm_X14_refuse) (ls := [some _, some _, some _]) rfl rfl rfl ?_
                    refine y_iload_n rfl rfl ?_
                    refine y_if_eqF rfl (by decide) ?_
                    refine y_aload_n rfl rfl ?_
                    refine y_getIv (v := Int32.ofInt (0)) rfl (ySh.t hS rfl) (ySh.n hS rfl) rfl rfl hth ?_
                    refine y_if_neF rfl (by decide) ?_
                    refine y_aload_n rfl rfl ?_
                    refine y_iload_n rfl rfl ?_
                    refine y_putI rfl (ySh.t hS rfl) (ySh.n hS rfl) rfl (Nat.le_of_ble_eq_true rfl) rfl rfl ?_
                    refine y_nameI (fun I28 e28 => ?_)
                    have hR1 := (hR0.grow hX).mod0 e28 (by decide) (by decide)
                    have hK := (hK.x hRo hno hX).upI (upI e28) (by decide) (by decide) (fun i hi => by have := (hRo.l87.2.2.2.2 i hi).2.1; omega) (by rw [e28, upd2_ne (.inr (by decide))]; exact Int.le_refl _)
                    have hth : I28 83 0 = Int32.ofInt (3) := by rw [e28, upd2_self]
                    have hzz : ySz8 I7 I28 := ySz8_of (upI e28) (by rw [e28]; exact ⟨upd2_ne (.inr (by decide)), upd2_ne (.inr (by decide))⟩)
                    have hB := (hB.trans hX).wr e28 rfl
                    have h8 : ∀ a, 84 ≤ a → a ≤ 86 → I28 a = I a := fun a h1 h2 => (upI e28 a (by omega)).trans ((hX.2.1 a (by omega)).2.1.trans (h8 a h1 h2))
                    have h3k : ∀ k, k ≠ 0 → I28 83 k = I 83 k := fun k hk => (congrFun (congrFun e28 83) k).trans ((upd2_ne (.inr hk)).trans ((congrFun (hX.2.1 83 (by omega)).2.1 k).trans (h3k k hk)))
                    have hg := (hg.gx hX (by omega)).skip e28 (by decide)
                    have hday : I28 83 1 = I 83 1 := (congrFun (congrFun e28 83) 1).trans ((upd2_ne (.inr (by decide))).trans ((congrFun (hX.2.1 83 (by omega)).2.1 1).trans hday))
                    have hRb : ∀ a, a < n → R a = R a := fun a ha => (hX.2.1 a (by omega)).2.2.trans (hRb a ha)
                    have hb83 : ∀ a, a ≠ 83 → a < n → I28 a = I a := fun a ha hb => (upI e28 a ha).trans ((hX.2.1 a (by omega)).2.1.trans (hb83 a ha hb))
                    have hS0 := hS
                    have hR0 := hR1
                    have ht_b14 := (hX.2.1 _ hb_b14).1.trans ht_b14
                    have hb_b14 := Nat.lt_of_lt_of_le hb_b14 hX.1
                    have hb0_b14 := hb_b14
                    have hn := Nat.le_refl n
                    have h94 := hS0.1
                    have hX := @yX.rf n tg I28 R
                    have hS := hS0.x hX
                    have hR := hR0.x hn hX
                    have hz := hX.sz h94
                    have hxn := hX.1
                    have hw_b14 := hR.thi hlo_b14 hb0_b14 ((hX.2.1 _ hb_b14).1.trans ht_b14)
                    have hN := hR0.1
                    have hnb := hR0.2.2.2.2.2.2
                    have hthB := hth
                    refine y_aload_n rfl rfl ?_
                    refine y_getIv (v := Int32.ofInt (3)) rfl (ySh.t hS rfl) (ySh.n hS rfl) rfl rfl hth ?_
                    refine y_if_leF rfl (by decide) ?_
                    refine y_iconst rfl ?_
                    refine y_goto rfl j_X14_refuse_28 ?_
                    refine y_ireturn rfl rfl rfl ?_
                    refine y_ret1 ?_
                    refine y_if_eqF rfl (by decide) ?_
                    refine y_iconst rfl ?_
                    refine y_ireturn rfl rfl rfl ?_
                    exact hQ3 _ eb_b14 (by omega) _ _ _ _ _ _ _ hS ((hR0.grow hX).up (Nat.le_succ K) hk6) (hK.x hRo hno hX) hth (hg.gx hX (by omega)) (by omega) (by omega) (by omega) (by omega) (by omega) (fun l_ h1_ h2_ i_ _ => yAd_eq ((hX.2.1 l_ (by omega)).2.2.trans (hRb l_ (by omega))) ((hX.2.1 _ (by have := hRo.lt6 l_ h1_ h2_; omega)).2.2.trans (hRb _ (hRo.lt6 l_ h1_ h2_)))) ((hB.trans hX).rf2 (by omega)) (by omega) (by omega)
                  · refine y_aload_n rfl rfl ?_
                    refine y_iload_n rfl rfl ?_
                    refine y_virt rfl rfl rfl rfl rfl (ySh.t hS rfl) (ySh.n hS rfl) ?_
                    have hlv_c : yLf I7 R x1 lv := hlv.cg (by omega) (fun i hi => by
                      have hq_ := hRo.l90.2.2.2.2 i hi
                      exact ⟨yAd_eq (hX.2.1 90 (by omega)).2.2 (hX.2.1 _ (by have := hRo.lt6 90 (by decide) (by decide); omega)).2.2, (congrFun ((hg.gx hX (by omega)) _ hq_.2.1 hq_.2.2.1) 0), (congrFun ((hg.gx hX (by omega)) _ hq_.2.1 hq_.2.2.1) 5)⟩)
                    refine r_leaseOf hS hR (Nat.le_trans hn hX.1) (fun v_29 hv_29 => ?_)
                    have hl_29 := hlv_c v_29 hv_29
                    replace hv_29 : v_29.toInt = -1 ∨ 0 ≤ v_29.toInt ∧ v_29.toInt < (I7 90 2).toInt := hv_29.imp (fun q => q.1) (fun q => ⟨q.1, q.2.1⟩)
                    refine y_ret1 ?_
                    refine y_iconst rfl ?_
                    refine y_icmp_eq rfl j_X14_lease_151 (fun h_30 => ?_) (fun h_31 => ?_)
                    · rw [yz_m1] at h_30
                      refine y_iconst rfl ?_
                      refine y_iconst rfl ?_
                      refine y_virt rfl rfl rfl rfl rfl (ySh.t hS rfl) (ySh.n hS rfl) ?_
                      refine y_in (M := xm_X14_refuse) (ls := [some _, some _, some _]) rfl rfl rfl ?_
                      refine y_iload_n rfl rfl ?_
                      refine y_if_eqT rfl j_X14_refuse_16 (by decide) ?_
                      refine y_aload_n rfl rfl ?_
                      refine y_getIv (v := Int32.ofInt (0)) rfl (ySh.t hS rfl) (ySh.n hS rfl) rfl rfl hth ?_
                      refine y_if_leT rfl j_X14_refuse_27 (by decide) ?_
                      refine y_iconst rfl ?_
                      refine y_ireturn rfl rfl rfl ?_
                      refine y_ret1 ?_
                      refine y_if_eqT rfl j_X14_lease_161 (by decide) ?_
                      refine y_aload_n rfl rfl ?_
                      refine y_getR rfl (ySh.t hS rfl) (ySh.n hS rfl) rfl rfl (ySh.r hS rfl) ?_
                      refine y_newX rfl rfl rfl (fun n32 tg32 I32 R32 hA => ?_)
                      have hnA := hA.1
                      have hnw := yNw.al hX hA
                      have ht_f33 : tg32 n = (18, 0) := hA.2.1
                      have ha_f33 : n < n32 := by omega
                      have hX := hX.y.trans hA.y
                      have hS := hS0.y hX
                      have hR := hR0.y hn hX
                      have hz := hX.sz h94
                      have hxn := hX.1
                      have hw_b14 := hR.thi hlo_b14 hb0_b14 ((hX.2.1 _ hb_b14).1.trans ht_b14)
                      have hth := (congrFun (hA.2.2.2.2 83 (by omega)).2.1 0).trans hth
                      have hz_f33 : ∀ k, I32 n k = 0 := hA.2.2.1
                      refine y_dup rfl rfl ?_
                      refine y_iload_n rfl rfl ?_
                      refine y_iload_n rfl rfl ?_
                      refine y_iload_n rfl rfl ?_
                      refine y_iload rfl rfl ?_
                      refine y_aload_n rfl rfl ?_
                      refine y_getIv (v := I 83 1) rfl (ySh.t hS rfl) (ySh.n hS rfl) rfl rfl ((congrFun (hX.2.1 83 (by omega)).2.1 1).trans hday) ?_
                      refine y_init rfl rfl rfl rfl rfl ?_
                      refine y_in (M := xm_X10_init) (ls := [some _, some _, some _, some _, some _, some _]) rfl rfl rfl ?_
                      refine y_aload_n rfl rfl ?_
                      refine y_obj rfl ha_f33 rfl ?_
                      refine y_aload_n rfl rfl ?_
                      refine y_iload_n rfl rfl ?_
                      refine y_putI rfl ht_f33 ha_f33 rfl (Nat.le_trans (by decide) (by omega : 94 ≤ _)) rfl rfl ?_
                      refine y_nameI (fun I34 e34 => ?_)
                      have hX := hX.upI (by omega) (upI e34)
                      have hS := hS0.y hX
                      have hR := hR0.y hn hX
                      have hz := hX.sz h94
                      have hxn := hX.1
                      have hw_b14 := hR.thi hlo_b14 hb0_b14 ((hX.2.1 _ hb_b14).1.trans ht_b14)
                      have hth := (congrFun (upI e34 83 (by omega)) 0).trans hth
                      refine y_aload_n rfl rfl ?_
                      refine y_iload_n rfl rfl ?_
                      refine y_putI rfl ht_f33 ha_f33 rfl (Nat.le_trans (by decide) (by omega : 94 ≤ _)) rfl rfl ?_
                      refine y_nameI (fun I35 e35 => ?_)
                      have hX := hX.upI (by omega) (upI e35)
                      have hS := hS0.y hX
                      have hR := hR0.y hn hX
                      have hz := hX.sz h94
                      have hxn := hX.1
                      have hw_b14 := hR.thi hlo_b14 hb0_b14 ((hX.2.1 _ hb_b14).1.trans ht_b14)
                      have hth := (congrFun (upI e35 83 (by omega)) 0).trans hth
                      refine y_aload_n rfl rfl ?_
                      refine y_iload_n rfl rfl ?_
                      refine y_putI rfl ht_f33 ha_f33 rfl (Nat.le_trans (by decide) (by omega : 94 ≤ _)) rfl rfl ?_
                      refine y_nameI (fun I36 e36 => ?_)
                      have hX := hX.upI (by omega) (upI e36)
                      have hS := hS0.y hX
                      have hR := hR0.y hn hX
                      have hz := hX.sz h94
                      have hxn := hX.1
                      have hw_b14 := hR.thi hlo_b14 hb0_b14 ((hX.2.1 _ hb_b14).1.trans ht_b14)
                      have hth := (congrFun (upI e36 83 (by omega)) 0).trans hth
                      refine y_aload_n rfl rfl ?_
                      refine y_iload rfl rfl ?_
                      refine y_putI rfl ht_f33 ha_f33 rfl (Nat.le_trans (by decide) (by omega : 94 ≤ _)) rfl rfl ?_
                      refine y_nameI (fun I37 e37 => ?_)
                      have hX := hX.upI (by omega) (upI e37)
                      have hS := hS0.y hX
                      have hR := hR0.y hn hX
                      have hz := hX.sz h94
                      have hxn := hX.1
                      have hw_b14 := hR.thi hlo_b14 hb0_b14 ((hX.2.1 _ hb_b14).1.trans ht_b14)
                      have hth := (congrFun (upI e37 83 (by omega)) 0).trans hth
                      refine y_aload_n rfl rfl ?_
                      refine y_iload rfl rfl ?_
                      refine y_putI rfl ht_f33 ha_f33 rfl (Nat.le_trans (by decide) (by omega : 94 ≤ _)) rfl rfl ?_
                      refine y_nameI (fun I38 e38 => ?_)
                      have hX := hX.upI (by omega) (upI e38)
                      have hS := hS0.y hX
                      have hR := hR0.y hn hX
                      have hz := hX.sz h94
                      have hxn := hX.1
                      have hw_b14 := hR.thi hlo_b14 hb0_b14 ((hX.2.1 _ hb_b14).1.trans ht_b14)
                      have hth := (congrFun (upI e38 83 (by omega)) 0).trans hth
                      refine y_return rfl ?_
                      refine y_ret0 ?_
                      refine y_virt rfl rfl rfl rfl rfl (ySh.t hS rfl) (ySh.n hS rfl) ?_
                      refine l_add hS (by decide) (by decide) (ySh.t hS rfl) (Nat.le_trans hn hX.1) hR.l90 (by omega) (by omega) ha_f33 (fun n39 tg39 I39 R39 c_39 s_39 hAd hc_39 hs_39 => ?_)
                      have hsA := hAd.sz
                      have hsz87 := congrArg Int32.toInt (congrFun (hAd.I 87 (by omega) (by decide)) 2)
                      have hsz88 := congrArg Int32.toInt (congrFun (hAd.I 88 (by omega) (by decide)) 2)
                      have hsz89 := congrArg Int32.toInt (congrFun (hAd.I 89 (by omega) (by decide)) 2)
                      have hsz91 := congrArg Int32.toInt (congrFun (hAd.I 91 (by omega) (by decide)) 2)
                      have hsz92 := congrArg Int32.toInt (congrFun (hAd.I 92 (by omega) (by decide)) 2)
                      have hszp := congrArg Int32.toInt (congrFun (hAd.I 83 (by omega) (by decide)) 8)
                      have hLk0 := yAdd.lk hR (Nat.le_trans hn hX.1) hAd (by decide) (by decide)
                      have hcs : ∀ l', 87 ≤ l' → l' ≤ 92 → (I38 l' 2).toInt = (I l' 2).toInt := fun l' h1 h2 => by rw [(hX.2.1 l' (by omega)).2.1, hb83 l' (by omega) (by omega)]
                      have hLk : yLk I R R39 := fun l' h1 h2 i hi => (hLk0.1 l' h1 h2 i (by rw [hcs l' h1 h2]; exact hi)).trans (yAd_eq ((hX.2.1 l' (by omega)).2.2.trans (hRb l' (by omega))) ((hX.2.1 _ (by have := hRo.lt6 l' h1 h2; omega)).2.2.trans (hRb _ (hRo.lt6 l' h1 h2))))
                      have hAx : yAd R39 90 (I 90 2).toInt.toNat = n := by rw [← hcs 90 (by decide) (by decide)]; exact hLk0.2
                      have hno_x : n ≤ n := by omega
                      have hg := (hg.y hX (by omega)).add hAd (by omega) (by decide)
                      have h8 : ∀ a, 84 ≤ a → a ≤ 86 → I39 a = I a := fun a h1 h2 => (hAd.I a (by omega) (by omega)).trans ((hX.2.1 a (by omega)).2.1.trans (h8 a h1 h2))
                      have h3k : ∀ k, k ≠ 0 → I39 83 k = I 83 k := fun k hk => (congrFun (hAd.I 83 (by omega) (by decide)) k).trans ((congrFun (hX.2.1 83 (by omega)).2.1 k).trans (h3k k hk))
                      have hday := (congrFun (hAd.I 83 (by omega) (by decide)) 1).trans ((congrFun (hX.2.1 83 (by omega)).2.1 1).trans hday)
                      have hf0 : I39 n 0 = x1 := by rw [hAd.I _ ha_f33 (by omega)]; simp only [e38, e37, e36, e35, e34, upd2]; first | rfl | (simp; done) | (simp; exact hz_f33 _) | (simp; omega) | exact hz_f33 _
                      have hf1 : I39 n 1 = x2 := by rw [hAd.I _ ha_f33 (by omega)]; simp only [e38, e37, e36, e35, e34, upd2]; first | rfl | (simp; done) | (simp; exact hz_f33 _) | (simp; omega) | exact hz_f33 _
                      have hf2 : I39 n 2 = x3 := by rw [hAd.I _ ha_f33 (by omega)]; simp only [e38, e37, e36, e35, e34, upd2]; first | rfl | (simp; done) | (simp; exact hz_f33 _) | (simp; omega) | exact hz_f33 _
                      have hf3 : I39 n 3 = x4 := by rw [hAd.I _ ha_f33 (by omega)]; simp only [e38, e37, e36, e35, e34, upd2]; first | rfl | (simp; done) | (simp; exact hz_f33 _) | (simp; omega) | exact hz_f33 _
                      have hf4 : I39 n 4 = (I 83 1) := by rw [hAd.I _ ha_f33 (by omega)]; simp only [e38, e37, e36, e35, e34, upd2]; first | rfl | (simp; done) | (simp; exact hz_f33 _) | (simp; omega) | exact hz_f33 _
                      have hf5 : I39 n 5 = (Int32.ofInt 0) := by rw [hAd.I _ ha_f33 (by omega)]; simp only [e38, e37, e36, e35, e34, upd2]; first | rfl | (simp; done) | (simp; exact hz_f33 _) | (simp; omega) | exact hz_f33 _
                      have hf6 : I39 n 6 = (Int32.ofInt 0) := by rw [hAd.I _ ha_f33 (by omega)]; simp only [e38, e37, e36, e35, e34, upd2]; first | rfl | (simp; done) | (simp; exact hz_f33 _) | (simp; omega) | exact hz_f33 _
                      have hf7 : I39 n 7 = (Int32.ofInt 0) := by rw [hAd.I _ ha_f33 (by omega)]; simp only [e38, e37, e36, e35, e34, upd2]; first | rfl | (simp; done) | (simp; exact hz_f33 _) | (simp; omega) | exact hz_f33 _
                      have hnA := hAd.n
                      have hNu : yNum K I39 := yNum.add (K := K) hR.1 hAd (by omega) (by decide) (by decide) (Nat.le_refl K) (by omega) (fun h => by omega) (fun h => by omega) (fun h => by omega) (fun h => by omega) (fun h => by omega) (fun h => by omega)
                      have htx : tg39 n = (18, 0) := (hAd.tg _ ha_f33).trans ht_f33
                      have hIx := hAd.I _ ha_f33 (by omega)
                      have hOb : yOb K n39 tg39 I39 R39 n := ⟨fun hq => absurd (show (18 : Nat) = 20 from congrArg Prod.fst (htx.symm.trans hq)) (by decide), fun hq => absurd (show (18 : Nat) = 19 from congrArg Prod.fst (htx.symm.trans hq)) (by decide), fun _ => by have h88 := congrArg Int32.toInt (congrFun (hAd.I 88 (by omega) (by decide)) 2); rw [hIx]; simp only [e38, e37, e36, e35, e34, upd2]; first | omega | (simp; omega) | simp | (simp; decide) | decide, fun hq => absurd (show (18 : Nat) = 21 from congrArg Prod.fst (htx.symm.trans hq)) (by decide)⟩
                      have hR1 : yRI K n39 tg39 I39 R39 := yRI.add hR (Nat.le_trans hn hX.1) hAd (by decide) (by decide) rfl (by omega) ha_f33 ht_f33 hnw (Nat.le_refl K) hNu hOb (fun h => absurd h (by decide)) (fun h => absurd h (by decide))
                      have hK := (hK.y hRo hno hX).add hRo hno hR.di hAd (by decide) (by decide) (hR.zl 90 (by decide) (by decide))
                      have hS := hS.add hAd (by decide) (by decide) (hR.zl 90 (by decide) (by decide))
                      have hth := (congrFun (hAd.I 83 (by omega) (by decide)) 0).trans hth
                      have ht_b14 := (hAd.tg _ (Nat.lt_of_lt_of_le hb_b14 hX.1)).trans ((hX.2.1 _ hb_b14).1.trans ht_b14)
                      have hb_b14 := Nat.lt_of_lt_of_le (Nat.lt_of_lt_of_le hb_b14 hX.1) hAd.n
                      have hb0_b14 := hb_b14
                      have ht_f33 := (hAd.tg _ ha_f33).trans ht_f33
                      have ha_f33 := Nat.lt_of_lt_of_le ha_f33 hAd.n
                      have hS0 := hS
                      have hR0 := hR1
                      have hn := Nat.le_refl n39
                      have h94 := hS0.1
                      have hX := @yX.rf n39 tg39 I39 R39
                      have hS := hS0.x hX
                      have hR := hR0.x hn hX
                      have hz := hX.sz h94
                      have hxn := hX.1
                      have hw_b14 := hR.thi hlo_b14 hb0_b14 ((hX.2.1 _ hb_b14).1.trans ht_b14)
                      have hN := hR0.1
                      have hnb := hR0.2.2.2.2.2.2
                      have hthB := hth
                      refine y_ret1 ?_
                      refine y_pop rfl rfl ?_
                      refine y_aload_n rfl rfl ?_
                      refine y_getR rfl (ySh.t hS rfl) (ySh.n hS rfl) rfl rfl (ySh.r hS rfl) ?_
                      refine y_virt rfl rfl rfl rfl rfl (ySh.t hS rfl) (ySh.n hS rfl) ?_
                      refine y_in (M := xm_Jx4a65c_size_8abf5) (ls := [some _]) rfl rfl rfl ?_
                      refine y_aload_n rfl rfl ?_
                      refine y_getI rfl (ySh.t hS rfl) (ySh.n hS rfl) rfl rfl ?_
                      refine y_ireturn rfl rfl rfl ?_
                      refine y_ret1 ?_
                      refine y_iconst rfl ?_
                      refine y_isub rfl ?_
                      refine y_ireturn rfl rfl rfl ?_
                      exact hQ0 _ eb_b14 (by omega) _ _ _ _ _ _ _ hS ((hR0.grow hX).up (Nat.le_succ K) hk6) (hK.x hRo hno hX) hth (by first | omega | (rw [ysub (by rw [yz_1]; omega) (by rw [yz_1]; omega), yz_1]; omega)) (hg.gx hX (by omega)) (by omega) (by omega) (by omega) (by omega) (by omega) hLk _ hAx.symm hno_x hf0 hf1 hf2 hf3 hf4 hf5 hf6 hf7 ⟨fun a_ h1_ h2_ => (hX.2.1 a_ (by omega)).2.1.trans (h8 a_ h1_ h2_), fun k_ hk_ => (congrFun (hX.2.1 83 (by omega)).2.1 k_).trans (h3k k_ hk_)⟩ (by omega) (by omega)
                    · rw [yz_m1] at h_31
                      refine y_iconst rfl ?_
                      refine y_goto rfl j_X14_lease_152 ?_
                      refine y_iconst rfl ?_
                      refine y_virt rfl rfl rfl rfl rfl (ySh.t hS rfl) (ySh.n hS rfl) ?_
                      refine y_in (M := xm_X14_refuse) (ls := [some _, some _, some _]) rfl rfl rfl ?_
                      refine y_iload_n rfl rfl ?_
                      refine y_if_eqF rfl (by decide) ?_
                      refine y_aload_n rfl rfl ?_
                      refine y_getIv (v := Int32.ofInt (0)) rfl (ySh.t hS rfl) (ySh.n hS rfl) rfl rfl hth ?_
                      refine y_if_neF rfl (by decide) ?_
                      refine y_aload_n rfl rfl ?_
                      refine y_iload_n rfl rfl ?_
                      refine y_putI rfl (ySh.t hS rfl) (ySh.n hS rfl) rfl (Nat.le_of_ble_eq_true rfl) rfl rfl ?_
                      refine y_nameI (fun I40 e40 => ?_)
                      have hR1 := (hR0.grow hX).mod0 e40 (by decide) (by decide)
                      have hK := (hK.x hRo hno hX).upI (upI e40) (by decide) (by decide) (fun i hi => by have := (hRo.l87.2.2.2.2 i hi).2.1; omega) (by rw [e40, upd2_ne (.inr (by decide))]; exact Int.le_refl _)
                      have hth : I40 83 0 = Int32.ofInt (3) := by rw [e40, upd2_self]
                      have hzz : ySz8 I7 I40 := ySz8_of (upI e40) (by rw [e40]; exact ⟨upd2_ne (.inr (by decide)), upd2_ne (.inr (by decide))⟩)
                      have hB := (hB.trans hX).wr e40 rfl
                      have h8 : ∀ a, 84 ≤ a → a ≤ 86 → I40 a = I a := fun a h1 h2 => (upI e40 a (by omega)).trans ((hX.2.1 a (by omega)).2.1.trans (h8 a h1 h2))
                      have h3k : ∀ k, k ≠ 0 → I40 83 k = I 83 k := fun k hk => (congrFun (congrFun e40 83) k).trans ((upd2_ne (.inr hk)).trans ((congrFun (hX.2.1 83 (by omega)).2.1 k).trans (h3k k hk)))
                      have hg := (hg.gx hX (by omega)).skip e40 (by decide)
                      have hday : I40 83 1 = I 83 1 := (congrFun (congrFun e40 83) 1).trans ((upd2_ne (.inr (by decide))).trans ((congrFun (hX.2.1 83 (by omega)).2.1 1).trans hday))
                      have hRb : ∀ a, a < n → R a = R a := fun a ha => (hX.2.1 a (by omega)).2.2.trans (hRb a ha)
                      have hb83 : ∀ a, a ≠ 83 → a < n → I40 a = I a := fun a ha hb => (upI e40 a ha).trans ((hX.2.1 a (by omega)).2.1.trans (hb83 a ha hb))
                      have hS0 := hS
                      have hR0 := hR1
                      have ht_b14 := (hX.2.1 _ hb_b14).1.trans ht_b14
                      have hb_b14 := Nat.lt_of_lt_of_le hb_b14 hX.1
                      have hb0_b14 := hb_b14
                      have hn := Nat.le_refl n
                      have h94 := hS0.1
                      have hX := @yX.rf n tg I40 R
                      have hS := hS0.x hX
                      have hR := hR0.x hn hX
                      have hz := hX.sz h94
                      have hxn := hX.1
                      have hw_b14 := hR.thi hlo_b14 hb0_b14 ((hX.2.1 _ hb_b14).1.trans ht_b14)
                      have hN := hR0.1
                      have hnb := hR0.2.2.2.2.2.2
                      have hthB := hth
                      refine y_aload_n rfl rfl ?_
                      refine y_getIv (v := Int32.ofInt (3)) rfl (ySh.t hS rfl) (ySh.n hS rfl) rfl rfl hth ?_
                      refine y_if_leF rfl (by decide) ?_
                      refine y_iconst rfl ?_
                      refine y_goto rfl j_X14_refuse_28 ?_
                      refine y_ireturn rfl rfl rfl ?_
                      refine y_ret1 ?_
                      refine y_if_eqF rfl (by decide) ?_
                      refine y_iconst rfl ?_
                      refine y_ireturn rfl rfl rfl ?_
                      exact hQ3 _ eb_b14 (by omega) _ _ _ _ _ _ _ hS ((hR0.grow hX).up (Nat.le_succ K) hk6) (hK.x hRo hno hX) hth (hg.gx hX (by omega)) (by omega) (by omega) (by omega) (by omega) (by omega) (fun l_ h1_ h2_ i_ _ => yAd_eq ((hX.2.1 l_ (by omega)).2.2.trans (hRb l_ (by omega))) ((hX.2.1 _ (by have := hRo.lt6 l_ h1_ h2_; omega)).2.2.trans (hRb _ (hRo.lt6 l_ h1_ h2_)))) ((hB.trans hX).rf2 (by omega)) (by omega) (by omega)
                · refine y_aload_n rfl rfl ?_
                  refine y_iconst rfl ?_
                  refine y_aload_n rfl rfl ?_
                  refine y_getIv (v := I 83 1) rfl (ySh.t hS rfl) (ySh.n hS rfl) rfl rfl ((congrFun (hX.2.1 83 (by omega)).2.1 1).trans hday) ?_
                  refine y_virt rfl rfl rfl rfl rfl (ySh.t hS rfl) (ySh.n hS rfl) ?_
                  have hal_c : ySum (fun j => yHv I7 R (Int32.ofInt 3).toInt j (I7 87 2).toInt.toNat) 5 = al := (ySum_eq fun j _ => yHv_kp (hK.x hRo hno hX)).trans hal
                  refine s_isAllowed hS hR (Nat.le_trans hn hX.1) (Int.le_of_eq (congrArg Int32.toInt ((congrFun (hX.2.1 83 (by omega)).2.1 1).trans hday))) (fun ha_41 n41 tg41 I41 R41 c_41 s_41 hX1 hc_41 hs_41 => ?_) (fun ha_42 n42 tg42 I42 R42 c_42 s_42 hX1 hc_42 hs_42 => ?_)
                  · rw [hal_c] at ha_41
                    have hnA := hX1.1
                    have hX := hX.trans hX1
                    have hS := hS0.x hX
                    have hR := hR0.x hn hX
                    have hz := hX.sz h94
                    have hxn := hX.1
                    have hw_b14 := hR.thi hlo_b14 hb0_b14 ((hX.2.1 _ hb_b14).1.trans ht_b14)
                    have hth := (congrFun (hX1.2.1 83 (by omega)).2.1 0).trans hth
                    refine y_ret1 ?_
                    refine y_if_eqF rfl (by decide) ?_
                    refine y_aload rfl rfl ?_
                    refine y_getIv (v := I b14 3) rfl ((hX.2.1 _ hb_b14).1.trans ht_b14) (Nat.lt_of_lt_of_le hb_b14 hX.1) rfl rfl (congrFun ((hg.gx hX (by omega)) _ hlo_b14 (by omega)) 3) ?_
                    refine y_if_ne rfl j_X14_lease_147 (fun h_43 => ?_) (fun h_44 => ?_)
                    · refine y_iconst rfl ?_
                      refine y_goto rfl j_X14_lease_152 ?_
                      refine y_iconst rfl ?_
                      refine y_virt rfl rfl rfl rfl rfl (ySh.t hS rfl) (ySh.n hS rfl) ?_
                      refine y_in (M := xm_X14_refuse) (ls := [some _, some _, some _]) rfl rfl rfl ?_
                      refine y_iload_n rfl rfl ?_
                      refine y_if_eqF rfl (by decide) ?_
                      refine y_aload_n rfl rfl ?_
                      refine y_getIv (v := Int32.ofInt (0)) rfl (ySh.t hS rfl) (ySh.n hS rfl) rfl rfl hth ?_
                      refine y_if_neF rfl (by decide) ?_
                      refine y_aload_n rfl rfl ?_
                      refine y_iload_n rfl rfl ?_
                      refine y_putI rfl (ySh.t hS rfl) (ySh.n hS rfl) rfl (Nat.le_of_ble_eq_true rfl) rfl rfl ?_
                      refine y_nameI (fun I45 e45 => ?_)
                      have hR1 := (hR0.grow hX).mod0 e45 (by decide) (by decide)
                      have hK := (hK.x hRo hno hX).upI (upI e45) (by decide) (by decide) (fun i hi => by have := (hRo.l87.2.2.2.2 i hi).2.1; omega) (by rw [e45, upd2_ne (.inr (by decide))]; exact Int.le_refl _)
                      have hth : I45 83 0 = Int32.ofInt (3) := by rw [e45, upd2_self]
                      have hzz : ySz8 I41 I45 := ySz8_of (upI e45) (by rw [e45]; exact ⟨upd2_ne (.inr (by decide)), upd2_ne (.inr (by decide))⟩)
                      have hB := (hB.trans hX).wr e45 rfl
                      have h8 : ∀ a, 84 ≤ a → a ≤ 86 → I45 a = I a := fun a h1 h2 => (upI e45 a (by omega)).trans ((hX.2.1 a (by omega)).2.1.trans (h8 a h1 h2))
                      have h3k : ∀ k, k ≠ 0 → I45 83 k = I 83 k := fun k hk => (congrFun (congrFun e45 83) k).trans ((upd2_ne (.inr hk)).trans ((congrFun (hX.2.1 83 (by omega)).2.1 k).trans (h3k k hk)))
                      have hg := (hg.gx hX (by omega)).skip e45 (by decide)
                      have hday : I45 83 1 = I 83 1 := (congrFun (congrFun e45 83) 1).trans ((upd2_ne (.inr (by decide))).trans ((congrFun (hX.2.1 83 (by omega)).2.1 1).trans hday))
                      have hRb : ∀ a, a < n → R41 a = R a := fun a ha => (hX.2.1 a (by omega)).2.2.trans (hRb a ha)
                      have hb83 : ∀ a, a ≠ 83 → a < n → I45 a = I a := fun a ha hb => (upI e45 a ha).trans ((hX.2.1 a (by omega)).2.1.trans (hb83 a ha hb))
                      have hS0 := hS
                      have hR0 := hR1
                      have ht_b14 := (hX.2.1 _ hb_b14).1.trans ht_b14
                      have hb_b14 := Nat.lt_of_lt_of_le hb_b14 hX.1
                      have hb0_b14 := hb_b14
                      have hn := Nat.le_refl n41
                      have h94 := hS0.1
                      have hX := @yX.rf n41 tg41 I45 R41
                      have hS := hS0.x hX
                      have hR := hR0.x hn hX
                      have hz := hX.sz h94
                      have hxn := hX.1
                      have hw_b14 := hR.thi hlo_b14 hb0_b14 ((hX.2.1 _ hb_b14).1.trans ht_b14)
                      have hN := hR0.1
                      have hnb := hR0.2.2.2.2.2.2
                      have hthB := hth
                      refine y_aload_n rfl rfl ?_
                      refine y_getIv (v := Int32.ofInt (3)) rfl (ySh.t hS rfl) (ySh.n hS rfl) rfl rfl hth ?_
                      refine y_if_leF rfl (by decide) ?_
                      refine y_iconst rfl ?_
                      refine y_goto rfl j_X14_refuse_28 ?_
                      refine y_ireturn rfl rfl rfl ?_
                      refine y_ret1 ?_
                      refine y_if_eqF rfl (by decide) ?_
                      refine y_iconst rfl ?_
                      refine y_ireturn rfl rfl rfl ?_
                      exact hQ3 _ eb_b14 (by omega) _ _ _ _ _ _ _ hS ((hR0.grow hX).up (Nat.le_succ K) hk6) (hK.x hRo hno hX) hth (hg.gx hX (by omega)) (by omega) (by omega) (by omega) (by omega) (by omega) (fun l_ h1_ h2_ i_ _ => yAd_eq ((hX.2.1 l_ (by omega)).2.2.trans (hRb l_ (by omega))) ((hX.2.1 _ (by have := hRo.lt6 l_ h1_ h2_; omega)).2.2.trans (hRb _ (hRo.lt6 l_ h1_ h2_)))) ((hB.trans hX).rf2 (by omega)) (by omega) (by omega)
                    · refine y_aload_n rfl rfl ?_
                      refine y_iload_n rfl rfl ?_
                      refine y_virt rfl rfl rfl rfl rfl (ySh.t hS rfl) (ySh.n hS rfl) ?_
                      have hlv_c : yLf I41 R41 x1 lv := hlv.cg (by omega) (fun i hi => by
                        have hq_ := hRo.l90.2.2.2.2 i hi
                        exact ⟨yAd_eq (hX.2.1 90 (by omega)).2.2 (hX.2.1 _ (by have := hRo.lt6 90 (by decide) (by decide); omega)).2.2, (congrFun ((hg.gx hX (by omega)) _ hq_.2.1 hq_.2.2.1) 0), (congrFun ((hg.gx hX (by omega)) _ hq_.2.1 hq_.2.2.1) 5)⟩)
                      refine r_leaseOf hS hR (Nat.le_trans hn hX.1) (fun v_46 hv_46 => ?_)
                      have hl_46 := hlv_c v_46 hv_46
                      replace hv_46 : v_46.toInt = -1 ∨ 0 ≤ v_46.toInt ∧ v_46.toInt < (I41 90 2).toInt := hv_46.imp (fun q => q.1) (fun q => ⟨q.1, q.2.1⟩)
                      refine y_ret1 ?_
                      refine y_iconst rfl ?_
                      refine y_icmp_eq rfl j_X14_lease_151 (fun h_47 => ?_) (fun h_48 => ?_)
                      · rw [yz_m1] at h_47
                        refine y_iconst rfl ?_
                        refine y_iconst rfl ?_
                        refine y_virt rfl rfl rfl rfl rfl (ySh.t hS rfl) (ySh.n hS rfl) ?_
                        refine y_in (M := xm_X14_refuse) (ls := [some _, some _, some _]) rfl rfl rfl ?_
                        refine y_iload_n rfl rfl ?_
                        refine y_if_eqT rfl j_X14_refuse_16 (by decide) ?_
                        refine y_aload_n rfl rfl ?_
                        refine y_getIv (v := Int32.ofInt (0)) rfl (ySh.t hS rfl) (ySh.n hS rfl) rfl rfl hth ?_
                        refine y_if_leT rfl j_X14_refuse_27 (by decide) ?_
                        refine y_iconst rfl ?_
                        refine y_ireturn rfl rfl rfl ?_
                        refine y_ret1 ?_
                        refine y_if_eqT rfl j_X14_lease_161 (by decide) ?_
                        refine y_aload_n rfl rfl ?_
                        refine y_getR rfl (ySh.t hS rfl) (ySh.n hS rfl) rfl rfl (ySh.r hS rfl) ?_
                        refine y_newX rfl rfl rfl (fun n49 tg49 I49 R49 hA => ?_)
                        have hnA := hA.1
                        have hnw := yNw.al hX hA
                        have ht_f50 : tg49 n41 = (18, 0) := hA.2.1
                        have ha_f50 : n41 < n49 := by omega
                        have hX := hX.y.trans hA.y
                        have hS := hS0.y hX
                        have hR := hR0.y hn hX
                        have hz := hX.sz h94
                        have hxn := hX.1
                        have hw_b14 := hR.thi hlo_b14 hb0_b14 ((hX.2.1 _ hb_b14).1.trans ht_b14)
                        have hth := (congrFun (hA.2.2.2.2 83 (by omega)).2.1 0).trans hth
                        have hz_f50 : ∀ k, I49 n41 k = 0 := hA.2.2.1
                        refine y_dup rfl rfl ?_
                        refine y_iload_n rfl rfl ?_
                        refine y_iload_n rfl rfl ?_
                        refine y_iload_n rfl rfl ?_
                        refine y_iload rfl rfl ?_
                        refine y_aload_n rfl rfl ?_
                        refine y_getIv (v := I 83 1) rfl (ySh.t hS rfl) (ySh.n hS rfl) rfl rfl ((congrFun (hX.2.1 83 (by omega)).2.1 1).trans hday) ?_
                        refine y_init rfl rfl rfl rfl rfl ?_
                        refine y_in (M := xm_X10_init) (ls := [some _, some _, some _, some _, some _, some _]) rfl rfl rfl ?_
                        refine y_aload_n rfl rfl ?_
                        refine y_obj rfl ha_f50 rfl ?_
                        refine y_aload_n rfl rfl ?_
                        refine y_iload_n rfl rfl ?_
                        refine y_putI rfl ht_f50 ha_f50 rfl (Nat.le_trans (by decide) (by omega : 94 ≤ _)) rfl rfl ?_
                        refine y_nameI (fun I51 e51 => ?_)
                        have hX := hX.upI (by omega) (upI e51)
                        have hS := hS0.y hX
                        have hR := hR0.y hn hX
                        have hz := hX.sz h94
                        have hxn := hX.1
                        have hw_b14 := hR.thi hlo_b14 hb0_b14 ((hX.2.1 _ hb_b14).1.trans ht_b14)
                        have hth := (congrFun (upI e51 83 (by omega)) 0).trans hth
                        refine y_aload_n rfl rfl ?_
                        refine y_iload_n rfl rfl ?_
                        refine y_putI rfl ht_f50 ha_f50 rfl (Nat.le_trans (by decide) (by omega : 94 ≤ _)) rfl rfl ?_
                        refine y_nameI (fun I52 e52 => ?_)
                        have hX := hX.upI (by omega) (upI e52)
                        have hS := hS0.y hX
                        have hR := hR0.y hn hX
                        have hz := hX.sz h94
                        have hxn := hX.1
                        have hw_b14 := hR.thi hlo_b14 hb0_b14 ((hX.2.1 _ hb_b14).1.trans ht_b14)
                        have hth := (congrFun (upI e52 83 (by omega)) 0).trans hth
                        refine y_aload_n rfl rfl ?_
                        refine y_iload_n rfl rfl ?_
                        refine y_putI rfl ht_f50 ha_f50 rfl (Nat.le_trans (by decide) (by omega : 94 ≤ _)) rfl rfl ?_
                        refine y_nameI (fun I53 e53 => ?_)
                        have hX := hX.upI (by omega) (upI e53)
                        have hS := hS0.y hX
                        have hR := hR0.y hn hX
                        have hz := hX.sz h94
                        have hxn := hX.1
                        have hw_b14 := hR.thi hlo_b14 hb0_b14 ((hX.2.1 _ hb_b14).1.trans ht_b14)
                        have hth := (congrFun (upI e53 83 (by omega)) 0).trans hth
                        refine y_aload_n rfl rfl ?_
                        refine y_iload rfl rfl ?_
                        refine y_putI rfl ht_f50 ha_f50 rfl (Nat.le_trans (by decide) (by omega : 94 ≤ _)) rfl rfl ?_
                        refine y_nameI (fun I54 e54 => ?_)
                        have hX := hX.upI (by omega) (upI e54)
                        have hS := hS0.y hX
                        have hR := hR0.y hn hX
                        have hz := hX.sz h94
                        have hxn := hX.1
                        have hw_b14 := hR.thi hlo_b14 hb0_b14 ((hX.2.1 _ hb_b14).1.trans ht_b14)
                        have hth := (congrFun (upI e54 83 (by omega)) 0).trans hth
                        refine y_aload_n rfl rfl ?_
                        refine y_iload rfl rfl ?_
                        refine y_putI rfl ht_f50 ha_f50 rfl (Nat.le_trans (by decide) (by omega : 94 ≤ _)) rfl rfl ?_
                        refine y_nameI (fun I55 e55 => ?_)
                        have hX := hX.upI (by omega) (upI e55)
                        have hS := hS0.y hX
                        have hR := hR0.y hn hX
                        have hz := hX.sz h94
                        have hxn := hX.1
                        have hw_b14 := hR.thi hlo_b14 hb0_b14 ((hX.2.1 _ hb_b14).1.trans ht_b14)
                        have hth := (congrFun (upI e55 83 (by omega)) 0).trans hth
                        refine y_return rfl ?_
                        refine y_ret0 ?_
                        refine y_virt rfl rfl rfl rfl rfl (ySh.t hS rfl) (ySh.n hS rfl) ?_
                        refine l_add hS (by decide) (by decide) (ySh.t hS rfl) (Nat.le_trans hn hX.1) hR.l90 (by omega) (by omega) ha_f50 (fun n56 tg56 I56 R56 c_56 s_56 hAd hc_56 hs_56 => ?_)
                        have hsA := hAd.sz
                        have hsz87 := congrArg Int32.toInt (congrFun (hAd.I 87 (by omega) (by decide)) 2)
                        have hsz88 := congrArg Int32.toInt (congrFun (hAd.I 88 (by omega) (by decide)) 2)
                        have hsz89 := congrArg Int32.toInt (congrFun (hAd.I 89 (by omega) (by decide)) 2)
                        have hsz91 := congrArg Int32.toInt (congrFun (hAd.I 91 (by omega) (by decide)) 2)
                        have hsz92 := congrArg Int32.toInt (congrFun (hAd.I 92 (by omega) (by decide)) 2)
                        have hszp := congrArg Int32.toInt (congrFun (hAd.I 83 (by omega) (by decide)) 8)
                        have hLk0 := yAdd.lk hR (Nat.le_trans hn hX.1) hAd (by decide) (by decide)
                        have hcs : ∀ l', 87 ≤ l' → l' ≤ 92 → (I55 l' 2).toInt = (I l' 2).toInt := fun l' h1 h2 => by rw [(hX.2.1 l' (by omega)).2.1, hb83 l' (by omega) (by omega)]
                        have hLk : yLk I R R56 := fun l' h1 h2 i hi => (hLk0.1 l' h1 h2 i (by rw [hcs l' h1 h2]; exact hi)).trans (yAd_eq ((hX.2.1 l' (by omega)).2.2.trans (hRb l' (by omega))) ((hX.2.1 _ (by have := hRo.lt6 l' h1 h2; omega)).2.2.trans (hRb _ (hRo.lt6 l' h1 h2))))
                        have hAx : yAd R56 90 (I 90 2).toInt.toNat = n41 := by rw [← hcs 90 (by decide) (by decide)]; exact hLk0.2
                        have hno_x : n ≤ n41 := by omega
                        have hg := (hg.y hX (by omega)).add hAd (by omega) (by decide)
                        have h8 : ∀ a, 84 ≤ a → a ≤ 86 → I56 a = I a := fun a h1 h2 => (hAd.I a (by omega) (by omega)).trans ((hX.2.1 a (by omega)).2.1.trans (h8 a h1 h2))
                        have h3k : ∀ k, k ≠ 0 → I56 83 k = I 83 k := fun k hk => (congrFun (hAd.I 83 (by omega) (by decide)) k).trans ((congrFun (hX.2.1 83 (by omega)).2.1 k).trans (h3k k hk))
                        have hday := (congrFun (hAd.I 83 (by omega) (by decide)) 1).trans ((congrFun (hX.2.1 83 (by omega)).2.1 1).trans hday)
                        have hf0 : I56 n41 0 = x1 := by rw [hAd.I _ ha_f50 (by omega)]; simp only [e55, e54, e53, e52, e51, upd2]; first | rfl | (simp; done) | (simp; exact hz_f50 _) | (simp; omega) | exact hz_f50 _
                        have hf1 : I56 n41 1 = x2 := by rw [hAd.I _ ha_f50 (by omega)]; simp only [e55, e54, e53, e52, e51, upd2]; first | rfl | (simp; done) | (simp; exact hz_f50 _) | (simp; omega) | exact hz_f50 _
                        have hf2 : I56 n41 2 = x3 := by rw [hAd.I _ ha_f50 (by omega)]; simp only [e55, e54, e53, e52, e51, upd2]; first | rfl | (simp; done) | (simp; exact hz_f50 _) | (simp; omega) | exact hz_f50 _
                        have hf3 : I56 n41 3 = x4 := by rw [hAd.I _ ha_f50 (by omega)]; simp only [e55, e54, e53, e52, e51, upd2]; first | rfl | (simp; done) | (simp; exact hz_f50 _) | (simp; omega) | exact hz_f50 _
                        have hf4 : I56 n41 4 = (I 83 1) := by rw [hAd.I _ ha_f50 (by omega)]; simp only [e55, e54, e53, e52, e51, upd2]; first | rfl | (simp; done) | (simp; exact hz_f50 _) | (simp; omega) | exact hz_f50 _
                        have hf5 : I56 n41 5 = (Int32.ofInt 0) := by rw [hAd.I _ ha_f50 (by omega)]; simp only [e55, e54, e53, e52, e51, upd2]; first | rfl | (simp; done) | (simp; exact hz_f50 _) | (simp; omega) | exact hz_f50 _
                        have hf6 : I56 n41 6 = (Int32.ofInt 0) := by rw [hAd.I _ ha_f50 (by omega)]; simp only [e55, e54, e53, e52, e51, upd2]; first | rfl | (simp; done) | (simp; exact hz_f50 _) | (simp; omega) | exact hz_f50 _
                        have hf7 : I56 n41 7 = (Int32.ofInt 0) := by rw [hAd.I _ ha_f50 (by omega)]; simp only [e55, e54, e53, e52, e51, upd2]; first | rfl | (simp; done) | (simp; exact hz_f50 _) | (simp; omega) | exact hz_f50 _
                        have hnA := hAd.n
                        have hNu : yNum K I56 := yNum.add (K := K) hR.1 hAd (by omega) (by decide) (by decide) (Nat.le_refl K) (by omega) (fun h => by omega) (fun h => by omega) (fun h => by omega) (fun h => by omega) (fun h => by omega) (fun h => by omega)
                        have htx : tg56 n41 = (18, 0) := (hAd.tg _ ha_f50).trans ht_f50
                        have hIx := hAd.I _ ha_f50 (by omega)
                        have hOb : yOb K n56 tg56 I56 R56 n41 := ⟨fun hq => absurd (show (18 : Nat) = 20 from congrArg Prod.fst (htx.symm.trans hq)) (by decide), fun hq => absurd (show (18 : Nat) = 19 from congrArg Prod.fst (htx.symm.trans hq)) (by decide), fun _ => by have h88 := congrArg Int32.toInt (congrFun (hAd.I 88 (by omega) (by decide)) 2); rw [hIx]; simp only [e55, e54, e53, e52, e51, upd2]; first | omega | (simp; omega) | simp | (simp; decide) | decide, fun hq => absurd (show (18 : Nat) = 21 from congrArg Prod.fst (htx.symm.trans hq)) (by decide)⟩
                        have hR1 : yRI K n56 tg56 I56 R56 := yRI.add hR (Nat.le_trans hn hX.1) hAd (by decide) (by decide) rfl (by omega) ha_f50 ht_f50 hnw (Nat.le_refl K) hNu hOb (fun h => absurd h (by decide)) (fun h => absurd h (by decide))
                        have hK := (hK.y hRo hno hX).add hRo hno hR.di hAd (by decide) (by decide) (hR.zl 90 (by decide) (by decide))
                        have hS := hS.add hAd (by decide) (by decide) (hR.zl 90 (by decide) (by decide))
                        have hth := (congrFun (hAd.I 83 (by omega) (by decide)) 0).trans hth
                        have ht_b14 := (hAd.tg _ (Nat.lt_of_lt_of_le hb_b14 hX.1)).trans ((hX.2.1 _ hb_b14).1.trans ht_b14)
                        have hb_b14 := Nat.lt_of_lt_of_le (Nat.lt_of_lt_of_le hb_b14 hX.1) hAd.n
                        have hb0_b14 := hb_b14
                        have ht_f50 := (hAd.tg _ ha_f50).trans ht_f50
                        have ha_f50 := Nat.lt_of_lt_of_le ha_f50 hAd.n
                        have hS0 := hS
                        have hR0 := hR1
                        have hn := Nat.le_refl n56
                        have h94 := hS0.1
                        have hX := @yX.rf n56 tg56 I56 R56
                        have hS := hS0.x hX
                        have hR := hR0.x hn hX
                        have hz := hX.sz h94
                        have hxn := hX.1
                        have hw_b14 := hR.thi hlo_b14 hb0_b14 ((hX.2.1 _ hb_b14).1.trans ht_b14)
                        have hN := hR0.1
                        have hnb := hR0.2.2.2.2.2.2
                        have hthB := hth
                        refine y_ret1 ?_
                        refine y_pop rfl rfl ?_
                        refine y_aload_n rfl rfl ?_
                        refine y_getR rfl (ySh.t hS rfl) (ySh.n hS rfl) rfl rfl (ySh.r hS rfl) ?_
                        refine y_virt rfl rfl rfl rfl rfl (ySh.t hS rfl) (ySh.n hS rfl) ?_
                        refine y_in (M := xm_Jx4a65c_size_8abf5) (ls := [some _]) rfl rfl rfl ?_
                        refine y_aload_n rfl rfl ?_
                        refine y_getI rfl (ySh.t hS rfl) (ySh.n hS rfl) rfl rfl ?_
                        refine y_ireturn rfl rfl rfl ?_
                        refine y_ret1 ?_
                        refine y_iconst rfl ?_
                        refine y_isub rfl ?_
                        refine y_ireturn rfl rfl rfl ?_
                        exact hQ0 _ eb_b14 (by omega) _ _ _ _ _ _ _ hS ((hR0.grow hX).up (Nat.le_succ K) hk6) (hK.x hRo hno hX) hth (by first | omega | (rw [ysub (by rw [yz_1]; omega) (by rw [yz_1]; omega), yz_1]; omega)) (hg.gx hX (by omega)) (by omega) (by omega) (by omega) (by omega) (by omega) hLk _ hAx.symm hno_x hf0 hf1 hf2 hf3 hf4 hf5 hf6 hf7 ⟨fun a_ h1_ h2_ => (hX.2.1 a_ (by omega)).2.1.trans (h8 a_ h1_ h2_), fun k_ hk_ => (congrFun (hX.2.1 83 (by omega)).2.1 k_).trans (h3k k_ hk_)⟩ (by omega) (by omega)
                      · rw [yz_m1] at h_48
                        refine y_iconst rfl ?_
                        refine y_goto rfl j_X14_lease_152 ?_
                        refine y_iconst rfl ?_
                        refine y_virt rfl rfl rfl rfl rfl (ySh.t hS rfl) (ySh.n hS rfl) ?_
                        refine y_in (M := xm_X14_refuse) (ls := [some _, some _, some _]) rfl rfl rfl ?_
                        refine y_iload_n rfl rfl ?_
                        refine y_if_eqF rfl (by decide) ?_
                        refine y_aload_n rfl rfl ?_
                        refine y_getIv (v := Int32.ofInt (0)) rfl (ySh.t hS rfl) (ySh.n hS rfl) rfl rfl hth ?_
                        refine y_if_neF rfl (by decide) ?_
                        refine y_aload_n rfl rfl ?_
                        refine y_iload_n rfl rfl ?_
                        refine y_putI rfl (ySh.t hS rfl) (ySh.n hS rfl) rfl (Nat.le_of_ble_eq_true rfl) rfl rfl ?_
                        refine y_nameI (fun I57 e57 => ?_)
                        have hR1 := (hR0.grow hX).mod0 e57 (by decide) (by decide)
                        have hK := (hK.x hRo hno hX).upI (upI e57) (by decide) (by decide) (fun i hi => by have := (hRo.l87.2.2.2.2 i hi).2.1; omega) (by rw [e57, upd2_ne (.inr (by decide))]; exact Int.le_refl _)
                        have hth : I57 83 0 = Int32.ofInt (3) := by rw [e57, upd2_self]
                        have hzz : ySz8 I41 I57 := ySz8_of (upI e57) (by rw [e57]; exact ⟨upd2_ne (.inr (by decide)), upd2_ne (.inr (by decide))⟩)
                        have hB := (hB.trans hX).wr e57 rfl
                        have h8 : ∀ a, 84 ≤ a → a ≤ 86 → I57 a = I a := fun a h1 h2 => (upI e57 a (by omega)).trans ((hX.2.1 a (by omega)).2.1.trans (h8 a h1 h2))
                        have h3k : ∀ k, k ≠ 0 → I57 83 k = I 83 k := fun k hk => (congrFun (congrFun e57 83) k).trans ((upd2_ne (.inr hk)).trans ((congrFun (hX.2.1 83 (by omega)).2.1 k).trans (h3k k hk)))
                        have hg := (hg.gx hX (by omega)).skip e57 (by decide)
                        have hday : I57 83 1 = I 83 1 := (congrFun (congrFun e57 83) 1).trans ((upd2_ne (.inr (by decide))).trans ((congrFun (hX.2.1 83 (by omega)).2.1 1).trans hday))
                        have hRb : ∀ a, a < n → R41 a = R a := fun a ha => (hX.2.1 a (by omega)).2.2.trans (hRb a ha)
                        have hb83 : ∀ a, a ≠ 83 → a < n → I57 a = I a := fun a ha hb => (upI e57 a ha).trans ((hX.2.1 a (by omega)).2.1.trans (hb83 a ha hb))
                        have hS0 := hS
                        have hR0 := hR1
                        have ht_b14 := (hX.2.1 _ hb_b14).1.trans ht_b14
                        have hb_b14 := Nat.lt_of_lt_of_le hb_b14 hX.1
                        have hb0_b14 := hb_b14
                        have hn := Nat.le_refl n41
                        have h94 := hS0.1
                        have hX := @yX.rf n41 tg41 I57 R41
                        have hS := hS0.x hX
                        have hR := hR0.x hn hX
                        have hz := hX.sz h94
                        have hxn := hX.1
                        have hw_b14 := hR.thi hlo_b14 hb0_b14 ((hX.2.1 _ hb_b14).1.trans ht_b14)
                        have hN := hR0.1
                        have hnb := hR0.2.2.2.2.2.2
                        have hthB := hth
                        refine y_aload_n rfl rfl ?_
                        refine y_getIv (v := Int32.ofInt (3)) rfl (ySh.t hS rfl) (ySh.n hS rfl) rfl rfl hth ?_
                        refine y_if_leF rfl (by decide) ?_
                        refine y_iconst rfl ?_
                        refine y_goto rfl j_X14_refuse_28 ?_
                        refine y_ireturn rfl rfl rfl ?_
                        refine y_ret1 ?_
                        refine y_if_eqF rfl (by decide) ?_
                        refine y_iconst rfl ?_
                        refine y_ireturn rfl rfl rfl ?_
                        exact hQ3 _ eb_b14 (by omega) _ _ _ _ _ _ _ hS ((hR0.grow hX).up (Nat.le_succ K) hk6) (hK.x hRo hno hX) hth (hg.gx hX (by omega)) (by omega) (by omega) (by omega) (by omega) (by omega) (fun l_ h1_ h2_ i_ _ => yAd_eq ((hX.2.1 l_ (by omega)).2.2.trans (hRb l_ (by omega))) ((hX.2.1 _ (by have := hRo.lt6 l_ h1_ h2_; omega)).2.2.trans (hRb _ (hRo.lt6 l_ h1_ h2_)))) ((hB.trans hX).rf2 (by omega)) (by omega) (by omega)
                  · rw [hal_c] at ha_42
                    have hnA := hX1.1
                    have hX := hX.trans hX1
                    have hS := hS0.x hX
                    have hR := hR0.x hn hX
                    have hz := hX.sz h94
                    have hxn := hX.1
                    have hw_b14 := hR.thi hlo_b14 hb0_b14 ((hX.2.1 _ hb_b14).1.trans ht_b14)
                    have hth := (congrFun (hX1.2.1 83 (by omega)).2.1 0).trans hth
                    refine y_ret1 ?_
                    refine y_if_eqT rfl j_X14_lease_147 (by decide) ?_
                    refine y_iconst rfl ?_
                    refine y_goto rfl j_X14_lease_152 ?_
                    refine y_iconst rfl ?_
                    refine y_virt rfl rfl rfl rfl rfl (ySh.t hS rfl) (ySh.n hS rfl) ?_
                    refine y_in (M := xm_X14_refuse) (ls := [some _, some _, some _]) rfl rfl rfl ?_
                    refine y_iload_n rfl rfl ?_
                    refine y_if_eqF rfl (by decide) ?_
                    refine y_aload_n rfl rfl ?_
                    refine y_getIv (v := Int32.ofInt (0)) rfl (ySh.t hS rfl) (ySh.n hS rfl) rfl rfl hth ?_
                    refine y_if_neF rfl (by decide) ?_
                    refine y_aload_n rfl rfl ?_
                    refine y_iload_n rfl rfl ?_
                    refine y_putI rfl (ySh.t hS rfl) (ySh.n hS rfl) rfl (Nat.le_of_ble_eq_true rfl) rfl rfl ?_
                    refine y_nameI (fun I58 e58 => ?_)
                    have hR1 := (hR0.grow hX).mod0 e58 (by decide) (by decide)
                    have hK := (hK.x hRo hno hX).upI (upI e58) (by decide) (by decide) (fun i hi => by have := (hRo.l87.2.2.2.2 i hi).2.1; omega) (by rw [e58, upd2_ne (.inr (by decide))]; exact Int.le_refl _)
                    have hth : I58 83 0 = Int32.ofInt (3) := by rw [e58, upd2_self]
                    have hzz : ySz8 I42 I58 := ySz8_of (upI e58) (by rw [e58]; exact ⟨upd2_ne (.inr (by decide)), upd2_ne (.inr (by decide))⟩)
                    have hB := (hB.trans hX).wr e58 rfl
                    have h8 : ∀ a, 84 ≤ a → a ≤ 86 → I58 a = I a := fun a h1 h2 => (upI e58 a (by omega)).trans ((hX.2.1 a (by omega)).2.1.trans (h8 a h1 h2))
                    have h3k : ∀ k, k ≠ 0 → I58 83 k = I 83 k := fun k hk => (congrFun (congrFun e58 83) k).trans ((upd2_ne (.inr hk)).trans ((congrFun (hX.2.1 83 (by omega)).2.1 k).trans (h3k k hk)))
                    have hg := (hg.gx hX (by omega)).skip e58 (by decide)
                    have hday : I58 83 1 = I 83 1 := (congrFun (congrFun e58 83) 1).trans ((upd2_ne (.inr (by decide))).trans ((congrFun (hX.2.1 83 (by omega)).2.1 1).trans hday))
                    have hRb : ∀ a, a < n → R42 a = R a := fun a ha => (hX.2.1 a (by omega)).2.2.trans (hRb a ha)
                    have hb83 : ∀ a, a ≠ 83 → a < n → I58 a = I a := fun a ha hb => (upI e58 a ha).trans ((hX.2.1 a (by omega)).2.1.trans (hb83 a ha hb))
                    have hS0 := hS
                    have hR0 := hR1
                    have ht_b14 := (hX.2.1 _ hb_b14).1.trans ht_b14
                    have hb_b14 := Nat.lt_of_lt_of_le hb_b14 hX.1
                    have hb0_b14 := hb_b14
                    have hn := Nat.le_refl n42
                    have h94 := hS0.1
                    have hX := @yX.rf n42 tg42 I58 R42
                    have hS := hS0.x hX
                    have hR := hR0.x hn hX
                    have hz := hX.sz h94
                    have hxn := hX.1
                    have hw_b14 := hR.thi hlo_b14 hb0_b14 ((hX.2.1 _ hb_b14).1.trans ht_b14)
                    have hN := hR0.1
                    have hnb := hR0.2.2.2.2.2.2
                    have hthB := hth
                    refine y_aload_n rfl rfl ?_
                    refine y_getIv (v := Int32.ofInt (3)) rfl (ySh.t hS rfl) (ySh.n hS rfl) rfl rfl hth ?_
                    refine y_if_leF rfl (by decide) ?_
                    refine y_iconst rfl ?_
                    refine y_goto rfl j_X14_refuse_28 ?_
                    refine y_ireturn rfl rfl rfl ?_
                    refine y_ret1 ?_
                    refine y_if_eqF rfl (by decide) ?_
                    refine y_iconst rfl ?_
                    refine y_ireturn rfl rfl rfl ?_
                    exact hQ3 _ eb_b14 (by omega) _ _ _ _ _ _ _ hS ((hR0.grow hX).up (Nat.le_succ K) hk6) (hK.x hRo hno hX) hth (hg.gx hX (by omega)) (by omega) (by omega) (by omega) (by omega) (by omega) (fun l_ h1_ h2_ i_ _ => yAd_eq ((hX.2.1 l_ (by omega)).2.2.trans (hRb l_ (by omega))) ((hX.2.1 _ (by have := hRo.lt6 l_ h1_ h2_; omega)).2.2.trans (hRb _ (hRo.lt6 l_ h1_ h2_)))) ((hB.trans hX).rf2 (by omega)) (by omega) (by omega)
        · rw [yz_99] at h_13
          refine y_ret1 ?_
          refine y_if_neF rfl (by decide) ?_
          refine y_iconst rfl ?_
          refine y_goto rfl j_X14_lease_56 ?_
          refine y_iconst rfl ?_
          refine y_virt rfl rfl rfl rfl rfl (ySh.t hS rfl) (ySh.n hS rfl) ?_
          refine y_in (M := xm_X14_refuse) (ls := [some _, some _, some _]) rfl rfl rfl ?_
          refine y_iload_n rfl rfl ?_
          refine y_if_eqF rfl (by decide) ?_
          refine y_aload_n rfl rfl ?_
          refine y_getIv (v := Int32.ofInt (0)) rfl (ySh.t hS rfl) (ySh.n hS rfl) rfl rfl hth ?_
          refine y_if_neF rfl (by decide) ?_
          refine y_aload_n rfl rfl ?_
          refine y_iload_n rfl rfl ?_
          refine y_putI rfl (ySh.t hS rfl) (ySh.n hS rfl) rfl (Nat.le_of_ble_eq_true rfl) rfl rfl ?_
          refine y_nameI (fun I59 e59 => ?_)
          have hR1 := (hR0.grow hX).mod0 e59 (by decide) (by decide)
          have hK := (hK.x hRo hno hX).upI (upI e59) (by decide) (by decide) (fun i hi => by have := (hRo.l87.2.2.2.2 i hi).2.1; omega) (by rw [e59, upd2_ne (.inr (by decide))]; exact Int.le_refl _)
          have hth : I59 83 0 = Int32.ofInt (2) := by rw [e59, upd2_self]
          have hzz : ySz8 I7 I59 := ySz8_of (upI e59) (by rw [e59]; exact ⟨upd2_ne (.inr (by decide)), upd2_ne (.inr (by decide))⟩)
          have hB := (hB.trans hX).wr e59 rfl
          have h8 : ∀ a, 84 ≤ a → a ≤ 86 → I59 a = I a := fun a h1 h2 => (upI e59 a (by omega)).trans ((hX.2.1 a (by omega)).2.1.trans (h8 a h1 h2))
          have h3k : ∀ k, k ≠ 0 → I59 83 k = I 83 k := fun k hk => (congrFun (congrFun e59 83) k).trans ((upd2_ne (.inr hk)).trans ((congrFun (hX.2.1 83 (by omega)).2.1 k).trans (h3k k hk)))
          have hg := (hg.gx hX (by omega)).skip e59 (by decide)
          have hday : I59 83 1 = I 83 1 := (congrFun (congrFun e59 83) 1).trans ((upd2_ne (.inr (by decide))).trans ((congrFun (hX.2.1 83 (by omega)).2.1 1).trans hday))
          have hRb : ∀ a, a < n → R a = R a := fun a ha => (hX.2.1 a (by omega)).2.2.trans (hRb a ha)
          have hb83 : ∀ a, a ≠ 83 → a < n → I59 a = I a := fun a ha hb => (upI e59 a ha).trans ((hX.2.1 a (by omega)).2.1.trans (hb83 a ha hb))
          have hS0 := hS
          have hR0 := hR1
          have hn := Nat.le_refl n
          have h94 := hS0.1
          have hX := @yX.rf n tg I59 R
          have hS := hS0.x hX
          have hR := hR0.x hn hX
          have hz := hX.sz h94
          have hxn := hX.1
          have hN := hR0.1
          have hnb := hR0.2.2.2.2.2.2
          have hthB := hth
          refine y_aload_n rfl rfl ?_
          refine y_getIv (v := Int32.ofInt (2)) rfl (ySh.t hS rfl) (ySh.n hS rfl) rfl rfl hth ?_
          refine y_if_leF rfl (by decide) ?_
          refine y_iconst rfl ?_
          refine y_goto rfl j_X14_refuse_28 ?_
          refine y_ireturn rfl rfl rfl ?_
          refine y_ret1 ?_
          refine y_if_eqF rfl (by decide) ?_
          refine y_iconst rfl ?_
          refine y_ireturn rfl rfl rfl ?_
          exact hQ2 (by omega) _ _ _ _ _ _ _ hS ((hR0.grow hX).up (Nat.le_succ K) hk6) (hK.x hRo hno hX) hth (hg.gx hX (by omega)) (by omega) (by omega) (by omega) (by omega) (by omega) (fun l_ h1_ h2_ i_ _ => yAd_eq ((hX.2.1 l_ (by omega)).2.2.trans (hRb l_ (by omega))) ((hX.2.1 _ (by have := hRo.lt6 l_ h1_ h2_; omega)).2.2.trans (hRb _ (hRo.lt6 l_ h1_ h2_)))) ((hB.trans hX).rf2 (by omega)) (by omega) (by omega)
      · rw [yz_0] at h_10
        rw [yz_99] at h_10
        refine y_ret1 ?_
        refine y_if_eqT rfl j_X14_lease_51 (by decide) ?_
        refine y_iconst rfl ?_
        refine y_goto rfl j_X14_lease_56 ?_
        refine y_iconst rfl ?_
        refine y_virt rfl rfl rfl rfl rfl (ySh.t hS rfl) (ySh.n hS rfl) ?_
        refine y_in (M := xm_X14_refuse) (ls := [some _, some _, some _]) rfl rfl rfl ?_
        refine y_iload_n rfl rfl ?_
        refine y_if_eqF rfl (by decide) ?_
        refine y_aload_n rfl rfl ?_
        refine y_getIv (v := Int32.ofInt (0)) rfl (ySh.t hS rfl) (ySh.n hS rfl) rfl rfl hth ?_
        refine y_if_neF rfl (by decide) ?_
        refine y_aload_n rfl rfl ?_
        refine y_iload_n rfl rfl ?_
        refine y_putI rfl (ySh.t hS rfl) (ySh.n hS rfl) rfl (Nat.le_of_ble_eq_true rfl) rfl rfl ?_
        refine y_nameI (fun I60 e60 => ?_)
        have hR1 := (hR0.grow hX).mod0 e60 (by decide) (by decide)
        have hK := (hK.x hRo hno hX).upI (upI e60) (by decide) (by decide) (fun i hi => by have := (hRo.l87.2.2.2.2 i hi).2.1; omega) (by rw [e60, upd2_ne (.inr (by decide))]; exact Int.le_refl _)
        have hth : I60 83 0 = Int32.ofInt (2) := by rw [e60, upd2_self]
        have hzz : ySz8 I7 I60 := ySz8_of (upI e60) (by rw [e60]; exact ⟨upd2_ne (.inr (by decide)), upd2_ne (.inr (by decide))⟩)
        have hB := (hB.trans hX).wr e60 rfl
        have h8 : ∀ a, 84 ≤ a → a ≤ 86 → I60 a = I a := fun a h1 h2 => (upI e60 a (by omega)).trans ((hX.2.1 a (by omega)).2.1.trans (h8 a h1 h2))
        have h3k : ∀ k, k ≠ 0 → I60 83 k = I 83 k := fun k hk => (congrFun (congrFun e60 83) k).trans ((upd2_ne (.inr hk)).trans ((congrFun (hX.2.1 83 (by omega)).2.1 k).trans (h3k k hk)))
        have hg := (hg.gx hX (by omega)).skip e60 (by decide)
        have hday : I60 83 1 = I 83 1 := (congrFun (congrFun e60 83) 1).trans ((upd2_ne (.inr (by decide))).trans ((congrFun (hX.2.1 83 (by omega)).2.1 1).trans hday))
        have hRb : ∀ a, a < n → R a = R a := fun a ha => (hX.2.1 a (by omega)).2.2.trans (hRb a ha)
        have hb83 : ∀ a, a ≠ 83 → a < n → I60 a = I a := fun a ha hb => (upI e60 a ha).trans ((hX.2.1 a (by omega)).2.1.trans (hb83 a ha hb))
        have hS0 := hS
        have hR0 := hR1
        have hn := Nat.le_refl n
        have h94 := hS0.1
        have hX := @yX.rf n tg I60 R
        have hS := hS0.x hX
        have hR := hR0.x hn hX
        have hz := hX.sz h94
        have hxn := hX.1
        have hN := hR0.1
        have hnb := hR0.2.2.2.2.2.2
        have hthB := hth
        refine y_aload_n rfl rfl ?_
        refine y_getIv (v := Int32.ofInt (2)) rfl (ySh.t hS rfl) (ySh.n hS rfl) rfl rfl hth ?_
        refine y_if_leF rfl (by decide) ?_
        refine y_iconst rfl ?_
        refine y_goto rfl j_X14_refuse_28 ?_
        refine y_ireturn rfl rfl rfl ?_
        refine y_ret1 ?_
        refine y_if_eqF rfl (by decide) ?_
        refine y_iconst rfl ?_
        refine y_ireturn rfl rfl rfl ?_
        exact hQ2 (by omega) _ _ _ _ _ _ _ hS ((hR0.grow hX).up (Nat.le_succ K) hk6) (hK.x hRo hno hX) hth (hg.gx hX (by omega)) (by omega) (by omega) (by omega) (by omega) (by omega) (fun l_ h1_ h2_ i_ _ => yAd_eq ((hX.2.1 l_ (by omega)).2.2.trans (hRb l_ (by omega))) ((hX.2.1 _ (by have := hRo.lt6 l_ h1_ h2_; omega)).2.2.trans (hRb _ (hRo.lt6 l_ h1_ h2_)))) ((hB.trans hX).rf2 (by omega)) (by omega) (by omega)
    · rw [yz_0] at h_6
      try rw [ysub (by rw [yz_1]; omega) (by rw [yz_1]; omega), yz_1] at h_6
      refine y_ret1 ?_
      refine y_if_neF rfl (by decide) ?_
      refine y_iconst rfl ?_
      refine y_goto rfl j_X14_isNobody_19 ?_
      refine y_ireturn rfl rfl rfl ?_
      refine y_ret1 ?_
      refine y_if_eqF rfl (by decide) ?_
      refine y_iconst rfl ?_
      refine y_goto rfl j_X14_lease_22 ?_
      refine y_iconst rfl ?_
      refine y_virt rfl rfl rfl rfl rfl (ySh.t hS rfl) (ySh.n hS rfl) ?_
      refine y_in (M := xm_X14_start) (ls := [some _, some _, some _]) rfl rfl rfl ?_
      refine y_aload_n rfl rfl ?_
      refine y_iconst rfl ?_
      refine y_putI rfl (ySh.t hS rfl) (ySh.n hS rfl) rfl (Nat.le_of_ble_eq_true rfl) rfl rfl ?_
      refine y_nameI (fun I61 e61 => ?_)
      have hR1 := (hR0.grow hX).mod0 e61 (by decide) (by decide)
      have hK := (hK.x hRo hno hX).upI (upI e61) (by decide) (by decide) (fun i hi => by have := (hRo.l87.2.2.2.2 i hi).2.1; omega) (by rw [e61, upd2_ne (.inr (by decide))]; exact Int.le_refl _)
      have hth : I61 83 0 = Int32.ofInt (0) := by rw [e61, upd2_self]
      have hzz : ySz8 I I61 := ySz8_of (upI e61) (by rw [e61]; exact ⟨upd2_ne (.inr (by decide)), upd2_ne (.inr (by decide))⟩)
      have hB := (hB.trans hX).wr e61 rfl
      have h8 : ∀ a, 84 ≤ a → a ≤ 86 → I61 a = I a := fun a h1 h2 => (upI e61 a (by omega)).trans ((hX.2.1 a (by omega)).2.1.trans (h8 a h1 h2))
      have h3k : ∀ k, k ≠ 0 → I61 83 k = I 83 k := fun k hk => (congrFun (congrFun e61 83) k).trans ((upd2_ne (.inr hk)).trans ((congrFun (hX.2.1 83 (by omega)).2.1 k).trans (h3k k hk)))
      have hg := (hg.gx hX (by omega)).skip e61 (by decide)
      have hday : I61 83 1 = I 83 1 := (congrFun (congrFun e61 83) 1).trans ((upd2_ne (.inr (by decide))).trans ((congrFun (hX.2.1 83 (by omega)).2.1 1).trans hday))
      have hRb : ∀ a, a < n → R a = R a := fun a ha => (hX.2.1 a (by omega)).2.2.trans (hRb a ha)
      have hb83 : ∀ a, a ≠ 83 → a < n → I61 a = I a := fun a ha hb => (upI e61 a ha).trans ((hX.2.1 a (by omega)).2.1.trans (hb83 a ha hb))
      have hS0 := hS
      have hR0 := hR1
      have hn := Nat.le_refl n
      have h94 := hS0.1
      have hX := @yX.rf n tg I61 R
      have hS := hS0.x hX
      have hR := hR0.x hn hX
      have hz := hX.sz h94
      have hxn := hX.1
      have hN := hR0.1
      have hnb := hR0.2.2.2.2.2.2
      have hthB := hth
      refine y_aload_n rfl rfl ?_
      refine y_iload_n rfl rfl ?_
      refine y_iload_n rfl rfl ?_
      refine y_virt rfl rfl rfl rfl rfl (ySh.t hS rfl) (ySh.n hS rfl) ?_
      refine y_in (M := xm_X14_refuse) (ls := [some _, some _, some _]) rfl rfl rfl ?_
      refine y_iload_n rfl rfl ?_
      refine y_if_eqF rfl (by decide) ?_
      refine y_aload_n rfl rfl ?_
      refine y_getIv (v := Int32.ofInt (0)) rfl (ySh.t hS rfl) (ySh.n hS rfl) rfl rfl hth ?_
      refine y_if_neF rfl (by decide) ?_
      refine y_aload_n rfl rfl ?_
      refine y_iload_n rfl rfl ?_
      refine y_putI rfl (ySh.t hS rfl) (ySh.n hS rfl) rfl (Nat.le_of_ble_eq_true rfl) rfl rfl ?_
      refine y_nameI (fun I62 e62 => ?_)
      have hR1 := (hR0.grow hX).mod0 e62 (by decide) (by decide)
      have hK := (hK.x hRo hno hX).upI (upI e62) (by decide) (by decide) (fun i hi => by have := (hRo.l87.2.2.2.2 i hi).2.1; omega) (by rw [e62, upd2_ne (.inr (by decide))]; exact Int.le_refl _)
      have hth : I62 83 0 = Int32.ofInt (1) := by rw [e62, upd2_self]
      have hzz : ySz8 I61 I62 := ySz8_of (upI e62) (by rw [e62]; exact ⟨upd2_ne (.inr (by decide)), upd2_ne (.inr (by decide))⟩)
      have hB := (hB.trans hX).wr e62 rfl
      have h8 : ∀ a, 84 ≤ a → a ≤ 86 → I62 a = I a := fun a h1 h2 => (upI e62 a (by omega)).trans ((hX.2.1 a (by omega)).2.1.trans (h8 a h1 h2))
      have h3k : ∀ k, k ≠ 0 → I62 83 k = I 83 k := fun k hk => (congrFun (congrFun e62 83) k).trans ((upd2_ne (.inr hk)).trans ((congrFun (hX.2.1 83 (by omega)).2.1 k).trans (h3k k hk)))
      have hg := (hg.gx hX (by omega)).skip e62 (by decide)
      have hday : I62 83 1 = I 83 1 := (congrFun (congrFun e62 83) 1).trans ((upd2_ne (.inr (by decide))).trans ((congrFun (hX.2.1 83 (by omega)).2.1 1).trans hday))
      have hRb : ∀ a, a < n → R a = R a := fun a ha => (hX.2.1 a (by omega)).2.2.trans (hRb a ha)
      have hb83 : ∀ a, a ≠ 83 → a < n → I62 a = I a := fun a ha hb => (upI e62 a ha).trans ((hX.2.1 a (by omega)).2.1.trans (hb83 a ha hb))
      have hS0 := hS
      have hR0 := hR1
      have hn := Nat.le_refl n
      have h94 := hS0.1
      have hX := @yX.rf n tg I62 R
      have hS := hS0.x hX
      have hR := hR0.x hn hX
      have hz := hX.sz h94
      have hxn := hX.1
      have hN := hR0.1
      have hnb := hR0.2.2.2.2.2.2
      have hthB := hth
      refine y_aload_n rfl rfl ?_
      refine y_getIv (v := Int32.ofInt (1)) rfl (ySh.t hS rfl) (ySh.n hS rfl) rfl rfl hth ?_
      refine y_if_leF rfl (by decide) ?_
      refine y_iconst rfl ?_
      refine y_goto rfl j_X14_refuse_28 ?_
      refine y_ireturn rfl rfl rfl ?_
      refine y_ret1 ?_
      refine y_ireturn rfl rfl rfl ?_
      refine y_ret1 ?_
      refine y_if_neT rfl j_X14_lease_63 (by decide) ?_
      refine y_iconst rfl ?_
      refine y_ireturn rfl rfl rfl ?_
      exact hQ1 (by omega) _ _ _ _ _ _ _ hS ((hR0.grow hX).up (Nat.le_succ K) hk6) (hK.x hRo hno hX) hth (hg.gx hX (by omega)) (by omega) (by omega) (by omega) (by omega) (by omega) (fun l_ h1_ h2_ i_ _ => yAd_eq ((hX.2.1 l_ (by omega)).2.2.trans (hRb l_ (by omega))) ((hX.2.1 _ (by have := hRo.lt6 l_ h1_ h2_; omega)).2.2.trans (hRb _ (hRo.lt6 l_ h1_ h2_)))) ((hB.trans hX).rf2 (by omega)) (by omega) (by omega)
  · rw [yz_0] at h_3
    try rw [ysub (by rw [yz_1]; omega) (by rw [yz_1]; omega), yz_1] at h_3
    refine y_ret1 ?_
    refine y_if_neF rfl (by decide) ?_
    refine y_iconst rfl ?_
    refine y_goto rfl j_X14_isNoThing_22 ?_
    refine y_ireturn rfl rfl rfl ?_
    refine y_ret1 ?_
    refine y_if_neT rfl j_X14_lease_17 (by decide) ?_
    refine y_iconst rfl ?_
    refine y_goto rfl j_X14_lease_22 ?_
    refine y_iconst rfl ?_
    refine y_virt rfl rfl rfl rfl rfl (ySh.t hS rfl) (ySh.n hS rfl) ?_
    refine y_in (M := xm_X14_start) (ls := [some _, some _, some _]) rfl rfl rfl ?_
    refine y_aload_n rfl rfl ?_
    refine y_iconst rfl ?_
    refine y_putI rfl (ySh.t hS rfl) (ySh.n hS rfl) rfl (Nat.le_of_ble_eq_true rfl) rfl rfl ?_
    refine y_nameI (fun I63 e63 => ?_)
    have hR1 := (hR0.grow hX).mod0 e63 (by decide) (by decide)
    have hK := (hK.x hRo hno hX).upI (upI e63) (by decide) (by decide) (fun i hi => by have := (hRo.l87.2.2.2.2 i hi).2.1; omega) (by rw [e63, upd2_ne (.inr (by decide))]; exact Int.le_refl _)
    have hth : I63 83 0 = Int32.ofInt (0) := by rw [e63, upd2_self]
    have hzz : ySz8 I I63 := ySz8_of (upI e63) (by rw [e63]; exact ⟨upd2_ne (.inr (by decide)), upd2_ne (.inr (by decide))⟩)
    have hB := (hB.trans hX).wr e63 rfl
    have h8 : ∀ a, 84 ≤ a → a ≤ 86 → I63 a = I a := fun a h1 h2 => (upI e63 a (by omega)).trans ((hX.2.1 a (by omega)).2.1.trans (h8 a h1 h2))
    have h3k : ∀ k, k ≠ 0 → I63 83 k = I 83 k := fun k hk => (congrFun (congrFun e63 83) k).trans ((upd2_ne (.inr hk)).trans ((congrFun (hX.2.1 83 (by omega)).2.1 k).trans (h3k k hk)))
    have hg := (hg.gx hX (by omega)).skip e63 (by decide)
    have hday : I63 83 1 = I 83 1 := (congrFun (congrFun e63 83) 1).trans ((upd2_ne (.inr (by decide))).trans ((congrFun (hX.2.1 83 (by omega)).2.1 1).trans hday))
    have hRb : ∀ a, a < n → R a = R a := fun a ha => (hX.2.1 a (by omega)).2.2.trans (hRb a ha)
    have hb83 : ∀ a, a ≠ 83 → a < n → I63 a = I a := fun a ha hb => (upI e63 a ha).trans ((hX.2.1 a (by omega)).2.1.trans (hb83 a ha hb))
    have hS0 := hS
    have hR0 := hR1
    have hn := Nat.le_refl n
    have h94 := hS0.1
    have hX := @yX.rf n tg I63 R
    have hS := hS0.x hX
    have hR := hR0.x hn hX
    have hz := hX.sz h94
    have hxn := hX.1
    have hN := hR0.1
    have hnb := hR0.2.2.2.2.2.2
    have hthB := hth
    refine y_aload_n rfl rfl ?_
    refine y_iload_n rfl rfl ?_
    refine y_iload_n rfl rfl ?_
    refine y_virt rfl rfl rfl rfl rfl (ySh.t hS rfl) (ySh.n hS rfl) ?_
    refine y_in (M := xm_X14_refuse) (ls := [some _, some _, some _]) rfl rfl rfl ?_
    refine y_iload_n rfl rfl ?_
    refine y_if_eqF rfl (by decide) ?_
    refine y_aload_n rfl rfl ?_
    refine y_getIv (v := Int32.ofInt (0)) rfl (ySh.t hS rfl) (ySh.n hS rfl) rfl rfl hth ?_
    refine y_if_neF rfl (by decide) ?_
    refine y_aload_n rfl rfl ?_
    refine y_iload_n rfl rfl ?_
    refine y_putI rfl (ySh.t hS rfl) (ySh.n hS rfl) rfl (Nat.le_of_ble_eq_true rfl) rfl rfl ?_
    refine y_nameI (fun I64 e64 => ?_)
    have hR1 := (hR0.grow hX).mod0 e64 (by decide) (by decide)
    have hK := (hK.x hRo hno hX).upI (upI e64) (by decide) (by decide) (fun i hi => by have := (hRo.l87.2.2.2.2 i hi).2.1; omega) (by rw [e64, upd2_ne (.inr (by decide))]; exact Int.le_refl _)
    have hth : I64 83 0 = Int32.ofInt (1) := by rw [e64, upd2_self]
    have hzz : ySz8 I63 I64 := ySz8_of (upI e64) (by rw [e64]; exact ⟨upd2_ne (.inr (by decide)), upd2_ne (.inr (by decide))⟩)
    have hB := (hB.trans hX).wr e64 rfl
    have h8 : ∀ a, 84 ≤ a → a ≤ 86 → I64 a = I a := fun a h1 h2 => (upI e64 a (by omega)).trans ((hX.2.1 a (by omega)).2.1.trans (h8 a h1 h2))
    have h3k : ∀ k, k ≠ 0 → I64 83 k = I 83 k := fun k hk => (congrFun (congrFun e64 83) k).trans ((upd2_ne (.inr hk)).trans ((congrFun (hX.2.1 83 (by omega)).2.1 k).trans (h3k k hk)))
    have hg := (hg.gx hX (by omega)).skip e64 (by decide)
    have hday : I64 83 1 = I 83 1 := (congrFun (congrFun e64 83) 1).trans ((upd2_ne (.inr (by decide))).trans ((congrFun (hX.2.1 83 (by omega)).2.1 1).trans hday))
    have hRb : ∀ a, a < n → R a = R a := fun a ha => (hX.2.1 a (by omega)).2.2.trans (hRb a ha)
    have hb83 : ∀ a, a ≠ 83 → a < n → I64 a = I a := fun a ha hb => (upI e64 a ha).trans ((hX.2.1 a (by omega)).2.1.trans (hb83 a ha hb))
    have hS0 := hS
    have hR0 := hR1
    have hn := Nat.le_refl n
    have h94 := hS0.1
    have hX := @yX.rf n tg I64 R
    have hS := hS0.x hX
    have hR := hR0.x hn hX
    have hz := hX.sz h94
    have hxn := hX.1
    have hN := hR0.1
    have hnb := hR0.2.2.2.2.2.2
    have hthB := hth
    refine y_aload_n rfl rfl ?_
    refine y_getIv (v := Int32.ofInt (1)) rfl (ySh.t hS rfl) (ySh.n hS rfl) rfl rfl hth ?_
    refine y_if_leF rfl (by decide) ?_
    refine y_iconst rfl ?_
    refine y_goto rfl j_X14_refuse_28 ?_
    refine y_ireturn rfl rfl rfl ?_
    refine y_ret1 ?_
    refine y_ireturn rfl rfl rfl ?_
    refine y_ret1 ?_
    refine y_if_neT rfl j_X14_lease_63 (by decide) ?_
    refine y_iconst rfl ?_
    refine y_ireturn rfl rfl rfl ?_
    exact hQ1 (by omega) _ _ _ _ _ _ _ hS ((hR0.grow hX).up (Nat.le_succ K) hk6) (hK.x hRo hno hX) hth (hg.gx hX (by omega)) (by omega) (by omega) (by omega) (by omega) (by omega) (fun l_ h1_ h2_ i_ _ => yAd_eq ((hX.2.1 l_ (by omega)).2.2.trans (hRb l_ (by omega))) ((hX.2.1 _ (by have := hRo.lt6 l_ h1_ h2_; omega)).2.2.trans (hRb _ (hRo.lt6 l_ h1_ h2_)))) ((hB.trans hX).rf2 (by omega)) (by omega) (by omega)
end YXM
