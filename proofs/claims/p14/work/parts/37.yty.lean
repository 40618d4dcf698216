/-! TEXT: append of a number; a builder's beginning and end (by hand, stringSize by a program) -/
def yP : Nat → Int
  | 0 => 1
  | k + 1 => 10 * yP k
theorem yneg {x : Int32} (h : -2147483648 < x.toInt) : (-x).toInt = -x.toInt := by
  have h2 := x.toInt_lt
  rw [Int32.toInt_neg]; exact bmod32 (by omega) (by omega)
theorem ydivn {x : Int32} (h : x.toInt ≤ 0) : (x / Int32.ofInt 100).toInt = -((-x.toInt) / 100) := by
  rw [Int32.toInt_div_of_ne_right x (Int32.ofInt 100) (by decide), show (Int32.ofInt 100).toInt = 100 from by decide]
  have e : x.toInt = -(-x.toInt) := by omega
  rw [e, Int.neg_tdiv, Int.tdiv_eq_ediv_of_nonneg (by omega), Int.neg_neg]
theorem gar1 {k : Nat} {x6 x5 m : Int} (h : (k : Int) + x6 ≤ x5) (hk : 2 ≤ k) (h6 : 0 ≤ x6) (hm : x5 ≤ m) : 0 ≤ x5 - 2 ∧ x5 - 2 < m ∧ x6 ≤ x5 - 2 ∧ x5 - 2 ≤ m := by omega
theorem gar2 {j : Nat} {x6 x5 m : Int} (h : ((j + 2 : Nat) : Int) + x6 ≤ x5) (hj : 1 ≤ j) (h6 : 0 ≤ x6) (hm : x5 ≤ m) : (0 ≤ x5 - 1 ∧ x5 - 1 < m) ∧ (0 ≤ x5 - 2 ∧ x5 - 2 < m) ∧ (j : Int) + x6 ≤ x5 - 2 ∧ x5 - 2 ≤ m := by omega
theorem gar3 {X P : Int} (h0 : X ≤ 0) (h : -(10 * (10 * P)) < X) : -(-X / 100) ≤ 0 ∧ -P < -(-X / 100) := by omega
theorem gar4 {X : Int} : 0 ≤ -X % 100 ∧ -X % 100 < 100 := by omega
theorem gq {x : Int32} (h : x.toInt ≤ 0) : (x / Int32.ofInt 100 * Int32.ofInt 100 - x).toInt = -x.toInt % 100 := by
  have hlo := x.le_toInt
  have hdv := ydivn h
  have hml : (x / Int32.ofInt 100 * Int32.ofInt 100).toInt = (x / Int32.ofInt 100).toInt * 100 := by
    rw [Int32.toInt_mul, yz_100]; exact bmod32 (by omega) (by omega)
  rw [ysub (by omega) (by omega), hml, hdv]; omega
theorem gm1 {x : Int32} (h : 1 ≤ x.toInt) : (x + Int32.ofInt (-1)).toInt = x.toInt - 1 := by
  have := x.toInt_lt
  rw [yadd (by rw [yz_m1]; omega) (by rw [yz_m1]; omega), yz_m1]; omega
theorem gm2 {x : Int32} (h : 2 ≤ x.toInt) : (x + Int32.ofInt (-1) + Int32.ofInt (-1)).toInt = x.toInt - 2 := by
  have e := gm1 (x := x) (by omega)
  rw [gm1 (by omega), e]; omega
section YTY
variable {n0 n : Nat} {tg0 tg : Nat → yT} {I0 I : Nat → Nat → Int32} {R0 R : Nat → Nat → Value} {c s : Nat} {Q : yQ}
/-- the digits' two rows, and the row that is written -/
def yDg (n : Nat) (tg : Nat → yT) (I : Nat → Nat → Int32) (b m : Nat) : Prop := tg 1 = (2, 100) ∧ tg 2 = (2, 100) ∧ yBy I 1 100 ∧ yBy I 2 100 ∧ tg b = (2, m) ∧ b < n ∧ 94 ≤ b ∧ yBy I b m
theorem yDg.up {b m j : Nat} {x : Int32} {I1 : Nat → Nat → Int32} (h : yDg n tg I b m) (e : I1 = upd2 I b j x) (hx : fits .byte (.int x) = true) : yDg n tg I1 b m := by
  obtain ⟨h1, h2, h3, h4, h5, h6, h7, h8⟩ := h
  refine ⟨h1, h2, fun k hk => by rw [upI e 1 (by omega)]; exact h3 k hk, fun k hk => by rw [upI e 2 (by omega)]; exact h4 k hk, h5, h6, h7, fun k hk => ?_⟩
  rw [e]
  by_cases hj : k = j
  · rw [hj, upd2_self]; exact hx
  · rw [upd2_ne (.inr hj)]; exact h8 k hk
theorem g_104 {Ib : Nat → Nat → Int32} {b m : Nat} {x1 x5 x6 : Int32} {o0 : Option Value} {ls2 : yLs} (hQ : ∀ v I1, (∀ a, a ≠ b → I1 a = Ib a) → yBy I1 b m → Q (.inl (some (.int v))) (n, tg, I1, R) c s)
    (hI : ∀ a, a ≠ b → I a = Ib a) (hD : yDg n tg I b m) (h5 : x6.toInt ≤ x5.toInt) (h5m : x5.toInt ≤ m) (h6 : 0 ≤ x6.toInt ∧ x6.toInt ≤ 1) (h50 : 0 ≤ x5.toInt) : yW xm_J6_getChars_ba4f3 xc_J6_getChars_ba4f3_104 [none, none, some (.ref b), none, none, some (.int x5), some (.int x6)] [] (n, tg, I, R) c s Q := by
  obtain ⟨q1, q2, q3, q4, q5, q6, q7, q8⟩ := id hD
  refine y_iload rfl rfl ?_
  refine y_if_eq rfl j_J6_getChars_ba4f3_118 (fun h_1 => ?_) (fun h_2 => ?_)
  · refine y_iload rfl rfl ?_
    refine y_ireturn rfl rfl rfl ?_
    exact hQ _ _ hI q8
  · have e5 : (x5 + Int32.ofInt (-1)).toInt = x5.toInt - 1 := gm1 (by omega)
    refine y_aload_n rfl rfl ?_
    refine y_iinc (ls' := [none, none, some _, none, none, some _, some _]) rfl rfl rfl rfl ?_
    refine y_iload rfl rfl ?_
    refine y_bip rfl (by decide) ?_
    refine y_bastore rfl q5 q6 (Nat.le_trans (by decide) q7) (by omega) (by omega) (by decide) ?_
    refine y_nameI (fun I1 e1 => ?_)
    refine y_iload rfl rfl ?_
    refine y_ireturn rfl rfl rfl ?_
    exact hQ _ _ (fun a ha => (upI e1 a ha).trans (hI a ha)) (hD.up e1 (by decide)).2.2.2.2.2.2.2
theorem g_72 {Ib : Nat → Nat → Int32} {b m k : Nat} {x0 x5 x6 : Int32} (h94 : 94 ≤ n) (hQ : ∀ v I1, (∀ a, a ≠ b → I1 a = Ib a) → yBy I1 b m → Q (.inl (some (.int v))) (n, tg, I1, R) c s)
    (hI : ∀ a, a ≠ b → I a = Ib a) (hD : yDg n tg I b m) (h0 : x0.toInt ≤ 0) (h01 : -100 < x0.toInt) (hk : 1 ≤ k) (hk2 : -(yP k) < x0.toInt) (h5 : (k : Int) + x6.toInt ≤ x5.toInt) (h5m : x5.toInt ≤ m) (h6 : 0 ≤ x6.toInt ∧ x6.toInt ≤ 1) : yW xm_J6_getChars_ba4f3 xc_J6_getChars_ba4f3_72 [some (.int x0), none, some (.ref b), none, none, some (.int x5), some (.int x6)] [] (n, tg, I, R) c s Q := by
  obtain ⟨q1, q2, q3, q4, q5, q6, q7, q8⟩ := id hD
  have hng := yneg (x := x0) (by omega)
  have e5 : (x5 + Int32.ofInt (-1)).toInt = x5.toInt - 1 := gm1 (by omega)
  have hf := q3 (-x0).toInt.toNat (by omega)
  refine y_aload_n rfl rfl ?_
  refine y_iinc (ls' := [some _, none, some _, none, none, some _, some _]) rfl rfl rfl rfl ?_
  refine y_iload rfl rfl ?_
  refine y_gets1 rfl rfl (by show 1 < n; omega) ?_
  refine y_iload_n rfl rfl ?_
  refine y_ineg rfl ?_
  refine y_baload (kd := 1) rfl q1 rfl (by omega) (by omega) (by omega) ?_
  refine y_bastore rfl q5 q6 (Nat.le_trans (by decide) q7) (by omega) (by omega) (yBy_nar hf) ?_
  refine y_nameI (fun I1 e1 => ?_)
  have hD1 := hD.up e1 hf
  have hI1 : ∀ a, a ≠ b → I1 a = Ib a := fun a ha => (upI e1 a ha).trans (hI a ha)
  refine y_iload_n rfl rfl ?_
  refine y_bip rfl (by decide) ?_
  refine y_icmp_ge rfl j_J6_getChars_ba4f3_104 (fun h_1 => ?_) (fun h_2 => ?_)
  · refine y_fgt (ls := [none, none, some _, none, none, some _, some _]) ⟨rfl, rfl, rfl, trivial⟩ ?_
    exact g_104 (x1 := x0) (o0 := none) (ls2 := []) hQ hI1 hD1 (by omega) (by omega) h6 (by omega)
  · rw [yz_m9] at h_2
    have hk3 : 2 ≤ k := by
      match k, hk, hk2 with
      | 1, _, hk2 => rw [show yP 1 = 10 from rfl] at hk2; omega
      | j + 2, _, _ => omega
    have hb := gar1 h5 hk3 h6.1 h5m
    have e6 : (x5 + Int32.ofInt (-1) + Int32.ofInt (-1)).toInt = x5.toInt - 2 := gm2 (by have := hb.1; omega)
    obtain ⟨p1, p2, p3, p4, p5, p6, p7, p8⟩ := id hD1
    have hf2 := p4 (-x0).toInt.toNat (by omega)
    refine y_aload_n rfl rfl ?_
    refine y_iinc (ls' := [some _, none, some _, none, none, some _, some _]) rfl rfl rfl rfl ?_
    refine y_iload rfl rfl ?_
    refine y_gets1 rfl rfl (by show 2 < n; omega) ?_
    refine y_iload_n rfl rfl ?_
    refine y_ineg rfl ?_
    refine y_baload (kd := 1) rfl p2 rfl (by omega) (by omega) (by omega) ?_
    have hb0 : 0 ≤ (x5 + Int32.ofInt (-1) + Int32.ofInt (-1)).toInt := by rw [e6]; exact hb.1
    have hb1 : (x5 + Int32.ofInt (-1) + Int32.ofInt (-1)).toInt < (m : Int) := by rw [e6]; exact hb.2.1
    have hnr := yBy_nar hf2
    refine y_bastore rfl p5 p6 (Nat.le_trans (by decide) p7) hb0 hb1 hnr ?_
    refine y_nameI (fun I2 e2 => ?_)
    refine y_fgt (ls := [none, none, some _, none, none, some _, some _]) ⟨rfl, rfl, rfl, trivial⟩ ?_
    exact g_104 (x1 := x0) (o0 := none) (ls2 := []) hQ (fun a ha => (upI e2 a ha).trans (hI1 a ha)) (hD1.up e2 hf2) (by rw [e6]; exact hb.2.2.1) (by rw [e6]; exact hb.2.2.2) h6 (by rw [e6]; exact hb.1)
theorem g_22 {Ib : Nat → Nat → Int32} {b m : Nat} {x6 : Int32} (h94 : 94 ≤ n) (h6 : 0 ≤ x6.toInt ∧ x6.toInt ≤ 1) (hQ : ∀ v I1, (∀ a, a ≠ b → I1 a = Ib a) → yBy I1 b m → Q (.inl (some (.int v))) (n, tg, I1, R) c s) :
    ∀ (mm k : Nat) (x0 x5 : Int32) (I : Nat → Nat → Int32), (∀ a, a ≠ b → I a = Ib a) → yDg n tg I b m → x0.toInt ≤ 0 → 1 ≤ k → -(yP k) < x0.toInt → (k : Int) + x6.toInt ≤ x5.toInt → x5.toInt ≤ m → k < mm → yW xm_J6_getChars_ba4f3 xc_J6_getChars_ba4f3_22 [some (.int x0), none, some (.ref b), none, none, some (.int x5), some (.int x6)] [] (n, tg, I, R) c s Q := by
  intro mm
  induction mm with
  | zero => intro k x0 x5 I hI hD h0 hk hk2 h5 h5m hm; exfalso; omega
  | succ mm ih =>
    intro k x0 x5 I hI hD h0 hk hk2 h5 h5m hm
    obtain ⟨q1, q2, q3, q4, q5, q6, q7, q8⟩ := id hD
    refine y_iload_n rfl rfl ?_
    refine y_bip rfl (by decide) ?_
    refine y_icmp_gt rfl j_J6_getChars_ba4f3_72 (fun h_1 => ?_) (fun h_2 => ?_)
    · rw [yz_m100] at h_1
      exact g_72 h94 hQ hI hD h0 h_1 hk hk2 h5 h5m h6
    · rw [yz_m100] at h_2
      have h100 := yz_100
      have hlo := x0.le_toInt
      obtain ⟨j, rfl, hj⟩ : ∃ j, k = j + 2 ∧ 1 ≤ j := by
        match k, hk, hk2 with
        | 1, _, hk2 => rw [show yP 1 = 10 from rfl] at hk2; omega
        | 2, _, hk2 => rw [show yP 2 = 100 from rfl] at hk2; omega
        | j + 3, _, _ => exact ⟨j + 1, rfl, by omega⟩
      have hk3 : -(10 * (10 * yP j)) < x0.toInt := hk2
      have hr := gq h0
      have hdv := ydivn h0
      have hq3 := gar3 h0 hk3
      rw [← hdv] at hq3
      have hb := gar2 h5 hj h6.1 h5m
      have hr4 := gar4 (X := x0.toInt)
      rw [← hr] at hr4
      have h52 : 2 ≤ x5.toInt := by have := hb.2.1.1; omega
      have h51 : 1 ≤ x5.toInt := by omega
      refine y_iload_n rfl rfl ?_
      refine y_bip rfl (by decide) ?_
      refine y_idiv rfl (by decide) ?_
      refine y_istore_n (ls' := [some _, none, some _, some _, none, some _, some _]) rfl rfl rfl ?_
      refine y_iload_n rfl rfl ?_
      refine y_bip rfl (by decide) ?_
      refine y_imul rfl ?_
      refine y_iload_n rfl rfl ?_
      refine y_isub rfl ?_
      refine y_istore (ls' := [some _, none, some _, some _, some _, some _, some _]) rfl rfl rfl ?_
      refine y_iload_n rfl rfl ?_
      refine y_istore_n (ls' := [some _, none, some _, some _, some _, some _, some _]) rfl rfl rfl ?_
      clear hr hdv hk2 hk3 h_2 hlo h100
      generalize x0 / Int32.ofInt 100 * Int32.ofInt 100 - x0 = rr at *
      generalize x0 / Int32.ofInt 100 = qq at *
      have hf := q3 rr.toInt.toNat (by have := hr4.1; have := hr4.2; omega)
      refine y_aload_n rfl rfl ?_
      refine y_iinc (ls' := [some _, none, some _, some _, some _, some _, some _]) rfl rfl rfl rfl ?_
      refine y_iload rfl rfl ?_
      refine y_gets1 rfl rfl (by show 1 < n; omega) ?_
      refine y_iload rfl rfl ?_
      refine y_baload (kd := 1) rfl q1 rfl (by omega) hr4.1 hr4.2 ?_
      refine y_bastore rfl q5 q6 (Nat.le_trans (by decide) q7) (by rw [gm1 h51]; exact hb.1.1) (by rw [gm1 h51]; exact hb.1.2) (yBy_nar hf) ?_
      refine y_nameI (fun I1 e1 => ?_)
      have hD1 := hD.up e1 hf
      have hI1 : ∀ a, a ≠ b → I1 a = Ib a := fun a ha => (upI e1 a ha).trans (hI a ha)
      obtain ⟨p1, p2, p3, p4, p5, p6, p7, p8⟩ := id hD1
      have hf2 := p4 rr.toInt.toNat (by have := hr4.1; have := hr4.2; omega)
      refine y_aload_n rfl rfl ?_
      refine y_iinc (ls' := [some _, none, some _, some _, some _, some _, some _]) rfl rfl rfl rfl ?_
      refine y_iload rfl rfl ?_
      refine y_gets1 rfl rfl (by show 2 < n; omega) ?_
      refine y_iload rfl rfl ?_
      refine y_baload (kd := 1) rfl p2 rfl (by omega) hr4.1 hr4.2 ?_
      refine y_bastore rfl p5 p6 (Nat.le_trans (by decide) p7) (by rw [gm2 h52]; exact hb.2.1.1) (by rw [gm2 h52]; exact hb.2.1.2) (yBy_nar hf2) ?_
      refine y_nameI (fun I2 e2 => ?_)
      refine y_goto rfl j_J6_getChars_ba4f3_22 ?_
      refine y_fgt (ls := [some _, none, some _, none, none, some _, some _]) ⟨rfl, rfl, rfl, rfl, trivial⟩ ?_
      exact ih j _ _ _ (fun a ha => (upI e2 a ha).trans (hI1 a ha)) (hD1.up e2 hf2) hq3.1 hj hq3.2 (by rw [gm2 h52]; exact hb.2.2.1) (by rw [gm2 h52]; exact hb.2.2.2) (by omega)
theorem t_gch {b m k : Nat} {x0 x1 : Int32} (h94 : 94 ≤ n) (hD : yDg n tg I b m) (hk : 1 ≤ k) (hv : -(yP k) < (if x0.toInt < 0 then x0.toInt else -x0.toInt)) (hlo : (k : Int) + (if x0.toInt < 0 then 1 else 0) ≤ x1.toInt) (hhi : x1.toInt ≤ m)
    (hQ : ∀ v I1, (∀ a, a ≠ b → I1 a = I a) → yBy I1 b m → Q (.inl (some (.int v))) (n, tg, I1, R) c s) : yC 263 [.int x0, .int x1, .ref b] (n, tg, I, R) c s Q := by
  refine y_in (M := xm_J6_getChars_ba4f3) (ls := [some _, some _, some _, none, none, none, none]) rfl rfl rfl ?_
  refine y_iload_n rfl rfl ?_
  refine y_istore (ls' := [some _, some _, some _, none, none, some _, none]) rfl rfl rfl ?_
  refine y_iload_n rfl rfl ?_
  refine y_if_ge rfl j_J6_getChars_ba4f3_11 (fun h_1 => ?_) (fun h_2 => ?_)
  · have hng := yneg (x := x0) (by omega)
    rw [if_neg (by omega)] at hv hlo
    refine y_iconst rfl ?_
    refine y_istore (ls' := [some _, some _, some _, none, none, some _, some _]) rfl rfl rfl ?_
    refine y_iload rfl rfl ?_
    refine y_if_neF rfl (by decide) ?_
    refine y_iload_n rfl rfl ?_
    refine y_ineg rfl ?_
    refine y_istore_n (ls' := [some _, some _, some _, none, none, some _, some _]) rfl rfl rfl ?_
    refine y_fgt (ls := [some _, none, some _, none, none, some _, some _]) ⟨rfl, rfl, rfl, rfl, trivial⟩ ?_
    exact g_22 h94 (by decide) hQ (k + 1) k _ _ _ (fun _ _ => rfl) hD (by omega) hk (by omega) (by rw [yz_0]; omega) hhi (by omega)
  · rw [if_pos h_2] at hv hlo
    refine y_iconst rfl ?_
    refine y_goto rfl j_J6_getChars_ba4f3_12 ?_
    refine y_istore (ls' := [some _, some _, some _, none, none, some _, some _]) rfl rfl rfl ?_
    refine y_iload rfl rfl ?_
    refine y_if_neT rfl j_J6_getChars_ba4f3_22 (by decide) ?_
    refine y_fgt (ls := [some _, none, some _, none, none, some _, some _]) ⟨rfl, rfl, rfl, rfl, trivial⟩ ?_
    exact g_22 h94 (by decide) hQ (k + 1) k _ _ _ (fun _ _ => rfl) hD (by omega) hk (by omega) (by rw [yz_1]; omega) hhi (by omega)
end YTY
