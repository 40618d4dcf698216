/-! A VENTURE'S LOSS: its loops (by hand) -/
theorem ydiv {x y : Int32} (hx : 0 ≤ x.toInt) : (x / y).toInt = x.toInt / y.toInt := by
  rw [Int32.toInt_div_of_ne_left x y (fun h => by rw [h] at hx; revert hx; decide), Int.tdiv_eq_ediv_of_nonneg hx]
theorem qdiv {b c a : Int} (h0 : 0 ≤ b) (h1 : b ≤ a) (h2 : 0 ≤ c) (h3 : 0 < a) : 0 ≤ b * c / a ∧ b * c / a ≤ c := by
  refine ⟨Int.ediv_nonneg (Int.mul_nonneg h0 h2) (Int.le_of_lt h3), ?_⟩
  refine Int.ediv_le_of_le_mul h3 ?_
  rw [Int.mul_comm c a]
  exact Int.mul_le_mul_of_nonneg_right h1 h2
theorem ySum_lt {f g : Nat → Int} : ∀ {k : Nat}, ySum f k < ySum g k → ∃ j, j < k ∧ f j < g j
  | 0, h => absurd h (Int.lt_irrefl 0)
  | k + 1, h => by
    have h : ySum f k + f k < ySum g k + g k := h
    by_cases hk : f k < g k
    · exact ⟨k, by omega, hk⟩
    · obtain ⟨j, hj, hl⟩ := ySum_lt (k := k) (f := f) (g := g) (by omega)
      exact ⟨j, by omega, hl⟩
theorem yrem9 {x : Int32} (h0 : 0 ≤ x.toInt) (h9 : x.toInt < 9) : (x + Int32.ofInt 1 - (x + Int32.ofInt 1) / Int32.ofInt 9 * Int32.ofInt 9).toInt = (x.toInt + 1) % 9 := by
  have h1 := yinc (x := x) (by omega)
  have h2 := ydiv (x := x + Int32.ofInt 1) (y := Int32.ofInt 9) (by omega)
  rw [h1, yz_9] at h2
  have h3 := ymul (x := (x + Int32.ofInt 1) / Int32.ofInt 9) (y := Int32.ofInt 9) (by rw [h2, yz_9]; omega) (by rw [h2, yz_9]; omega)
  rw [h2, yz_9] at h3
  rw [ysub (by rw [h1, h3]; omega) (by rw [h1, h3]; omega), h1, h3]
  omega
theorem cyc0 {k j : Nat} (hk : k < 9) (hj : j < 9) : (k + (j + 9 - k) % 9) % 9 = j := by omega
theorem cyc1 {x : Int} {d : Nat} (h0 : 0 ≤ x) (h9 : x < 9) (hd : d ≠ 0) : (((x + 1) % 9).toNat + (d - 1)) % 9 = (x.toNat + d) % 9 := by omega
theorem los0 {p q r t : Int} (h0 : 0 < p) (e : p + q = r) (h : r ≤ t) : q < t := by omega
theorem los1 {x : Int} {d e m : Nat} (he : e < 9) (h : 9 * x + (d : Int) < ((m + 1 : Nat) : Int)) : 9 * (x - 1) + (e : Int) < (m : Int) := by omega
section YLO
variable {n : Nat} {tg : Nat → yT} {I : Nat → Nat → Int32} {R : Nat → Nat → Value} {c s : Nat} {Q : yQ}
theorem lose1 {b cp a : Nat} {x1 x2 x5 : Int32} (ht_b : tg b = (21, 0)) (hb_b : b < n) (hRb : R b 1 = .ref cp) (ht_c : tg cp = (0, 9)) (hb_c : cp < n) (ht_a : tg a = (0, 9)) (ha_a : a < n) (h94 : 94 ≤ a) (hne : cp ≠ a) (hf : ∀ j, j < 9 → 0 ≤ (I cp j).toInt ∧ (I cp j).toInt ≤ 1000000) (hx5 : 0 ≤ x5.toInt ∧ x5.toInt ≤ 999) (hle : x5.toInt ≤ x2.toInt)
    (hQ : ∀ I1 (x3 : Int32), (∀ z, z ≠ a → I1 z = I z) → (∀ j, j < 9 → 0 ≤ (I1 a j).toInt ∧ (I1 a j).toInt ≤ (I cp j).toInt) → x3.toInt + ySum (fun j => (I1 a j).toInt) 9 = x5.toInt → yW xm_X13_lose xc_X13_lose_69 [some (.ref b), some (.int x1), some (.int x2), some (.int x3), some (.ref a), some (.int x5), none] [] (n, tg, I1, R) c s Q) :
    ∀ (m : Nat) (x3 x6 : Int32) (I1 : Nat → Nat → Int32), (∀ z, z ≠ a → I1 z = I z) → (∀ j, j < 9 → 0 ≤ (I1 a j).toInt ∧ (I1 a j).toInt ≤ (I cp j).toInt) → x3.toInt + ySum (fun j => (I1 a j).toInt) 9 = x5.toInt → (∀ j : Nat, x6.toInt ≤ (j : Int) → (I1 a j).toInt = 0) → 0 ≤ x6.toInt → x6.toInt ≤ 9 → 9 - x6.toInt < m → yW xm_X13_lose xc_X13_lose_27 [some (.ref b), some (.int x1), some (.int x2), some (.int x3), some (.ref a), some (.int x5), some (.int x6)] [] (n, tg, I1, R) c s Q := by
  intro m
  induction m with
  | zero => intro x3 x6 I1 e0 e1 e2 e3 i0 i1 hm; exfalso; omega
  | succ m ih =>
    intro x3 x6 I1 e0 e1 e2 e3 i0 i1 hm
    refine y_iload rfl rfl ?_
    refine y_bip rfl (by decide) ?_
    refine y_icmp_gt rfl j_X13_lose_69 (fun h_1 => ?_) (fun h_2 => ?_)
    · refine y_fgt (ls := [some _, some _, some _, some _, some _, some _, none]) ⟨rfl, rfl, rfl, rfl, rfl, rfl, trivial⟩ ?_
      exact hQ _ _ e0 e1 e2
    · rw [yz_8] at h_2
      refine y_iload_n rfl rfl ?_
      refine y_if_le rfl j_X13_lose_69 (fun h_3 => ?_) (fun h_4 => ?_)
      · refine y_fgt (ls := [some _, some _, some _, some _, some _, some _, none]) ⟨rfl, rfl, rfl, rfl, rfl, rfl, trivial⟩ ?_
        exact hQ _ _ e0 e1 e2
      · refine y_aload rfl rfl ?_
        refine y_iload rfl rfl ?_
        refine y_iload rfl rfl ?_
        refine y_aload_n rfl rfl ?_
        refine y_getR rfl ht_b hb_b rfl rfl hRb ?_
        refine y_iload rfl rfl ?_
        refine y_iaload rfl ht_c hb_c (by omega) (by omega) ?_
        refine y_imul rfl ?_
        refine y_iload_n rfl rfl ?_
        refine y_idiv rfl (fun h => by rw [h] at h_4; revert h_4; decide) ?_
        refine y_iastore rfl ht_a ha_a (Nat.le_trans (by decide) h94) (by omega) (by omega) ?_
        refine y_nameI (fun I2 e5 => ?_)
        refine y_iload_n rfl rfl ?_
        refine y_aload rfl rfl ?_
        refine y_iload rfl rfl ?_
        refine y_iaload rfl ht_a ha_a (by omega) (by omega) ?_
        refine y_isub rfl ?_
        refine y_istore_n (ls' := [some _, some _, some _, some _, some _, some _, some _]) rfl rfl rfl ?_
        refine y_iinc (ls' := [some _, some _, some _, some _, some _, some _, some _]) rfl rfl rfl rfl ?_
        refine y_goto rfl j_X13_lose_27 ?_
        have hk : x6.toInt.toNat < 9 := by omega
        obtain ⟨c0, c1⟩ := hf x6.toInt.toNat hk
        have hcp : I1 cp = I cp := e0 cp hne
        rw [hcp] at e5
        have hm0 : 0 ≤ x5.toInt * (I cp x6.toInt.toNat).toInt := Int.mul_nonneg hx5.1 c0
        have hm1 : x5.toInt * (I cp x6.toInt.toNat).toInt ≤ 999 * 1000000 := Int.mul_le_mul hx5.2 c1 c0 (by decide)
        have hml := ymul (x := x5) (y := I cp x6.toInt.toNat) (by omega) (by omega)
        have hd := ydiv (x := x5 * I cp x6.toInt.toNat) (y := x2) (by rw [hml]; exact hm0)
        rw [hml] at hd
        obtain ⟨d0, d1⟩ := qdiv hx5.1 hle c0 h_4
        have hv : (I2 a x6.toInt.toNat).toInt = x5.toInt * (I cp x6.toInt.toNat).toInt / x2.toInt := by rw [e5, upd2_self]; exact hd
        have hs := ySum_set (f := fun j => (I1 a j).toInt) (g := fun j => (I2 a j).toInt) (j0 := x6.toInt.toNat) (k := 9) hk (fun j hj => by rw [e5, upd2_ne (.inr hj)])
        have hs2 : ySum (fun j => (I2 a j).toInt) 9 = ySum (fun j => (I1 a j).toInt) 9 - (I1 a x6.toInt.toNat).toInt + (I2 a x6.toInt.toNat).toInt := hs
        have hz0 := e3 x6.toInt.toNat (by omega)
        have hbd := ySum_bd (f := fun j => (I1 a j).toInt) (B := 1000000) (k := 9) (fun j hj => ⟨(e1 j hj).1, Int.le_trans (e1 j hj).2 (hf j hj).2⟩)
        have hin := yinc (x := x6) (by omega)
        rw [← hv] at d0 d1
        refine ih _ _ I2 (fun z hz => by rw [e5, upd2_row hz]; exact e0 z hz) (fun j hj => ?_) ?_ (fun j hj => ?_) (by rw [hin]; omega) (by rw [hin]; omega) (by rw [hin]; omega)
        · by_cases hjk : j = x6.toInt.toNat
          · rw [hjk]; exact ⟨d0, d1⟩
          · rw [e5, upd2_ne (.inr hjk)]; exact e1 j hj
        · rw [ysub (by omega) (by omega), hs2]; omega
        · rw [hin] at hj; rw [e5, upd2_ne (.inr (by omega))]; exact e3 j (by omega)
theorem lose2 {b cp a : Nat} {x1 x2 x5 : Int32} (ht_b : tg b = (21, 0)) (hb_b : b < n) (hRb : R b 1 = .ref cp) (ht_c : tg cp = (0, 9)) (hb_c : cp < n) (ht_a : tg a = (0, 9)) (ha_a : a < n) (h94 : 94 ≤ a) (hne : cp ≠ a) (hf : ∀ j, j < 9 → 0 ≤ (I cp j).toInt ∧ (I cp j).toInt ≤ 1000000) (hx5 : 0 ≤ x5.toInt ∧ x5.toInt ≤ 999) (hsum : x5.toInt ≤ ySum (fun j => (I cp j).toInt) 9)
    (hQ : ∀ I1 (x3 : Int32), (∀ z, z ≠ a → I1 z = I z) → (∀ j, j < 9 → 0 ≤ (I1 a j).toInt ∧ (I1 a j).toInt ≤ (I cp j).toInt) → yW xm_X13_lose xc_X13_lose_120 [some (.ref b), some (.int x1), some (.int x2), some (.int x3), some (.ref a), some (.int x5), none] [] (n, tg, I1, R) c s Q) :
    ∀ (m : Nat) (x3 x6 : Int32) (I1 : Nat → Nat → Int32), (∀ z, z ≠ a → I1 z = I z) → (∀ j, j < 9 → 0 ≤ (I1 a j).toInt ∧ (I1 a j).toInt ≤ (I cp j).toInt) → x3.toInt + ySum (fun j => (I1 a j).toInt) 9 = x5.toInt → 0 ≤ x6.toInt → x6.toInt < 9 → (0 < x3.toInt → ∃ d : Nat, d < 9 ∧ (I1 a ((x6.toInt.toNat + d) % 9)).toInt < (I cp ((x6.toInt.toNat + d) % 9)).toInt ∧ 9 * x3.toInt + d < m) → yW xm_X13_lose xc_X13_lose_72 [some (.ref b), some (.int x1), some (.int x2), some (.int x3), some (.ref a), some (.int x5), some (.int x6)] [] (n, tg, I1, R) c s Q := by
  intro m
  induction m with
  | zero =>
    intro x3 x6 I1 e0 e1 e2 i0 i1 hm
    refine y_iload_n rfl rfl ?_
    refine y_if_le rfl j_X13_lose_120 (fun h_1 => ?_) (fun h_2 => ?_)
    · refine y_fgt (ls := [some _, some _, some _, some _, some _, some _, none]) ⟨rfl, rfl, rfl, rfl, rfl, rfl, trivial⟩ ?_
      exact hQ _ _ e0 e1
    · obtain ⟨d, -, -, hd⟩ := hm h_2
      exfalso; omega
  | succ m ih =>
    intro x3 x6 I1 e0 e1 e2 i0 i1 hm
    refine y_iload_n rfl rfl ?_
    refine y_if_le rfl j_X13_lose_120 (fun h_1 => ?_) (fun h_2 => ?_)
    · refine y_fgt (ls := [some _, some _, some _, some _, some _, some _, none]) ⟨rfl, rfl, rfl, rfl, rfl, rfl, trivial⟩ ?_
      exact hQ _ _ e0 e1
    · obtain ⟨d, hd9, hdl, hdm⟩ := hm h_2
      have hk : x6.toInt.toNat < 9 := by omega
      obtain ⟨c0, c1⟩ := hf x6.toInt.toNat hk
      obtain ⟨l0, l1⟩ := e1 x6.toInt.toNat hk
      have hcp : I1 cp = I cp := e0 cp hne
      have hdf := ysub (x := I1 cp x6.toInt.toNat) (y := I1 a x6.toInt.toNat) (by rw [hcp]; omega) (by rw [hcp]; omega)
      have hr9 := yrem9 i0 i1
      refine y_aload_n rfl rfl ?_
      refine y_getR rfl ht_b hb_b rfl rfl hRb ?_
      refine y_iload rfl rfl ?_
      refine y_iaload rfl ht_c hb_c (by omega) (by omega) ?_
      refine y_aload rfl rfl ?_
      refine y_iload rfl rfl ?_
      refine y_iaload rfl ht_a ha_a (by omega) (by omega) ?_
      refine y_isub rfl ?_
      refine y_iconst rfl ?_
      refine y_icmp_ge rfl j_X13_lose_96 (fun h_3 => ?_) (fun h_4 => ?_)
      · rw [yz_1, hdf, hcp] at h_3
        refine y_aload rfl rfl ?_
        refine y_iload rfl rfl ?_
        refine y_dup2 rfl rfl rfl ?_
        refine y_iaload rfl ht_a ha_a (by omega) (by omega) ?_
        refine y_iconst rfl ?_
        refine y_iadd rfl ?_
        refine y_iastore rfl ht_a ha_a (Nat.le_trans (by decide) h94) (by omega) (by omega) ?_
        refine y_nameI (fun I2 e5 => ?_)
        refine y_iinc (ls' := [some _, some _, some _, some _, some _, some _, some _]) rfl rfl rfl rfl ?_
        refine y_iload rfl rfl ?_
        refine y_iconst rfl ?_
        refine y_iadd rfl ?_
        refine y_bip rfl (by decide) ?_
        refine y_irem rfl (by decide) ?_
        refine y_istore (ls' := [some _, some _, some _, some _, some _, some _, some _]) rfl rfl rfl ?_
        refine y_goto rfl j_X13_lose_72 ?_
        have hv : (I2 a x6.toInt.toNat).toInt = (I1 a x6.toInt.toNat).toInt + 1 := by rw [e5, upd2_self]; exact yinc (by omega)
        have hs := ySum_set (f := fun j => (I1 a j).toInt) (g := fun j => (I2 a j).toInt) (j0 := x6.toInt.toNat) (k := 9) hk (fun j hj => by rw [e5, upd2_ne (.inr hj)])
        have hs2 : ySum (fun j => (I2 a j).toInt) 9 = ySum (fun j => (I1 a j).toInt) 9 - (I1 a x6.toInt.toNat).toInt + (I2 a x6.toInt.toNat).toInt := hs
        have hm1 : (Int32.ofInt (-1)).toInt = -1 := by decide
        have hx3 : (x3 + Int32.ofInt (-1)).toInt = x3.toInt - 1 := by
          have := x3.toInt_lt
          rw [yadd (by rw [hm1]; omega) (by rw [hm1]; omega), hm1]; omega
        have e1' : ∀ j, j < 9 → 0 ≤ (I2 a j).toInt ∧ (I2 a j).toInt ≤ (I cp j).toInt := fun j hj => by
          by_cases hjk : j = x6.toInt.toNat
          · rw [hjk]; omega
          · rw [e5, upd2_ne (.inr hjk)]; exact e1 j hj
        have e2' : (x3 + Int32.ofInt (-1)).toInt + ySum (fun j => (I2 a j).toInt) 9 = x5.toInt := by rw [hx3, hs2]; omega
        refine ih _ _ I2 (fun z hz => by rw [e5, upd2_row hz]; exact e0 z hz) e1' e2' (by rw [hr9]; omega) (by rw [hr9]; omega) (fun h0 => ?_)
        obtain ⟨j, hj, hjl⟩ := ySum_lt (f := fun j => (I2 a j).toInt) (g := fun j => (I cp j).toInt) (k := 9) (los0 h0 e2' hsum)
        rw [hr9]
        have hjj := cyc0 (k := ((x6.toInt + 1) % 9).toNat) (j := j) (by omega) hj
        exact ⟨(j + 9 - ((x6.toInt + 1) % 9).toNat) % 9, Nat.mod_lt _ (by decide), by rw [hjj]; exact hjl, by rw [hx3]; exact los1 (Nat.mod_lt _ (by decide)) hdm⟩
      · rw [yz_1, hdf, hcp] at h_4
        refine y_goto rfl j_X13_lose_108 ?_
        refine y_iload rfl rfl ?_
        refine y_iconst rfl ?_
        refine y_iadd rfl ?_
        refine y_bip rfl (by decide) ?_
        refine y_irem rfl (by decide) ?_
        refine y_istore (ls' := [some _, some _, some _, some _, some _, some _, some _]) rfl rfl rfl ?_
        refine y_goto rfl j_X13_lose_72 ?_
        refine ih _ _ I1 e0 e1 e2 (by rw [hr9]; omega) (by rw [hr9]; omega) (fun h0 => ?_)
        have hd0 : d ≠ 0 := fun h => by
          rw [h, show (x6.toInt.toNat + 0) % 9 = x6.toInt.toNat by omega] at hdl; omega
        rw [hr9]
        have hjj := cyc1 (x := x6.toInt) (d := d) i0 i1 hd0
        exact ⟨d - 1, by omega, by rw [hjj]; exact hdl, by omega⟩
theorem lose3 {K n0 : Nat} {tg0 : Nat → yT} {I0 : Nat → Nat → Int32} {R0 : Nat → Nat → Value} {b a : Nat} {x1 x2 x3 x5 : Int32} (hRo : yRI K n0 tg0 I0 R0) (hno : n0 ≤ n0) (hlo : 94 ≤ b) (hb : b < n) (ht : tg b = (21, 0)) (ht_a : tg a = (0, 9)) (ha_a : a < n) (hne : a ≠ b + 1 + 1)
    (hQ : ∀ I1, yRI K n tg I1 R → yKp n0 tg0 I0 R0 n tg I1 R → Q (.inl none) (n, tg, I1, R) c s) :
    ∀ (m : Nat) (x6 : Int32) (I1 : Nat → Nat → Int32), yRI K n tg I1 R → yKp n0 tg0 I0 R0 n tg I1 R → (∀ j : Nat, x6.toInt ≤ (j : Int) → j < 9 → 0 ≤ (I1 a j).toInt ∧ (I1 a j).toInt ≤ (I1 (b + 1 + 1) j).toInt) → 0 ≤ x6.toInt → x6.toInt ≤ 9 → 9 - x6.toInt < m → yW xm_X13_lose xc_X13_lose_123 [some (.ref b), some (.int x1), some (.int x2), some (.int x3), some (.ref a), some (.int x5), some (.int x6)] [] (n, tg, I1, R) c s Q := by
  intro m
  induction m with
  | zero => intro x6 I1 hR0 hK e1 i0 i1 hm; exfalso; omega
  | succ m ih =>
    intro x6 I1 hR0 hK e1 i0 i1 hm
    obtain ⟨hR_v, hb_v, ht_v⟩ := hR0.ven hlo hb ht (j := 1) (by decide)
    refine y_iload rfl rfl ?_
    refine y_bip rfl (by decide) ?_
    refine y_icmp_gt rfl j_X13_lose_151 (fun h_1 => ?_) (fun h_2 => ?_)
    · refine y_return rfl ?_
      exact hQ _ hR0 hK
    · rw [yz_8] at h_2
      refine y_aload_n rfl rfl ?_
      refine y_getR rfl ht hb rfl rfl hR_v ?_
      refine y_iload rfl rfl ?_
      refine y_dup2 rfl rfl rfl ?_
      refine y_iaload rfl ht_v hb_v (by omega) (by omega) ?_
      refine y_aload rfl rfl ?_
      refine y_iload rfl rfl ?_
      refine y_iaload rfl ht_a ha_a (by omega) (by omega) ?_
      refine y_isub rfl ?_
      refine y_iastore rfl ht_v hb_v (Nat.le_trans (by decide) (by omega : 94 ≤ _)) (by omega) (by omega) ?_
      refine y_nameI (fun I2 e5 => ?_)
      refine y_iinc (ls' := [some _, some _, some _, some _, some _, some _, some _]) rfl rfl rfl rfl ?_
      refine y_goto rfl j_X13_lose_123 ?_
      have hk : x6.toInt.toNat < 9 := by omega
      have hl := e1 x6.toInt.toNat (by omega) hk
      have hB1 := hR0.capB1 hlo hb ht hk hl e5
      have hK2 := hK.upE hRo hno (upI e5) (by omega) (by omega) (by rw [ht_v]; decide) (by rw [e5, upd2_ne (.inl (by omega))]; exact Int.le_refl _)
      have hin := yinc (x := x6) (by omega)
      refine ih _ I2 hB1.1 hK2 (fun j hj hj9 => ?_) (by rw [hin]; omega) (by rw [hin]; omega) (by rw [hin]; omega)
      rw [hin] at hj
      have h1 := e1 j (by omega) hj9
      rw [e5, upd2_row hne, upd2_ne (.inr (by omega))]
      exact h1
theorem losW {v x : Int32} (h0 : 0 ≤ x.toInt) (h1 : x.toInt ≤ 999) (hv : 0 ≤ v.toInt) : ∃ w : Int32, w = (if v < x then v else x) ∧ 0 ≤ w.toInt ∧ w.toInt ≤ 999 ∧ w.toInt ≤ v.toInt := by
  by_cases h : v < x
  · have h2 := Int32.lt_iff_toInt_lt.1 h
    exact ⟨v, (if_pos h).symm, hv, by omega, by omega⟩
  · have h2 : ¬ v.toInt < x.toInt := fun h3 => h (Int32.lt_iff_toInt_lt.2 h3)
    exact ⟨x, (if_neg h).symm, h0, h1, by omega⟩
theorem h_lose {K : Nat} {b : Nat} {x1 : Int32} (hS0 : ySh n tg R) (hR0 : yRI K n tg I R) (hlo : 94 ≤ b) (hb : b < n) (ht : tg b = (21, 0)) (h0 : 0 ≤ x1.toInt) (h1 : x1.toInt ≤ 999)
    (hQ : ∀ n1 tg1 I1 R1, ySh n1 tg1 R1 → yRI K n1 tg1 I1 R1 → yKp n tg I R n1 tg1 I1 R1 → Q (.inl none) (n1, tg1, I1, R1) (c + 1) (s + 9)) : yC 182 [.ref b, .int x1] (n, tg, I, R) c s Q := by
  refine y_in (M := xm_X13_lose) (ls := [some _, some _, _, _, _, _, _]) rfl rfl rfl ?_
  obtain ⟨hR_v, hb_v, ht_v⟩ := hR0.ven hlo hb ht (j := 1) (by decide)
  obtain ⟨q1, q2⟩ := hR0.cap hlo hb ht
  have hK := hR0.1.2.2.2.2.2.2.2.2
  have h94 : 94 ≤ n := hS0.1
  have hf : ∀ j, j < 9 → 0 ≤ (I (b + 1 + 1) j).toInt ∧ (I (b + 1 + 1) j).toInt ≤ 1000000 := fun j hj => by
    have hle := ySum_le q1 j hj
    have hle : (I (b + 1 + 1) j).toInt ≤ ySum (fun j => (I (b + 2) j).toInt) 9 := hle
    exact ⟨q1 j hj, by omega⟩
  refine y_aload_n rfl rfl ?_
  refine y_aload_n rfl rfl ?_
  refine y_getR rfl ht hb rfl rfl hR_v ?_
  refine y_virt rfl rfl rfl rfl rfl ht hb ?_
  refine r_allE ht_v hb_v hf (fun v hv => ?_)
  refine y_ret1 ?_
  have hv0 := (ySum_bd (f := fun j => (I (b + 1 + 1) j).toInt) (k := 9) hf).1
  rw [← hv] at hv0
  obtain ⟨w, hw, hw0, hw1, hw2⟩ := losW h0 h1 hv0
  refine y_istore_n (ls' := [some _, some _, some _, _, _, _, _]) rfl rfl rfl ?_
  refine y_iload_n rfl rfl ?_
  refine y_iload_n rfl rfl ?_
  refine y_min rfl rfl ?_
  rw [← hw]
  refine y_istore_n (ls' := [some _, some _, some _, some _, _, _, _]) rfl rfl rfl ?_
  refine y_bip rfl (by decide) ?_
  refine y_newarrL (m := 9) rfl rfl (by decide) (by decide) rfl (fun n1 tg1 I1 R1 hA => ?_)
  refine y_astore (ls' := [some _, some _, some _, some _, some _, _, _]) rfl rfl rfl ?_
  refine y_iload_n rfl rfl ?_
  refine y_istore (ls' := [some _, some _, some _, some _, some _, some _, _]) rfl rfl rfl ?_
  refine y_iconst rfl ?_
  refine y_istore (ls' := [some _, some _, some _, some _, some _, some _, some _]) rfl rfl rfl ?_
  have hnA := hA.1
  have hX : yX n tg I R n1 tg1 I1 R1 := hA.x rfl
  have hS1 := hS0.x hX
  have ht_a : tg1 n = (0, 9) := hA.2.1
  have hb1 : b < n1 := by omega
  have ht1 := (hX.2.1 b hb).1.trans ht
  have hRb1 := (congrFun (hX.2.1 b hb).2.2 1).trans hR_v
  have ht_v1 := (hX.2.1 _ hb_v).1.trans ht_v
  have hI1 : I1 (b + 1 + 1) = I (b + 1 + 1) := (hX.2.1 _ hb_v).2.1
  have hz := hA.2.2.1
  have hf1 : ∀ j, j < 9 → 0 ≤ (I1 (b + 1 + 1) j).toInt ∧ (I1 (b + 1 + 1) j).toInt ≤ 1000000 := fun j hj => by rw [hI1]; exact hf j hj
  have hv1 : w.toInt ≤ ySum (fun j => (I1 (b + 1 + 1) j).toInt) 9 := by rw [hI1, ← hv]; exact hw2
  have hz0 : ySum (fun j => (I1 n j).toInt) 9 = 0 := by
    rw [ySum_eq (f := fun j => (I1 n j).toInt) (g := fun _ => 0) (fun j _ => by rw [hz j]; decide)]; decide
  refine lose1 ht1 hb1 hRb1 ht_v1 (by omega) ht_a (by omega) h94 (by omega) hf1 ⟨hw0, hw1⟩ hw2 (fun I2 x3 e0 e1 e2 => ?_) 10 _ _ I1 (fun _ _ => rfl) (fun j hj => ⟨by rw [hz j]; decide, by rw [hz j]; exact (hf1 j hj).1⟩) (by rw [hz0]; omega) (fun j _ => by rw [hz j]; decide) (by decide) (by decide) (by decide)
  refine y_iconst rfl ?_
  refine y_istore (ls' := [some _, some _, some _, some _, some _, some _, some _]) rfl rfl rfl ?_
  refine lose2 ht1 hb1 hRb1 ht_v1 (by omega) ht_a (by omega) h94 (by omega) hf1 ⟨hw0, hw1⟩ hv1 (fun I3 x4 g0 g1 => ?_) 10000 _ _ I2 e0 e1 e2 (by decide) (by decide) (fun hp => ?_)
  · refine y_iconst rfl ?_
    refine y_istore (ls' := [some _, some _, some _, some _, some _, some _, some _]) rfl rfl rfl ?_
    have hX3 : yX n tg I R n1 tg1 I3 R1 := hX.upI (b := n) (Nat.le_refl n) g0
    exact lose3 hR0 (Nat.le_refl n) hlo hb1 ht1 ht_a (by omega) (by omega) (fun I4 r k => hQ _ _ _ _ hS1 r k) 10 _ I3 (hR0.grow hX3) (yKp.rf.x hR0 (Nat.le_refl n) hX3) (fun j _ hj => by rw [g0 (b + 1 + 1) (by omega)]; exact g1 j hj) (by decide) (by decide) (by decide)
  · obtain ⟨j, hj, hl⟩ := ySum_lt (f := fun j => (I2 n j).toInt) (g := fun j => (I1 (b + 1 + 1) j).toInt) (k := 9) (los0 hp e2 hv1)
    have hbd := (ySum_bd (f := fun j => (I2 n j).toInt) (B := 1000000) (k := 9) (fun j hj => ⟨(e1 j hj).1, Int.le_trans (e1 j hj).2 (hf1 j hj).2⟩)).1
    have hj0 : ((Int32.ofInt 0).toInt.toNat + j) % 9 = j := by rw [yz_0]; omega
    exact ⟨j, hj, by rw [hj0]; exact hl, by omega⟩
end YLO
