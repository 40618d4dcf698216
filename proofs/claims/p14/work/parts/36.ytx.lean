/-! TEXT: bytes, copies, StringBuilder's room and append (by hand) -/
def yBy (I : Nat → Nat → Int32) (a m : Nat) : Prop := ∀ k : Nat, k < m → fits .byte (.int (I a k)) = true
theorem yBy_nar {x : Int32} (h : fits .byte (.int x) = true) : vp_nar .byte x = x := by
  unfold vp_nar; rw [narrow_of_fits h]
theorem ysr0 (x : Int32) : x >>> (Int32.ofInt 0 &&& 31) = x := by
  rw [show (Int32.ofInt 0 &&& 31) = 0 from by decide]; simp
theorem ysl0 (x : Int32) : x <<< (Int32.ofInt 0 &&& 31) = x := by
  rw [show (Int32.ofInt 0 &&& 31) = 0 from by decide]; simp
section YTX
variable {M : xM} {code rest : List xI} {ls : yLs} {r : List Value} {p len : Nat} {n0 n : Nat} {tg0 tg : Nat → yT} {I0 I : Nat → Nat → Int32} {R0 R : Nat → Nat → Value} {c s : Nat} {Q : yQ}
theorem y_copyB {i a b m0 m1 : Nat} {z dp sp : Int32} {an : List Nat} (hk : code = (p, len, .invokestatic i, 3 :: an) :: rest) (ta : tg a = (2, m0)) (tb : tg b = (2, m1)) (ha : a < n) (hb : b < n) (xb : xN0 ≤ b) (hab : a ≠ b) (h1 : 0 ≤ sp.toInt) (h2 : 0 ≤ dp.toInt) (h3 : 0 ≤ z.toInt) (h4 : sp.toInt + z.toInt ≤ (m0 : Int)) (h5 : dp.toInt + z.toInt ≤ (m1 : Int)) (hs : Nat.ble (r.map fun v => v.category).sum 8 = true) (hby : yBy I a m0)
    (kk : ∀ I1, (∀ b', b' ≠ b → I1 b' = I b') → (∀ j, I1 b j = I b j ∨ ∃ q, q < m0 ∧ I1 b j = I a q) → yW M rest ls r (n, tg, I1, R) c s Q) : yW M code ls (.int z :: .int dp :: .ref b :: .int sp :: .ref a :: r) (n, tg, I, R) c s Q := by
  subst hk
  refine y_heap (i := .invokestatic i) (an := 3 :: an) (fun l => rfl) (dc := 0) (ds := 0) ?_ (kk (fun b' j => if b' = b then va_cpy (I a) (I b) sp.toInt.toNat dp.toInt.toNat z.toInt.toNat j else I b' j) (fun b' hb' => funext fun j => if_neg hb') (fun j => ?_))
  · have nn : ∀ x : Int32, 0 ≤ x.toInt → ¬ x < 0 := fun x hx h => by
      have := Int32.lt_iff_toInt_lt.mp h
      simp at this; omega
    unfold xheap; dsimp only
    rw [if_pos ⟨rfl, show a < (yH (n, tg, I, R)).1 from ha, show b < (yH (n, tg, I, R)).1 from hb, xb, hab, nn sp h1, nn dp h2, nn z h3, Nat.le_of_ble_eq_true hs⟩, yH_arr ta (by decide), yH_arr tb (by decide)]
    refine (if_pos ⟨by show sp.toInt.toNat + z.toInt.toNat ≤ m0; omega, by show dp.toInt.toNat + z.toInt.toNat ≤ m1; omega, fun q hq => hby _ (by have hq : q < z.toInt.toNat := hq; show sp.toInt.toNat + q < m0; omega)⟩).trans ?_
    rw [yH_set (I' := fun b' j => if b' = b then va_cpy (I a) (I b) sp.toInt.toNat dp.toInt.toNat z.toInt.toNat j else I b' j) (R' := R) ?_ (fun b' hb' => funext fun j => if_neg hb') (fun _ _ => rfl)]
    rw [tb]; unfold yCell
    rw [if_pos (show (2 : Nat) < 3 by decide)]
    refine congrArg (fun f => Sum.inl (2, m1, Sum.inl f)) (funext fun j => ?_)
    exact (if_pos rfl).symm
  · rw [if_pos rfl]
    unfold va_cpy
    split
    · rename_i h
      exact .inr ⟨_, by omega, rfl⟩
    · exact .inl rfl
theorem y_cloneB {i a m : Nat} {an : List Nat} (hk : code = (p, len, .invokevirtual i, 6 :: an) :: rest) (ta : tg a = (2, m)) (ha : a < n) (xa : xN0 ≤ a) (hby : yBy I a m) (hs : Nat.ble (r.map fun v => v.category).sum 8 = true)
    (kk : ∀ n1 tg1 I1 R1, n1 = n + 1 → tg1 n = (2, m) → I1 n = I a → (∀ b, b < n → tg1 b = tg b ∧ I1 b = I b ∧ R1 b = R b) → yW M rest ls (.ref n :: r) (n1, tg1, I1, R1) (c + 1) (s + m) Q) : yW M code ls (.ref a :: r) (n, tg, I, R) c s Q := by
  subst hk
  refine y_heap (i := .invokevirtual i) (an := 6 :: an) (fun l => rfl) (dc := 1) (ds := m) ?_ (kk (n + 1) (fun b => if b = n then (2, m) else tg b) (fun b k => if b = n then I a k else I b k) (fun b k => if b = n then .null else R b k) rfl (if_pos rfl) (funext fun k => if_pos rfl) (fun b hb => ?_))
  · unfold xheap; dsimp only
    rw [if_neg (show ¬ ((6 :: an).headD 0 = 2 ∧ _) from fun h => absurd h.1 (by decide : ¬ (6 : Nat) = 2)), if_pos ⟨rfl, show a < (yH (n, tg, I, R)).1 from ha, xa, Nat.le_of_ble_eq_true hs⟩, yH_arr ta (by decide)]
    refine (if_pos (fun q hq => hby q hq)).trans ?_
    refine congrArg some (Prod.ext rfl (Prod.ext ?_ rfl))
    unfold xpush yH
    refine Prod.ext rfl (funext fun b => ?_)
    show (if b = n then (.inl (2, m, .inl (I a)) : va_E) else yCell (tg b) (I b) (R b)) = yCell (if b = n then (2, m) else tg b) (fun k => if b = n then I a k else I b k) (fun k => if b = n then .null else R b k)
    by_cases hb : b = n
    · simp only [hb, if_true]; rfl
    · simp only [hb, if_false]
  · have hb : ¬ b = n := by omega
    exact ⟨if_neg hb, funext fun k => if_neg hb, funext fun k => if_neg hb⟩
theorem t_copyOf {b m : Nat} {x : Int32} (tb : tg b = (2, m)) (hb : b < n) (hby : yBy I b m) (h94 : 94 ≤ n) (hx : (m : Int) < x.toInt) (hx2 : x.toInt ≤ 5000)
    (hQ : ∀ n1 tg1 I1 R1, n1 = n + 1 → tg1 n = (2, x.toInt.toNat) → yBy I1 n x.toInt.toNat → (∀ a, a < n → tg1 a = tg a ∧ I1 a = I a ∧ R1 a = R a) → Q (.inl (some (.ref n))) (n1, tg1, I1, R1) (c + 1) (s + x.toInt.toNat)) : yC 310 [.ref b, .int x] (n, tg, I, R) c s Q := by
  have hm : (Int32.ofNat m).toInt = m := ofNat32 (by omega)
  have hz0 := yz_0
  have hmin : (if x < Int32.ofNat m then x else Int32.ofNat m) = Int32.ofNat m := if_neg (fun h => by have := Int32.lt_iff_toInt_lt.mp h; omega)
  refine y_in (M := xm_J7_copyOf_9075b) (ls := [some _, some _, none]) rfl rfl rfl ?_
  refine y_iload_n rfl rfl ?_
  refine y_aload_n rfl rfl ?_
  refine y_alen rfl tb rfl hb ?_
  refine y_icmp_ne rfl j_J7_copyOf_9075b_14 (fun h_1 => ?_) (fun h_2 => ?_)
  · refine y_iload_n rfl rfl ?_
    refine y_newarrX rfl rfl (by omega) (by omega) (fun n1 tg1 I1 R1 hA => ?_)
    obtain ⟨e1, e2, e3, e4, e5⟩ := hA
    have tb1 : tg1 b = (2, m) := (e5 b hb).1.trans tb
    refine y_astore_n (ls' := [some _, some _, some _]) rfl rfl rfl ?_
    refine y_aload_n rfl rfl ?_
    refine y_iconst rfl ?_
    refine y_aload_n rfl rfl ?_
    refine y_iconst rfl ?_
    refine y_aload_n rfl rfl ?_
    refine y_alen rfl tb1 rfl (by omega) ?_
    refine y_iload_n rfl rfl ?_
    refine y_min rfl rfl ?_
    rw [hmin]
    refine y_copyB rfl tb1 e2 (by omega) (by omega) (Nat.le_trans (by decide) h94) (by omega) (by omega) (by omega) (by omega) (by omega) (by omega) rfl (fun k hk => by rw [(e5 b hb).2.1]; exact hby k hk) (fun I2 k1 k2 => ?_)
    refine y_aload_n rfl rfl ?_
    refine y_areturn rfl ?_
    refine hQ _ _ _ _ e1 e2 (fun k hk => ?_) (fun a ha => ⟨(e5 a ha).1, (k1 a (by omega)).trans (e5 a ha).2.1, (e5 a ha).2.2⟩)
    rcases k2 k with h | ⟨q, hq, h⟩
    · rw [h, e3]; decide
    · rw [h, (e5 b hb).2.1]; exact hby q hq
  · exfalso; omega
theorem t_newCap {sb buf m : Nat} {x : Int32} (tsb : tg sb = (5, 0)) (hsb : sb < n) (hRb : R sb 0 = .ref buf) (tbuf : tg buf = (2, m)) (hbuf : buf < n) (hcd : I sb 1 = Int32.ofInt 0) (hx : (m : Int) < x.toInt) (hx2 : x.toInt ≤ 2000)
    (hQ : ∀ v : Int32, v.toInt = (if x.toInt < 2 * (m : Int) + 2 then 2 * (m : Int) + 2 else x.toInt) → Q (.inl (some (.int v))) (n, tg, I, R) c s) : yC 254 [.ref sb, .int x] (n, tg, I, R) c s Q := by
  have hm : (Int32.ofNat m).toInt = m := ofNat32 (by omega)
  have h2 := yz_2
  have hd : (x - Int32.ofNat m).toInt = x.toInt - m := by rw [ysub (by omega) (by omega), hm]
  have hp : (Int32.ofNat m + Int32.ofInt 2).toInt = (m : Int) + 2 := by rw [yadd (by omega) (by omega), hm, h2]
  refine y_in (M := xm_J5_newCapacity_0f7a4) (ls := [some _, some _, none, none, none, none]) rfl rfl rfl ?_
  refine y_aload_n rfl rfl ?_
  refine y_getR rfl tsb hsb rfl rfl hRb ?_
  refine y_alen rfl tbuf rfl hbuf ?_
  refine y_istore_n (ls' := [some _, some _, some _, none, none, none]) rfl rfl rfl ?_
  refine y_iload_n rfl rfl ?_
  refine y_aload_n rfl rfl ?_
  refine y_getIv (v := Int32.ofInt 0) rfl tsb hsb rfl rfl hcd ?_
  refine y_ishl rfl ?_
  rw [ysl0]
  refine y_istore_n (ls' := [some _, some _, some _, some _, none, none]) rfl rfl rfl ?_
  refine y_iload_n rfl rfl ?_
  refine y_iload_n rfl rfl ?_
  refine y_isub rfl ?_
  refine y_istore (ls' := [some _, some _, some _, some _, some _, none]) rfl rfl rfl ?_
  refine y_iload_n rfl rfl ?_
  refine y_iload rfl rfl ?_
  refine y_iload_n rfl rfl ?_
  refine y_iconst rfl ?_
  refine y_aload_n rfl rfl ?_
  refine y_getIv (v := Int32.ofInt 0) rfl tsb hsb rfl rfl hcd ?_
  refine y_ishl rfl ?_
  rw [ysl0]
  refine y_iadd rfl ?_
  refine y_static rfl rfl rfl rfl rfl ?_
  refine l_newLength (by rw [hd, hp, hm]; split <;> omega) (by rw [hd, hp, hm]; split <;> omega) (fun v hv => ?_)
  rw [hd, hp, hm] at hv
  have hv2 : v.toInt = (if x.toInt < 2 * (m : Int) + 2 then 2 * (m : Int) + 2 else x.toInt) := by
    rw [hv]
    by_cases h : x.toInt < 2 * (m : Int) + 2
    · rw [if_pos h, if_pos (by omega)]; omega
    · rw [if_neg h, if_neg (by omega)]; omega
  have hv3 : v.toInt ≤ 100000 := by rw [hv2]; split <;> omega
  refine y_ret1 ?_
  refine y_istore (ls' := [some _, some _, some _, some _, some _, some _]) rfl rfl rfl ?_
  refine y_iload rfl rfl ?_
  refine y_ldcI (v := (2147483647 : Int)) rfl rfl rfl (by decide) ?_
  refine y_icmp_ne rfl j_J5_newCapacity_0f7a4_51 (fun h_1 => ?_) (fun h_2 => ?_)
  · refine y_iload rfl rfl ?_
    refine y_aload_n rfl rfl ?_
    refine y_getIv (v := Int32.ofInt 0) rfl tsb hsb rfl rfl hcd ?_
    refine y_ishr rfl ?_
    rw [ysr0]
    refine y_ireturn rfl rfl rfl ?_
    exact hQ v hv2
  · exfalso; rw [yz_2147483647] at h_2; omega
abbrev yStr (n : Nat) (tg : Nat → yT) (I : Nat → Nat → Int32) (R : Nat → Nat → Value) (a v m : Nat) : Prop := a < n ∧ tg a = (4, 0) ∧ R a 0 = .ref v ∧ v < n ∧ tg v = (2, m) ∧ I a 1 = Int32.ofInt 0 ∧ yBy I v m
abbrev ySB (n0 n : Nat) (tg : Nat → yT) (I : Nat → Nat → Int32) (R : Nat → Nat → Value) (sb buf m L : Nat) : Prop := (n0 ≤ sb ∧ sb < n ∧ tg sb = (5, 0)) ∧ (n0 ≤ buf ∧ buf < n ∧ tg buf = (2, m)) ∧ R sb 0 = .ref buf ∧ I sb 1 = Int32.ofInt 0 ∧ (0 ≤ (I sb 3).toInt ∧ (I sb 3).toInt ≤ m ∧ (I sb 3).toInt ≤ L) ∧ (m ≤ 2 * L + 50 ∧ L ≤ 1000) ∧ yBy I buf m
theorem yX.one {n1 : Nat} {tg1 : Nat → yT} {I1 : Nat → Nat → Int32} {R1 : Nat → Nat → Value} {t : yT} (e1 : n1 = n + 1) (e2 : tg1 n = t) (e5 : ∀ a, a < n → tg1 a = tg a ∧ I1 a = I a ∧ R1 a = R a) (ht : Nat.blt t.1 18 = true) : yX n tg I R n1 tg1 I1 R1 := ⟨by omega, e5, fun a h1 h2 => by
  rw [show a = n by omega, e2]; exact blt_lt ht⟩
theorem t_ens {sb buf m L L' : Nat} {x : Int32} (hX : yX n0 tg0 I0 R0 n tg I R) (h94 : 94 ≤ n0) (hB : ySB n0 n tg I R sb buf m L) (hx : 0 ≤ x.toInt) (hx2 : x.toInt ≤ L') (hL : L ≤ L') (hL2 : L' ≤ 1000)
    (hQ : ∀ n1 tg1 I1 R1 buf1 m1 c1 s1, yX n0 tg0 I0 R0 n1 tg1 I1 R1 → ySB n0 n1 tg1 I1 R1 sb buf1 m1 L' → I1 sb 3 = I sb 3 → x.toInt ≤ m1 → c1 ≤ c + 1 → s1 ≤ s + (2 * L' + 50) → Q (.inl none) (n1, tg1, I1, R1) c1 s1) : yC 253 [.ref sb, .int x] (n, tg, I, R) c s Q := by
  obtain ⟨⟨a1, a2, a3⟩, ⟨b1, b2, b3⟩, hRb, hcd, ⟨k0, k1, k2⟩, ⟨l1, l2⟩, hby⟩ := id hB
  have hm : (Int32.ofNat m).toInt = m := ofNat32 (by omega)
  have hn0 := hX.1
  have hd : (x - Int32.ofNat m).toInt = x.toInt - m := by rw [ysub (by omega) (by omega), hm]
  have hne : sb ≠ buf := fun e => by rw [e, b3] at a3; exact absurd (congrArg Prod.fst a3) (by show ¬ (2 : Nat) = 5; decide)
  refine y_in (M := xm_J5_ensureCapacityInternal_d00df) (ls := [some _, some _, none]) rfl rfl rfl ?_
  refine y_aload_n rfl rfl ?_
  refine y_getR rfl a3 a2 rfl rfl hRb ?_
  refine y_alen rfl b3 rfl b2 ?_
  refine y_aload_n rfl rfl ?_
  refine y_getIv (v := Int32.ofInt 0) rfl a3 a2 rfl rfl hcd ?_
  refine y_ishr rfl ?_
  rw [ysr0]
  refine y_istore_n (ls' := [some _, some _, some _]) rfl rfl rfl ?_
  refine y_iload_n rfl rfl ?_
  refine y_iload_n rfl rfl ?_
  refine y_isub rfl ?_
  refine y_if_le rfl j_J5_ensureCapacityInternal_d00df_38 (fun h_1 => ?_) (fun h_2 => ?_)
  · refine y_return rfl ?_
    exact hQ _ _ _ _ _ _ _ _ hX ⟨⟨a1, a2, a3⟩, ⟨b1, b2, b3⟩, hRb, hcd, ⟨k0, k1, by omega⟩, ⟨by omega, hL2⟩, hby⟩ rfl (by omega) (by omega) (by omega)
  · refine y_aload_n rfl rfl ?_
    refine y_aload_n rfl rfl ?_
    refine y_getR rfl a3 a2 rfl rfl hRb ?_
    refine y_aload_n rfl rfl ?_
    refine y_iload_n rfl rfl ?_
    refine y_virt rfl rfl rfl rfl rfl a3 a2 ?_
    refine t_newCap a3 a2 hRb b3 b2 hcd (by omega) (by omega) (fun v hv => ?_)
    have hv1 : (m : Int) < v.toInt := by rw [hv]; split <;> omega
    have hv2 : v.toInt ≤ 2 * L' + 50 := by rw [hv]; split <;> omega
    have hv3 : x.toInt ≤ v.toInt := by rw [hv]; split <;> omega
    refine y_ret1 ?_
    refine y_aload_n rfl rfl ?_
    refine y_getIv (v := Int32.ofInt 0) rfl a3 a2 rfl rfl hcd ?_
    refine y_ishl rfl ?_
    rw [ysl0]
    refine y_static rfl rfl rfl rfl rfl ?_
    refine t_copyOf b3 b2 hby (by omega) hv1 (by omega) (fun n1 tg1 I1 R1 e1 e2 e3 e5 => ?_)
    refine y_ret1 ?_
    have t1 : tg1 sb = (5, 0) := (e5 sb a2).1.trans a3
    refine y_putR rfl t1 (by omega) rfl (Nat.le_trans (by decide) (by omega : 94 ≤ sb)) rfl rfl ?_
    refine y_nameR (fun R2 eR => ?_)
    refine y_return rfl ?_
    refine hQ n1 tg1 I1 R2 n v.toInt.toNat _ _ ((hX.trans (yX.one e1 e2 e5 rfl)).upR a1 (upR eR)) ⟨⟨a1, by omega, t1⟩, ⟨by omega, by omega, e2⟩, by rw [eR, upd2_self], by rw [(e5 sb a2).2.1]; exact hcd, ?_, ⟨by omega, hL2⟩, e3⟩ (by rw [(e5 sb a2).2.1]) (by omega) (by omega) (by omega)
    rw [(e5 sb a2).2.1]
    exact ⟨k0, by omega, by omega⟩
theorem t_coder {a v k : Nat} (hs : yStr n tg I R a v k) (hQ : Q (.inl (some (.int (Int32.ofInt 0)))) (n, tg, I, R) c s) : yC 270 [.ref a] (n, tg, I, R) c s Q := by
  obtain ⟨d1, d2, d3, d4, d5, d6, d7⟩ := hs
  refine y_in (M := xm_J0_coder_7d493) (ls := [some _]) rfl rfl rfl ?_
  refine y_gets0 rfl ?_
  refine y_if_eqF rfl (by decide) ?_
  refine y_aload_n rfl rfl ?_
  refine y_getIv (v := Int32.ofInt 0) rfl d2 d1 rfl rfl d6 ?_
  refine y_goto rfl j_J0_coder_7d493_14 ?_
  refine y_ireturn rfl rfl rfl ?_
  exact hQ
theorem t_put {sb buf m L str v k : Nat} {x : Int32} (h94 : 94 ≤ n0) (hB : ySB n0 n tg I R sb buf m L) (hs : yStr n tg I R str v k) (hv0 : v < n0) (hk : k ≤ 1000) (hx : 0 ≤ x.toInt) (hx2 : x.toInt + k ≤ m)
    (hQ : ∀ I1, (∀ a, a ≠ buf → I1 a = I a) → yBy I1 buf m → Q (.inl none) (n, tg, I1, R) c s) : yC 262 [.ref sb, .int x, .ref str] (n, tg, I, R) c s Q := by
  obtain ⟨⟨a1, a2, a3⟩, ⟨b1, b2, b3⟩, hRb, hcd, ⟨k0, k1, k2⟩, ⟨l1, l2⟩, hby⟩ := id hB
  obtain ⟨d1, d2, d3, d4, d5, d6, d7⟩ := id hs
  have hm : (Int32.ofNat k).toInt = k := ofNat32 (by omega)
  have hz0 := yz_0
  refine y_in (M := xm_J5_putStringAt_47b60) (ls := [some _, some _, some _]) rfl rfl rfl ?_
  refine y_aload_n rfl rfl ?_
  refine y_aload_n rfl rfl ?_
  refine y_virt rfl rfl rfl rfl rfl a3 a2 ?_
  refine y_in (M := xm_J5_inflateIfNeededFor_a7421) (ls := [some _, some _]) rfl rfl rfl ?_
  refine y_gets0 rfl ?_
  refine y_if_eqF rfl (by decide) ?_
  refine y_aload_n rfl rfl ?_
  refine y_getIv (v := Int32.ofInt 0) rfl a3 a2 rfl rfl hcd ?_
  refine y_aload_n rfl rfl ?_
  refine y_virt rfl rfl rfl rfl rfl d2 d1 ?_
  refine t_coder hs ?_
  refine y_ret1 ?_
  refine y_icmp_eqT rfl j_J5_inflateIfNeededFor_a7421_21 (by decide) ?_
  refine y_return rfl ?_
  refine y_ret0 ?_
  refine y_aload_n rfl rfl ?_
  refine y_aload_n rfl rfl ?_
  refine y_getR rfl a3 a2 rfl rfl hRb ?_
  refine y_iload_n rfl rfl ?_
  refine y_aload_n rfl rfl ?_
  refine y_getIv (v := Int32.ofInt 0) rfl a3 a2 rfl rfl hcd ?_
  refine y_virt rfl rfl rfl rfl rfl d2 d1 ?_
  refine y_in (M := xm_J0_getBytes_840e7) (ls := [some _, some _, some _, some _]) rfl rfl rfl ?_
  refine y_aload_n rfl rfl ?_
  refine y_virt rfl rfl rfl rfl rfl d2 d1 ?_
  refine t_coder hs ?_
  refine y_ret1 ?_
  refine y_iload_n rfl rfl ?_
  refine y_icmp_neF rfl (by decide) ?_
  refine y_aload_n rfl rfl ?_
  refine y_getR rfl d2 d1 rfl rfl d3 ?_
  refine y_iconst rfl ?_
  refine y_aload_n rfl rfl ?_
  refine y_iload_n rfl rfl ?_
  refine y_iload_n rfl rfl ?_
  refine y_ishl rfl ?_
  rw [ysl0]
  refine y_aload_n rfl rfl ?_
  refine y_getR rfl d2 d1 rfl rfl d3 ?_
  refine y_alen rfl d5 rfl d4 ?_
  refine y_copyB rfl d5 b3 d4 b2 (Nat.le_trans (by decide) (by omega : 94 ≤ buf)) (by omega) (by omega) (by omega) (by omega) (by omega) (by omega) rfl d7 (fun I1 g1 g2 => ?_)
  refine y_goto rfl j_J0_getBytes_840e7_43 ?_
  refine y_return rfl ?_
  refine y_ret0 ?_
  refine y_return rfl ?_
  refine hQ I1 g1 (fun q hq => ?_)
  rcases g2 q with h | ⟨j, hj, h⟩
  · rw [h]; exact hby q hq
  · rw [h]; exact d7 j hj
theorem t_app {sb buf m L str v k : Nat} (hX : yX n0 tg0 I0 R0 n tg I R) (h94 : 94 ≤ n0) (hB : ySB n0 n tg I R sb buf m L) (hs0 : yStr n0 tg0 I0 R0 str v k) (hL : L + k ≤ 1000)
    (hQ : ∀ n1 tg1 I1 R1 buf1 m1 c1 s1, yX n0 tg0 I0 R0 n1 tg1 I1 R1 → ySB n0 n1 tg1 I1 R1 sb buf1 m1 (L + k) → c1 ≤ c + 1 → s1 ≤ s + (2 * (L + k) + 50) → Q (.inl (some (.ref sb))) (n1, tg1, I1, R1) c1 s1) : yC 274 [.ref sb, .ref str] (n, tg, I, R) c s Q := by
  obtain ⟨⟨a1, a2, a3⟩, ⟨b1, b2, b3⟩, hRb, hcd, ⟨k0, k1, k2⟩, ⟨l1, l2⟩, hby⟩ := id hB
  have hst : ∀ {n' : Nat} {tg' : Nat → yT} {I' : Nat → Nat → Int32} {R' : Nat → Nat → Value}, yX n0 tg0 I0 R0 n' tg' I' R' → yStr n' tg' I' R' str v k := by
    intro n' tg' I' R' h
    obtain ⟨d1, d2, d3, d4, d5, d6, d7⟩ := hs0
    obtain ⟨g1, g2, g3⟩ := h.2.1 str d1
    obtain ⟨q1, q2, q3⟩ := h.2.1 v d4
    exact ⟨Nat.lt_of_lt_of_le d1 h.1, g1.trans d2, by rw [g3]; exact d3, Nat.lt_of_lt_of_le d4 h.1, q1.trans d5, by rw [g2]; exact d6, fun q hq => by rw [q2]; exact d7 q hq⟩
  have hs := hst hX
  obtain ⟨d1, d2, d3, d4, d5, d6, d7⟩ := id hs
  have hm : (Int32.ofNat k).toInt = k := ofNat32 (by omega)
  have hsum : (I sb 3 + Int32.ofNat k).toInt = (I sb 3).toInt + k := by rw [yadd (by omega) (by omega), hm]
  refine y_in (M := xm_J4_append_15ec4) (ls := [some _, some _]) rfl rfl rfl ?_
  refine y_aload_n rfl rfl ?_
  refine y_aload_n rfl rfl ?_
  refine y_super rfl rfl rfl rfl rfl a3 a2 ?_
  refine y_in (M := xm_J5_append_cf1ce) (ls := [some _, some _, none]) rfl rfl rfl ?_
  refine y_aload_n rfl rfl ?_
  refine y_nonR rfl j_J5_append_cf1ce_9 ?_
  refine y_aload_n rfl rfl ?_
  refine y_virt rfl rfl rfl rfl rfl d2 d1 ?_
  refine y_in (M := xm_J0_length_8abf5) (ls := [some _]) rfl rfl rfl ?_
  refine y_aload_n rfl rfl ?_
  refine y_getR rfl d2 d1 rfl rfl d3 ?_
  refine y_alen rfl d5 rfl d4 ?_
  refine y_aload_n rfl rfl ?_
  refine y_virt rfl rfl rfl rfl rfl d2 d1 ?_
  refine t_coder hs ?_
  refine y_ret1 ?_
  refine y_ishr rfl ?_
  rw [ysr0]
  refine y_ireturn rfl rfl rfl ?_
  refine y_ret1 ?_
  refine y_istore_n (ls' := [some _, some _, some _]) rfl rfl rfl ?_
  refine y_aload_n rfl rfl ?_
  refine y_aload_n rfl rfl ?_
  refine y_getI rfl a3 a2 rfl rfl ?_
  refine y_iload_n rfl rfl ?_
  refine y_iadd rfl ?_
  refine y_virt rfl rfl rfl rfl rfl a3 a2 ?_
  refine t_ens (L' := L + k) hX h94 hB (by omega) (by omega) (by omega) hL (fun n1 tg1 I1 R1 buf1 m1 c1 s1 hX1 hB1 e3 hm1 hc1 hs1 => ?_)
  obtain ⟨⟨a1', a2', a3'⟩, ⟨b1', b2', b3'⟩, hRb', hcd', ⟨k0', k1', k2'⟩, ⟨l1', l2'⟩, hby'⟩ := id hB1
  have hne : sb ≠ buf1 := fun e => by rw [e, b3'] at a3'; exact absurd (congrArg Prod.fst a3') (by show ¬ (2 : Nat) = 5; decide)
  refine y_ret0 ?_
  refine y_aload_n rfl rfl ?_
  refine y_aload_n rfl rfl ?_
  refine y_getIv (v := I sb 3) rfl a3' a2' rfl rfl e3 ?_
  refine y_aload_n rfl rfl ?_
  refine y_virt rfl rfl rfl rfl rfl a3' a2' ?_
  refine t_put h94 hB1 (hst hX1) hs0.2.2.2.1 (by omega) (by omega) (by omega) (fun I2 g1 g2 => ?_)
  refine y_ret0 ?_
  refine y_aload_n rfl rfl ?_
  refine y_dup rfl rfl ?_
  refine y_getIv (v := I sb 3) rfl a3' a2' rfl rfl (by rw [g1 sb hne]; exact e3) ?_
  refine y_iload_n rfl rfl ?_
  refine y_iadd rfl ?_
  refine y_putI rfl a3' a2' rfl (Nat.le_trans (by decide) (by omega : 94 ≤ sb)) rfl rfl ?_
  refine y_nameI (fun I3 e4 => ?_)
  refine y_aload_n rfl rfl ?_
  refine y_areturn rfl ?_
  refine y_ret1 ?_
  refine y_pop rfl rfl ?_
  refine y_aload_n rfl rfl ?_
  refine y_areturn rfl ?_
  have es : (I3 sb 3).toInt = (I sb 3).toInt + k := by rw [e4, upd2_self]; exact hsum
  refine hQ n1 tg1 I3 R1 buf1 m1 _ _ ((hX1.upI b1' g1).upI a1' (upI e4)) ⟨⟨a1', a2', a3'⟩, ⟨b1', b2', b3'⟩, hRb', ?_, ⟨by omega, by omega, by omega⟩, ⟨l1', l2'⟩, fun q hq => ?_⟩ hc1 hs1
  · rw [e4, upd2_ne (.inr (by decide)), g1 sb hne]; exact hcd'
  · rw [upI e4 buf1 (Ne.symm hne)]; exact g2 q hq
end YTX
