/-! LISTS AND ITERATORS (by gen20.py) -/
/-- only new cells, none of them a thing, a sale, a lease, a venture -/
def yX (n : Nat) (tg : Nat → yT) (I : Nat → Nat → Int32) (R : Nat → Nat → Value) (n' : Nat) (tg' : Nat → yT) (I' : Nat → Nat → Int32) (R' : Nat → Nat → Value) : Prop := n ≤ n' ∧ (∀ a, a < n → tg' a = tg a ∧ I' a = I a ∧ R' a = R a) ∧ ∀ a, n ≤ a → a < n' → (tg' a).1 < 18
theorem yX.rf {n : Nat} {tg : Nat → yT} {I : Nat → Nat → Int32} {R : Nat → Nat → Value} : yX n tg I R n tg I R := ⟨Nat.le_refl n, fun _ _ => ⟨rfl, rfl, rfl⟩, fun a h1 h2 => by omega⟩
theorem yX.trans {n n1 n2 : Nat} {tg tg1 tg2 : Nat → yT} {I I1 I2 : Nat → Nat → Int32} {R R1 R2 : Nat → Nat → Value} (h : yX n tg I R n1 tg1 I1 R1) (h' : yX n1 tg1 I1 R1 n2 tg2 I2 R2) : yX n tg I R n2 tg2 I2 R2 := ⟨Nat.le_trans h.1 h'.1, fun a ha => by
  obtain ⟨a1, a2, a3⟩ := h.2.1 a ha
  obtain ⟨b1, b2, b3⟩ := h'.2.1 a (Nat.lt_of_lt_of_le ha h.1)
  exact ⟨b1.trans a1, b2.trans a2, b3.trans a3⟩, fun a h1 h2 => by
  by_cases ha : a < n1
  · rw [(h'.2.1 a ha).1]; exact h.2.2 a h1 ha
  · exact h'.2.2 a (by omega) h2⟩
theorem yX.upI {n n1 : Nat} {tg tg1 : Nat → yT} {I I1 I2 : Nat → Nat → Int32} {R R1 : Nat → Nat → Value} {b : Nat} (h : yX n tg I R n1 tg1 I1 R1) (hb : n ≤ b) (hI : ∀ a, a ≠ b → I2 a = I1 a) : yX n tg I R n1 tg1 I2 R1 := ⟨h.1, fun a ha => by
  obtain ⟨a1, a2, a3⟩ := h.2.1 a ha
  exact ⟨a1, (hI a (by omega)).trans a2, a3⟩, h.2.2⟩
theorem yX.upR {n n1 : Nat} {tg tg1 : Nat → yT} {I I1 : Nat → Nat → Int32} {R R1 R2 : Nat → Nat → Value} {b : Nat} (h : yX n tg I R n1 tg1 I1 R1) (hb : n ≤ b) (hR : ∀ a, a ≠ b → R2 a = R1 a) : yX n tg I R n1 tg1 I1 R2 := ⟨h.1, fun a ha => by
  obtain ⟨a1, a2, a3⟩ := h.2.1 a ha
  exact ⟨a1, a2, (hR a (by omega)).trans a3⟩, h.2.2⟩
/-- one new cell, at n -/
def yAl (n : Nat) (tg : Nat → yT) (I : Nat → Nat → Int32) (R : Nat → Nat → Value) (n' : Nat) (tg' : Nat → yT) (I' : Nat → Nat → Int32) (R' : Nat → Nat → Value) (t : yT) : Prop := n' = n + 1 ∧ tg' n = t ∧ (∀ k, I' n k = 0) ∧ (∀ k, R' n k = yD t k) ∧ ∀ a, a < n → tg' a = tg a ∧ I' a = I a ∧ R' a = R a
theorem yAl.x {n n' : Nat} {tg tg' : Nat → yT} {I I' : Nat → Nat → Int32} {R R' : Nat → Nat → Value} {t : yT} (h : yAl n tg I R n' tg' I' R' t) (ht : Nat.blt t.1 18 = true) : yX n tg I R n' tg' I' R' := ⟨by have := h.1; omega, h.2.2.2.2, fun a h1 h2 => by
  have h3 := h.1
  rw [show a = n by omega, h.2.1]; exact blt_lt ht⟩
theorem yAl_new {n : Nat} {tg : Nat → yT} {I : Nat → Nat → Int32} {R : Nat → Nat → Value} {t : yT} : yAl n tg I R (yNew (n, tg, I, R) t).1 (yNew (n, tg, I, R) t).2.1 (yNew (n, tg, I, R) t).2.2.1 (yNew (n, tg, I, R) t).2.2.2 t := by
  refine ⟨rfl, if_pos rfl, fun k => if_pos rfl, fun k => if_pos rfl, fun a ha => ?_⟩
  have h : ¬ a = n := by omega
  exact ⟨if_neg h, funext fun k => if_neg h, funext fun k => if_neg h⟩
theorem ySh.x {n n' : Nat} {tg tg' : Nat → yT} {I I' : Nat → Nat → Int32} {R R' : Nat → Nat → Value} (h : ySh n tg R) (hx : yX n tg I R n' tg' I' R') : ySh n' tg' R' := by
  have e : ∀ a t, yt0 a = some t → a < yB0 := by
    intro a t ha
    by_cases hl : a < yB0
    · exact hl
    · exfalso
      have : yt0L.getD a none = some t := ha
      rw [List.getD_eq_getElem?_getD, List.getElem?_eq_none (by show 94 ≤ a; unfold yB0 at hl; omega)] at this
      cases this
  have e2 : ∀ a k b, yr0 a k = some b → a < yB0 := by
    intro a k b ha
    by_cases hl : a < yB0
    · exact hl
    · exfalso
      have : (yr0L.getD a []).getD k none = some b := ha
      rw [show yr0L.getD a [] = [] by rw [List.getD_eq_getElem?_getD, List.getElem?_eq_none (by show 94 ≤ a; unfold yB0 at hl; omega)]; rfl] at this
      cases k <;> cases this
  refine ⟨Nat.le_trans h.1 hx.1, fun a t ha => ?_, fun a k b ha => ?_⟩
  · rw [(hx.2.1 a (Nat.lt_of_lt_of_le (e a t ha) h.1)).1]; exact h.2.1 a t ha
  · rw [(hx.2.1 a (Nat.lt_of_lt_of_le (e2 a k b ha) h.1)).2.2]; exact h.2.2 a k b ha
section YLST
variable {M : xM} {code code' rest : List xI} {ls ls' : yLs} {st st' r : List Value} {w w' : yS} {c s : Nat} {Q Q' : yQ} {p len : Nat} {an : List Nat} {n a : Nat} {tg : Nat → yT} {I : Nat → Nat → Int32} {R : Nat → Nat → Value}
theorem y_newX {i ci m : Nat} {an : List Nat} (hk : code = (p, len, .new i, ci :: m :: an) :: rest) (h2 : Nat.blt ci 100 = true) (hm : yN ci = m) (kk : ∀ n1 tg1 I1 R1, yAl n tg I R n1 tg1 I1 R1 (ci + 4, 0) → yW M rest ls (.ref n :: st) (n1, tg1, I1, R1) (c + 1) (s + m) Q) : yW M code ls st (n, tg, I, R) c s Q := y_new hk h2 hm (kk _ _ _ _ yAl_new)
theorem y_newarrX {t : Jvm.ClassFile.ArrayType} {z : Int32} {tc : Nat} {an : List Nat} (hk : code = (p, len, .newarray t, tc :: an) :: rest) (hd : Nat.blt tc 3 = true) (h0 : 0 ≤ z.toInt) (h1 : z.toInt ≤ 100000) (kk : ∀ n1 tg1 I1 R1, yAl n tg I R n1 tg1 I1 R1 (tc, z.toInt.toNat) → yW M rest ls (.ref n :: r) (n1, tg1, I1, R1) (c + 1) (s + z.toInt.toNat) Q) : yW M code ls (.int z :: r) (n, tg, I, R) c s Q := y_newarray hk hd h0 h1 (kk _ _ _ _ yAl_new)
theorem y_anewX {i : Nat} {z : Int32} (hk : code = (p, len, .anewarray i, an) :: rest) (h0 : 0 ≤ z.toInt) (h1 : z.toInt ≤ 100000) (kk : ∀ n1 tg1 I1 R1, yAl n tg I R n1 tg1 I1 R1 (3, z.toInt.toNat) → yW M rest ls (.ref n :: r) (n1, tg1, I1, R1) (c + 1) (s + z.toInt.toNat) Q) : yW M code ls (.int z :: r) (n, tg, I, R) c s Q := y_anewarray hk h0 h1 (kk _ _ _ _ yAl_new)
/-- a write, its numbers named -/
theorem y_nameI {I0 : Nat → Nat → Int32} (kk : ∀ I1, I1 = I0 → yW M code ls st (n, tg, I1, R) c s Q) : yW M code ls st (n, tg, I0, R) c s Q := kk _ rfl
theorem y_nameR {R0 : Nat → Nat → Value} (kk : ∀ R1, R1 = R0 → yW M code ls st (n, tg, I, R1) c s Q) : yW M code ls st (n, tg, I, R0) c s Q := kk _ rfl
theorem upI {I1 I0 : Nat → Nat → Int32} {b k : Nat} {x : Int32} (h : I1 = upd2 I0 b k x) : ∀ a, a ≠ b → I1 a = I0 a := fun a ha => by rw [h]; exact upd2_row ha
theorem upR {I1 I0 : Nat → Nat → Value} {b k : Nat} {x : Value} (h : I1 = upd2 I0 b k x) : ∀ a, a ≠ b → I1 a = I0 a := fun a ha => by rw [h]; exact upd2_row ha
theorem y_copyR {i b m0 m1 : Nat} {z dp sp : Int32} {an : List Nat} (hk : code = (p, len, .invokestatic i, 3 :: an) :: rest) (ta : tg a = (3, m0)) (tb : tg b = (3, m1)) (ha : a < n) (hb : b < n) (xa : xN0 ≤ a) (xb : xN0 ≤ b) (hab : a ≠ b) (h1 : 0 ≤ sp.toInt) (h2 : 0 ≤ dp.toInt) (h3 : 0 ≤ z.toInt) (h4 : sp.toInt + z.toInt ≤ (m0 : Int)) (h5 : dp.toInt + z.toInt ≤ (m1 : Int)) (hs : Nat.ble (r.map fun v => v.category).sum 8 = true)
    (kk : yW M rest ls r (n, tg, I, fun b' j => if b' = b then va_cpy (R a) (R b) sp.toInt.toNat dp.toInt.toNat z.toInt.toNat j else R b' j) c s Q) : yW M code ls (.int z :: .int dp :: .ref b :: .int sp :: .ref a :: r) (n, tg, I, R) c s Q := by
  subst hk
  refine y_heap (i := .invokestatic i) (an := 3 :: an) (fun l => rfl) (dc := 0) (ds := 0) ?_ kk
  have nn : ∀ x : Int32, 0 ≤ x.toInt → ¬ x < 0 := fun x hx h => by
    have := Int32.lt_iff_toInt_lt.mp h
    simp at this; omega
  unfold xheap; dsimp only
  rw [if_pos ⟨rfl, show a < (yH (n, tg, I, R)).1 from ha, show b < (yH (n, tg, I, R)).1 from hb, xb, hab, nn sp h1, nn dp h2, nn z h3, Nat.le_of_ble_eq_true hs⟩, yH_ref ta, yH_ref tb]
  refine (if_pos ⟨by show sp.toInt.toNat + z.toInt.toNat ≤ m0; omega, by show dp.toInt.toNat + z.toInt.toNat ≤ m1; omega, xa⟩).trans ?_
  rw [yH_set (I' := I) (R' := fun b' j => if b' = b then va_cpy (R a) (R b) sp.toInt.toNat dp.toInt.toNat z.toInt.toNat j else R b' j) ?_ (fun _ _ => rfl) (fun b' hb' => funext fun j => if_neg hb')]
  rw [tb]; unfold yCell
  rw [if_neg (show ¬ (3 : Nat) < 3 by decide), if_pos rfl]
  refine congrArg (fun f => Sum.inl (3, m1, Sum.inr (Sum.inr (Sum.inr (Sum.inr f))))) (funext fun j => ?_)
  show va_cpy (fun j => yO (R a j)) (fun j => yO (R b j)) sp.toInt.toNat dp.toInt.toNat z.toInt.toNat j = yO (if b = b then va_cpy (R a) (R b) sp.toInt.toNat dp.toInt.toNat z.toInt.toNat j else R b j)
  rw [if_pos rfl]
  unfold va_cpy
  split <;> rfl
end YLST
def yEl (R : Nat → Nat → Value) (l : Nat) : Nat := (yO (R l 1)).getD 0
def yAd (R : Nat → Nat → Value) (l i : Nat) : Nat := (yO (R (yEl R l) i)).getD 0
/-- the list at l, of elements with the tag et, all of it below nb -/
def yLI (nb : Nat) (tg : Nat → yT) (I : Nat → Nat → Int32) (R : Nat → Nat → Value) (l : Nat) (et : yT) : Prop :=
  R l 1 = .ref (yEl R l) ∧ yEl R l < nb ∧ (∃ m : Nat, tg (yEl R l) = (3, m) ∧ (I l 2).toInt ≤ (m : Int) ∧ (m : Int) ≤ 2 * (I l 2).toInt + 10 ∧ (yEl R l = 0 ∧ m = 0 ∨ (94 ≤ yEl R l ∧ 10 ≤ m))) ∧ 0 ≤ (I l 2).toInt ∧ ∀ i : Nat, (i : Int) < (I l 2).toInt → R (yEl R l) i = .ref (yAd R l i) ∧ 94 ≤ yAd R l i ∧ yAd R l i < nb ∧ tg (yAd R l i) = et
theorem yEl_eq {R R' : Nat → Nat → Value} {l : Nat} (h : R' l = R l) : yEl R' l = yEl R l := by unfold yEl; rw [h]
theorem yAd_eq {R R' : Nat → Nat → Value} {l i : Nat} (h : R' l = R l) (h2 : R' (yEl R l) = R (yEl R l)) : yAd R' l i = yAd R l i := by unfold yAd; rw [yEl_eq h, h2]
theorem yLI.same {nb : Nat} {tg tg' : Nat → yT} {I I' : Nat → Nat → Int32} {R R' : Nat → Nat → Value} {l : Nat} {et : yT} (h : yLI nb tg I R l et) (ht : ∀ a, a < nb → tg' a = tg a) (hI : I' l 2 = I l 2) (hR : R' l = R l) (hR2 : R' (yEl R l) = R (yEl R l)) : yLI nb tg' I' R' l et := by
  obtain ⟨h1, h2, ⟨m, h3, h4⟩, h5, h6⟩ := h
  unfold yLI
  rw [yEl_eq hR, hI]
  refine ⟨by rw [hR]; exact h1, h2, ⟨m, by rw [ht _ h2]; exact h3, h4⟩, h5, fun i hi => ?_⟩
  obtain ⟨a, b, d, e⟩ := h6 i hi
  rw [yAd_eq hR hR2, hR2]
  exact ⟨a, b, d, by rw [ht _ d]; exact e⟩
/-- an iterator over the list at l, k behind -/
def yIt (nb n : Nat) (tg : Nat → yT) (I : Nat → Nat → Int32) (R : Nat → Nat → Value) (it l : Nat) (k : Int) : Prop := nb ≤ it ∧ it < n ∧ tg it = (6, 0) ∧ R it 3 = .ref l ∧ (I it 0).toInt = k ∧ 0 ≤ k ∧ k ≤ (I l 2).toInt ∧ I it 2 = I l 0 ∧ tg l = (7, 0) ∧ l < n ∧ l < nb
section YITR
variable {nb n : Nat} {tg : Nat → yT} {I : Nat → Nat → Int32} {R : Nat → Nat → Value} {c s : Nat} {Q : yQ}
theorem l_get0 {l e b m : Nat} {i : Int32} (tl : tg l = (7, 0)) (hl : l < n) (hE : R l 1 = .ref e) (te : tg e = (3, m)) (he : e < n) (h0 : 0 ≤ i.toInt) (h1 : i.toInt < (I l 2).toInt) (h2 : (I l 2).toInt ≤ (m : Int)) (hb : R e i.toInt.toNat = .ref b) (hQ : Q (.inl (some (.ref b))) (n, tg, I, R) c s) : yC 304 [.ref l, .int i] (n, tg, I, R) c s Q := by
  refine y_in (M := xm_Jx4a65c_get_915e3) (ls := [some _, some _]) rfl rfl rfl ?_
  refine y_iload_n rfl rfl ?_
  refine y_aload_n rfl rfl ?_
  refine y_getI rfl tl hl rfl rfl ?_
  refine y_static rfl rfl rfl rfl rfl ?_
  refine y_in (M := xm_J15_checkIndex_7cf53) (ls := [some _, some _]) rfl rfl rfl ?_
  refine y_iload_n rfl rfl ?_
  refine y_iload_n rfl rfl ?_
  refine y_null rfl ?_
  refine y_static rfl rfl rfl rfl rfl ?_
  refine y_in (M := xm_J3_checkIndex_8e157) (ls := [some _, some _, some _]) rfl rfl rfl ?_
  refine y_iload_n rfl rfl ?_
  refine y_if_lt rfl j_J3_checkIndex_8e157_9 (fun h_1 => ?_) (fun h_2 => ?_)
  · exact absurd h_1 (by omega)
  · refine y_iload_n rfl rfl ?_
    refine y_iload_n rfl rfl ?_
    refine y_icmp_lt rfl j_J3_checkIndex_8e157_16 (fun h_3 => ?_) (fun h_4 => ?_)
    · refine y_iload_n rfl rfl ?_
      refine y_ireturn rfl rfl rfl ?_
      refine y_ret1 ?_
      refine y_ireturn rfl rfl rfl ?_
      refine y_ret1 ?_
      refine y_pop rfl rfl ?_
      refine y_aload_n rfl rfl ?_
      refine y_iload_n rfl rfl ?_
      refine y_virt rfl rfl rfl rfl rfl tl hl ?_
      refine y_in (M := xm_Jx4a65c_elementData_915e3) (ls := [some _, some _]) rfl rfl rfl ?_
      refine y_aload_n rfl rfl ?_
      refine y_getR rfl tl hl rfl rfl hE ?_
      refine y_iload_n rfl rfl ?_
      refine y_aaload rfl te he h0 (by omega) hb ?_
      refine y_areturn rfl ?_
      refine y_ret1 ?_
      refine y_areturn rfl ?_
      exact hQ
    · exact absurd h_4 (by omega)
theorem l_get {l : Nat} {et : yT} {i : Int32} (tl : tg l = (7, 0)) (hl : l < n) (hn : nb ≤ n) (hL : yLI nb tg I R l et) (h0 : 0 ≤ i.toInt) (h1 : i.toInt < (I l 2).toInt) (hQ : ∀ b, b = yAd R l i.toInt.toNat → 94 ≤ b → b < nb → tg b = et → Q (.inl (some (.ref b))) (n, tg, I, R) c s) : yC 304 [.ref l, .int i] (n, tg, I, R) c s Q := by
  obtain ⟨a1, a2, ⟨m, a3, a4, -⟩, -, a5⟩ := hL
  obtain ⟨b1, b2, b3, b4⟩ := a5 i.toInt.toNat (by omega)
  exact l_get0 tl hl a1 a3 (Nat.lt_of_lt_of_le a2 hn) h0 h1 a4 b1 (hQ _ rfl b2 b3 b4)
theorem i_hasNext {it l : Nat} {z : Int} (hI : yIt nb n tg I R it l z) (hQ1 : z < (I l 2).toInt → Q (.inl (some (.int (Int32.ofInt 1)))) (n, tg, I, R) c s) (hQ0 : z = (I l 2).toInt → Q (.inl (some (.int (Int32.ofInt 0)))) (n, tg, I, R) c s) : yC 296 [.ref it] (n, tg, I, R) c s Q := by
  obtain ⟨h1, h2, h3, h4, h5, h6, h7, h8, h9, h10, h11⟩ := hI
  refine y_in (M := xm_Jx35411_hasNext_aae02) (ls := [some _]) rfl rfl rfl ?_
  refine y_aload_n rfl rfl ?_
  refine y_getI rfl h3 h2 rfl rfl ?_
  refine y_aload_n rfl rfl ?_
  refine y_getR rfl h3 h2 rfl rfl h4 ?_
  refine y_getI rfl h9 h10 rfl rfl ?_
  refine y_icmp_eq rfl j_Jx35411_hasNext_aae02_18 (fun h_1 => ?_) (fun h_2 => ?_)
  · refine y_iconst rfl ?_
    refine y_ireturn rfl rfl rfl ?_
    exact hQ0 (by omega)
  · refine y_iconst rfl ?_
    refine y_goto rfl j_Jx35411_hasNext_aae02_19 ?_
    refine y_ireturn rfl rfl rfl ?_
    exact hQ1 (by omega)
theorem ofNat32 {m : Nat} (h : m < 2147483648) : (Int32.ofNat m).toInt = (m : Int) := Int32.toInt_ofNat_of_lt h
theorem yIt_next {nb n : Nat} {tg : Nat → yT} {I I1 I2 : Nat → Nat → Int32} {R : Nat → Nat → Value} {it l : Nat} {z : Int} {v : Int32} (hI : yIt nb n tg I R it l z) (hk : z < (I l 2).toInt) (e1 : I1 = upd2 I it 0 (I it 0 + Int32.ofInt 1)) (e2 : I2 = upd2 I1 it 1 v) : yIt nb n tg I2 R it l (z + 1) := by
  obtain ⟨h1, h2, h3, h4, h5, h6, h7, h8, h9, h10, h11⟩ := hI
  have hil : it ≠ l := by omega
  have hx := (I l 2).toInt_lt
  subst e2; subst e1
  refine ⟨h1, h2, h3, h4, ?_, by omega, ?_, ?_, h9, h10, h11⟩
  · rw [upd2_ne (.inr (by decide)), upd2_self, yinc (by omega), h5]
  · rw [upd2_ne (.inl (Ne.symm hil)), upd2_ne (.inl (Ne.symm hil))]; omega
  · rw [upd2_ne (.inr (by decide)), upd2_ne (.inr (by decide)), upd2_ne (.inl (Ne.symm hil)), upd2_ne (.inl (Ne.symm hil))]; exact h8
theorem i_next {it l : Nat} {z : Int} {et : yT} (hro : xN0 ≤ it) (hn : nb ≤ n) (hI : yIt nb n tg I R it l z) (hL : yLI nb tg I R l et) (hsz : (I l 2).toInt ≤ 100000) (hk : z < (I l 2).toInt) (hQ : ∀ b I1, b = yAd R l z.toNat → 94 ≤ b → b < nb → tg b = et → yIt nb n tg I1 R it l (z + 1) → (∀ a, a ≠ it → I1 a = I a) → Q (.inl (some (.ref b))) (n, tg, I1, R) c s) : yC 297 [.ref it] (n, tg, I, R) c s Q := by
  obtain ⟨h1, h2, h3, h4, h5, h6, h7, h8, h9, h10, h11⟩ := id hI
  subst h5
  obtain ⟨hE, a2, ⟨m, te, a4, a4', -⟩, -, a5⟩ := hL
  have he := Nat.lt_of_lt_of_le a2 hn
  obtain ⟨hb, b2, b3, b4⟩ := a5 (I it 0).toInt.toNat (by omega)
  have hlm := ofNat32 (m := m) (by omega)
  refine y_in (M := xm_Jx35411_next_0502b) (ls := [some _, _, _]) rfl rfl rfl ?_
  refine y_aload_n rfl rfl ?_
  refine y_virt rfl rfl rfl rfl rfl h3 h2 ?_
  refine y_in (M := xm_Jx35411_checkForComodification_da8c8) (ls := [some _]) rfl rfl rfl ?_
  refine y_aload_n rfl rfl ?_
  refine y_getR rfl h3 h2 rfl rfl h4 ?_
  refine y_getI rfl h9 h10 rfl rfl ?_
  refine y_aload_n rfl rfl ?_
  refine y_getI rfl h3 h2 rfl rfl ?_
  refine y_icmp_eq rfl j_Jx35411_checkForComodification_da8c8_22 (fun h_1 => ?_) (fun h_2 => ?_)
  · refine y_return rfl ?_
    refine y_ret0 ?_
    refine y_aload_n rfl rfl ?_
    refine y_getI rfl h3 h2 rfl rfl ?_
    refine y_istore_n (ls' := [some _, some _, _]) rfl rfl rfl ?_
    refine y_iload_n rfl rfl ?_
    refine y_aload_n rfl rfl ?_
    refine y_getR rfl h3 h2 rfl rfl h4 ?_
    refine y_getI rfl h9 h10 rfl rfl ?_
    refine y_icmp_lt rfl j_Jx35411_next_0502b_28 (fun h_3 => ?_) (fun h_4 => ?_)
    · refine y_aload_n rfl rfl ?_
      refine y_getR rfl h3 h2 rfl rfl h4 ?_
      refine y_getR rfl h9 h10 rfl rfl hE ?_
      refine y_astore_n (ls' := [some _, some _, some _]) rfl rfl rfl ?_
      refine y_iload_n rfl rfl ?_
      refine y_aload_n rfl rfl ?_
      refine y_alen rfl te rfl he ?_
      refine y_icmp_lt rfl j_Jx35411_next_0502b_50 (fun h_5 => ?_) (fun h_6 => ?_)
      · refine y_aload_n rfl rfl ?_
        refine y_iload_n rfl rfl ?_
        refine y_iconst rfl ?_
        refine y_iadd rfl ?_
        refine y_putI rfl h3 h2 rfl hro rfl rfl ?_
        refine y_nameI (fun I1 e1 => ?_)
        refine y_aload_n rfl rfl ?_
        refine y_aload_n rfl rfl ?_
        refine y_iload_n rfl rfl ?_
        refine y_dup_x1 rfl rfl rfl ?_
        refine y_putI rfl h3 h2 rfl hro rfl rfl ?_
        refine y_nameI (fun I2 e2 => ?_)
        refine y_aaload rfl te he (by omega) (by omega) hb ?_
        refine y_areturn rfl ?_
        exact hQ _ _ rfl b2 b3 b4 (yIt_next hI hk e1 e2) (fun a ha => (upI e2 a ha).trans (upI e1 a ha))
      · exact absurd (Int.le_trans (hlm ▸ h_6) (by omega)) (by omega)
    · exact absurd h_4 (by omega)
  · exact absurd (congrArg Int32.toInt h8) (by omega)
end YITR
