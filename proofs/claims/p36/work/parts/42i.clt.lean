/-! WHAT THE CLASS TELLS, EXACTLY (by ex9c.py) -/
/-- what the class tells: things owned, parts and debts of somebody, leases, places in ventures -/
def yOw (I : Nat → Nat → Int32) (p : Int) : Int32 := yFz (fun j => if (I 42 j).toInt = p then Int32.ofInt 1 else Int32.ofInt 0) (I 40 0).toInt.toNat
def yPl (I : Nat → Nat → Int32) (p : Int) : Int32 := yFz (fun j => if (I 50 j).toInt = p ∧ (I 53 j).toInt = 0 ∧ (I 55 j).toInt < (I 54 j).toInt then I 54 j - I 55 j else Int32.ofInt 0) (I 48 0).toInt.toNat
def yDb (I : Nat → Nat → Int32) (p : Int) : Int32 := yFz (fun j => if (I 50 j).toInt = p ∧ (I 53 j).toInt = 0 ∧ (I 55 j).toInt < (I 54 j).toInt then I 52 j - I 55 j * yPor (I 52 j).toInt64 (Int64.ofNat 1) (I 54 j).toInt64 else Int32.ofInt 0) (I 48 0).toInt.toNat
def yOl (I : Nat → Nat → Int32) (p : Int) : Int32 := yFz (fun j => if (I 65 j).toInt = 0 ∧ (I 62 j).toInt = p then Int32.ofInt 1 else Int32.ofInt 0) (I 59 0).toInt.toNat
def yCe (I : Nat → Nat → Int32) (p : Nat) : Int32 := yFz (fun j => I 71 (j * 9 + p)) (I 69 0).toInt.toNat
def yVd (I : Nat → Nat → Int32) : Int32 := yFz (fun j => if (I 53 j).toInt = 0 then Int32.ofInt 0 else Int32.ofInt 1) (I 48 0).toInt.toNat
def yDn (I : Nat → Nat → Int32) : Int32 := yFz (fun j => if (I 53 j).toInt = 0 ∧ (I 54 j).toInt ≤ (I 55 j).toInt then Int32.ofInt 1 else Int32.ofInt 0) (I 48 0).toInt.toNat
def yLo (I : Nat → Nat → Int32) : Int32 := yFz (fun j => if (I 65 j).toInt = 0 then Int32.ofInt 1 else Int32.ofInt 0) (I 59 0).toInt.toNat
def yOPv (I : Nat → Nat → Int32) (p : Int32) (w : Int) : Int32 := if w = 0 then I 39 p.toInt.toNat else if w = 1 then yOw I p.toInt else if w = 2 then I 75 p.toInt.toNat else if w = 3 then I 76 p.toInt.toNat else if w = 4 then yPl I p.toInt else if w = 5 then yDb I p.toInt else if w = 6 then yOl I p.toInt else yCe I p.toInt.toNat
def yHo (I : Nat → Nat → Int32) (w : Int) : Int32 := if w = 0 then I 34 8 else if w = 1 then I 39 8 else if w = 2 then I 38 1 else if w = 3 then I 74 2 else if w = 4 then yFz (I 75) 8 else if w = 5 then I 34 9 else if w = 6 then I 48 0 else if w = 7 then yVd I else if w = 8 then yDn I else if w = 9 then yLo I else if w = 10 then I 69 0 else if w = 11 then I 77 2 else if w = 12 then yOw I 8 else if w = 13 then yFz (I 39) (I 38 0).toInt.toNat else if w = 14 then I 74 3 else I 74 4
/-- whether it is sound, part by part -/
def ySp (I : Nat → Nat → Int32) : Prop := (∀ j : Nat, (j : Int) < 8 → 0 ≤ (I 75 j).toInt) ∧ 0 ≤ (I 74 2).toInt
def ySt (I : Nat → Nat → Int32) : Prop := ∀ j : Nat, (j : Int) < (I 40 0).toInt → (I 47 j).toInt = -1 ∨ (I 42 j).toInt = 8 ∧ (I 44 j).toInt = 0
def ySs (I : Nat → Nat → Int32) : Prop := ∀ j : Nat, (j : Int) < (I 48 0).toInt → (I 53 j).toInt = 0 ∨ (I 55 j).toInt ≤ 0
def ySw (I : Nat → Nat → Int32) (v : Nat) : Prop := ∀ p : Nat, (p : Int) < 9 → 0 ≤ (I 71 (v * 9 + p)).toInt
def ySv (I : Nat → Nat → Int32) : Prop := ∀ v : Nat, (v : Int) < (I 69 0).toInt → (yVs I 72 (Int32.ofInt (v : Int))).toInt ≤ 100 ∧ ySw I v
def yFl (I : Nat → Nat → Int32) : Int32 := yFz (I 57) (I 48 0).toInt.toNat
def ySnd (I : Nat → Nat → Int32) : Prop := ySp I ∧ ySv I ∧ ySt I ∧ ySs I ∧ (yFl I).toInt ≤ (I 38 1).toInt
theorem yAll_nx {P : Nat → Prop} {x : Int32} (h0 : 0 ≤ x.toInt ∧ x.toInt < 2147483647) (h : ∀ j : Nat, (j : Int) < x.toInt → P j) (hx : P x.toInt.toNat) : ∀ j : Nat, (j : Int) < (x + Int32.ofInt 1).toInt → P j := fun j hj => by
  rw [yinc h0.2] at hj
  by_cases e : (j : Int) < x.toInt
  · exact h j e
  · rw [show j = x.toInt.toNat by omega]; exact hx
section YC9
variable {n : Nat} {tg : Nat → yT} {I : Nat → Nat → Int32} {R : Nat → Nat → Value} {c s : Nat} {Q : yQ}
theorem lp_ownedC (hS : ySh n tg R) (hC : yCI I) {x1 : Int32} (hQ : ∀ v : Int32, v = yOw I x1.toInt → Q (.inl (some (.int v))) (n, tg, I, R) c s) : ∀ (m : Nat) (x2 : Int32) (x3 : Int32), (0 ≤ x3.toInt) → (x3.toInt ≤ (I 40 0).toInt) → (x2 = yFz (fun j => if (I 42 j).toInt = x1.toInt then Int32.ofInt 1 else Int32.ofInt 0) x3.toInt.toNat) → (I 40 0).toInt - x3.toInt < m → yW xm_X6_ownedBy xc_X6_ownedBy_4 [some (.ref 40), some (.int x1), some (.int x2), some (.int x3)] [] (n, tg, I, R) c s Q := by
  intro m
  induction m with
  | zero => intro x2 x3 i0 i1 i2 hm; exfalso; omega
  | succ m ih =>
    intro x2 x3 i0 i1 i2 hm
    refine y_iload_n rfl rfl ?_
    refine y_aload_n rfl rfl ?_
    refine y_getI rfl (ySh.t hS rfl) (ySh.n hS rfl) rfl rfl ?_
    refine y_icmp_ge rfl j_X6_ownedBy_31 (fun h_1 => ?_) (fun h_2 => ?_)
    · refine y_iload_n rfl rfl ?_
      refine y_ireturn rfl rfl rfl ?_
      exact hQ _ (by show _ = yFz _ (I 40 0).toInt.toNat; rw [show (I 40 0).toInt.toNat = x3.toInt.toNat by omega]; assumption)
    · refine y_aload_n rfl rfl ?_
      refine y_getR rfl (ySh.t hS rfl) (ySh.n hS rfl) rfl rfl (ySh.r hS rfl) ?_
      refine y_iload_n rfl rfl ?_
      refine y_iaload rfl (ySh.t hS rfl) (ySh.n hS rfl) (by omega) (by omega) ?_
      refine y_iload_n rfl rfl ?_
      refine y_icmp_ne rfl j_X6_ownedBy_25 (fun h_3 => ?_) (fun h_4 => ?_)
      · refine y_iinc (ls' := [some _, some _, some _, some _]) rfl rfl rfl rfl ?_
        refine y_goto rfl j_X6_ownedBy_4 ?_
        exact ih _ _ (by first | omega | (rw [yinc (by omega)]; omega)) (by first | omega | (rw [yinc (by omega)]; omega)) (by first | exact yFs_nx (by omega) (by assumption) rfl | exact yFs_nx (by omega) (by assumption) (if_pos (by omega)).symm | exact yFs_nx (by omega) (by assumption) (if_neg (by omega)).symm | exact yFz_nz (by omega) (by assumption) (if_neg (by omega)) | exact yFz_nz (by omega) (by assumption) (if_pos (by omega))) (by first | omega | (rw [yinc (by omega)]; omega))
      · refine y_iinc (ls' := [some _, some _, some _, some _]) rfl rfl rfl rfl ?_
        refine y_iinc (ls' := [some _, some _, some _, some _]) rfl rfl rfl rfl ?_
        refine y_goto rfl j_X6_ownedBy_4 ?_
        exact ih _ _ (by first | omega | (rw [yinc (by omega)]; omega)) (by first | omega | (rw [yinc (by omega)]; omega)) (by first | exact yFs_nx (by omega) (by assumption) rfl | exact yFs_nx (by omega) (by assumption) (if_pos (by omega)).symm | exact yFs_nx (by omega) (by assumption) (if_neg (by omega)).symm | exact yFz_nz (by omega) (by assumption) (if_neg (by omega)) | exact yFz_nz (by omega) (by assumption) (if_pos (by omega))) (by first | omega | (rw [yinc (by omega)]; omega))
theorem sc_ownedC (hS : ySh n tg R) (hC : yCI I) {x1 : Int32} (hQ : ∀ v : Int32, v = yOw I x1.toInt → Q (.inl (some (.int v))) (n, tg, I, R) c s) : yC 101 [.ref 40, .int x1] (n, tg, I, R) c s Q := by
  refine y_in (M := xm_X6_ownedBy) (ls := [some _, some _, _, _]) rfl rfl rfl ?_
  refine y_iconst rfl ?_
  refine y_istore_n (ls' := [some _, some _, some _, _]) rfl rfl rfl ?_
  refine y_iconst rfl ?_
  refine y_istore_n (ls' := [some _, some _, some _, some _]) rfl rfl rfl ?_
  exact lp_ownedC hS hC hQ 100 _ _ (by decide) (by rw [yz_0]; omega) rfl (by rw [yz_0]; omega)
theorem lp_partsC (hS : ySh n tg R) (hC : yCI I) {x1 : Int32} (hQ : ∀ v : Int32, v = yPl I x1.toInt → Q (.inl (some (.int v))) (n, tg, I, R) c s) : ∀ (m : Nat) (x2 : Int32) (x3 : Int32), (0 ≤ x3.toInt) → (x3.toInt ≤ (I 48 0).toInt) → (x2 = yFz (fun j => if (I 50 j).toInt = x1.toInt ∧ (I 53 j).toInt = 0 ∧ (I 55 j).toInt < (I 54 j).toInt then I 54 j - I 55 j else Int32.ofInt 0) x3.toInt.toNat) → (I 48 0).toInt - x3.toInt < m → yW xm_X5_partsLeftOf xc_X5_partsLeftOf_4 [some (.ref 48), some (.int x1), some (.int x2), some (.int x3)] [] (n, tg, I, R) c s Q := by
  intro m
  induction m with
  | zero => intro x2 x3 i0 i1 i2 hm; exfalso; omega
  | succ m ih =>
    intro x2 x3 i0 i1 i2 hm
    refine y_iload_n rfl rfl ?_
    refine y_aload_n rfl rfl ?_
    refine y_getI rfl (ySh.t hS rfl) (ySh.n hS rfl) rfl rfl ?_
    refine y_icmp_ge rfl j_X5_partsLeftOf_40 (fun h_1 => ?_) (fun h_2 => ?_)
    · refine y_iload_n rfl rfl ?_
      refine y_ireturn rfl rfl rfl ?_
      exact hQ _ (by show _ = yFz _ (I 48 0).toInt.toNat; rw [show (I 48 0).toInt.toNat = x3.toInt.toNat by omega]; assumption)
    · refine y_iload_n rfl rfl ?_
      refine y_aload_n rfl rfl ?_
      refine y_getR rfl (ySh.t hS rfl) (ySh.n hS rfl) rfl rfl (ySh.r hS rfl) ?_
      refine y_iload_n rfl rfl ?_
      refine y_iaload rfl (ySh.t hS rfl) (ySh.n hS rfl) (by omega) (by omega) ?_
      refine y_iload_n rfl rfl ?_
      refine y_icmp_ne rfl j_X5_partsLeftOf_31 (fun h_3 => ?_) (fun h_4 => ?_)
      · refine y_iconst rfl ?_
        refine y_iadd rfl ?_
        refine y_istore_n (ls' := [some _, some _, some _, some _]) rfl rfl rfl ?_
        refine y_iinc (ls' := [some _, some _, some _, some _]) rfl rfl rfl rfl ?_
        refine y_goto rfl j_X5_partsLeftOf_4 ?_
        exact ih _ _ (by first | omega | (rw [yinc (by omega)]; omega)) (by first | omega | (rw [yinc (by omega)]; omega)) (by first | exact yFs_nx (by omega) (by assumption) rfl | exact yFs_nx (by omega) (by assumption) (if_pos (by omega)).symm | exact yFs_nx (by omega) (by assumption) (if_neg (by omega)).symm | exact yFz_nz (by omega) (by assumption) (if_neg (by omega)) | exact yFz_nz (by omega) (by assumption) (if_pos (by omega))) (by first | omega | (rw [yinc (by omega)]; omega))
      · refine y_aload_n rfl rfl ?_
        refine y_iload_n rfl rfl ?_
        refine y_virt rfl rfl rfl rfl rfl (ySh.t hS rfl) (ySh.n hS rfl) ?_
        refine y_in (M := xm_X5_partsLeft) (ls := [some _, some _]) rfl rfl rfl ?_
        refine y_aload_n rfl rfl ?_
        refine y_iload_n rfl rfl ?_
        refine y_virt rfl rfl rfl rfl rfl (ySh.t hS rfl) (ySh.n hS rfl) ?_
        refine y_in (M := xm_X5_isOpen) (ls := [some _, some _]) rfl rfl rfl ?_
        refine y_aload_n rfl rfl ?_
        refine y_iload_n rfl rfl ?_
        refine y_virt rfl rfl rfl rfl rfl (ySh.t hS rfl) (ySh.n hS rfl) ?_
        refine y_in (M := xm_X5_isVoid) (ls := [some _, some _]) rfl rfl rfl ?_
        refine y_aload_n rfl rfl ?_
        refine y_getR rfl (ySh.t hS rfl) (ySh.n hS rfl) rfl rfl (ySh.r hS rfl) ?_
        refine y_iload_n rfl rfl ?_
        refine y_iaload rfl (ySh.t hS rfl) (ySh.n hS rfl) (by omega) (by omega) ?_
        refine y_if_eq rfl j_X5_isVoid_13 (fun h_5 => ?_) (fun h_6 => ?_)
        · refine y_iconst rfl ?_
          refine y_ireturn rfl rfl rfl ?_
          refine y_ret1 ?_
          refine y_if_neF rfl (by decide) ?_
          refine y_aload_n rfl rfl ?_
          refine y_getR rfl (ySh.t hS rfl) (ySh.n hS rfl) rfl rfl (ySh.r hS rfl) ?_
          refine y_iload_n rfl rfl ?_
          refine y_iaload rfl (ySh.t hS rfl) (ySh.n hS rfl) (by omega) (by omega) ?_
          refine y_aload_n rfl rfl ?_
          refine y_getR rfl (ySh.t hS rfl) (ySh.n hS rfl) rfl rfl (ySh.r hS rfl) ?_
          refine y_iload_n rfl rfl ?_
          refine y_iaload rfl (ySh.t hS rfl) (ySh.n hS rfl) (by omega) (by omega) ?_
          refine y_icmp_ge rfl j_X5_isOpen_27 (fun h_7 => ?_) (fun h_8 => ?_)
          · refine y_iconst rfl ?_
            refine y_ireturn rfl rfl rfl ?_
            refine y_ret1 ?_
            refine y_if_eqT rfl j_X5_partsLeft_24 (by decide) ?_
            refine y_iconst rfl ?_
            refine y_ireturn rfl rfl rfl ?_
            refine y_ret1 ?_
            refine y_goto rfl j_X5_partsLeftOf_32 ?_
            refine y_iadd rfl ?_
            refine y_istore_n (ls' := [some _, some _, some _, some _]) rfl rfl rfl ?_
            refine y_iinc (ls' := [some _, some _, some _, some _]) rfl rfl rfl rfl ?_
            refine y_goto rfl j_X5_partsLeftOf_4 ?_
            exact ih _ _ (by first | omega | (rw [yinc (by omega)]; omega)) (by first | omega | (rw [yinc (by omega)]; omega)) (by first | exact yFs_nx (by omega) (by assumption) rfl | exact yFs_nx (by omega) (by assumption) (if_pos (by omega)).symm | exact yFs_nx (by omega) (by assumption) (if_neg (by omega)).symm | exact yFz_nz (by omega) (by assumption) (if_neg (by omega)) | exact yFz_nz (by omega) (by assumption) (if_pos (by omega))) (by first | omega | (rw [yinc (by omega)]; omega))
          · refine y_iconst rfl ?_
            refine y_goto rfl j_X5_isOpen_28 ?_
            refine y_ireturn rfl rfl rfl ?_
            refine y_ret1 ?_
            refine y_if_eqF rfl (by decide) ?_
            refine y_aload_n rfl rfl ?_
            refine y_getR rfl (ySh.t hS rfl) (ySh.n hS rfl) rfl rfl (ySh.r hS rfl) ?_
            refine y_iload_n rfl rfl ?_
            refine y_iaload rfl (ySh.t hS rfl) (ySh.n hS rfl) (by omega) (by omega) ?_
            refine y_aload_n rfl rfl ?_
            refine y_getR rfl (ySh.t hS rfl) (ySh.n hS rfl) rfl rfl (ySh.r hS rfl) ?_
            refine y_iload_n rfl rfl ?_
            refine y_iaload rfl (ySh.t hS rfl) (ySh.n hS rfl) (by omega) (by omega) ?_
            refine y_isub rfl ?_
            refine y_goto rfl j_X5_partsLeft_25 ?_
            refine y_ireturn rfl rfl rfl ?_
            refine y_ret1 ?_
            refine y_goto rfl j_X5_partsLeftOf_32 ?_
            refine y_iadd rfl ?_
            refine y_istore_n (ls' := [some _, some _, some _, some _]) rfl rfl rfl ?_
            refine y_iinc (ls' := [some _, some _, some _, some _]) rfl rfl rfl rfl ?_
            refine y_goto rfl j_X5_partsLeftOf_4 ?_
            exact ih _ _ (by first | omega | (rw [yinc (by omega)]; omega)) (by first | omega | (rw [yinc (by omega)]; omega)) (by first | exact yFs_nx (by omega) (by assumption) rfl | exact yFs_nx (by omega) (by assumption) (if_pos (by omega)).symm | exact yFs_nx (by omega) (by assumption) (if_neg (by omega)).symm | exact yFz_nz (by omega) (by assumption) (if_neg (by omega)) | exact yFz_nz (by omega) (by assumption) (if_pos (by omega))) (by first | omega | (rw [yinc (by omega)]; omega))
        · refine y_iconst rfl ?_
          refine y_goto rfl j_X5_isVoid_14 ?_
          refine y_ireturn rfl rfl rfl ?_
          refine y_ret1 ?_
          refine y_if_neT rfl j_X5_isOpen_27 (by decide) ?_
          refine y_iconst rfl ?_
          refine y_ireturn rfl rfl rfl ?_
          refine y_ret1 ?_
          refine y_if_eqT rfl j_X5_partsLeft_24 (by decide) ?_
          refine y_iconst rfl ?_
          refine y_ireturn rfl rfl rfl ?_
          refine y_ret1 ?_
          refine y_goto rfl j_X5_partsLeftOf_32 ?_
          refine y_iadd rfl ?_
          refine y_istore_n (ls' := [some _, some _, some _, some _]) rfl rfl rfl ?_
          refine y_iinc (ls' := [some _, some _, some _, some _]) rfl rfl rfl rfl ?_
          refine y_goto rfl j_X5_partsLeftOf_4 ?_
          exact ih _ _ (by first | omega | (rw [yinc (by omega)]; omega)) (by first | omega | (rw [yinc (by omega)]; omega)) (by first | exact yFs_nx (by omega) (by assumption) rfl | exact yFs_nx (by omega) (by assumption) (if_pos (by omega)).symm | exact yFs_nx (by omega) (by assumption) (if_neg (by omega)).symm | exact yFz_nz (by omega) (by assumption) (if_neg (by omega)) | exact yFz_nz (by omega) (by assumption) (if_pos (by omega))) (by first | omega | (rw [yinc (by omega)]; omega))
theorem sc_partsC (hS : ySh n tg R) (hC : yCI I) {x1 : Int32} (hQ : ∀ v : Int32, v = yPl I x1.toInt → Q (.inl (some (.int v))) (n, tg, I, R) c s) : yC 89 [.ref 48, .int x1] (n, tg, I, R) c s Q := by
  refine y_in (M := xm_X5_partsLeftOf) (ls := [some _, some _, _, _]) rfl rfl rfl ?_
  refine y_iconst rfl ?_
  refine y_istore_n (ls' := [some _, some _, some _, _]) rfl rfl rfl ?_
  refine y_iconst rfl ?_
  refine y_istore_n (ls' := [some _, some _, some _, some _]) rfl rfl rfl ?_
  exact lp_partsC hS hC hQ 100 _ _ (by decide) (by rw [yz_0]; omega) rfl (by rw [yz_0]; omega)
theorem lp_debtC (hS : ySh n tg R) (hC : yCI I) {x1 : Int32} (hQ : ∀ v : Int32, v = yDb I x1.toInt → Q (.inl (some (.int v))) (n, tg, I, R) c s) : ∀ (m : Nat) (x2 : Int32) (x3 : Int32), (0 ≤ x3.toInt) → (x3.toInt ≤ (I 48 0).toInt) → (x2 = yFz (fun j => if (I 50 j).toInt = x1.toInt ∧ (I 53 j).toInt = 0 ∧ (I 55 j).toInt < (I 54 j).toInt then I 52 j - I 55 j * yPor (I 52 j).toInt64 (Int64.ofNat 1) (I 54 j).toInt64 else Int32.ofInt 0) x3.toInt.toNat) → (I 48 0).toInt - x3.toInt < m → yW xm_X5_debtOf xc_X5_debtOf_4 [some (.ref 48), some (.int x1), some (.int x2), some (.int x3)] [] (n, tg, I, R) c s Q := by
  intro m
  induction m with
  | zero => intro x2 x3 i0 i1 i2 hm; exfalso; omega
  | succ m ih =>
    intro x2 x3 i0 i1 i2 hm
    refine y_iload_n rfl rfl ?_
    refine y_aload_n rfl rfl ?_
    refine y_getI rfl (ySh.t hS rfl) (ySh.n hS rfl) rfl rfl ?_
    refine y_icmp_ge rfl j_X5_debtOf_40 (fun h_1 => ?_) (fun h_2 => ?_)
    · refine y_iload_n rfl rfl ?_
      refine y_ireturn rfl rfl rfl ?_
      exact hQ _ (by show _ = yFz _ (I 48 0).toInt.toNat; rw [show (I 48 0).toInt.toNat = x3.toInt.toNat by omega]; assumption)
    · refine y_iload_n rfl rfl ?_
      refine y_aload_n rfl rfl ?_
      refine y_getR rfl (ySh.t hS rfl) (ySh.n hS rfl) rfl rfl (ySh.r hS rfl) ?_
      refine y_iload_n rfl rfl ?_
      refine y_iaload rfl (ySh.t hS rfl) (ySh.n hS rfl) (by omega) (by omega) ?_
      refine y_iload_n rfl rfl ?_
      refine y_icmp_ne rfl j_X5_debtOf_31 (fun h_3 => ?_) (fun h_4 => ?_)
      · refine y_iconst rfl ?_
        refine y_iadd rfl ?_
        refine y_istore_n (ls' := [some _, some _, some _, some _]) rfl rfl rfl ?_
        refine y_iinc (ls' := [some _, some _, some _, some _]) rfl rfl rfl rfl ?_
        refine y_goto rfl j_X5_debtOf_4 ?_
        exact ih _ _ (by first | omega | (rw [yinc (by omega)]; omega)) (by first | omega | (rw [yinc (by omega)]; omega)) (by first | exact yFs_nx (by omega) (by assumption) rfl | exact yFs_nx (by omega) (by assumption) (if_pos (by omega)).symm | exact yFs_nx (by omega) (by assumption) (if_neg (by omega)).symm | exact yFz_nz (by omega) (by assumption) (if_neg (by omega)) | exact yFz_nz (by omega) (by assumption) (if_pos (by omega))) (by first | omega | (rw [yinc (by omega)]; omega))
      · refine y_aload_n rfl rfl ?_
        refine y_iload_n rfl rfl ?_
        refine y_virt rfl rfl rfl rfl rfl (ySh.t hS rfl) (ySh.n hS rfl) ?_
        refine y_in (M := xm_X5_debt) (ls := [some _, some _]) rfl rfl rfl ?_
        refine y_aload_n rfl rfl ?_
        refine y_iload_n rfl rfl ?_
        refine y_virt rfl rfl rfl rfl rfl (ySh.t hS rfl) (ySh.n hS rfl) ?_
        refine y_in (M := xm_X5_isOpen) (ls := [some _, some _]) rfl rfl rfl ?_
        refine y_aload_n rfl rfl ?_
        refine y_iload_n rfl rfl ?_
        refine y_virt rfl rfl rfl rfl rfl (ySh.t hS rfl) (ySh.n hS rfl) ?_
        refine y_in (M := xm_X5_isVoid) (ls := [some _, some _]) rfl rfl rfl ?_
        refine y_aload_n rfl rfl ?_
        refine y_getR rfl (ySh.t hS rfl) (ySh.n hS rfl) rfl rfl (ySh.r hS rfl) ?_
        refine y_iload_n rfl rfl ?_
        refine y_iaload rfl (ySh.t hS rfl) (ySh.n hS rfl) (by omega) (by omega) ?_
        refine y_if_eq rfl j_X5_isVoid_13 (fun h_5 => ?_) (fun h_6 => ?_)
        · refine y_iconst rfl ?_
          refine y_ireturn rfl rfl rfl ?_
          refine y_ret1 ?_
          refine y_if_neF rfl (by decide) ?_
          refine y_aload_n rfl rfl ?_
          refine y_getR rfl (ySh.t hS rfl) (ySh.n hS rfl) rfl rfl (ySh.r hS rfl) ?_
          refine y_iload_n rfl rfl ?_
          refine y_iaload rfl (ySh.t hS rfl) (ySh.n hS rfl) (by omega) (by omega) ?_
          refine y_aload_n rfl rfl ?_
          refine y_getR rfl (ySh.t hS rfl) (ySh.n hS rfl) rfl rfl (ySh.r hS rfl) ?_
          refine y_iload_n rfl rfl ?_
          refine y_iaload rfl (ySh.t hS rfl) (ySh.n hS rfl) (by omega) (by omega) ?_
          refine y_icmp_ge rfl j_X5_isOpen_27 (fun h_7 => ?_) (fun h_8 => ?_)
          · refine y_iconst rfl ?_
            refine y_ireturn rfl rfl rfl ?_
            refine y_ret1 ?_
            refine y_if_eqT rfl j_X5_debt_30 (by decide) ?_
            refine y_iconst rfl ?_
            refine y_ireturn rfl rfl rfl ?_
            refine y_ret1 ?_
            refine y_goto rfl j_X5_debtOf_32 ?_
            refine y_iadd rfl ?_
            refine y_istore_n (ls' := [some _, some _, some _, some _]) rfl rfl rfl ?_
            refine y_iinc (ls' := [some _, some _, some _, some _]) rfl rfl rfl rfl ?_
            refine y_goto rfl j_X5_debtOf_4 ?_
            exact ih _ _ (by first | omega | (rw [yinc (by omega)]; omega)) (by first | omega | (rw [yinc (by omega)]; omega)) (by first | exact yFs_nx (by omega) (by assumption) rfl | exact yFs_nx (by omega) (by assumption) (if_pos (by omega)).symm | exact yFs_nx (by omega) (by assumption) (if_neg (by omega)).symm | exact yFz_nz (by omega) (by assumption) (if_neg (by omega)) | exact yFz_nz (by omega) (by assumption) (if_pos (by omega))) (by first | omega | (rw [yinc (by omega)]; omega))
          · refine y_iconst rfl ?_
            refine y_goto rfl j_X5_isOpen_28 ?_
            refine y_ireturn rfl rfl rfl ?_
            refine y_ret1 ?_
            refine y_if_eqF rfl (by decide) ?_
            refine y_aload_n rfl rfl ?_
            refine y_getR rfl (ySh.t hS rfl) (ySh.n hS rfl) rfl rfl (ySh.r hS rfl) ?_
            refine y_iload_n rfl rfl ?_
            refine y_iaload rfl (ySh.t hS rfl) (ySh.n hS rfl) (by omega) (by omega) ?_
            refine y_aload_n rfl rfl ?_
            refine y_getR rfl (ySh.t hS rfl) (ySh.n hS rfl) rfl rfl (ySh.r hS rfl) ?_
            refine y_iload_n rfl rfl ?_
            refine y_iaload rfl (ySh.t hS rfl) (ySh.n hS rfl) (by omega) (by omega) ?_
            refine y_aload_n rfl rfl ?_
            refine y_iload_n rfl rfl ?_
            refine y_virt rfl rfl rfl rfl rfl (ySh.t hS rfl) (ySh.n hS rfl) ?_
            refine y_in (M := xm_X5_plainPart) (ls := [some _, some _]) rfl rfl rfl ?_
            refine y_aload_n rfl rfl ?_
            refine y_getR rfl (ySh.t hS rfl) (ySh.n hS rfl) rfl rfl (ySh.r hS rfl) ?_
            refine y_iload_n rfl rfl ?_
            refine y_iaload rfl (ySh.t hS rfl) (ySh.n hS rfl) (by omega) (by omega) ?_
            refine y_i2l rfl ?_
            refine y_lconst rfl ?_
            refine y_aload_n rfl rfl ?_
            refine y_getR rfl (ySh.t hS rfl) (ySh.n hS rfl) rfl rfl (ySh.r hS rfl) ?_
            refine y_iload_n rfl rfl ?_
            refine y_iaload rfl (ySh.t hS rfl) (ySh.n hS rfl) (by omega) (by omega) ?_
            refine y_i2l rfl ?_
            refine y_static rfl rfl rfl rfl rfl ?_
            refine sp_portion ?_
            refine y_ret1 ?_
            refine y_ireturn rfl rfl rfl ?_
            refine y_ret1 ?_
            refine y_imul rfl ?_
            refine y_isub rfl ?_
            refine y_goto rfl j_X5_debt_31 ?_
            refine y_ireturn rfl rfl rfl ?_
            refine y_ret1 ?_
            refine y_goto rfl j_X5_debtOf_32 ?_
            refine y_iadd rfl ?_
            refine y_istore_n (ls' := [some _, some _, some _, some _]) rfl rfl rfl ?_
            refine y_iinc (ls' := [some _, some _, some _, some _]) rfl rfl rfl rfl ?_
            refine y_goto rfl j_X5_debtOf_4 ?_
            exact ih _ _ (by first | omega | (rw [yinc (by omega)]; omega)) (by first | omega | (rw [yinc (by omega)]; omega)) (by first | exact yFs_nx (by omega) (by assumption) rfl | exact yFs_nx (by omega) (by assumption) (if_pos (by omega)).symm | exact yFs_nx (by omega) (by assumption) (if_neg (by omega)).symm | exact yFz_nz (by omega) (by assumption) (if_neg (by omega)) | exact yFz_nz (by omega) (by assumption) (if_pos (by omega))) (by first | omega | (rw [yinc (by omega)]; omega))
        · refine y_iconst rfl ?_
          refine y_goto rfl j_X5_isVoid_14 ?_
          refine y_ireturn rfl rfl rfl ?_
          refine y_ret1 ?_
          refine y_if_neT rfl j_X5_isOpen_27 (by decide) ?_
          refine y_iconst rfl ?_
          refine y_ireturn rfl rfl rfl ?_
          refine y_ret1 ?_
          refine y_if_eqT rfl j_X5_debt_30 (by decide) ?_
          refine y_iconst rfl ?_
          refine y_ireturn rfl rfl rfl ?_
          refine y_ret1 ?_
          refine y_goto rfl j_X5_debtOf_32 ?_
          refine y_iadd rfl ?_
          refine y_istore_n (ls' := [some _, some _, some _, some _]) rfl rfl rfl ?_
          refine y_iinc (ls' := [some _, some _, some _, some _]) rfl rfl rfl rfl ?_
          refine y_goto rfl j_X5_debtOf_4 ?_
          exact ih _ _ (by first | omega | (rw [yinc (by omega)]; omega)) (by first | omega | (rw [yinc (by omega)]; omega)) (by first | exact yFs_nx (by omega) (by assumption) rfl | exact yFs_nx (by omega) (by assumption) (if_pos (by omega)).symm | exact yFs_nx (by omega) (by assumption) (if_neg (by omega)).symm | exact yFz_nz (by omega) (by assumption) (if_neg (by omega)) | exact yFz_nz (by omega) (by assumption) (if_pos (by omega))) (by first | omega | (rw [yinc (by omega)]; omega))
theorem sc_debtC (hS : ySh n tg R) (hC : yCI I) {x1 : Int32} (hQ : ∀ v : Int32, v = yDb I x1.toInt → Q (.inl (some (.int v))) (n, tg, I, R) c s) : yC 90 [.ref 48, .int x1] (n, tg, I, R) c s Q := by
  refine y_in (M := xm_X5_debtOf) (ls := [some _, some _, _, _]) rfl rfl rfl ?_
  refine y_iconst rfl ?_
  refine y_istore_n (ls' := [some _, some _, some _, _]) rfl rfl rfl ?_
  refine y_iconst rfl ?_
  refine y_istore_n (ls' := [some _, some _, some _, some _]) rfl rfl rfl ?_
  exact lp_debtC hS hC hQ 100 _ _ (by decide) (by rw [yz_0]; omega) rfl (by rw [yz_0]; omega)
theorem lp_openC (hS : ySh n tg R) (hC : yCI I) {x1 : Int32} (hQ : ∀ v : Int32, v = yOl I x1.toInt → Q (.inl (some (.int v))) (n, tg, I, R) c s) : ∀ (m : Nat) (x2 : Int32) (x3 : Int32), (0 ≤ x3.toInt) → (x3.toInt ≤ (I 59 0).toInt) → (x2 = yFz (fun j => if (I 65 j).toInt = 0 ∧ (I 62 j).toInt = x1.toInt then Int32.ofInt 1 else Int32.ofInt 0) x3.toInt.toNat) → (I 59 0).toInt - x3.toInt < m → yW xm_X2_openOf xc_X2_openOf_4 [some (.ref 59), some (.int x1), some (.int x2), some (.int x3)] [] (n, tg, I, R) c s Q := by
  intro m
  induction m with
  | zero => intro x2 x3 i0 i1 i2 hm; exfalso; omega
  | succ m ih =>
    intro x2 x3 i0 i1 i2 hm
    refine y_iload_n rfl rfl ?_
    refine y_aload_n rfl rfl ?_
    refine y_getI rfl (ySh.t hS rfl) (ySh.n hS rfl) rfl rfl ?_
    refine y_icmp_ge rfl j_X2_openOf_45 (fun h_1 => ?_) (fun h_2 => ?_)
    · refine y_iload_n rfl rfl ?_
      refine y_ireturn rfl rfl rfl ?_
      exact hQ _ (by show _ = yFz _ (I 59 0).toInt.toNat; rw [show (I 59 0).toInt.toNat = x3.toInt.toNat by omega]; assumption)
    · refine y_iload_n rfl rfl ?_
      refine y_aload_n rfl rfl ?_
      refine y_getR rfl (ySh.t hS rfl) (ySh.n hS rfl) rfl rfl (ySh.r hS rfl) ?_
      refine y_iload_n rfl rfl ?_
      refine y_baload rfl (ySh.t hS rfl) rfl (ySh.n hS rfl) (by omega) (by omega) ?_
      refine y_if_ne rfl j_X2_openOf_36 (fun h_3 => ?_) (fun h_4 => ?_)
      · refine y_iconst rfl ?_
        refine y_iadd rfl ?_
        refine y_istore_n (ls' := [some _, some _, some _, some _]) rfl rfl rfl ?_
        refine y_iinc (ls' := [some _, some _, some _, some _]) rfl rfl rfl rfl ?_
        refine y_goto rfl j_X2_openOf_4 ?_
        exact ih _ _ (by first | omega | (rw [yinc (by omega)]; omega)) (by first | omega | (rw [yinc (by omega)]; omega)) (by first | exact yFs_nx (by omega) (by assumption) rfl | exact yFs_nx (by omega) (by assumption) (if_pos (by omega)).symm | exact yFs_nx (by omega) (by assumption) (if_neg (by omega)).symm | exact yFz_nz (by omega) (by assumption) (if_neg (by omega)) | exact yFz_nz (by omega) (by assumption) (if_pos (by omega))) (by first | omega | (rw [yinc (by omega)]; omega))
      · refine y_aload_n rfl rfl ?_
        refine y_getR rfl (ySh.t hS rfl) (ySh.n hS rfl) rfl rfl (ySh.r hS rfl) ?_
        refine y_iload_n rfl rfl ?_
        refine y_iaload rfl (ySh.t hS rfl) (ySh.n hS rfl) (by omega) (by omega) ?_
        refine y_iload_n rfl rfl ?_
        refine y_icmp_ne rfl j_X2_openOf_36 (fun h_5 => ?_) (fun h_6 => ?_)
        · refine y_iconst rfl ?_
          refine y_iadd rfl ?_
          refine y_istore_n (ls' := [some _, some _, some _, some _]) rfl rfl rfl ?_
          refine y_iinc (ls' := [some _, some _, some _, some _]) rfl rfl rfl rfl ?_
          refine y_goto rfl j_X2_openOf_4 ?_
          exact ih _ _ (by first | omega | (rw [yinc (by omega)]; omega)) (by first | omega | (rw [yinc (by omega)]; omega)) (by first | exact yFs_nx (by omega) (by assumption) rfl | exact yFs_nx (by omega) (by assumption) (if_pos (by omega)).symm | exact yFs_nx (by omega) (by assumption) (if_neg (by omega)).symm | exact yFz_nz (by omega) (by assumption) (if_neg (by omega)) | exact yFz_nz (by omega) (by assumption) (if_pos (by omega))) (by first | omega | (rw [yinc (by omega)]; omega))
        · refine y_iconst rfl ?_
          refine y_goto rfl j_X2_openOf_37 ?_
          refine y_iadd rfl ?_
          refine y_istore_n (ls' := [some _, some _, some _, some _]) rfl rfl rfl ?_
          refine y_iinc (ls' := [some _, some _, some _, some _]) rfl rfl rfl rfl ?_
          refine y_goto rfl j_X2_openOf_4 ?_
          exact ih _ _ (by first | omega | (rw [yinc (by omega)]; omega)) (by first | omega | (rw [yinc (by omega)]; omega)) (by first | exact yFs_nx (by omega) (by assumption) rfl | exact yFs_nx (by omega) (by assumption) (if_pos (by omega)).symm | exact yFs_nx (by omega) (by assumption) (if_neg (by omega)).symm | exact yFz_nz (by omega) (by assumption) (if_neg (by omega)) | exact yFz_nz (by omega) (by assumption) (if_pos (by omega))) (by first | omega | (rw [yinc (by omega)]; omega))
theorem sc_openC (hS : ySh n tg R) (hC : yCI I) {x1 : Int32} (hQ : ∀ v : Int32, v = yOl I x1.toInt → Q (.inl (some (.int v))) (n, tg, I, R) c s) : yC 57 [.ref 59, .int x1] (n, tg, I, R) c s Q := by
  refine y_in (M := xm_X2_openOf) (ls := [some _, some _, _, _]) rfl rfl rfl ?_
  refine y_iconst rfl ?_
  refine y_istore_n (ls' := [some _, some _, some _, _]) rfl rfl rfl ?_
  refine y_iconst rfl ?_
  refine y_istore_n (ls' := [some _, some _, some _, some _]) rfl rfl rfl ?_
  exact lp_openC hS hC hQ 100 _ _ (by decide) (by rw [yz_0]; omega) rfl (by rw [yz_0]; omega)
theorem lp_capC (hS : ySh n tg R) (hC : yCI I) {x1 : Int32} (hv0 : 0 ≤ x1.toInt) (hv1 : x1.toInt < 9) (hQ : ∀ v : Int32, v = yCe I x1.toInt.toNat → Q (.inl (some (.int v))) (n, tg, I, R) c s) : ∀ (m : Nat) (x2 : Int32) (x3 : Int32), (0 ≤ x3.toInt) → (x3.toInt ≤ (I 69 0).toInt) → (x2 = yFz (fun j => I 71 (j * 9 + x1.toInt.toNat)) x3.toInt.toNat) → (I 69 0).toInt - x3.toInt < m → yW xm_X7_capitalEverywhere xc_X7_capitalEverywhere_4 [some (.ref 69), some (.int x1), some (.int x2), some (.int x3)] [] (n, tg, I, R) c s Q := by
  intro m
  induction m with
  | zero => intro x2 x3 i0 i1 i2 hm; exfalso; omega
  | succ m ih =>
    intro x2 x3 i0 i1 i2 hm
    refine y_iload_n rfl rfl ?_
    refine y_aload_n rfl rfl ?_
    refine y_getI rfl (ySh.t hS rfl) (ySh.n hS rfl) rfl rfl ?_
    refine y_icmp_ge rfl j_X7_capitalEverywhere_27 (fun h_1 => ?_) (fun h_2 => ?_)
    · refine y_iload_n rfl rfl ?_
      refine y_ireturn rfl rfl rfl ?_
      exact hQ _ (by show _ = yFz _ (I 69 0).toInt.toNat; rw [show (I 69 0).toInt.toNat = x3.toInt.toNat by omega]; assumption)
    · refine y_iload_n rfl rfl ?_
      refine y_aload_n rfl rfl ?_
      refine y_iload_n rfl rfl ?_
      refine y_iload_n rfl rfl ?_
      refine y_virt rfl rfl rfl rfl rfl (ySh.t hS rfl) (ySh.n hS rfl) ?_
      refine y_in (M := xm_X7_capitalOf) (ls := [some _, some _, some _]) rfl rfl rfl ?_
      refine y_aload_n rfl rfl ?_
      refine y_getR rfl (ySh.t hS rfl) (ySh.n hS rfl) rfl rfl (ySh.r hS rfl) ?_
      refine y_aload_n rfl rfl ?_
      refine y_iload_n rfl rfl ?_
      refine y_iload_n rfl rfl ?_
      refine y_virt rfl rfl rfl rfl rfl (ySh.t hS rfl) (ySh.n hS rfl) ?_
      refine spx_at (by omega) (by omega) (by omega) (by omega) (fun hz3 => ?_)
      refine y_ret1 ?_
      refine y_iaload rfl (ySh.t hS rfl) (ySh.n hS rfl) (by omega) (by omega) ?_
      refine y_ireturn rfl rfl rfl ?_
      refine y_ret1 ?_
      refine y_iadd rfl ?_
      refine y_istore_n (ls' := [some _, some _, some _, some _]) rfl rfl rfl ?_
      refine y_iinc (ls' := [some _, some _, some _, some _]) rfl rfl rfl rfl ?_
      refine y_goto rfl j_X7_capitalEverywhere_4 ?_
      exact ih _ _ (by first | omega | (rw [yinc (by omega)]; omega)) (by first | omega | (rw [yinc (by omega)]; omega)) (yFs_nx (by omega) (by assumption) (congrArg (I 71) (by omega))) (by first | omega | (rw [yinc (by omega)]; omega))
theorem sc_capC (hS : ySh n tg R) (hC : yCI I) {x1 : Int32} (hv0 : 0 ≤ x1.toInt) (hv1 : x1.toInt < 9) (hQ : ∀ v : Int32, v = yCe I x1.toInt.toNat → Q (.inl (some (.int v))) (n, tg, I, R) c s) : yC 118 [.ref 69, .int x1] (n, tg, I, R) c s Q := by
  refine y_in (M := xm_X7_capitalEverywhere) (ls := [some _, some _, _, _]) rfl rfl rfl ?_
  refine y_iconst rfl ?_
  refine y_istore_n (ls' := [some _, some _, some _, _]) rfl rfl rfl ?_
  refine y_iconst rfl ?_
  refine y_istore_n (ls' := [some _, some _, some _, some _]) rfl rfl rfl ?_
  exact lp_capC hS hC hv0 hv1 hQ 100 _ _ (by decide) (by rw [yz_0]; omega) rfl (by rw [yz_0]; omega)
theorem lp_voidC (hS : ySh n tg R) (hC : yCI I) (hQ : ∀ v : Int32, v = yVd I → Q (.inl (some (.int v))) (n, tg, I, R) c s) : ∀ (m : Nat) (x1 : Int32) (x2 : Int32), (0 ≤ x2.toInt) → (x2.toInt ≤ (I 48 0).toInt) → (x1 = yFz (fun j => if (I 53 j).toInt = 0 then Int32.ofInt 0 else Int32.ofInt 1) x2.toInt.toNat) → (I 48 0).toInt - x2.toInt < m → yW xm_X5_countVoid xc_X5_countVoid_4 [some (.ref 48), some (.int x1), some (.int x2)] [] (n, tg, I, R) c s Q := by
  intro m
  induction m with
  | zero => intro x1 x2 i0 i1 i2 hm; exfalso; omega
  | succ m ih =>
    intro x1 x2 i0 i1 i2 hm
    refine y_iload_n rfl rfl ?_
    refine y_aload_n rfl rfl ?_
    refine y_getI rfl (ySh.t hS rfl) (ySh.n hS rfl) rfl rfl ?_
    refine y_icmp_ge rfl j_X5_countVoid_34 (fun h_1 => ?_) (fun h_2 => ?_)
    · refine y_iload_n rfl rfl ?_
      refine y_ireturn rfl rfl rfl ?_
      exact hQ _ (by show _ = yFz _ (I 48 0).toInt.toNat; rw [show (I 48 0).toInt.toNat = x2.toInt.toNat by omega]; assumption)
    · refine y_iload_n rfl rfl ?_
      refine y_aload_n rfl rfl ?_
      refine y_iload_n rfl rfl ?_
      refine y_virt rfl rfl rfl rfl rfl (ySh.t hS rfl) (ySh.n hS rfl) ?_
      refine y_in (M := xm_X5_isVoid) (ls := [some _, some _]) rfl rfl rfl ?_
      refine y_aload_n rfl rfl ?_
      refine y_getR rfl (ySh.t hS rfl) (ySh.n hS rfl) rfl rfl (ySh.r hS rfl) ?_
      refine y_iload_n rfl rfl ?_
      refine y_iaload rfl (ySh.t hS rfl) (ySh.n hS rfl) (by omega) (by omega) ?_
      refine y_if_eq rfl j_X5_isVoid_13 (fun h_3 => ?_) (fun h_4 => ?_)
      · refine y_iconst rfl ?_
        refine y_ireturn rfl rfl rfl ?_
        refine y_ret1 ?_
        refine y_if_eqT rfl j_X5_countVoid_25 (by decide) ?_
        refine y_iconst rfl ?_
        refine y_iadd rfl ?_
        refine y_istore_n (ls' := [some _, some _, some _]) rfl rfl rfl ?_
        refine y_iinc (ls' := [some _, some _, some _]) rfl rfl rfl rfl ?_
        refine y_goto rfl j_X5_countVoid_4 ?_
        exact ih _ _ (by first | omega | (rw [yinc (by omega)]; omega)) (by first | omega | (rw [yinc (by omega)]; omega)) (by first | exact yFs_nx (by omega) (by assumption) rfl | exact yFs_nx (by omega) (by assumption) (if_pos (by omega)).symm | exact yFs_nx (by omega) (by assumption) (if_neg (by omega)).symm | exact yFz_nz (by omega) (by assumption) (if_neg (by omega)) | exact yFz_nz (by omega) (by assumption) (if_pos (by omega))) (by first | omega | (rw [yinc (by omega)]; omega))
      · refine y_iconst rfl ?_
        refine y_goto rfl j_X5_isVoid_14 ?_
        refine y_ireturn rfl rfl rfl ?_
        refine y_ret1 ?_
        refine y_if_eqF rfl (by decide) ?_
        refine y_iconst rfl ?_
        refine y_goto rfl j_X5_countVoid_26 ?_
        refine y_iadd rfl ?_
        refine y_istore_n (ls' := [some _, some _, some _]) rfl rfl rfl ?_
        refine y_iinc (ls' := [some _, some _, some _]) rfl rfl rfl rfl ?_
        refine y_goto rfl j_X5_countVoid_4 ?_
        exact ih _ _ (by first | omega | (rw [yinc (by omega)]; omega)) (by first | omega | (rw [yinc (by omega)]; omega)) (by first | exact yFs_nx (by omega) (by assumption) rfl | exact yFs_nx (by omega) (by assumption) (if_pos (by omega)).symm | exact yFs_nx (by omega) (by assumption) (if_neg (by omega)).symm | exact yFz_nz (by omega) (by assumption) (if_neg (by omega)) | exact yFz_nz (by omega) (by assumption) (if_pos (by omega))) (by first | omega | (rw [yinc (by omega)]; omega))
theorem sc_voidC (hS : ySh n tg R) (hC : yCI I) (hQ : ∀ v : Int32, v = yVd I → Q (.inl (some (.int v))) (n, tg, I, R) c s) : yC 91 [.ref 48] (n, tg, I, R) c s Q := by
  refine y_in (M := xm_X5_countVoid) (ls := [some _, _, _]) rfl rfl rfl ?_
  refine y_iconst rfl ?_
  refine y_istore_n (ls' := [some _, some _, _]) rfl rfl rfl ?_
  refine y_iconst rfl ?_
  refine y_istore_n (ls' := [some _, some _, some _]) rfl rfl rfl ?_
  exact lp_voidC hS hC hQ 100 _ _ (by decide) (by rw [yz_0]; omega) rfl (by rw [yz_0]; omega)
theorem lp_doneC (hS : ySh n tg R) (hC : yCI I) (hQ : ∀ v : Int32, v = yDn I → Q (.inl (some (.int v))) (n, tg, I, R) c s) : ∀ (m : Nat) (x1 : Int32) (x2 : Int32), (0 ≤ x2.toInt) → (x2.toInt ≤ (I 48 0).toInt) → (x1 = yFz (fun j => if (I 53 j).toInt = 0 ∧ (I 54 j).toInt ≤ (I 55 j).toInt then Int32.ofInt 1 else Int32.ofInt 0) x2.toInt.toNat) → (I 48 0).toInt - x2.toInt < m → yW xm_X5_countDone xc_X5_countDone_4 [some (.ref 48), some (.int x1), some (.int x2)] [] (n, tg, I, R) c s Q := by
  intro m
  induction m with
  | zero => intro x1 x2 i0 i1 i2 hm; exfalso; omega
  | succ m ih =>
    intro x1 x2 i0 i1 i2 hm
    refine y_iload_n rfl rfl ?_
    refine y_aload_n rfl rfl ?_
    refine y_getI rfl (ySh.t hS rfl) (ySh.n hS rfl) rfl rfl ?_
    refine y_icmp_ge rfl j_X5_countDone_34 (fun h_1 => ?_) (fun h_2 => ?_)
    · refine y_iload_n rfl rfl ?_
      refine y_ireturn rfl rfl rfl ?_
      exact hQ _ (by show _ = yFz _ (I 48 0).toInt.toNat; rw [show (I 48 0).toInt.toNat = x2.toInt.toNat by omega]; assumption)
    · refine y_iload_n rfl rfl ?_
      refine y_aload_n rfl rfl ?_
      refine y_iload_n rfl rfl ?_
      refine y_virt rfl rfl rfl rfl rfl (ySh.t hS rfl) (ySh.n hS rfl) ?_
      refine y_in (M := xm_X5_isDone) (ls := [some _, some _]) rfl rfl rfl ?_
      refine y_aload_n rfl rfl ?_
      refine y_iload_n rfl rfl ?_
      refine y_virt rfl rfl rfl rfl rfl (ySh.t hS rfl) (ySh.n hS rfl) ?_
      refine y_in (M := xm_X5_isVoid) (ls := [some _, some _]) rfl rfl rfl ?_
      refine y_aload_n rfl rfl ?_
      refine y_getR rfl (ySh.t hS rfl) (ySh.n hS rfl) rfl rfl (ySh.r hS rfl) ?_
      refine y_iload_n rfl rfl ?_
      refine y_iaload rfl (ySh.t hS rfl) (ySh.n hS rfl) (by omega) (by omega) ?_
      refine y_if_eq rfl j_X5_isVoid_13 (fun h_3 => ?_) (fun h_4 => ?_)
      · refine y_iconst rfl ?_
        refine y_ireturn rfl rfl rfl ?_
        refine y_ret1 ?_
        refine y_if_neF rfl (by decide) ?_
        refine y_aload_n rfl rfl ?_
        refine y_getR rfl (ySh.t hS rfl) (ySh.n hS rfl) rfl rfl (ySh.r hS rfl) ?_
        refine y_iload_n rfl rfl ?_
        refine y_iaload rfl (ySh.t hS rfl) (ySh.n hS rfl) (by omega) (by omega) ?_
        refine y_aload_n rfl rfl ?_
        refine y_getR rfl (ySh.t hS rfl) (ySh.n hS rfl) rfl rfl (ySh.r hS rfl) ?_
        refine y_iload_n rfl rfl ?_
        refine y_iaload rfl (ySh.t hS rfl) (ySh.n hS rfl) (by omega) (by omega) ?_
        refine y_icmp_lt rfl j_X5_isDone_27 (fun h_5 => ?_) (fun h_6 => ?_)
        · refine y_iconst rfl ?_
          refine y_ireturn rfl rfl rfl ?_
          refine y_ret1 ?_
          refine y_if_eqT rfl j_X5_countDone_25 (by decide) ?_
          refine y_iconst rfl ?_
          refine y_iadd rfl ?_
          refine y_istore_n (ls' := [some _, some _, some _]) rfl rfl rfl ?_
          refine y_iinc (ls' := [some _, some _, some _]) rfl rfl rfl rfl ?_
          refine y_goto rfl j_X5_countDone_4 ?_
          exact ih _ _ (by first | omega | (rw [yinc (by omega)]; omega)) (by first | omega | (rw [yinc (by omega)]; omega)) (by first | exact yFs_nx (by omega) (by assumption) rfl | exact yFs_nx (by omega) (by assumption) (if_pos (by omega)).symm | exact yFs_nx (by omega) (by assumption) (if_neg (by omega)).symm | exact yFz_nz (by omega) (by assumption) (if_neg (by omega)) | exact yFz_nz (by omega) (by assumption) (if_pos (by omega))) (by first | omega | (rw [yinc (by omega)]; omega))
        · refine y_iconst rfl ?_
          refine y_goto rfl j_X5_isDone_28 ?_
          refine y_ireturn rfl rfl rfl ?_
          refine y_ret1 ?_
          refine y_if_eqF rfl (by decide) ?_
          refine y_iconst rfl ?_
          refine y_goto rfl j_X5_countDone_26 ?_
          refine y_iadd rfl ?_
          refine y_istore_n (ls' := [some _, some _, some _]) rfl rfl rfl ?_
          refine y_iinc (ls' := [some _, some _, some _]) rfl rfl rfl rfl ?_
          refine y_goto rfl j_X5_countDone_4 ?_
          exact ih _ _ (by first | omega | (rw [yinc (by omega)]; omega)) (by first | omega | (rw [yinc (by omega)]; omega)) (by first | exact yFs_nx (by omega) (by assumption) rfl | exact yFs_nx (by omega) (by assumption) (if_pos (by omega)).symm | exact yFs_nx (by omega) (by assumption) (if_neg (by omega)).symm | exact yFz_nz (by omega) (by assumption) (if_neg (by omega)) | exact yFz_nz (by omega) (by assumption) (if_pos (by omega))) (by first | omega | (rw [yinc (by omega)]; omega))
      · refine y_iconst rfl ?_
        refine y_goto rfl j_X5_isVoid_14 ?_
        refine y_ireturn rfl rfl rfl ?_
        refine y_ret1 ?_
        refine y_if_neT rfl j_X5_isDone_27 (by decide) ?_
        refine y_iconst rfl ?_
        refine y_ireturn rfl rfl rfl ?_
        refine y_ret1 ?_
        refine y_if_eqT rfl j_X5_countDone_25 (by decide) ?_
        refine y_iconst rfl ?_
        refine y_iadd rfl ?_
        refine y_istore_n (ls' := [some _, some _, some _]) rfl rfl rfl ?_
        refine y_iinc (ls' := [some _, some _, some _]) rfl rfl rfl rfl ?_
        refine y_goto rfl j_X5_countDone_4 ?_
        exact ih _ _ (by first | omega | (rw [yinc (by omega)]; omega)) (by first | omega | (rw [yinc (by omega)]; omega)) (by first | exact yFs_nx (by omega) (by assumption) rfl | exact yFs_nx (by omega) (by assumption) (if_pos (by omega)).symm | exact yFs_nx (by omega) (by assumption) (if_neg (by omega)).symm | exact yFz_nz (by omega) (by assumption) (if_neg (by omega)) | exact yFz_nz (by omega) (by assumption) (if_pos (by omega))) (by first | omega | (rw [yinc (by omega)]; omega))
theorem sc_doneC (hS : ySh n tg R) (hC : yCI I) (hQ : ∀ v : Int32, v = yDn I → Q (.inl (some (.int v))) (n, tg, I, R) c s) : yC 92 [.ref 48] (n, tg, I, R) c s Q := by
  refine y_in (M := xm_X5_countDone) (ls := [some _, _, _]) rfl rfl rfl ?_
  refine y_iconst rfl ?_
  refine y_istore_n (ls' := [some _, some _, _]) rfl rfl rfl ?_
  refine y_iconst rfl ?_
  refine y_istore_n (ls' := [some _, some _, some _]) rfl rfl rfl ?_
  exact lp_doneC hS hC hQ 100 _ _ (by decide) (by rw [yz_0]; omega) rfl (by rw [yz_0]; omega)
theorem lp_leasC (hS : ySh n tg R) (hC : yCI I) (hQ : ∀ v : Int32, v = yLo I → Q (.inl (some (.int v))) (n, tg, I, R) c s) : ∀ (m : Nat) (x1 : Int32) (x2 : Int32), (0 ≤ x2.toInt) → (x2.toInt ≤ (I 59 0).toInt) → (x1 = yFz (fun j => if (I 65 j).toInt = 0 then Int32.ofInt 1 else Int32.ofInt 0) x2.toInt.toNat) → (I 59 0).toInt - x2.toInt < m → yW xm_X2_countOpen xc_X2_countOpen_4 [some (.ref 59), some (.int x1), some (.int x2)] [] (n, tg, I, R) c s Q := by
  intro m
  induction m with
  | zero => intro x1 x2 i0 i1 i2 hm; exfalso; omega
  | succ m ih =>
    intro x1 x2 i0 i1 i2 hm
    refine y_iload_n rfl rfl ?_
    refine y_aload_n rfl rfl ?_
    refine y_getI rfl (ySh.t hS rfl) (ySh.n hS rfl) rfl rfl ?_
    refine y_icmp_ge rfl j_X2_countOpen_35 (fun h_1 => ?_) (fun h_2 => ?_)
    · refine y_iload_n rfl rfl ?_
      refine y_ireturn rfl rfl rfl ?_
      exact hQ _ (by show _ = yFz _ (I 59 0).toInt.toNat; rw [show (I 59 0).toInt.toNat = x2.toInt.toNat by omega]; assumption)
    · refine y_iload_n rfl rfl ?_
      refine y_aload_n rfl rfl ?_
      refine y_getR rfl (ySh.t hS rfl) (ySh.n hS rfl) rfl rfl (ySh.r hS rfl) ?_
      refine y_iload_n rfl rfl ?_
      refine y_baload rfl (ySh.t hS rfl) rfl (ySh.n hS rfl) (by omega) (by omega) ?_
      refine y_if_eq rfl j_X2_countOpen_26 (fun h_3 => ?_) (fun h_4 => ?_)
      · refine y_iconst rfl ?_
        refine y_iadd rfl ?_
        refine y_istore_n (ls' := [some _, some _, some _]) rfl rfl rfl ?_
        refine y_iinc (ls' := [some _, some _, some _]) rfl rfl rfl rfl ?_
        refine y_goto rfl j_X2_countOpen_4 ?_
        exact ih _ _ (by first | omega | (rw [yinc (by omega)]; omega)) (by first | omega | (rw [yinc (by omega)]; omega)) (by first | exact yFs_nx (by omega) (by assumption) rfl | exact yFs_nx (by omega) (by assumption) (if_pos (by omega)).symm | exact yFs_nx (by omega) (by assumption) (if_neg (by omega)).symm | exact yFz_nz (by omega) (by assumption) (if_neg (by omega)) | exact yFz_nz (by omega) (by assumption) (if_pos (by omega))) (by first | omega | (rw [yinc (by omega)]; omega))
      · refine y_iconst rfl ?_
        refine y_goto rfl j_X2_countOpen_27 ?_
        refine y_iadd rfl ?_
        refine y_istore_n (ls' := [some _, some _, some _]) rfl rfl rfl ?_
        refine y_iinc (ls' := [some _, some _, some _]) rfl rfl rfl rfl ?_
        refine y_goto rfl j_X2_countOpen_4 ?_
        exact ih _ _ (by first | omega | (rw [yinc (by omega)]; omega)) (by first | omega | (rw [yinc (by omega)]; omega)) (by first | exact yFs_nx (by omega) (by assumption) rfl | exact yFs_nx (by omega) (by assumption) (if_pos (by omega)).symm | exact yFs_nx (by omega) (by assumption) (if_neg (by omega)).symm | exact yFz_nz (by omega) (by assumption) (if_neg (by omega)) | exact yFz_nz (by omega) (by assumption) (if_pos (by omega))) (by first | omega | (rw [yinc (by omega)]; omega))
theorem sc_leasC (hS : ySh n tg R) (hC : yCI I) (hQ : ∀ v : Int32, v = yLo I → Q (.inl (some (.int v))) (n, tg, I, R) c s) : yC 58 [.ref 59] (n, tg, I, R) c s Q := by
  refine y_in (M := xm_X2_countOpen) (ls := [some _, _, _]) rfl rfl rfl ?_
  refine y_iconst rfl ?_
  refine y_istore_n (ls' := [some _, some _, _]) rfl rfl rfl ?_
  refine y_iconst rfl ?_
  refine y_istore_n (ls' := [some _, some _, some _]) rfl rfl rfl ?_
  exact lp_leasC hS hC hQ 100 _ _ (by decide) (by rw [yz_0]; omega) rfl (by rw [yz_0]; omega)
theorem lp_cashC (hS : ySh n tg R) (hC : yCI I) (hQ : ∀ v : Int32, v = yFz (I 39) (I 38 0).toInt.toNat → Q (.inl (some (.int v))) (n, tg, I, R) c s) : ∀ (m : Nat) (x1 : Int32) (x2 : Int32), (0 ≤ x2.toInt) → (x2.toInt ≤ (I 38 0).toInt) → (x1 = yFz (I 39) x2.toInt.toNat) → (I 38 0).toInt - x2.toInt < m → yW xm_X4_cashOfPeople xc_X4_cashOfPeople_4 [some (.ref 38), some (.int x1), some (.int x2)] [] (n, tg, I, R) c s Q := by
  intro m
  induction m with
  | zero => intro x1 x2 i0 i1 i2 hm; exfalso; omega
  | succ m ih =>
    intro x1 x2 i0 i1 i2 hm
    refine y_iload_n rfl rfl ?_
    refine y_aload_n rfl rfl ?_
    refine y_getI rfl (ySh.t hS rfl) (ySh.n hS rfl) rfl rfl ?_
    refine y_icmp_ge rfl j_X4_cashOfPeople_27 (fun h_1 => ?_) (fun h_2 => ?_)
    · refine y_iload_n rfl rfl ?_
      refine y_ireturn rfl rfl rfl ?_
      exact hQ _ (by show _ = yFz _ (I 38 0).toInt.toNat; rw [show (I 38 0).toInt.toNat = x2.toInt.toNat by omega]; assumption)
    · refine y_iload_n rfl rfl ?_
      refine y_aload_n rfl rfl ?_
      refine y_getR rfl (ySh.t hS rfl) (ySh.n hS rfl) rfl rfl (ySh.r hS rfl) ?_
      refine y_iload_n rfl rfl ?_
      refine y_iaload rfl (ySh.t hS rfl) (ySh.n hS rfl) (by omega) (by omega) ?_
      refine y_iadd rfl ?_
      refine y_istore_n (ls' := [some _, some _, some _]) rfl rfl rfl ?_
      refine y_iinc (ls' := [some _, some _, some _]) rfl rfl rfl rfl ?_
      refine y_goto rfl j_X4_cashOfPeople_4 ?_
      exact ih _ _ (by first | omega | (rw [yinc (by omega)]; omega)) (by first | omega | (rw [yinc (by omega)]; omega)) (by first | exact yFs_nx (by omega) (by assumption) rfl | exact yFs_nx (by omega) (by assumption) (if_pos (by omega)).symm | exact yFs_nx (by omega) (by assumption) (if_neg (by omega)).symm | exact yFz_nz (by omega) (by assumption) (if_neg (by omega)) | exact yFz_nz (by omega) (by assumption) (if_pos (by omega))) (by first | omega | (rw [yinc (by omega)]; omega))
theorem sc_cashC (hS : ySh n tg R) (hC : yCI I) (hQ : ∀ v : Int32, v = yFz (I 39) (I 38 0).toInt.toNat → Q (.inl (some (.int v))) (n, tg, I, R) c s) : yC 75 [.ref 38] (n, tg, I, R) c s Q := by
  refine y_in (M := xm_X4_cashOfPeople) (ls := [some _, _, _]) rfl rfl rfl ?_
  refine y_iconst rfl ?_
  refine y_istore_n (ls' := [some _, some _, _]) rfl rfl rfl ?_
  refine y_iconst rfl ?_
  refine y_istore_n (ls' := [some _, some _, some _]) rfl rfl rfl ?_
  exact lp_cashC hS hC hQ 100 _ _ (by decide) (by rw [yz_0]; omega) rfl (by rw [yz_0]; omega)
theorem lp_depsC (hS : ySh n tg R) (hC : yCI I) (hQ : ∀ v : Int32, v = yFz (I 75) 8 → Q (.inl (some (.int v))) (n, tg, I, R) c s) : ∀ (m : Nat) (x1 : Int32) (x2 : Int32), (0 ≤ x2.toInt) → (x2.toInt ≤ 8) → (x1 = yFz (I 75) x2.toInt.toNat) → 8 - x2.toInt < m → yW xm_X3_deposits xc_X3_deposits_4 [some (.ref 74), some (.int x1), some (.int x2)] [] (n, tg, I, R) c s Q := by
  intro m
  induction m with
  | zero => intro x1 x2 i0 i1 i2 hm; exfalso; omega
  | succ m ih =>
    intro x1 x2 i0 i1 i2 hm
    refine y_iload_n rfl rfl ?_
    refine y_bip rfl (by decide) ?_
    refine y_icmp_ge rfl j_X3_deposits_25 (fun h_1 => ?_) (fun h_2 => ?_)
    · rw [yz_8] at h_1
      refine y_iload_n rfl rfl ?_
      refine y_ireturn rfl rfl rfl ?_
      exact hQ _ (by show _ = yFz _ 8; rw [show (8 : Nat) = x2.toInt.toNat by omega]; assumption)
    · rw [yz_8] at h_2
      refine y_iload_n rfl rfl ?_
      refine y_aload_n rfl rfl ?_
      refine y_getR rfl (ySh.t hS rfl) (ySh.n hS rfl) rfl rfl (ySh.r hS rfl) ?_
      refine y_iload_n rfl rfl ?_
      refine y_iaload rfl (ySh.t hS rfl) (ySh.n hS rfl) (by omega) (by omega) ?_
      refine y_iadd rfl ?_
      refine y_istore_n (ls' := [some _, some _, some _]) rfl rfl rfl ?_
      refine y_iinc (ls' := [some _, some _, some _]) rfl rfl rfl rfl ?_
      refine y_goto rfl j_X3_deposits_4 ?_
      exact ih _ _ (by first | omega | (rw [yinc (by omega)]; omega)) (by first | omega | (rw [yinc (by omega)]; omega)) (by first | exact yFs_nx (by omega) (by assumption) rfl | exact yFs_nx (by omega) (by assumption) (if_pos (by omega)).symm | exact yFs_nx (by omega) (by assumption) (if_neg (by omega)).symm | exact yFz_nz (by omega) (by assumption) (if_neg (by omega)) | exact yFz_nz (by omega) (by assumption) (if_pos (by omega))) (by first | omega | (rw [yinc (by omega)]; omega))
theorem sc_depsC (hS : ySh n tg R) (hC : yCI I) (hQ : ∀ v : Int32, v = yFz (I 75) 8 → Q (.inl (some (.int v))) (n, tg, I, R) c s) : yC 66 [.ref 74] (n, tg, I, R) c s Q := by
  refine y_in (M := xm_X3_deposits) (ls := [some _, _, _]) rfl rfl rfl ?_
  refine y_iconst rfl ?_
  refine y_istore_n (ls' := [some _, some _, _]) rfl rfl rfl ?_
  refine y_iconst rfl ?_
  refine y_istore_n (ls' := [some _, some _, some _]) rfl rfl rfl ?_
  exact lp_depsC hS hC hQ 100 _ _ (by decide) (by decide) rfl (by decide)
theorem lp_feesC (hS : ySh n tg R) (hC : yCI I) (hQ : ∀ v : Int32, v = yFl I → Q (.inl (some (.int v))) (n, tg, I, R) c s) : ∀ (m : Nat) (x1 : Int32) (x2 : Int32), (0 ≤ x2.toInt) → (x2.toInt ≤ (I 48 0).toInt) → (x1 = yFz (I 57) x2.toInt.toNat) → (I 48 0).toInt - x2.toInt < m → yW xm_X5_allFees xc_X5_allFees_4 [some (.ref 48), some (.int x1), some (.int x2)] [] (n, tg, I, R) c s Q := by
  intro m
  induction m with
  | zero => intro x1 x2 i0 i1 i2 hm; exfalso; omega
  | succ m ih =>
    intro x1 x2 i0 i1 i2 hm
    refine y_iload_n rfl rfl ?_
    refine y_aload_n rfl rfl ?_
    refine y_getI rfl (ySh.t hS rfl) (ySh.n hS rfl) rfl rfl ?_
    refine y_icmp_ge rfl j_X5_allFees_27 (fun h_1 => ?_) (fun h_2 => ?_)
    · refine y_iload_n rfl rfl ?_
      refine y_ireturn rfl rfl rfl ?_
      exact hQ _ (by show _ = yFz _ (I 48 0).toInt.toNat; rw [show (I 48 0).toInt.toNat = x2.toInt.toNat by omega]; assumption)
    · refine y_iload_n rfl rfl ?_
      refine y_aload_n rfl rfl ?_
      refine y_getR rfl (ySh.t hS rfl) (ySh.n hS rfl) rfl rfl (ySh.r hS rfl) ?_
      refine y_iload_n rfl rfl ?_
      refine y_iaload rfl (ySh.t hS rfl) (ySh.n hS rfl) (by omega) (by omega) ?_
      refine y_iadd rfl ?_
      refine y_istore_n (ls' := [some _, some _, some _]) rfl rfl rfl ?_
      refine y_iinc (ls' := [some _, some _, some _]) rfl rfl rfl rfl ?_
      refine y_goto rfl j_X5_allFees_4 ?_
      exact ih _ _ (by first | omega | (rw [yinc (by omega)]; omega)) (by first | omega | (rw [yinc (by omega)]; omega)) (by first | exact yFs_nx (by omega) (by assumption) rfl | exact yFs_nx (by omega) (by assumption) (if_pos (by omega)).symm | exact yFs_nx (by omega) (by assumption) (if_neg (by omega)).symm | exact yFz_nz (by omega) (by assumption) (if_neg (by omega)) | exact yFz_nz (by omega) (by assumption) (if_pos (by omega))) (by first | omega | (rw [yinc (by omega)]; omega))
theorem sc_feesC (hS : ySh n tg R) (hC : yCI I) (hQ : ∀ v : Int32, v = yFl I → Q (.inl (some (.int v))) (n, tg, I, R) c s) : yC 93 [.ref 48] (n, tg, I, R) c s Q := by
  refine y_in (M := xm_X5_allFees) (ls := [some _, _, _]) rfl rfl rfl ?_
  refine y_iconst rfl ?_
  refine y_istore_n (ls' := [some _, some _, _]) rfl rfl rfl ?_
  refine y_iconst rfl ?_
  refine y_istore_n (ls' := [some _, some _, some _]) rfl rfl rfl ?_
  exact lp_feesC hS hC hQ 100 _ _ (by decide) (by rw [yz_0]; omega) rfl (by rw [yz_0]; omega)
theorem lp_poolC (hS : ySh n tg R) (hC : yCI I) (hQ1 : ySp I → Q (.inl (some (.int (Int32.ofInt 1)))) (n, tg, I, R) c s) (hQ0 : ¬ ySp I → Q (.inl (some (.int (Int32.ofInt 0)))) (n, tg, I, R) c s) : ∀ (m : Nat) (x1 : Int32), (0 ≤ x1.toInt) → (x1.toInt ≤ 8) → (∀ j : Nat, (j : Int) < x1.toInt → 0 ≤ (I 75 j).toInt) → 8 - x1.toInt < m → yW xm_X3_isInOrder xc_X3_isInOrder_2 [some (.ref 74), some (.int x1)] [] (n, tg, I, R) c s Q := by
  intro m
  induction m with
  | zero => intro x1 i0 i1 i2 hm; exfalso; omega
  | succ m ih =>
    intro x1 i0 i1 i2 hm
    refine y_iload_n rfl rfl ?_
    refine y_bip rfl (by decide) ?_
    refine y_icmp_ge rfl j_X3_isInOrder_25 (fun h_1 => ?_) (fun h_2 => ?_)
    · rw [yz_8] at h_1
      refine y_aload_n rfl rfl ?_
      refine y_getI rfl (ySh.t hS rfl) (ySh.n hS rfl) rfl rfl ?_
      refine y_if_lt rfl j_X3_isInOrder_36 (fun h_3 => ?_) (fun h_4 => ?_)
      · refine y_iconst rfl ?_
        refine y_ireturn rfl rfl rfl ?_
        first | exact hQ0 (fun h => by have h_ := h.2; omega) | exact hQ0 (fun h => by have h_ := h.1 x1.toInt.toNat (by omega); omega)
      · refine y_iconst rfl ?_
        refine y_goto rfl j_X3_isInOrder_37 ?_
        refine y_ireturn rfl rfl rfl ?_
        first | exact hQ1 ⟨fun j hj => i2 j (by omega), by omega⟩ | exact hQ0 (fun h => by have h_ := h.2; omega)
    · rw [yz_8] at h_2
      refine y_aload_n rfl rfl ?_
      refine y_getR rfl (ySh.t hS rfl) (ySh.n hS rfl) rfl rfl (ySh.r hS rfl) ?_
      refine y_iload_n rfl rfl ?_
      refine y_iaload rfl (ySh.t hS rfl) (ySh.n hS rfl) (by omega) (by omega) ?_
      refine y_if_ge rfl j_X3_isInOrder_19 (fun h_5 => ?_) (fun h_6 => ?_)
      · refine y_iinc (ls' := [some _, some _]) rfl rfl rfl rfl ?_
        refine y_goto rfl j_X3_isInOrder_2 ?_
        exact ih _ (by first | omega | (rw [yinc (by omega)]; omega)) (by first | omega | (rw [yinc (by omega)]; omega)) (yAll_nx (by omega) (by assumption) (by omega)) (by first | omega | (rw [yinc (by omega)]; omega))
      · refine y_iconst rfl ?_
        refine y_ireturn rfl rfl rfl ?_
        first | exact hQ0 (fun h => by have h_ := h.2; omega) | exact hQ0 (fun h => by have h_ := h.1 x1.toInt.toNat (by omega); omega)
theorem sc_poolC (hS : ySh n tg R) (hC : yCI I) (hQ1 : ySp I → Q (.inl (some (.int (Int32.ofInt 1)))) (n, tg, I, R) c s) (hQ0 : ¬ ySp I → Q (.inl (some (.int (Int32.ofInt 0)))) (n, tg, I, R) c s) : yC 67 [.ref 74] (n, tg, I, R) c s Q := by
  refine y_in (M := xm_X3_isInOrder) (ls := [some _, _]) rfl rfl rfl ?_
  refine y_iconst rfl ?_
  refine y_istore_n (ls' := [some _, some _]) rfl rfl rfl ?_
  exact lp_poolC hS hC hQ1 hQ0 100 _ (by decide) (by decide) (fun j hj => absurd hj (by rw [yz_0]; omega)) (by decide)
theorem lp_thingsC (hS : ySh n tg R) (hC : yCI I) (hQ1 : ySt I → Q (.inl (some (.int (Int32.ofInt 1)))) (n, tg, I, R) c s) (hQ0 : ¬ ySt I → Q (.inl (some (.int (Int32.ofInt 0)))) (n, tg, I, R) c s) : ∀ (m : Nat) (x1 : Int32), (0 ≤ x1.toInt) → (x1.toInt ≤ (I 40 0).toInt) → (∀ j : Nat, (j : Int) < x1.toInt → ((I 47 j).toInt = -1 ∨ (I 42 j).toInt = 8 ∧ (I 44 j).toInt = 0)) → (I 40 0).toInt - x1.toInt < m → yW xm_X6_isInOrder xc_X6_isInOrder_2 [some (.ref 40), some (.int x1)] [] (n, tg, I, R) c s Q := by
  intro m
  induction m with
  | zero => intro x1 i0 i1 i2 hm; exfalso; omega
  | succ m ih =>
    intro x1 i0 i1 i2 hm
    refine y_iload_n rfl rfl ?_
    refine y_aload_n rfl rfl ?_
    refine y_getI rfl (ySh.t hS rfl) (ySh.n hS rfl) rfl rfl ?_
    refine y_icmp_ge rfl j_X6_isInOrder_46 (fun h_1 => ?_) (fun h_2 => ?_)
    · refine y_iconst rfl ?_
      refine y_ireturn rfl rfl rfl ?_
      exact hQ1 (fun j hj => i2 j (by omega))
    · refine y_aload_n rfl rfl ?_
      refine y_iload_n rfl rfl ?_
      refine y_virt rfl rfl rfl rfl rfl (ySh.t hS rfl) (ySh.n hS rfl) ?_
      refine y_in (M := xm_X6_isLeased) (ls := [some _, some _]) rfl rfl rfl ?_
      refine y_aload_n rfl rfl ?_
      refine y_getR rfl (ySh.t hS rfl) (ySh.n hS rfl) rfl rfl (ySh.r hS rfl) ?_
      refine y_iload_n rfl rfl ?_
      refine y_iaload rfl (ySh.t hS rfl) (ySh.n hS rfl) (by omega) (by omega) ?_
      refine y_iconst rfl ?_
      refine y_icmp_eq rfl j_X6_isLeased_14 (fun h_3 => ?_) (fun h_4 => ?_)
      · rw [yz_m1] at h_3
        refine y_iconst rfl ?_
        refine y_ireturn rfl rfl rfl ?_
        refine y_ret1 ?_
        refine y_if_eqT rfl j_X6_isInOrder_40 (by decide) ?_
        refine y_iinc (ls' := [some _, some _]) rfl rfl rfl rfl ?_
        refine y_goto rfl j_X6_isInOrder_2 ?_
        exact ih _ (by first | omega | (rw [yinc (by omega)]; omega)) (by first | omega | (rw [yinc (by omega)]; omega)) (yAll_nx (by omega) (by assumption) (by omega)) (by first | omega | (rw [yinc (by omega)]; omega))
      · rw [yz_m1] at h_4
        refine y_iconst rfl ?_
        refine y_goto rfl j_X6_isLeased_15 ?_
        refine y_ireturn rfl rfl rfl ?_
        refine y_ret1 ?_
        refine y_if_eqF rfl (by decide) ?_
        refine y_aload_n rfl rfl ?_
        refine y_getR rfl (ySh.t hS rfl) (ySh.n hS rfl) rfl rfl (ySh.r hS rfl) ?_
        refine y_iload_n rfl rfl ?_
        refine y_iaload rfl (ySh.t hS rfl) (ySh.n hS rfl) (by omega) (by omega) ?_
        refine y_bip rfl (by decide) ?_
        refine y_icmp_ne rfl j_X6_isInOrder_38 (fun h_5 => ?_) (fun h_6 => ?_)
        · rw [yz_8] at h_5
          refine y_iconst rfl ?_
          refine y_ireturn rfl rfl rfl ?_
          exact hQ0 (fun h => by have h_ := h x1.toInt.toNat (by omega); omega)
        · rw [yz_8] at h_6
          refine y_aload_n rfl rfl ?_
          refine y_getR rfl (ySh.t hS rfl) (ySh.n hS rfl) rfl rfl (ySh.r hS rfl) ?_
          refine y_iload_n rfl rfl ?_
          refine y_baload rfl (ySh.t hS rfl) rfl (ySh.n hS rfl) (by omega) (by omega) ?_
          refine y_if_eq rfl j_X6_isInOrder_40 (fun h_7 => ?_) (fun h_8 => ?_)
          · refine y_iinc (ls' := [some _, some _]) rfl rfl rfl rfl ?_
            refine y_goto rfl j_X6_isInOrder_2 ?_
            exact ih _ (by first | omega | (rw [yinc (by omega)]; omega)) (by first | omega | (rw [yinc (by omega)]; omega)) (yAll_nx (by omega) (by assumption) (by omega)) (by first | omega | (rw [yinc (by omega)]; omega))
          · refine y_iconst rfl ?_
            refine y_ireturn rfl rfl rfl ?_
            exact hQ0 (fun h => by have h_ := h x1.toInt.toNat (by omega); omega)
theorem sc_thingsC (hS : ySh n tg R) (hC : yCI I) (hQ1 : ySt I → Q (.inl (some (.int (Int32.ofInt 1)))) (n, tg, I, R) c s) (hQ0 : ¬ ySt I → Q (.inl (some (.int (Int32.ofInt 0)))) (n, tg, I, R) c s) : yC 103 [.ref 40] (n, tg, I, R) c s Q := by
  refine y_in (M := xm_X6_isInOrder) (ls := [some _, _]) rfl rfl rfl ?_
  refine y_iconst rfl ?_
  refine y_istore_n (ls' := [some _, some _]) rfl rfl rfl ?_
  exact lp_thingsC hS hC hQ1 hQ0 100 _ (by decide) (by rw [yz_0]; omega) (fun j hj => absurd hj (by rw [yz_0]; omega)) (by rw [yz_0]; omega)
theorem lp_salesC (hS : ySh n tg R) (hC : yCI I) (hQ1 : ySs I → Q (.inl (some (.int (Int32.ofInt 1)))) (n, tg, I, R) c s) (hQ0 : ¬ ySs I → Q (.inl (some (.int (Int32.ofInt 0)))) (n, tg, I, R) c s) : ∀ (m : Nat) (x1 : Int32), (0 ≤ x1.toInt) → (x1.toInt ≤ (I 48 0).toInt) → (∀ j : Nat, (j : Int) < x1.toInt → ((I 53 j).toInt = 0 ∨ (I 55 j).toInt ≤ 0)) → (I 48 0).toInt - x1.toInt < m → yW xm_X5_isInOrder xc_X5_isInOrder_2 [some (.ref 48), some (.int x1)] [] (n, tg, I, R) c s Q := by
  intro m
  induction m with
  | zero => intro x1 i0 i1 i2 hm; exfalso; omega
  | succ m ih =>
    intro x1 i0 i1 i2 hm
    refine y_iload_n rfl rfl ?_
    refine y_aload_n rfl rfl ?_
    refine y_getI rfl (ySh.t hS rfl) (ySh.n hS rfl) rfl rfl ?_
    refine y_icmp_ge rfl j_X5_isInOrder_35 (fun h_1 => ?_) (fun h_2 => ?_)
    · refine y_iconst rfl ?_
      refine y_ireturn rfl rfl rfl ?_
      exact hQ1 (fun j hj => i2 j (by omega))
    · refine y_aload_n rfl rfl ?_
      refine y_iload_n rfl rfl ?_
      refine y_virt rfl rfl rfl rfl rfl (ySh.t hS rfl) (ySh.n hS rfl) ?_
      refine y_in (M := xm_X5_isVoid) (ls := [some _, some _]) rfl rfl rfl ?_
      refine y_aload_n rfl rfl ?_
      refine y_getR rfl (ySh.t hS rfl) (ySh.n hS rfl) rfl rfl (ySh.r hS rfl) ?_
      refine y_iload_n rfl rfl ?_
      refine y_iaload rfl (ySh.t hS rfl) (ySh.n hS rfl) (by omega) (by omega) ?_
      refine y_if_eq rfl j_X5_isVoid_13 (fun h_3 => ?_) (fun h_4 => ?_)
      · refine y_iconst rfl ?_
        refine y_ireturn rfl rfl rfl ?_
        refine y_ret1 ?_
        refine y_if_eqT rfl j_X5_isInOrder_29 (by decide) ?_
        refine y_iinc (ls' := [some _, some _]) rfl rfl rfl rfl ?_
        refine y_goto rfl j_X5_isInOrder_2 ?_
        exact ih _ (by first | omega | (rw [yinc (by omega)]; omega)) (by first | omega | (rw [yinc (by omega)]; omega)) (yAll_nx (by omega) (by assumption) (by omega)) (by first | omega | (rw [yinc (by omega)]; omega))
      · refine y_iconst rfl ?_
        refine y_goto rfl j_X5_isVoid_14 ?_
        refine y_ireturn rfl rfl rfl ?_
        refine y_ret1 ?_
        refine y_if_eqF rfl (by decide) ?_
        refine y_aload_n rfl rfl ?_
        refine y_getR rfl (ySh.t hS rfl) (ySh.n hS rfl) rfl rfl (ySh.r hS rfl) ?_
        refine y_iload_n rfl rfl ?_
        refine y_iaload rfl (ySh.t hS rfl) (ySh.n hS rfl) (by omega) (by omega) ?_
        refine y_if_le rfl j_X5_isInOrder_29 (fun h_5 => ?_) (fun h_6 => ?_)
        · refine y_iinc (ls' := [some _, some _]) rfl rfl rfl rfl ?_
          refine y_goto rfl j_X5_isInOrder_2 ?_
          exact ih _ (by first | omega | (rw [yinc (by omega)]; omega)) (by first | omega | (rw [yinc (by omega)]; omega)) (yAll_nx (by omega) (by assumption) (by omega)) (by first | omega | (rw [yinc (by omega)]; omega))
        · refine y_iconst rfl ?_
          refine y_ireturn rfl rfl rfl ?_
          exact hQ0 (fun h => by have h_ := h x1.toInt.toNat (by omega); omega)
theorem sc_salesC (hS : ySh n tg R) (hC : yCI I) (hQ1 : ySs I → Q (.inl (some (.int (Int32.ofInt 1)))) (n, tg, I, R) c s) (hQ0 : ¬ ySs I → Q (.inl (some (.int (Int32.ofInt 0)))) (n, tg, I, R) c s) : yC 94 [.ref 48] (n, tg, I, R) c s Q := by
  refine y_in (M := xm_X5_isInOrder) (ls := [some _, _]) rfl rfl rfl ?_
  refine y_iconst rfl ?_
  refine y_istore_n (ls' := [some _, some _]) rfl rfl rfl ?_
  exact lp_salesC hS hC hQ1 hQ0 100 _ (by decide) (by rw [yz_0]; omega) (fun j hj => absurd hj (by rw [yz_0]; omega)) (by rw [yz_0]; omega)
theorem lp_venC2 (hS : ySh n tg R) (hC : yCI I) {x1 : Int32} (hv0 : 0 ≤ x1.toInt) (hv1 : x1.toInt < 6) (hQ0 : ¬ ySw I x1.toInt.toNat → Q (.inl (some (.int (Int32.ofInt 0)))) (n, tg, I, R) c s) (hx : ySw I x1.toInt.toNat → yW xm_X7_isInOrder xc_X7_isInOrder_47 [some (.ref 69), some (.int x1), none] [] (n, tg, I, R) c s Q) : ∀ (m : Nat) (x2 : Int32), (0 ≤ x2.toInt) → (x2.toInt ≤ 9) → (∀ j : Nat, (j : Int) < x2.toInt → 0 ≤ (I 71 (x1.toInt.toNat * 9 + j)).toInt) → 9 - x2.toInt < m → yW xm_X7_isInOrder xc_X7_isInOrder_24 [some (.ref 69), some (.int x1), some (.int x2)] [] (n, tg, I, R) c s Q := by
  intro m
  induction m with
  | zero => intro x2 i0 i1 i2 hm; exfalso; omega
  | succ m ih =>
    intro x2 i0 i1 i2 hm
    refine y_iload_n rfl rfl ?_
    refine y_bip rfl (by decide) ?_
    refine y_icmp_ge rfl j_X7_isInOrder_47 (fun h_1 => ?_) (fun h_2 => ?_)
    · rw [yz_9] at h_1
      refine y_fgt (ls := [some _, some _, none]) ⟨rfl, rfl, trivial⟩ ?_
      exact hx (fun j hj => i2 j (by omega))
    · rw [yz_9] at h_2
      refine y_aload_n rfl rfl ?_
      refine y_iload_n rfl rfl ?_
      refine y_iload_n rfl rfl ?_
      refine y_virt rfl rfl rfl rfl rfl (ySh.t hS rfl) (ySh.n hS rfl) ?_
      refine y_in (M := xm_X7_capitalOf) (ls := [some _, some _, some _]) rfl rfl rfl ?_
      refine y_aload_n rfl rfl ?_
      refine y_getR rfl (ySh.t hS rfl) (ySh.n hS rfl) rfl rfl (ySh.r hS rfl) ?_
      refine y_aload_n rfl rfl ?_
      refine y_iload_n rfl rfl ?_
      refine y_iload_n rfl rfl ?_
      refine y_virt rfl rfl rfl rfl rfl (ySh.t hS rfl) (ySh.n hS rfl) ?_
      refine spx_at (by omega) (by omega) (by omega) (by omega) (fun hz3 => ?_)
      refine y_ret1 ?_
      refine y_iaload rfl (ySh.t hS rfl) (ySh.n hS rfl) (by omega) (by omega) ?_
      refine y_ireturn rfl rfl rfl ?_
      refine y_ret1 ?_
      refine y_if_ge rfl j_X7_isInOrder_41 (fun h_4 => ?_) (fun h_5 => ?_)
      · refine y_iinc (ls' := [some _, some _, some _]) rfl rfl rfl rfl ?_
        refine y_goto rfl j_X7_isInOrder_24 ?_
        exact ih _ (by first | omega | (rw [yinc (by omega)]; omega)) (by first | omega | (rw [yinc (by omega)]; omega)) (yAll_nx (P := fun j => 0 ≤ (I 71 (x1.toInt.toNat * 9 + j)).toInt) (by omega) (by assumption) (by show 0 ≤ (I 71 (x1.toInt.toNat * 9 + x2.toInt.toNat)).toInt; rw [show x1.toInt.toNat * 9 + x2.toInt.toNat = (yAtI x1 x2).toInt.toNat by have e_ := yAtI_v (v := x1) (p := x2) (by omega) (by omega) (by omega) (by omega); omega]; omega)) (by first | omega | (rw [yinc (by omega)]; omega))
      · refine y_iconst rfl ?_
        refine y_ireturn rfl rfl rfl ?_
        exact hQ0 (fun h => by have h_ := h x2.toInt.toNat (by omega); rw [show x1.toInt.toNat * 9 + x2.toInt.toNat = (yAtI x1 x2).toInt.toNat by have e_ := yAtI_v (v := x1) (p := x2) (by omega) (by omega) (by omega) (by omega); omega] at h_; omega)
theorem lp_venC (hS : ySh n tg R) (hC : yCI I) (hQ1 : ySv I → Q (.inl (some (.int (Int32.ofInt 1)))) (n, tg, I, R) c s) (hQ0 : ¬ ySv I → Q (.inl (some (.int (Int32.ofInt 0)))) (n, tg, I, R) c s) : ∀ (m : Nat) (x1 : Int32), (0 ≤ x1.toInt) → (x1.toInt ≤ (I 69 0).toInt) → (∀ v : Nat, (v : Int) < x1.toInt → (yVs I 72 (Int32.ofInt (v : Int))).toInt ≤ 100 ∧ ySw I v) → (I 69 0).toInt - x1.toInt < m → yW xm_X7_isInOrder xc_X7_isInOrder_2 [some (.ref 69), some (.int x1), none] [] (n, tg, I, R) c s Q := by
  intro m
  induction m with
  | zero => intro x1 i0 i1 i2 hm; exfalso; omega
  | succ m ih =>
    intro x1 i0 i1 i2 hm
    refine y_iload_n rfl rfl ?_
    refine y_aload_n rfl rfl ?_
    refine y_getI rfl (ySh.t hS rfl) (ySh.n hS rfl) rfl rfl ?_
    refine y_icmp_ge rfl j_X7_isInOrder_53 (fun h_1 => ?_) (fun h_2 => ?_)
    · refine y_iconst rfl ?_
      refine y_ireturn rfl rfl rfl ?_
      exact hQ1 (fun v hv => i2 v (by omega))
    · refine y_aload_n rfl rfl ?_
      refine y_iload_n rfl rfl ?_
      refine y_virt rfl rfl rfl rfl rfl (ySh.t hS rfl) (ySh.n hS rfl) ?_
      refine sx_shares hS (by omega) (by omega) (fun v_3 hv_3 => ?_)
      subst hv_3
      refine y_ret1 ?_
      refine y_bip rfl (by decide) ?_
      refine y_icmp_le rfl j_X7_isInOrder_22 (fun h_4 => ?_) (fun h_5 => ?_)
      · rw [yz_100] at h_4
        refine y_iconst rfl ?_
        refine y_istore_n (ls' := [some _, some _, some _]) rfl rfl rfl ?_
        refine lp_venC2 hS hC (by omega) (by omega) (fun hn_ => hQ0 (fun h => hn_ (h x1.toInt.toNat (by omega)).2)) (fun hw_ => ?_) 100 _ (by decide) (by decide) (fun j hj => absurd hj (by rw [yz_0]; omega)) (by decide)
        refine y_iinc (ls' := [some _, some _, _]) rfl rfl rfl rfl ?_
        refine y_goto rfl j_X7_isInOrder_2 ?_
        exact ih _ (by first | omega | (rw [yinc (by omega)]; omega)) (by first | omega | (rw [yinc (by omega)]; omega)) (yAll_nx (P := fun v => (yVs I 72 (Int32.ofInt (v : Int))).toInt ≤ 100 ∧ ySw I v) (by omega) (by assumption) ⟨by rw [xofn (by omega)]; omega, hw_⟩) (by first | omega | (rw [yinc (by omega)]; omega))
      · rw [yz_100] at h_5
        refine y_iconst rfl ?_
        refine y_ireturn rfl rfl rfl ?_
        exact hQ0 (fun h => by have h_ := (h x1.toInt.toNat (by omega)).1; rw [xofn (by omega)] at h_; omega)
theorem sc_venC (hS : ySh n tg R) (hC : yCI I) (hQ1 : ySv I → Q (.inl (some (.int (Int32.ofInt 1)))) (n, tg, I, R) c s) (hQ0 : ¬ ySv I → Q (.inl (some (.int (Int32.ofInt 0)))) (n, tg, I, R) c s) : yC 119 [.ref 69] (n, tg, I, R) c s Q := by
  refine y_in (M := xm_X7_isInOrder) (ls := [some _, _, _]) rfl rfl rfl ?_
  refine y_iconst rfl ?_
  refine y_istore_n (ls' := [some _, some _, _]) rfl rfl rfl ?_
  exact lp_venC hS hC hQ1 hQ0 100 _ (by decide) (by rw [yz_0]; omega) (fun j hj => absurd hj (by rw [yz_0]; omega)) (by rw [yz_0]; omega)
theorem g_ofPerson (hS : ySh n tg R) (hC : yCI I) {x1 x2 : Int32} (hE0 : ¬ (0 ≤ x1.toInt ∧ x1.toInt < (I 38 0).toInt) → Q (.inr "java/lang/IndexOutOfBoundsException") (n, tg, I, R) (c + 1) (s + 6)) (hE1 : (0 ≤ x1.toInt ∧ x1.toInt < (I 38 0).toInt) ∧ ¬ (0 ≤ x2.toInt ∧ x2.toInt ≤ 7) → Q (.inr "java/lang/IllegalArgumentException") (n, tg, I, R) (c + 1) (s + 6)) (hQ : (0 ≤ x1.toInt ∧ x1.toInt < (I 38 0).toInt) ∧ (0 ≤ x2.toInt ∧ x2.toInt ≤ 7) → ∀ v : Int32, v = yOPv I x1 x2.toInt → Q (.inl (some (.int v))) (n, tg, I, R) c s) : yC 142 [.ref 34, .int x1, .int x2] (n, tg, I, R) c s Q := by
  have hF : yFt I I := yFt.rf
  refine y_in (M := xm_X8_ofPerson) (ls := [some _, some _, some _]) rfl rfl rfl ?_
  refine y_aload_n rfl rfl ?_
  refine y_getR rfl (ySh.t hS rfl) (ySh.n hS rfl) rfl rfl (ySh.r hS rfl) ?_
  refine y_iload_n rfl rfl ?_
  refine y_virt rfl rfl rfl rfl rfl (ySh.t hS rfl) (ySh.n hS rfl) ?_
  refine y_in (M := xm_X4_has) (ls := [some _, some _]) rfl rfl rfl ?_
  refine y_iload_n rfl rfl ?_
  refine y_if_lt rfl j_X4_has_16 (fun h_1 => ?_) (fun h_2 => ?_)
  · refine y_iconst rfl ?_
    refine y_ireturn rfl rfl rfl ?_
    refine y_ret1 ?_
    refine y_if_neF rfl (by decide) ?_
    refine y_throw rfl rfl rfl ?_
    exact hE0 (by omega)
  · refine y_iload_n rfl rfl ?_
    refine y_aload_n rfl rfl ?_
    refine y_getIv (v := I 38 0) rfl (ySh.t hS rfl) (ySh.n hS rfl) rfl rfl rfl ?_
    refine y_icmp_ge rfl j_X4_has_16 (fun h_3 => ?_) (fun h_4 => ?_)
    · refine y_iconst rfl ?_
      refine y_ireturn rfl rfl rfl ?_
      refine y_ret1 ?_
      refine y_if_neF rfl (by decide) ?_
      refine y_throw rfl rfl rfl ?_
      exact hE0 (by omega)
    · refine y_iconst rfl ?_
      refine y_goto rfl j_X4_has_17 ?_
      refine y_ireturn rfl rfl rfl ?_
      refine y_ret1 ?_
      refine y_if_neT rfl j_X8_ofPerson_22 (by decide) ?_
      refine y_iload_n rfl rfl ?_
      refine y_sw rfl (fun h_6 => ?_) (fun h_5 => ?_)
      · refine y_swOut rfl j_X8_ofPerson_143 h_6 ?_
        refine y_throw rfl rfl rfl ?_
        exact hE1 (by omega)
      rcases ySwC0_7 h_5 with h_5 | h_5 | h_5 | h_5 | h_5 | h_5 | h_5 | h_5
      · refine y_swIn (j := 0) rfl h_5 (by decide) j_X8_ofPerson_68 ?_
        refine y_aload_n rfl rfl ?_
        refine y_getR rfl (ySh.t hS rfl) (ySh.n hS rfl) rfl rfl (ySh.r hS rfl) ?_
        refine y_getR rfl (ySh.t hS rfl) (ySh.n hS rfl) rfl rfl (ySh.r hS rfl) ?_
        refine y_iload_n rfl rfl ?_
        refine y_ialoadv (J := I 39) rfl (ySh.t hS rfl) (ySh.n hS rfl) (by omega) (by omega) rfl ?_
        refine y_ireturn rfl rfl rfl ?_
        first | (exfalso; omega) | (exact hQ (by omega) _ (by rw [show x2.toInt = 0 by omega]; rfl))
      · refine y_swIn (j := 1) rfl h_5 (by decide) j_X8_ofPerson_78 ?_
        refine y_aload_n rfl rfl ?_
        refine y_getR rfl (ySh.t hS rfl) (ySh.n hS rfl) rfl rfl (ySh.r hS rfl) ?_
        refine y_iload_n rfl rfl ?_
        refine y_virt rfl rfl rfl rfl rfl (ySh.t hS rfl) (ySh.n hS rfl) ?_
        refine sc_ownedC hS hC (fun v_1 hv_1 => ?_)
        refine y_ret1 ?_
        refine y_ireturn rfl rfl rfl ?_
        first | (exfalso; omega) | (exact hQ (by omega) _ (by rw [show x2.toInt = 1 by omega]; exact hv_1))
      · refine y_swIn (j := 2) rfl h_5 (by decide) j_X8_ofPerson_87 ?_
        refine y_aload_n rfl rfl ?_
        refine y_getR rfl (ySh.t hS rfl) (ySh.n hS rfl) rfl rfl (ySh.r hS rfl) ?_
        refine y_getR rfl (ySh.t hS rfl) (ySh.n hS rfl) rfl rfl (ySh.r hS rfl) ?_
        refine y_iload_n rfl rfl ?_
        refine y_ialoadv (J := I 75) rfl (ySh.t hS rfl) (ySh.n hS rfl) (by omega) (by omega) rfl ?_
        refine y_ireturn rfl rfl rfl ?_
        first | (exfalso; omega) | (exact hQ (by omega) _ (by rw [show x2.toInt = 2 by omega]; rfl))
      · refine y_swIn (j := 3) rfl h_5 (by decide) j_X8_ofPerson_97 ?_
        refine y_aload_n rfl rfl ?_
        refine y_getR rfl (ySh.t hS rfl) (ySh.n hS rfl) rfl rfl (ySh.r hS rfl) ?_
        refine y_getR rfl (ySh.t hS rfl) (ySh.n hS rfl) rfl rfl (ySh.r hS rfl) ?_
        refine y_iload_n rfl rfl ?_
        refine y_ialoadv (J := I 76) rfl (ySh.t hS rfl) (ySh.n hS rfl) (by omega) (by omega) rfl ?_
        refine y_ireturn rfl rfl rfl ?_
        first | (exfalso; omega) | (exact hQ (by omega) _ (by rw [show x2.toInt = 3 by omega]; rfl))
      · refine y_swIn (j := 4) rfl h_5 (by decide) j_X8_ofPerson_107 ?_
        refine y_aload_n rfl rfl ?_
        refine y_getR rfl (ySh.t hS rfl) (ySh.n hS rfl) rfl rfl (ySh.r hS rfl) ?_
        refine y_iload_n rfl rfl ?_
        refine y_virt rfl rfl rfl rfl rfl (ySh.t hS rfl) (ySh.n hS rfl) ?_
        refine sc_partsC hS hC (fun v_2 hv_2 => ?_)
        refine y_ret1 ?_
        refine y_ireturn rfl rfl rfl ?_
        first | (exfalso; omega) | (exact hQ (by omega) _ (by rw [show x2.toInt = 4 by omega]; exact hv_2))
      · refine y_swIn (j := 5) rfl h_5 (by decide) j_X8_ofPerson_116 ?_
        refine y_aload_n rfl rfl ?_
        refine y_getR rfl (ySh.t hS rfl) (ySh.n hS rfl) rfl rfl (ySh.r hS rfl) ?_
        refine y_iload_n rfl rfl ?_
        refine y_virt rfl rfl rfl rfl rfl (ySh.t hS rfl) (ySh.n hS rfl) ?_
        refine sc_debtC hS hC (fun v_3 hv_3 => ?_)
        refine y_ret1 ?_
        refine y_ireturn rfl rfl rfl ?_
        first | (exfalso; omega) | (exact hQ (by omega) _ (by rw [show x2.toInt = 5 by omega]; exact hv_3))
      · refine y_swIn (j := 6) rfl h_5 (by decide) j_X8_ofPerson_125 ?_
        refine y_aload_n rfl rfl ?_
        refine y_getR rfl (ySh.t hS rfl) (ySh.n hS rfl) rfl rfl (ySh.r hS rfl) ?_
        refine y_iload_n rfl rfl ?_
        refine y_virt rfl rfl rfl rfl rfl (ySh.t hS rfl) (ySh.n hS rfl) ?_
        refine sc_openC hS hC (fun v_4 hv_4 => ?_)
        refine y_ret1 ?_
        refine y_ireturn rfl rfl rfl ?_
        first | (exfalso; omega) | (exact hQ (by omega) _ (by rw [show x2.toInt = 6 by omega]; exact hv_4))
      · refine y_swIn (j := 7) rfl h_5 (by decide) j_X8_ofPerson_134 ?_
        refine y_aload_n rfl rfl ?_
        refine y_getR rfl (ySh.t hS rfl) (ySh.n hS rfl) rfl rfl (ySh.r hS rfl) ?_
        refine y_iload_n rfl rfl ?_
        refine y_virt rfl rfl rfl rfl rfl (ySh.t hS rfl) (ySh.n hS rfl) ?_
        refine sc_capC hS hC (by omega) (by omega) (fun v_5 hv_5 => ?_)
        refine y_ret1 ?_
        refine y_ireturn rfl rfl rfl ?_
        first | (exfalso; omega) | (exact hQ (by omega) _ (by rw [show x2.toInt = 7 by omega]; exact hv_5))
theorem g_house (hS : ySh n tg R) (hC : yCI I) {x1 : Int32} (hE1 : ¬ (0 ≤ x1.toInt ∧ x1.toInt ≤ 15) → Q (.inr "java/lang/IllegalArgumentException") (n, tg, I, R) (c + 1) (s + 6)) (hQ : (0 ≤ x1.toInt ∧ x1.toInt ≤ 15) → ∀ v : Int32, v = yHo I x1.toInt → Q (.inl (some (.int v))) (n, tg, I, R) c s) : yC 149 [.ref 34, .int x1] (n, tg, I, R) c s Q := by
  have hF : yFt I I := yFt.rf
  refine y_in (M := xm_X8_house) (ls := [some _, some _]) rfl rfl rfl ?_
  refine y_iload_n rfl rfl ?_
  refine y_sw rfl (fun h_2 => ?_) (fun h_1 => ?_)
  · refine y_swOut rfl j_X8_house_207 h_2 ?_
    refine y_throw rfl rfl rfl ?_
    exact hE1 (by omega)
  rcases ySwC0_15 h_1 with h_1 | h_1 | h_1 | h_1 | h_1 | h_1 | h_1 | h_1 | h_1 | h_1 | h_1 | h_1 | h_1 | h_1 | h_1 | h_1
  · refine y_swIn (j := 0) rfl h_1 (by decide) j_X8_house_80 ?_
    refine y_aload_n rfl rfl ?_
    refine y_getIv (v := I 34 8) rfl (ySh.t hS rfl) (ySh.n hS rfl) rfl rfl rfl ?_
    refine y_ireturn rfl rfl rfl ?_
    first | (exfalso; omega) | (exact hQ (by omega) _ (by rw [show x1.toInt = 0 by omega]; rfl))
  · refine y_swIn (j := 1) rfl h_1 (by decide) j_X8_house_85 ?_
    refine y_aload_n rfl rfl ?_
    refine y_getR rfl (ySh.t hS rfl) (ySh.n hS rfl) rfl rfl (ySh.r hS rfl) ?_
    refine y_getR rfl (ySh.t hS rfl) (ySh.n hS rfl) rfl rfl (ySh.r hS rfl) ?_
    refine y_bip rfl (by decide) ?_
    refine y_ialoadv (J := I 39) rfl (ySh.t hS rfl) (ySh.n hS rfl) (by decide) (by decide) rfl ?_
    refine y_ireturn rfl rfl rfl ?_
    first | (exfalso; omega) | (exact hQ (by omega) _ (by rw [show x1.toInt = 1 by omega]; rfl))
  · refine y_swIn (j := 2) rfl h_1 (by decide) j_X8_house_96 ?_
    refine y_aload_n rfl rfl ?_
    refine y_getR rfl (ySh.t hS rfl) (ySh.n hS rfl) rfl rfl (ySh.r hS rfl) ?_
    refine y_getIv (v := I 38 1) rfl (ySh.t hS rfl) (ySh.n hS rfl) rfl rfl rfl ?_
    refine y_ireturn rfl rfl rfl ?_
    first | (exfalso; omega) | (exact hQ (by omega) _ (by rw [show x1.toInt = 2 by omega]; rfl))
  · refine y_swIn (j := 3) rfl h_1 (by decide) j_X8_house_104 ?_
    refine y_aload_n rfl rfl ?_
    refine y_getR rfl (ySh.t hS rfl) (ySh.n hS rfl) rfl rfl (ySh.r hS rfl) ?_
    refine y_getIv (v := I 74 2) rfl (ySh.t hS rfl) (ySh.n hS rfl) rfl rfl rfl ?_
    refine y_ireturn rfl rfl rfl ?_
    first | (exfalso; omega) | (exact hQ (by omega) _ (by rw [show x1.toInt = 3 by omega]; rfl))
  · refine y_swIn (j := 4) rfl h_1 (by decide) j_X8_house_112 ?_
    refine y_aload_n rfl rfl ?_
    refine y_getR rfl (ySh.t hS rfl) (ySh.n hS rfl) rfl rfl (ySh.r hS rfl) ?_
    refine y_virt rfl rfl rfl rfl rfl (ySh.t hS rfl) (ySh.n hS rfl) ?_
    refine sc_depsC hS hC (fun v_6 hv_6 => ?_)
    refine y_ret1 ?_
    refine y_ireturn rfl rfl rfl ?_
    first | (exfalso; omega) | (exact hQ (by omega) _ (by rw [show x1.toInt = 4 by omega]; exact hv_6))
  · refine y_swIn (j := 5) rfl h_1 (by decide) j_X8_house_120 ?_
    refine y_aload_n rfl rfl ?_
    refine y_getIv (v := I 34 9) rfl (ySh.t hS rfl) (ySh.n hS rfl) rfl rfl rfl ?_
    refine y_ireturn rfl rfl rfl ?_
    first | (exfalso; omega) | (exact hQ (by omega) _ (by rw [show x1.toInt = 5 by omega]; rfl))
  · refine y_swIn (j := 6) rfl h_1 (by decide) j_X8_house_125 ?_
    refine y_aload_n rfl rfl ?_
    refine y_getR rfl (ySh.t hS rfl) (ySh.n hS rfl) rfl rfl (ySh.r hS rfl) ?_
    refine y_getIv (v := I 48 0) rfl (ySh.t hS rfl) (ySh.n hS rfl) rfl rfl rfl ?_
    refine y_ireturn rfl rfl rfl ?_
    first | (exfalso; omega) | (exact hQ (by omega) _ (by rw [show x1.toInt = 6 by omega]; rfl))
  · refine y_swIn (j := 7) rfl h_1 (by decide) j_X8_house_133 ?_
    refine y_aload_n rfl rfl ?_
    refine y_getR rfl (ySh.t hS rfl) (ySh.n hS rfl) rfl rfl (ySh.r hS rfl) ?_
    refine y_virt rfl rfl rfl rfl rfl (ySh.t hS rfl) (ySh.n hS rfl) ?_
    refine sc_voidC hS hC (fun v_7 hv_7 => ?_)
    refine y_ret1 ?_
    refine y_ireturn rfl rfl rfl ?_
    first | (exfalso; omega) | (exact hQ (by omega) _ (by rw [show x1.toInt = 7 by omega]; exact hv_7))
  · refine y_swIn (j := 8) rfl h_1 (by decide) j_X8_house_141 ?_
    refine y_aload_n rfl rfl ?_
    refine y_getR rfl (ySh.t hS rfl) (ySh.n hS rfl) rfl rfl (ySh.r hS rfl) ?_
    refine y_virt rfl rfl rfl rfl rfl (ySh.t hS rfl) (ySh.n hS rfl) ?_
    refine sc_doneC hS hC (fun v_8 hv_8 => ?_)
    refine y_ret1 ?_
    refine y_ireturn rfl rfl rfl ?_
    first | (exfalso; omega) | (exact hQ (by omega) _ (by rw [show x1.toInt = 8 by omega]; exact hv_8))
  · refine y_swIn (j := 9) rfl h_1 (by decide) j_X8_house_149 ?_
    refine y_aload_n rfl rfl ?_
    refine y_getR rfl (ySh.t hS rfl) (ySh.n hS rfl) rfl rfl (ySh.r hS rfl) ?_
    refine y_virt rfl rfl rfl rfl rfl (ySh.t hS rfl) (ySh.n hS rfl) ?_
    refine sc_leasC hS hC (fun v_9 hv_9 => ?_)
    refine y_ret1 ?_
    refine y_ireturn rfl rfl rfl ?_
    first | (exfalso; omega) | (exact hQ (by omega) _ (by rw [show x1.toInt = 9 by omega]; exact hv_9))
  · refine y_swIn (j := 10) rfl h_1 (by decide) j_X8_house_157 ?_
    refine y_aload_n rfl rfl ?_
    refine y_getR rfl (ySh.t hS rfl) (ySh.n hS rfl) rfl rfl (ySh.r hS rfl) ?_
    refine y_getIv (v := I 69 0) rfl (ySh.t hS rfl) (ySh.n hS rfl) rfl rfl rfl ?_
    refine y_ireturn rfl rfl rfl ?_
    first | (exfalso; omega) | (exact hQ (by omega) _ (by rw [show x1.toInt = 10 by omega]; rfl))
  · refine y_swIn (j := 11) rfl h_1 (by decide) j_X8_house_165 ?_
    refine y_aload_n rfl rfl ?_
    refine y_getR rfl (ySh.t hS rfl) (ySh.n hS rfl) rfl rfl (ySh.r hS rfl) ?_
    refine y_getIv (v := I 77 2) rfl (ySh.t hS rfl) (ySh.n hS rfl) rfl rfl rfl ?_
    refine y_ireturn rfl rfl rfl ?_
    first | (exfalso; omega) | (exact hQ (by omega) _ (by rw [show x1.toInt = 11 by omega]; rfl))
  · refine y_swIn (j := 12) rfl h_1 (by decide) j_X8_house_173 ?_
    refine y_aload_n rfl rfl ?_
    refine y_getR rfl (ySh.t hS rfl) (ySh.n hS rfl) rfl rfl (ySh.r hS rfl) ?_
    refine y_bip rfl (by decide) ?_
    refine y_virt rfl rfl rfl rfl rfl (ySh.t hS rfl) (ySh.n hS rfl) ?_
    refine sc_ownedC hS hC (fun v_10 hv_10 => ?_)
    rw [yz_8] at hv_10
    refine y_ret1 ?_
    refine y_ireturn rfl rfl rfl ?_
    first | (exfalso; omega) | (exact hQ (by omega) _ (by rw [show x1.toInt = 12 by omega]; exact hv_10))
  · refine y_swIn (j := 13) rfl h_1 (by decide) j_X8_house_183 ?_
    refine y_aload_n rfl rfl ?_
    refine y_getR rfl (ySh.t hS rfl) (ySh.n hS rfl) rfl rfl (ySh.r hS rfl) ?_
    refine y_virt rfl rfl rfl rfl rfl (ySh.t hS rfl) (ySh.n hS rfl) ?_
    refine sc_cashC hS hC (fun v_11 hv_11 => ?_)
    refine y_ret1 ?_
    refine y_ireturn rfl rfl rfl ?_
    first | (exfalso; omega) | (exact hQ (by omega) _ (by rw [show x1.toInt = 13 by omega]; exact hv_11))
  · refine y_swIn (j := 14) rfl h_1 (by decide) j_X8_house_191 ?_
    refine y_aload_n rfl rfl ?_
    refine y_getR rfl (ySh.t hS rfl) (ySh.n hS rfl) rfl rfl (ySh.r hS rfl) ?_
    refine y_getIv (v := I 74 3) rfl (ySh.t hS rfl) (ySh.n hS rfl) rfl rfl rfl ?_
    refine y_ireturn rfl rfl rfl ?_
    first | (exfalso; omega) | (exact hQ (by omega) _ (by rw [show x1.toInt = 14 by omega]; rfl))
  · refine y_swIn (j := 15) rfl h_1 (by decide) j_X8_house_199 ?_
    refine y_aload_n rfl rfl ?_
    refine y_getR rfl (ySh.t hS rfl) (ySh.n hS rfl) rfl rfl (ySh.r hS rfl) ?_
    refine y_getIv (v := I 74 4) rfl (ySh.t hS rfl) (ySh.n hS rfl) rfl rfl rfl ?_
    refine y_ireturn rfl rfl rfl ?_
    first | (exfalso; omega) | (exact hQ (by omega) _ (by rw [show x1.toInt = 15 by omega]; rfl))
theorem g_isSound (hS : ySh n tg R) (hC : yCI I)  (hQ1 : ySnd I → Q (.inl (some (.int (Int32.ofInt 1)))) (n, tg, I, R) c s) (hQ0 : ¬ ySnd I → Q (.inl (some (.int (Int32.ofInt 0)))) (n, tg, I, R) c s) : yC 154 [.ref 34] (n, tg, I, R) c s Q := by
  have hF : yFt I I := yFt.rf
  refine y_in (M := xm_X8_isSound) (ls := [some _]) rfl rfl rfl ?_
  refine y_aload_n rfl rfl ?_
  refine y_getR rfl (ySh.t hS rfl) (ySh.n hS rfl) rfl rfl (ySh.r hS rfl) ?_
  refine y_virt rfl rfl rfl rfl rfl (ySh.t hS rfl) (ySh.n hS rfl) ?_
  refine sc_poolC hS hC (fun h_1 => ?_) (fun h_2 => ?_)
  · refine y_ret1 ?_
    refine y_if_eqF rfl (by decide) ?_
    refine y_aload_n rfl rfl ?_
    refine y_getR rfl (ySh.t hS rfl) (ySh.n hS rfl) rfl rfl (ySh.r hS rfl) ?_
    refine y_virt rfl rfl rfl rfl rfl (ySh.t hS rfl) (ySh.n hS rfl) ?_
    refine sc_venC hS hC (fun h_3 => ?_) (fun h_4 => ?_)
    · refine y_ret1 ?_
      refine y_if_eqF rfl (by decide) ?_
      refine y_aload_n rfl rfl ?_
      refine y_getR rfl (ySh.t hS rfl) (ySh.n hS rfl) rfl rfl (ySh.r hS rfl) ?_
      refine y_virt rfl rfl rfl rfl rfl (ySh.t hS rfl) (ySh.n hS rfl) ?_
      refine sc_thingsC hS hC (fun h_5 => ?_) (fun h_6 => ?_)
      · refine y_ret1 ?_
        refine y_if_eqF rfl (by decide) ?_
        refine y_aload_n rfl rfl ?_
        refine y_getR rfl (ySh.t hS rfl) (ySh.n hS rfl) rfl rfl (ySh.r hS rfl) ?_
        refine y_virt rfl rfl rfl rfl rfl (ySh.t hS rfl) (ySh.n hS rfl) ?_
        refine sc_salesC hS hC (fun h_7 => ?_) (fun h_8 => ?_)
        · refine y_ret1 ?_
          refine y_if_eqF rfl (by decide) ?_
          refine y_aload_n rfl rfl ?_
          refine y_getR rfl (ySh.t hS rfl) (ySh.n hS rfl) rfl rfl (ySh.r hS rfl) ?_
          refine y_virt rfl rfl rfl rfl rfl (ySh.t hS rfl) (ySh.n hS rfl) ?_
          refine sc_feesC hS hC (fun v_12 hv_12 => ?_)
          refine y_ret1 ?_
          refine y_aload_n rfl rfl ?_
          refine y_getR rfl (ySh.t hS rfl) (ySh.n hS rfl) rfl rfl (ySh.r hS rfl) ?_
          refine y_getIv (v := I 38 1) rfl (ySh.t hS rfl) (ySh.n hS rfl) rfl rfl rfl ?_
          refine y_icmp_gt rfl j_X8_isSound_61 (fun h_9 => ?_) (fun h_10 => ?_)
          · refine y_iconst rfl ?_
            refine y_ireturn rfl rfl rfl ?_
            first | (exfalso; omega) | (exact hQ0 (fun h => by have h_ := h.2.2.2.2; rw [← hv_12] at h_; omega))
          · refine y_iconst rfl ?_
            refine y_goto rfl j_X8_isSound_62 ?_
            refine y_ireturn rfl rfl rfl ?_
            first | (exfalso; omega) | (exact hQ1 ⟨h_1, h_3, h_5, h_7, by rw [← hv_12]; omega⟩)
        · refine y_ret1 ?_
          refine y_if_eqT rfl j_X8_isSound_61 (by decide) ?_
          refine y_iconst rfl ?_
          refine y_ireturn rfl rfl rfl ?_
          first | (exfalso; omega) | (exact hQ0 (fun h => h_8 h.2.2.2.1))
      · refine y_ret1 ?_
        refine y_if_eqT rfl j_X8_isSound_61 (by decide) ?_
        refine y_iconst rfl ?_
        refine y_ireturn rfl rfl rfl ?_
        first | (exfalso; omega) | (exact hQ0 (fun h => h_6 h.2.2.1))
    · refine y_ret1 ?_
      refine y_if_eqT rfl j_X8_isSound_61 (by decide) ?_
      refine y_iconst rfl ?_
      refine y_ireturn rfl rfl rfl ?_
      first | (exfalso; omega) | (exact hQ0 (fun h => h_4 h.2.1))
  · refine y_ret1 ?_
    refine y_if_eqT rfl j_X8_isSound_61 (by decide) ?_
    refine y_iconst rfl ?_
    refine y_ireturn rfl rfl rfl ?_
    first | (exfalso; omega) | (exact hQ0 (fun h => h_2 h.1))
/-- whether a question was allowed at a day -/
def yAw (I : Nat → Nat → Int32) (x1 x2 : Int32) : Int32 := if x2.toInt = (I 34 8).toInt then (if 3 ≤ (yBC (I 36 x1.toInt.toNat)).toInt then Int32.ofInt 1 else Int32.ofInt 0) else (if ((I 37 x2.toInt.toNat >>> (x1 &&& 31)) &&& Int32.ofInt 1).toInt = 1 then Int32.ofInt 1 else Int32.ofInt 0)
theorem g_allowed (hS : ySh n tg R) (hC : yCI I) {x1 x2 : Int32} (hE0 : ¬ (0 ≤ x1.toInt ∧ x1.toInt ≤ 4) → Q (.inr "java/lang/IndexOutOfBoundsException") (n, tg, I, R) (c + 1) (s + 6)) (hE1 : (0 ≤ x1.toInt ∧ x1.toInt ≤ 4) ∧ ¬ (0 ≤ x2.toInt ∧ x2.toInt ≤ (I 34 8).toInt) → Q (.inr "java/lang/IllegalArgumentException") (n, tg, I, R) (c + 1) (s + 6)) (hQ : (0 ≤ x1.toInt ∧ x1.toInt ≤ 4) ∧ (0 ≤ x2.toInt ∧ x2.toInt ≤ (I 34 8).toInt) → ∀ v : Int32, v = yAw I x1 x2 → Q (.inl (some (.int v))) (n, tg, I, R) c s) : yC 148 [.ref 34, .int x1, .int x2] (n, tg, I, R) c s Q := by
  have hF : yFt I I := yFt.rf
  refine y_in (M := xm_X8_allowed) (ls := [some _, some _, some _]) rfl rfl rfl ?_
  refine y_iload_n rfl rfl ?_
  refine y_iconst rfl ?_
  refine y_iconst rfl ?_
  refine y_static rfl rfl rfl rfl rfl ?_
  refine s_isIn (fun h_1 h_2 => ?_) (fun h_3 => ?_)
  · rw [yz_0] at h_1
    rw [yz_4] at h_2
    refine y_ret1 ?_
    refine y_if_neT rfl j_X8_allowed_20 (by decide) ?_
    refine y_iload_n rfl rfl ?_
    refine y_iconst rfl ?_
    refine y_aload_n rfl rfl ?_
    refine y_getIv (v := I 34 8) rfl (ySh.t hS rfl) (ySh.n hS rfl) rfl rfl rfl ?_
    refine y_static rfl rfl rfl rfl rfl ?_
    refine s_isIn (fun h_4 h_5 => ?_) (fun h_6 => ?_)
    · rw [yz_0] at h_4
      refine y_ret1 ?_
      refine y_if_neT rfl j_X8_allowed_43 (by decide) ?_
      refine y_iload_n rfl rfl ?_
      refine y_aload_n rfl rfl ?_
      refine y_getIv (v := I 34 8) rfl (ySh.t hS rfl) (ySh.n hS rfl) rfl rfl rfl ?_
      refine y_icmp_ne rfl j_X8_allowed_62 (fun h_7 => ?_) (fun h_8 => ?_)
      · refine y_aload_n rfl rfl ?_
        refine y_getR rfl (ySh.t hS rfl) (ySh.n hS rfl) rfl rfl (ySh.r hS rfl) ?_
        refine y_iload_n rfl rfl ?_
        refine y_iload_n rfl rfl ?_
        refine y_virt rfl rfl rfl rfl rfl (ySh.t hS rfl) (ySh.n hS rfl) ?_
        refine y_in (M := xm_X0_wasAllowed) (ls := [some _, some _, some _]) rfl rfl rfl ?_
        refine y_aload_n rfl rfl ?_
        refine y_getR rfl (ySh.t hS rfl) (ySh.n hS rfl) rfl rfl (ySh.r hS rfl) ?_
        refine y_iload_n rfl rfl ?_
        refine y_baloadv (J := I 37) rfl (ySh.t hS rfl) rfl (ySh.n hS rfl) (by omega) (by omega) rfl ?_
        refine y_iload_n rfl rfl ?_
        refine y_ishr rfl ?_
        refine y_iconst rfl ?_
        refine y_iand rfl ?_
        refine y_iconst rfl ?_
        refine y_icmp_ne rfl j_X0_wasAllowed_18 (fun h_9 => ?_) (fun h_10 => ?_)
        · rw [yz_1] at h_9
          refine y_iconst rfl ?_
          refine y_ireturn rfl rfl rfl ?_
          refine y_ret1 ?_
          refine y_ireturn rfl rfl rfl ?_
          first | (exfalso; omega) | (exact hQ (by omega) _ (by unfold yAw; (repeat' split) <;> first | rfl | (exfalso; omega)))
        · rw [yz_1] at h_10
          refine y_iconst rfl ?_
          refine y_goto rfl j_X0_wasAllowed_19 ?_
          refine y_ireturn rfl rfl rfl ?_
          refine y_ret1 ?_
          refine y_ireturn rfl rfl rfl ?_
          first | (exfalso; omega) | (exact hQ (by omega) _ (by unfold yAw; (repeat' split) <;> first | rfl | (exfalso; omega)))
      · refine y_aload_n rfl rfl ?_
        refine y_getR rfl (ySh.t hS rfl) (ySh.n hS rfl) rfl rfl (ySh.r hS rfl) ?_
        refine y_iload_n rfl rfl ?_
        refine y_virt rfl rfl rfl rfl rfl (ySh.t hS rfl) (ySh.n hS rfl) ?_
        refine sp_isAllowedNow hS (by omega) (by omega) (fun h_11 => ?_) (fun h_12 => ?_)
        · refine y_ret1 ?_
          refine y_goto rfl j_X8_allowed_71 ?_
          refine y_ireturn rfl rfl rfl ?_
          first | (exfalso; omega) | (exact hQ (by omega) _ (by unfold yAw; (repeat' split) <;> first | rfl | (exfalso; omega)))
        · refine y_ret1 ?_
          refine y_goto rfl j_X8_allowed_71 ?_
          refine y_ireturn rfl rfl rfl ?_
          first | (exfalso; omega) | (exact hQ (by omega) _ (by unfold yAw; (repeat' split) <;> first | rfl | (exfalso; omega)))
    · rw [yz_0] at h_6
      refine y_ret1 ?_
      refine y_if_neF rfl (by decide) ?_
      refine y_throw rfl rfl rfl ?_
      exact hE1 (by omega)
  · rw [yz_0] at h_3
    rw [yz_4] at h_3
    refine y_ret1 ?_
    refine y_if_neF rfl (by decide) ?_
    refine y_throw rfl rfl rfl ?_
    exact hE0 (by omega)
end YC9
