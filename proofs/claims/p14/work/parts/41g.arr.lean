/-! ARRAYS OF REFERENCES THAT NO CODE TOUCHES STAY (by ex0b.py, after part 41c) -/
def xFrA (h h' : xH) : Prop := h.1 ≤ h'.1 ∧ ∀ (a : Nat) (z : vp_A), a < h.1 → h.2 a = .inl (3, z) → h'.2 a = .inl (3, z)
section XFRA
variable {h h' h1 : xH}
theorem xFrA.rf : xFrA h h := ⟨Nat.le_refl _, fun _ _ _ hf => hf⟩
theorem xFrA.trans (u : xFrA h h1) (v : xFrA h1 h') : xFrA h h' := ⟨Nat.le_trans u.1 v.1, fun a z ha hf => v.2 a z (Nat.lt_of_lt_of_le ha u.1) (u.2 a z ha hf)⟩
theorem xFrA.push {e : va_E} : xFrA h (xpush h e) := ⟨Nat.le_succ _, fun a z ha hf => by
  show (if a = h.1 then e else h.2 a) = _
  rw [if_neg (by omega)]; exact hf⟩
theorem xFrA.setA {a : Nat} {c : ClassId} {z : vp_A} {e : va_E} (hc : h.2 a = .inl (c, z)) (hne : c ≠ 3) : xFrA h (xset h a e) := ⟨Nat.le_refl _, fun b y hb hf => by
  by_cases hba : b = a
  · subst hba
    rw [hc] at hf
    exact absurd (congrArg Prod.fst (Sum.inl.inj hf)) hne
  · show (if b = a then e else h.2 b) = _
    rw [if_neg hba]; exact hf⟩
theorem xFrA.setO {a : Nat} {q : Nat × List Value} {e : va_E} (hc : h.2 a = .inr q) : xFrA h (xset h a e) := ⟨Nat.le_refl _, fun b y hb hf => by
  by_cases hba : b = a
  · subst hba
    rw [hc] at hf
    cases hf
  · show (if b = a then e else h.2 b) = _
    rw [if_neg hba]; exact hf⟩
end XFRA
/-- an instruction that writes into no array of references -/
def xna (i : Instr) (an : List Nat) : Bool := match i with
  | .aastore => false
  | .invokestatic _ => !(Nat.beq (an.headD 0) 3)
  | _ => true
theorem xheap_frA {i : Instr} {an : List Nat} {st st' : List Value} {h h' : xH} {dc ds : Nat} (hn : xna i an = true) (hx : xheap i an st h = some (st', h', dc, ds)) : xFrA h h' := by
  cases i
  case aastore =>
    have hn : false = true := hn
    cases hn
  case invokestatic idx =>
    have h3 : ¬ an.headD 0 = 3 := fun e => by
      have hn : (!(Nat.beq (an.headD 0) 3)) = true := hn
      rw [e] at hn
      cases hn
    unfold xheap at hx; dsimp only at hx
    split at hx
    · split at hx
      · rename_i hg; exact absurd hg.1 h3
      · cases hx
    · cases hx
  all_goals (unfold xheap at hx; dsimp only at hx; (repeat' split at hx) <;> first | (cases hx; done) | (cases hx; first | exact xFrA.rf | exact xFrA.push | exact xFrA.setO (by assumption) | exact xFrA.setA (by assumption) (by decide)))
def xFNA (h : xH) (o : Option xA) : Prop := ∀ a : xA, o = some a → match a with
  | .inl (_, h', _, _) => h' = h
  | .inr (.inl ((_, _, _, h'), _, _)) => xFrA h h'
  | .inr (.inr _) => True
section XFNA
variable {M : xM} {i : Instr} {an : List Nat} {rest : List xI} {l : xL} {st : List Value} {h : xH}
theorem xFNA.none : xFNA h Option.none := fun a e => by cases e
theorem xFNA.stop {o : Option Value ⊕ String} {c s : Nat} : xFNA h (some (.inl (o, h, c, s))) := fun a e => by cases e; rfl
theorem xFNA.goto {t : Nat} : xFNA h (xgoto M t l st h) := fun a e => by cases e; exact xFrA.rf
theorem xFNA.fork {b : Bool} {t : Nat} : xFNA h (xfork M b t rest l st h) := fun a e => by cases e; exact xFrA.rf
theorem xFNA.stk {o : Option (List Value)} : xFNA h (xstk o rest l h) := fun a e => by
  cases o with
  | none => cases e
  | some st => cases e; exact xFrA.rf
theorem xFNA.lst {o : Option (xL × List Value)} : xFNA h (xlst o rest h) := fun a e => by
  cases o with
  | none => cases e
  | some q => obtain ⟨l, st⟩ := q; cases e; exact xFrA.rf
theorem xFNA.hst (hn : xna i an = true) : xFNA h (xhst (xheap i an st h) rest l) := fun a e => by
  cases hx : xheap i an st h with
  | none => rw [hx] at e; cases e
  | some q => obtain ⟨st', h', c, s⟩ := q; rw [hx] at e; cases e; exact xheap_frA hn hx
theorem xFNA.obj : xFNA h (xobj rest l st h) := fun a e => by
  unfold xobj at e
  split at e
  · split at e
    · cases e; exact xFrA.rf
    · cases e
  · cases e
theorem xFNA.inv {pc mode : Nat} {an' : List Nat} : xFNA h (xinv pc an' rest l st h mode) := fun a e => by
  unfold xinv at e
  split at e
  · split at e
    · split at e
      · cases e; trivial
      · cases e
    · split at e
      · cases e; trivial
      · cases e
  · cases e
end XFNA
theorem xnext_fA (M : xM) (pc len : Nat) (i : Instr) (an : List Nat) (rest : List xI) (l : xL) (st : List Value) (h : xH) (hn : xna i an = true) : xFNA h (xnext M ((pc, len, i, an) :: rest) l st h) := by
  cases i
  case if_acmp c o => cases c <;> (unfold xnext; dsimp only; (repeat' split) <;> first | exact xFNA.fork | exact xFNA.none | exact xFNA.stk)
  all_goals (unfold xnext; dsimp only; (repeat' split) <;> first | exact xFNA.stk | exact xFNA.lst | exact xFNA.hst hn | exact xFNA.goto | exact xFNA.fork | exact xFNA.none | exact xFNA.stop | exact xFNA.obj | exact xFNA.inv)
theorem xgo_frA {call : Nat → Nat → List Value → xH → Option xR} (M : xM) (hp : ∀ x ∈ M.2.2.2.2.1, xna x.2.2.1 x.2.2.2 = true) (hc : ∀ x ∈ M.2.2.2.2.1, ∀ mid, xci x.2.2.1 x.2.2.2 = some mid → ∀ n as h o h' c s, call n mid as h = some (o, h', c, s) → xFrA h h') :
    ∀ (n : Nat) (code : List xI) (l : xL) (st : List Value) (h : xH) (o : Option Value ⊕ String) (h' : xH) (c s : Nat), (∀ x ∈ code, x ∈ M.2.2.2.2.1) → xgo call M n code l st h = some (o, h', c, s) → xFrA h h' := by
  intro n
  induction n with
  | zero => intro code l st h o h' c s _ h1; cases h1
  | succ n ih =>
    intro code l st h o h' c s hm h1
    match code, hm, h1 with
    | [], _, h1 => cases h1
    | (pc, len, i, an) :: rest, hm, h1 =>
      have hN := xnext_c M pc len i an rest l st h
      have hF := xnext_fA M pc len i an rest l st h (hp _ (hm _ List.mem_cons_self))
      have hr : ∀ x ∈ rest, x ∈ M.2.2.2.2.1 := fun x hx => hm x (List.mem_cons_of_mem _ hx)
      unfold xgo at h1
      cases hx : xnext M ((pc, len, i, an) :: rest) l st h with
      | none => rw [hx] at h1; cases h1
      | some a =>
        rw [hx] at h1
        have hN := hN a hx
        have hF := hF a hx
        match a, hN, hF, h1 with
        | .inl (o1, h2, c1, s1), _, hF, h1 =>
          cases h1
          rw [show h' = h from hF]
          exact xFrA.rf
        | .inr (.inl ((code', l', st', h2), c1, s1)), hN, hF, h1 =>
          obtain ⟨a, b, e1, -, -⟩ := xadd_some h1
          have hm' : ∀ x ∈ code', x ∈ M.2.2.2.2.1 := by
            rcases hN with rfl | ⟨t, rfl⟩
            · exact hr
            · exact fun x hx => xat_sub hx
          exact xFrA.trans hF (ih _ _ _ _ _ _ _ _ hm' e1)
        | .inr (.inr (mid, as, rest', l', rs, pc')), hN, _, h1 =>
          obtain ⟨hci, rfl⟩ := hN
          dsimp only at h1
          cases hq : call n mid as h with
          | none => rw [hq] at h1; cases h1
          | some q =>
            rw [hq] at h1
            match q, hq, h1 with
            | (.inl v, h2, c2, s2), hq, h1 =>
              obtain ⟨a, b, e1, -, -⟩ := xadd_some h1
              exact xFrA.trans (hc _ (hm _ List.mem_cons_self) mid hci n as h _ _ _ _ hq) (ih _ _ _ _ _ _ _ _ hr e1)
            | (.inr E, h2, c2, s2), hq, h1 =>
              dsimp only at h1
              cases hh : xhand M.2.2.2.2.2 pc' E with
              | none => rw [hh] at h1; cases h1
              | some t =>
                rw [hh] at h1
                obtain ⟨a, b, e1, -, -⟩ := xadd_some h1
                exact xFrA.trans (hc _ (hm _ List.mem_cons_self) mid hci n as h _ _ _ _ hq) (ih _ _ _ _ _ _ _ _ (fun x hx => xat_sub hx) e1)
/-- a method is clean for a field: it doesn't put there, and calls clean ones alone; cl says which -/
def xClA (cl : Nat → Bool) (M : xM) : Bool := M.2.2.2.2.1.all fun x => xna x.2.2.1 x.2.2.2 && (match xci x.2.2.1 x.2.2.2 with
  | some m => cl m
  | none => true)
theorem xcall_frA {cl : Nat → Bool} (hT : ∀ mid, cl mid = true → xClA cl (xP mid) = true) : ∀ (d n mid : Nat) (as : List Value) (h : xH) (o : Option Value ⊕ String) (h' : xH) (c s : Nat), cl mid = true → xcall xP d n mid as h = some (o, h', c, s) → xFrA h h' := by
  intro d
  induction d with
  | zero => intro n mid as h o h' c s _ h1; cases h1
  | succ d ih =>
    intro n mid as h o h' c s hm h1
    unfold xcall at h1
    by_cases hg : (as.map fun v => v.category).sum ≤ (xP mid).2.2.1
    · rw [if_pos hg] at h1
      have hq : ∀ x ∈ (xP mid).2.2.2.2.1, xna x.2.2.1 x.2.2.2 = true ∧ ∀ m, xci x.2.2.1 x.2.2.2 = some m → cl m = true := fun x hx => by
        have h2 := List.all_eq_true.mp (hT mid hm) x hx
        simp only [Bool.and_eq_true] at h2
        refine ⟨h2.1, fun m e => ?_⟩
        have h3 := h2.2
        rw [e] at h3
        exact h3
      exact xgo_frA (xP mid) (fun x hx => (hq x hx).1) (fun x hx m e n as h o h' c s hc => ih n m as h o h' c s ((hq x hx).2 m e) hc) n _ _ _ _ _ _ _ _ (fun x hx => hx) h1
    · rw [if_neg hg] at h1; cases h1
def cKA (m : Nat) : Bool := Nat.blt m 320 && !([0, 30, 150, 194, 196, 202, 206, 208, 219, 242, 253, 256, 257, 258, 262, 266, 268, 269, 274, 275, 276, 285, 300, 301, 305, 306, 308, 309, 310, 312, 313] : List Nat).contains m
set_option maxRecDepth 20000 in
theorem KA_0 : (List.range 40).all (fun j => !cKA (0 + j) || xClA cKA (xP (0 + j))) = true := by decide +kernel
set_option maxRecDepth 20000 in
theorem KA_1 : (List.range 40).all (fun j => !cKA (40 + j) || xClA cKA (xP (40 + j))) = true := by decide +kernel
set_option maxRecDepth 20000 in
theorem KA_2 : (List.range 40).all (fun j => !cKA (80 + j) || xClA cKA (xP (80 + j))) = true := by decide +kernel
set_option maxRecDepth 20000 in
theorem KA_3 : (List.range 40).all (fun j => !cKA (120 + j) || xClA cKA (xP (120 + j))) = true := by decide +kernel
set_option maxRecDepth 20000 in
theorem KA_4 : (List.range 40).all (fun j => !cKA (160 + j) || xClA cKA (xP (160 + j))) = true := by decide +kernel
set_option maxRecDepth 20000 in
theorem KA_5 : (List.range 40).all (fun j => !cKA (200 + j) || xClA cKA (xP (200 + j))) = true := by decide +kernel
set_option maxRecDepth 20000 in
theorem KA_6 : (List.range 40).all (fun j => !cKA (240 + j) || xClA cKA (xP (240 + j))) = true := by decide +kernel
set_option maxRecDepth 20000 in
theorem KA_7 : (List.range 40).all (fun j => !cKA (280 + j) || xClA cKA (xP (280 + j))) = true := by decide +kernel
theorem KA (mid : Nat) (hm : cKA mid = true) : xClA cKA (xP mid) = true := by
  have hl : mid < 320 := by
    unfold cKA at hm
    simp only [Bool.and_eq_true] at hm
    exact blt_lt hm.1
  have key : ∀ (b n : Nat), (List.range n).all (fun j => !cKA (b + j) || xClA cKA (xP (b + j))) = true → b ≤ mid → mid < b + n → xClA cKA (xP mid) = true := fun b n h h1 h2 => by
    have := List.all_eq_true.mp h (mid - b) (List.mem_range.mpr (by omega))
    rw [Nat.add_sub_cancel' h1, hm] at this
    simpa using this
  by_cases h0 : mid < 40
  · exact key 0 40 KA_0 (by omega) (by omega)
  by_cases h1 : mid < 80
  · exact key 40 40 KA_1 (by omega) (by omega)
  by_cases h2 : mid < 120
  · exact key 80 40 KA_2 (by omega) (by omega)
  by_cases h3 : mid < 160
  · exact key 120 40 KA_3 (by omega) (by omega)
  by_cases h4 : mid < 200
  · exact key 160 40 KA_4 (by omega) (by omega)
  by_cases h5 : mid < 240
  · exact key 200 40 KA_5 (by omega) (by omega)
  by_cases h6 : mid < 280
  · exact key 240 40 KA_6 (by omega) (by omega)
  exact key 280 40 KA_7 (by omega) (by omega)
/-- the lists' elements keep their places -/
def yLk (I : Nat → Nat → Int32) (R R' : Nat → Nat → Value) : Prop := ∀ l, 87 ≤ l → l ≤ 92 → ∀ i : Nat, (i : Int) < (I l 2).toInt → yAd R' l i = yAd R l i
theorem yLk.rf {I : Nat → Nat → Int32} {R : Nat → Nat → Value} : yLk I R R := fun _ _ _ _ _ => rfl
