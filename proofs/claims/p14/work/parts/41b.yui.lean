/-! HOW DEEP CALLS GO: a rank of methods, so that runs at any depth are runs at the ranks' -/
/-- the method that an instruction calls -/
def xci (i : Instr) (an : List Nat) : Option Nat := match i with
  | .invokevirtual _ | .invokeinterface _ _ | .invokespecial _ | .invokestatic _ => (match an with
    | 0 :: mid :: _ => some mid
    | 5 :: mid :: _ => some mid
    | _ => none)
  | _ => none
def xNC (M : xM) (i : Instr) (an : List Nat) (rest : List xI) (o : Option xA) : Prop := ∀ a : xA, o = some a → match a with
  | .inl _ => True
  | .inr (.inl ((code', _, _, _), _, _)) => code' = rest ∨ ∃ t, code' = xat M.2.2.2.2.1 t
  | .inr (.inr (mid, _, rest', _, _, _)) => xci i an = some mid ∧ rest' = rest
section XNC
variable {M : xM} {i : Instr} {an : List Nat} {rest : List xI} {l : xL} {st : List Value} {h : xH}
theorem xNC.none : xNC M i an rest Option.none := fun a e => by cases e
theorem xNC.stop {q : xR} : xNC M i an rest (some (.inl q)) := fun a e => by cases e; trivial
theorem xNC.goto {t : Nat} : xNC M i an rest (xgoto M t l st h) := fun a e => by cases e; exact Or.inr ⟨t, rfl⟩
theorem xNC.fork {b : Bool} {t : Nat} : xNC M i an rest (xfork M b t rest l st h) := fun a e => by
  cases e
  cases b
  · exact Or.inl rfl
  · exact Or.inr ⟨t, rfl⟩
theorem xNC.stk {o : Option (List Value)} : xNC M i an rest (xstk o rest l h) := fun a e => by
  cases o with
  | none => cases e
  | some st => cases e; exact Or.inl rfl
theorem xNC.lst {o : Option (xL × List Value)} : xNC M i an rest (xlst o rest h) := fun a e => by
  cases o with
  | none => cases e
  | some q => obtain ⟨l, st⟩ := q; cases e; exact Or.inl rfl
theorem xNC.hst {o : Option (List Value × xH × Nat × Nat)} : xNC M i an rest (xhst o rest l) := fun a e => by
  cases o with
  | none => cases e
  | some q => obtain ⟨st, h, c, s⟩ := q; cases e; exact Or.inl rfl
theorem xNC.obj : xNC M i an rest (xobj rest l st h) := fun a e => by
  unfold xobj at e
  split at e
  · split at e
    · cases e; exact Or.inl rfl
    · cases e
  · cases e
theorem xNC.inv {pc mode : Nat} {an' : List Nat} (hi : ∀ mid k ci an0, an' = 0 :: mid :: k :: ci :: an0 → xci i an = some mid) : xNC M i an rest (xinv pc an' rest l st h mode) := fun a e => by
  unfold xinv at e
  split at e
  · rename_i mid k ci an0
    split at e
    · split at e
      · cases e; exact ⟨hi _ _ _ _ rfl, rfl⟩
      · cases e
    · split at e
      · cases e; exact ⟨hi _ _ _ _ rfl, rfl⟩
      · cases e
  · cases e
end XNC
theorem xnext_c (M : xM) (pc len : Nat) (i : Instr) (an : List Nat) (rest : List xI) (l : xL) (st : List Value) (h : xH) : xNC M i an rest (xnext M ((pc, len, i, an) :: rest) l st h) := by
  cases i
  case goto => exact xNC.goto
  case ifCond => unfold xnext; dsimp only; (repeat' split) <;> first | exact xNC.fork | exact xNC.none
  case if_icmp => unfold xnext; dsimp only; (repeat' split) <;> first | exact xNC.fork | exact xNC.none
  case ifnull => unfold xnext; dsimp only; (repeat' split) <;> first | exact xNC.fork | exact xNC.none
  case ifnonnull => unfold xnext; dsimp only; (repeat' split) <;> first | exact xNC.fork | exact xNC.none
  case if_acmp c o => cases c <;> (unfold xnext; dsimp only; (repeat' split) <;> first | exact xNC.fork | exact xNC.none | exact xNC.stk)
  case tableswitch => unfold xnext; dsimp only; (repeat' split) <;> first | exact xNC.goto | exact xNC.none
  case ireturn => unfold xnext; dsimp only; (repeat' split) <;> first | exact xNC.stop | exact xNC.none
  case lreturn => unfold xnext; dsimp only; (repeat' split) <;> first | exact xNC.stop | exact xNC.none
  case areturn => unfold xnext; dsimp only; (repeat' split) <;> first | exact xNC.stop | exact xNC.none
  case return_ => unfold xnext; dsimp only; (repeat' split) <;> first | exact xNC.stop | exact xNC.none
  case new => unfold xnext; dsimp only; (repeat' split) <;> first | exact xNC.stop | exact xNC.none | exact xNC.hst
  case invokevirtual => unfold xnext; dsimp only; (repeat' split) <;> first | exact xNC.hst | exact xNC.inv (fun _ _ _ _ e => by subst e; rfl)
  case invokeinterface => unfold xnext; dsimp only; (repeat' split) <;> first | exact xNC.hst | exact xNC.inv (fun _ _ _ _ e => by subst e; rfl)
  case invokespecial => unfold xnext; dsimp only; (repeat' split) <;> first | exact xNC.obj | exact xNC.inv (fun _ _ _ _ e => by cases e; rfl)
  case invokestatic => unfold xnext; dsimp only; (repeat' split) <;> first | exact xNC.hst | exact xNC.stk | exact xNC.none | exact xNC.inv (fun _ _ _ _ e => by cases e; rfl)
  case ldc => unfold xnext; dsimp only; (repeat' split) <;> first | exact xNC.hst | exact xNC.stk
  case ldc_w => unfold xnext; dsimp only; (repeat' split) <;> first | exact xNC.hst | exact xNC.stk
  all_goals (unfold xnext; dsimp only; first | exact xNC.stk | exact xNC.lst | exact xNC.hst)
theorem xat_sub : ∀ {L : List xI} {t : Nat} {x : xI}, x ∈ xat L t → x ∈ L
  | [], _, _, h => h
  | y :: r, t, x, h => by
    unfold xat at h
    split at h
    · exact h
    · exact List.mem_cons_of_mem _ (xat_sub h)
theorem xgo_rk {call call' : Nat → Nat → List Value → xH → Option xR} (M : xM) (hc : ∀ x ∈ M.2.2.2.2.1, ∀ mid, xci x.2.2.1 x.2.2.2 = some mid → ∀ n as h r, call n mid as h = some r → call' n mid as h = some r) :
    ∀ (n : Nat) (code : List xI) (l : xL) (st : List Value) (h : xH) (r : xR), (∀ x ∈ code, x ∈ M.2.2.2.2.1) → xgo call M n code l st h = some r → xgo call' M n code l st h = some r := by
  intro n
  induction n with
  | zero => intro code l st h r _ h1; cases h1
  | succ n ih =>
    intro code l st h r hm h1
    match code, hm, h1 with
    | [], _, h1 => cases h1
    | (pc, len, i, an) :: rest, hm, h1 =>
      have hN := xnext_c M pc len i an rest l st h
      have hr : ∀ x ∈ rest, x ∈ M.2.2.2.2.1 := fun x hx => hm x (List.mem_cons_of_mem _ hx)
      unfold xgo at h1 ⊢
      cases hx : xnext M ((pc, len, i, an) :: rest) l st h with
      | none => rw [hx] at h1; cases h1
      | some a =>
        rw [hx] at h1
        have hN := hN a hx
        match a, hN, h1 with
        | .inl q, _, h1 => exact h1
        | .inr (.inl ((code', l', st', h'), c, s)), hN, h1 =>
          obtain ⟨a, b, e1, e2, e3⟩ := xadd_some h1
          show xadd c s (xgo call' M n code' l' st' h') = some r
          have hm' : ∀ x ∈ code', x ∈ M.2.2.2.2.1 := by
            rcases hN with rfl | ⟨t, rfl⟩
            · exact hr
            · exact fun x hx => xat_sub hx
          rw [ih _ _ _ _ _ hm' e1, ← Prod.eta r, ← Prod.eta r.2, ← Prod.eta r.2.2, e2, e3]; rfl
        | .inr (.inr (mid, as, rest', l', rs, pc')), hN, h1 =>
          obtain ⟨hci, rfl⟩ := hN
          dsimp only at h1 ⊢
          cases hq : call n mid as h with
          | none => rw [hq] at h1; cases h1
          | some q =>
            rw [hq] at h1
            rw [hc _ (hm _ List.mem_cons_self) mid hci n as h q hq]
            match q with
            | (.inl v, h2, c, s) =>
              obtain ⟨a, b, e1, e2, e3⟩ := xadd_some h1
              show xadd c s (xgo call' M n rest' l' (v.toList ++ rs) h2) = some r
              rw [ih _ _ _ _ _ hr e1, ← Prod.eta r, ← Prod.eta r.2, ← Prod.eta r.2.2, e2, e3]; rfl
            | (.inr E, h2, c, s) =>
              dsimp only at h1 ⊢
              cases hh : xhand M.2.2.2.2.2 pc' E with
              | none => rw [hh] at h1; cases h1
              | some t =>
                rw [hh] at h1
                obtain ⟨a, b, e1, e2, e3⟩ := xadd_some h1
                show xadd c s (xgo call' M n (xat M.2.2.2.2.1 t) l' [.retAddr 0] h2) = some r
                rw [ih _ _ _ _ _ (fun x hx => xat_sub hx) e1, ← Prod.eta r, ← Prod.eta r.2, ← Prod.eta r.2.2, e2, e3]; rfl
/-- ranks, by the place in the table -/
def xRkL : List Nat := [3, 3, 2, 2, 4, 2, 3, 5, 5, 2, 5, 3, 2, 4, 5, 4, 3, 4, 2, 3, 4, 5, 5, 2, 5, 2, 3, 3, 4, 4, 11, 5, 3, 4, 0, 0, 1, 2, 0, 3, 0, 0, 0, 0, 0, 0, 1, 1, 1, 1, 0, 0, 0, 0, 1, 0, 0, 0, 0, 0, 0, 0, 0, 0, 1, 2, 0, 0, 0, 0, 0, 1, 2, 2, 3, 0, 0, 0, 0, 0, 1, 1, 2, 2, 1, 3, 2, 1, 0, 3, 3, 1, 2, 0, 1, 0, 0, 0, 0, 0, 0, 0, 0, 1, 0, 0, 0, 0, 1, 1, 1, 1, 1, 1, 1, 3, 2, 2, 2, 3, 1, 2, 1, 1, 3, 1, 2, 4, 4, 1, 4, 2, 1, 3, 4, 3, 2, 3, 1, 2, 3, 4, 4, 1, 4, 1, 2, 2, 3, 3, 10, 4, 2, 3, 4, 6, 5, 2, 5, 2, 4, 3, 3, 0, 0, 1, 0, 3, 3, 3, 2, 3, 0, 0, 0, 0, 0, 0, 1, 0, 0, 0, 1, 0, 0, 0, 3, 0, 0, 1, 1, 1, 2, 3, 6, 2, 6, 3, 4, 3, 4, 4, 6, 0, 4, 2, 6, 3, 6, 1, 2, 0, 3, 3, 0, 3, 2, 4, 5, 6, 3, 4, 3, 5, 3, 3, 4, 2, 3, 4, 5, 3, 4, 3, 4, 3, 4, 4, 5, 4, 2, 3, 10, 5, 5, 6, 5, 3, 4, 0, 6, 2, 0, 3, 2, 5, 8, 4, 4, 0, 0, 6, 7, 0, 0, 0, 6, 1, 5, 5, 0, 1, 1, 3, 9, 5, 7, 1, 4, 1, 0, 1, 1, 0, 0, 4, 3, 3, 3, 3, 2, 2, 2, 0, 1, 0, 0, 1, 0, 2, 2, 3, 0, 0, 2, 4, 5, 1, 1, 0, 0, 0, 2, 1, 1, 1, 0, 0, 0, 0]
def xRk (k : Nat) : Nat := xRkL.getD k 0
def xRkM (D : Nat) (M : xM) : Bool := M.2.2.2.2.1.all fun x => match xci x.2.2.1 x.2.2.2 with
  | some m => Nat.blt m 320 && Nat.blt (xRk m) D
  | none => true
theorem xRkM_ok {D : Nat} {M : xM} (h : xRkM D M = true) : ∀ x ∈ M.2.2.2.2.1, ∀ mid, xci x.2.2.1 x.2.2.2 = some mid → mid < 320 ∧ xRk mid < D := by
  intro x hx mid hm
  have h1 := List.all_eq_true.mp h x hx
  rw [hm] at h1
  dsimp only at h1
  simp only [Bool.and_eq_true] at h1
  exact ⟨blt_lt h1.1, blt_lt h1.2⟩
set_option maxRecDepth 20000 in
theorem xRk_0 : (List.range 20).all (fun j => xRkM (xRk (0 + j)) (xP (0 + j))) = true := by decide +kernel
set_option maxRecDepth 20000 in
theorem xRk_1 : (List.range 20).all (fun j => xRkM (xRk (20 + j)) (xP (20 + j))) = true := by decide +kernel
set_option maxRecDepth 20000 in
theorem xRk_2 : (List.range 20).all (fun j => xRkM (xRk (40 + j)) (xP (40 + j))) = true := by decide +kernel
set_option maxRecDepth 20000 in
theorem xRk_3 : (List.range 20).all (fun j => xRkM (xRk (60 + j)) (xP (60 + j))) = true := by decide +kernel
set_option maxRecDepth 20000 in
theorem xRk_4 : (List.range 20).all (fun j => xRkM (xRk (80 + j)) (xP (80 + j))) = true := by decide +kernel
set_option maxRecDepth 20000 in
theorem xRk_5 : (List.range 20).all (fun j => xRkM (xRk (100 + j)) (xP (100 + j))) = true := by decide +kernel
set_option maxRecDepth 20000 in
theorem xRk_6 : (List.range 20).all (fun j => xRkM (xRk (120 + j)) (xP (120 + j))) = true := by decide +kernel
set_option maxRecDepth 20000 in
theorem xRk_7 : (List.range 20).all (fun j => xRkM (xRk (140 + j)) (xP (140 + j))) = true := by decide +kernel
set_option maxRecDepth 20000 in
theorem xRk_8 : (List.range 20).all (fun j => xRkM (xRk (160 + j)) (xP (160 + j))) = true := by decide +kernel
set_option maxRecDepth 20000 in
theorem xRk_9 : (List.range 20).all (fun j => xRkM (xRk (180 + j)) (xP (180 + j))) = true := by decide +kernel
set_option maxRecDepth 20000 in
theorem xRk_10 : (List.range 20).all (fun j => xRkM (xRk (200 + j)) (xP (200 + j))) = true := by decide +kernel
set_option maxRecDepth 20000 in
theorem xRk_11 : (List.range 20).all (fun j => xRkM (xRk (220 + j)) (xP (220 + j))) = true := by decide +kernel
set_option maxRecDepth 20000 in
theorem xRk_12 : (List.range 20).all (fun j => xRkM (xRk (240 + j)) (xP (240 + j))) = true := by decide +kernel
set_option maxRecDepth 20000 in
theorem xRk_13 : (List.range 20).all (fun j => xRkM (xRk (260 + j)) (xP (260 + j))) = true := by decide +kernel
set_option maxRecDepth 20000 in
theorem xRk_14 : (List.range 20).all (fun j => xRkM (xRk (280 + j)) (xP (280 + j))) = true := by decide +kernel
set_option maxRecDepth 20000 in
theorem xRk_15 : (List.range 20).all (fun j => xRkM (xRk (300 + j)) (xP (300 + j))) = true := by decide +kernel
theorem xRk_law : xRkM 12 xm_L_law = true := by decide +kernel
theorem xRk_all (k : Nat) (hk : k < 320) : xRkM (xRk k) (xP k) = true := by
  have key : ∀ (b n : Nat), (List.range n).all (fun j => xRkM (xRk (b + j)) (xP (b + j))) = true → b ≤ k → k < b + n → xRkM (xRk k) (xP k) = true := fun b n h h1 h2 => by
    have := List.all_eq_true.mp h (k - b) (List.mem_range.mpr (by omega))
    rwa [Nat.add_sub_cancel' h1] at this
  by_cases h0 : k < 20
  · exact key 0 20 xRk_0 (by omega) (by omega)
  by_cases h1 : k < 40
  · exact key 20 20 xRk_1 (by omega) (by omega)
  by_cases h2 : k < 60
  · exact key 40 20 xRk_2 (by omega) (by omega)
  by_cases h3 : k < 80
  · exact key 60 20 xRk_3 (by omega) (by omega)
  by_cases h4 : k < 100
  · exact key 80 20 xRk_4 (by omega) (by omega)
  by_cases h5 : k < 120
  · exact key 100 20 xRk_5 (by omega) (by omega)
  by_cases h6 : k < 140
  · exact key 120 20 xRk_6 (by omega) (by omega)
  by_cases h7 : k < 160
  · exact key 140 20 xRk_7 (by omega) (by omega)
  by_cases h8 : k < 180
  · exact key 160 20 xRk_8 (by omega) (by omega)
  by_cases h9 : k < 200
  · exact key 180 20 xRk_9 (by omega) (by omega)
  by_cases h10 : k < 220
  · exact key 200 20 xRk_10 (by omega) (by omega)
  by_cases h11 : k < 240
  · exact key 220 20 xRk_11 (by omega) (by omega)
  by_cases h12 : k < 260
  · exact key 240 20 xRk_12 (by omega) (by omega)
  by_cases h13 : k < 280
  · exact key 260 20 xRk_13 (by omega) (by omega)
  by_cases h14 : k < 300
  · exact key 280 20 xRk_14 (by omega) (by omega)
  exact key 300 20 xRk_15 (by omega) (by omega)
/-- a call at any depth is one at its rank -/
theorem xcall_rk : ∀ (d n mid : Nat) (as : List Value) (h : xH) (r : xR), mid < 320 → xcall xP d n mid as h = some r → xcall xP (xRk mid + 1) n mid as h = some r := by
  intro d
  induction d with
  | zero => intro n mid as h r _ h1; cases h1
  | succ d ih =>
    intro n mid as h r hm h1
    unfold xcall at h1 ⊢
    by_cases hg : (as.map fun v => v.category).sum ≤ (xP mid).2.2.1
    · rw [if_pos hg] at h1 ⊢
      refine xgo_rk (xP mid) (fun x hx m' hc n as h r hq => ?_) n _ _ _ _ _ (fun x hx => hx) h1
      obtain ⟨h2, h3⟩ := xRkM_ok (xRk_all mid hm) x hx m' hc
      exact xcall_mono xP (xRk m' + 1) (xRk mid) n n m' as h r h3 (Nat.le_refl n) (ih n m' as h r h2 hq)
    · rw [if_neg hg] at h1; cases h1
/-- the law's run needs no more than this depth -/
theorem law_depth {d n : Nat} {code : List xI} {l : xL} {st : List Value} {h : xH} {r : xR} (hm : ∀ x ∈ code, x ∈ xm_L_law.2.2.2.2.1) (e : xgo (xcall xP d) xm_L_law n code l st h = some r) : xgo (xcall xP 12) xm_L_law n code l st h = some r := by
  refine xgo_rk xm_L_law (fun x hx m' hc n as h r hq => ?_) n _ _ _ _ _ hm e
  obtain ⟨h2, h3⟩ := xRkM_ok xRk_law x hx m' hc
  exact xcall_mono xP (xRk m' + 1) 12 n n m' as h r h3 (Nat.le_refl n) (xcall_rk d n m' as h r h2 hq)
