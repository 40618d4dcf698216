/-! WHAT NO PUTFIELD TOUCHES STAYS: a frame by the code alone. A field (class ci, place k) that no putfield of a method, nor of those that it calls, names, stays in every object. -/
def xFrm (ci k : Nat) (h h' : xH) : Prop := h.1 ≤ h'.1 ∧ ∀ (a : Nat) (fs : List Value), a < h.1 → h.2 a = .inr (ci, fs) → ∃ fs' : List Value, h'.2 a = .inr (ci, fs') ∧ fs'[k]? = fs[k]?
section XFRM
variable {ci k : Nat} {h h' h1 : xH}
theorem xFrm.rf : xFrm ci k h h := ⟨Nat.le_refl _, fun _ fs _ hf => ⟨fs, hf, rfl⟩⟩
theorem xFrm.trans (u : xFrm ci k h h1) (v : xFrm ci k h1 h') : xFrm ci k h h' := ⟨Nat.le_trans u.1 v.1, fun a fs ha hf => by
  obtain ⟨f1, e1, e2⟩ := u.2 a fs ha hf
  obtain ⟨f2, e3, e4⟩ := v.2 a f1 (Nat.lt_of_lt_of_le ha u.1) e1
  exact ⟨f2, e3, e4.trans e2⟩⟩
theorem xFrm.push {e : va_E} : xFrm ci k h (xpush h e) := ⟨Nat.le_succ _, fun a fs ha hf => ⟨fs, by
  show (if a = h.1 then e else h.2 a) = _
  rw [if_neg (by omega)]; exact hf, rfl⟩⟩
theorem xFrm.setA {a : Nat} {z : ClassId × vp_A} {e : va_E} (hc : h.2 a = .inl z) : xFrm ci k h (xset h a e) := ⟨Nat.le_refl _, fun b fs hb hf => by
  by_cases hba : b = a
  · subst hba
    rw [hc] at hf
    cases hf
  · exact ⟨fs, by show (if b = a then e else h.2 b) = _; rw [if_neg hba]; exact hf, rfl⟩⟩
theorem xFrm.setO {a c j : Nat} {fs0 : List Value} {v : Value} (hc : h.2 a = .inr (c, fs0)) (hne : c ≠ ci ∨ j ≠ k) : xFrm ci k h (xset h a (.inr (c, fs0.set j v))) := ⟨Nat.le_refl _, fun b fs hb hf => by
  by_cases hba : b = a
  · subst hba
    rw [hc] at hf
    cases hf
    exact ⟨_, if_pos rfl, List.getElem?_set_ne (hne.resolve_left fun e => e rfl)⟩
  · exact ⟨fs, by show (if b = a then _ else h.2 b) = _; rw [if_neg hba]; exact hf, rfl⟩⟩
end XFRM
/-- an instruction that doesn't put into the field -/
def xnp (ci k : Nat) (i : Instr) (an : List Nat) : Bool := match i with
  | .putfield _ => match an with
    | c :: j :: _ => !(Nat.beq c ci) || !(Nat.beq j k)
    | _ => true
  | _ => true
theorem xheap_frm {ci k : Nat} {i : Instr} {an : List Nat} {st st' : List Value} {h h' : xH} {dc ds : Nat} (hn : xnp ci k i an = true) (hx : xheap i an st h = some (st', h', dc, ds)) : xFrm ci k h h' := by
  cases i
  case putfield idx =>
    unfold xheap at hx; dsimp only at hx
    split at hx
    · rename_i v a r c j an0
      split at hx
      · split at hx
        · rename_i c' fs hcell
          split at hx
          · rename_i hg
            obtain ⟨rfl, -⟩ := hg
            cases hx
            refine xFrm.setO hcell ?_
            have hn : (!(Nat.beq c' ci) || !(Nat.beq j k)) = true := hn
            simp only [Bool.or_eq_true, Bool.not_eq_true'] at hn
            exact hn.imp Nat.ne_of_beq_eq_false Nat.ne_of_beq_eq_false
          · cases hx
        · cases hx
      · cases hx
    · cases hx
  all_goals (unfold xheap at hx; dsimp only at hx; (repeat' split at hx) <;> first | (cases hx; done) | (cases hx; first | exact xFrm.rf | exact xFrm.push | exact xFrm.setA (by assumption)))
def xFN (ci k : Nat) (h : xH) (o : Option xA) : Prop := ∀ a : xA, o = some a → match a with
  | .inl (_, h', _, _) => h' = h
  | .inr (.inl ((_, _, _, h'), _, _)) => xFrm ci k h h'
  | .inr (.inr _) => True
section XFN
variable {ci k : Nat} {M : xM} {i : Instr} {an : List Nat} {rest : List xI} {l : xL} {st : List Value} {h : xH}
theorem xFN.none : xFN ci k h Option.none := fun a e => by cases e
theorem xFN.stop {o : Option Value ⊕ String} {c s : Nat} : xFN ci k h (some (.inl (o, h, c, s))) := fun a e => by cases e; rfl
theorem xFN.goto {t : Nat} : xFN ci k h (xgoto M t l st h) := fun a e => by cases e; exact xFrm.rf
theorem xFN.fork {b : Bool} {t : Nat} : xFN ci k h (xfork M b t rest l st h) := fun a e => by cases e; exact xFrm.rf
theorem xFN.stk {o : Option (List Value)} : xFN ci k h (xstk o rest l h) := fun a e => by
  cases o with
  | none => cases e
  | some st => cases e; exact xFrm.rf
theorem xFN.lst {o : Option (xL × List Value)} : xFN ci k h (xlst o rest h) := fun a e => by
  cases o with
  | none => cases e
  | some q => obtain ⟨l, st⟩ := q; cases e; exact xFrm.rf
theorem xFN.hst (hn : xnp ci k i an = true) : xFN ci k h (xhst (xheap i an st h) rest l) := fun a e => by
  cases hx : xheap i an st h with
  | none => rw [hx] at e; cases e
  | some q => obtain ⟨st', h', c, s⟩ := q; rw [hx] at e; cases e; exact xheap_frm hn hx
theorem xFN.obj : xFN ci k h (xobj rest l st h) := fun a e => by
  unfold xobj at e
  split at e
  · split at e
    · cases e; exact xFrm.rf
    · cases e
  · cases e
theorem xFN.inv {pc mode : Nat} {an' : List Nat} : xFN ci k h (xinv pc an' rest l st h mode) := fun a e => by
  unfold xinv at e
  split at e
  · split at e
    · split at e
      · cases e; trivial
      · cases e
    · split at e
      · cases e; trivial
      · cases e
  · cases e
end XFN
theorem xnext_f (ci k : Nat) (M : xM) (pc len : Nat) (i : Instr) (an : List Nat) (rest : List xI) (l : xL) (st : List Value) (h : xH) (hn : xnp ci k i an = true) : xFN ci k h (xnext M ((pc, len, i, an) :: rest) l st h) := by
  cases i
  case if_acmp c o => cases c <;> (unfold xnext; dsimp only; (repeat' split) <;> first | exact xFN.fork | exact xFN.none | exact xFN.stk)
  all_goals (unfold xnext; dsimp only; (repeat' split) <;> first | exact xFN.stk | exact xFN.lst | exact xFN.hst hn | exact xFN.goto | exact xFN.fork | exact xFN.none | exact xFN.stop | exact xFN.obj | exact xFN.inv)
theorem xgo_frm {ci k : Nat} {call : Nat → Nat → List Value → xH → Option xR} (M : xM) (hp : ∀ x ∈ M.2.2.2.2.1, xnp ci k x.2.2.1 x.2.2.2 = true) (hc : ∀ x ∈ M.2.2.2.2.1, ∀ mid, xci x.2.2.1 x.2.2.2 = some mid → ∀ n as h o h' c s, call n mid as h = some (o, h', c, s) → xFrm ci k h h') :
    ∀ (n : Nat) (code : List xI) (l : xL) (st : List Value) (h : xH) (o : Option Value ⊕ String) (h' : xH) (c s : Nat), (∀ x ∈ code, x ∈ M.2.2.2.2.1) → xgo call M n code l st h = some (o, h', c, s) → xFrm ci k h h' := by
  intro n
  induction n with
  | zero => intro code l st h o h' c s _ h1; cases h1
  | succ n ih =>
    intro code l st h o h' c s hm h1
    match code, hm, h1 with
    | [], _, h1 => cases h1
    | (pc, len, i, an) :: rest, hm, h1 =>
      have hN := xnext_c M pc len i an rest l st h
      have hF := xnext_f ci k M pc len i an rest l st h (hp _ (hm _ List.mem_cons_self))
      have hr : ∀ x ∈ rest, x ∈ M.2.2.2.2.1 := fun x hx => hm x (List.mem_cons_of_mem _ hx)
      unfold xgo at h1
      cases hx : xnext M ((pc, len, i, an) :: rest) l st h with
      | none => rw [hx] at h1; cases h1
      | some a =>
        rw [hx] at h1
        have hN := hN a hx
        have hF := hF a hx
        match a, hN, hF, h1 with
        | .inl (o1, h2, c1, s1), _, hF, h1 =>
          cases h1
          rw [show h' = h from hF]
          exact xFrm.rf
        | .inr (.inl ((code', l', st', h2), c1, s1)), hN, hF, h1 =>
          obtain ⟨a, b, e1, -, -⟩ := xadd_some h1
          have hm' : ∀ x ∈ code', x ∈ M.2.2.2.2.1 := by
            rcases hN with rfl | ⟨t, rfl⟩
            · exact hr
            · exact fun x hx => xat_sub hx
          exact xFrm.trans hF (ih _ _ _ _ _ _ _ _ hm' e1)
        | .inr (.inr (mid, as, rest', l', rs, pc')), hN, _, h1 =>
          obtain ⟨hci, rfl⟩ := hN
          dsimp only at h1
          cases hq : call n mid as h with
          | none => rw [hq] at h1; cases h1
          | some q =>
            rw [hq] at h1
            match q, hq, h1 with
            | (.inl v, h2, c2, s2), hq, h1 =>
              obtain ⟨a, b, e1, -, -⟩ := xadd_some h1
              exact xFrm.trans (hc _ (hm _ List.mem_cons_self) mid hci n as h _ _ _ _ hq) (ih _ _ _ _ _ _ _ _ hr e1)
            | (.inr E, h2, c2, s2), hq, h1 =>
              dsimp only at h1
              cases hh : xhand M.2.2.2.2.2 pc' E with
              | none => rw [hh] at h1; cases h1
              | some t =>
                rw [hh] at h1
                obtain ⟨a, b, e1, -, -⟩ := xadd_some h1
                exact xFrm.trans (hc _ (hm _ List.mem_cons_self) mid hci n as h _ _ _ _ hq) (ih _ _ _ _ _ _ _ _ (fun x hx => xat_sub hx) e1)
/-- a method is clean for a field: it doesn't put there, and calls clean ones alone; cl says which -/
def xClM (ci k : Nat) (cl : Nat → Bool) (M : xM) : Bool := M.2.2.2.2.1.all fun x => xnp ci k x.2.2.1 x.2.2.2 && (match xci x.2.2.1 x.2.2.2 with
  | some m => cl m
  | none => true)
theorem xcall_frm {ci k : Nat} {cl : Nat → Bool} (hT : ∀ mid, cl mid = true → xClM ci k cl (xP mid) = true) : ∀ (d n mid : Nat) (as : List Value) (h : xH) (o : Option Value ⊕ String) (h' : xH) (c s : Nat), cl mid = true → xcall xP d n mid as h = some (o, h', c, s) → xFrm ci k h h' := by
  intro d
  induction d with
  | zero => intro n mid as h o h' c s _ h1; cases h1
  | succ d ih =>
    intro n mid as h o h' c s hm h1
    unfold xcall at h1
    by_cases hg : (as.map fun v => v.category).sum ≤ (xP mid).2.2.1
    · rw [if_pos hg] at h1
      have hq : ∀ x ∈ (xP mid).2.2.2.2.1, xnp ci k x.2.2.1 x.2.2.2 = true ∧ ∀ m, xci x.2.2.1 x.2.2.2 = some m → cl m = true := fun x hx => by
        have h2 := List.all_eq_true.mp (hT mid hm) x hx
        simp only [Bool.and_eq_true] at h2
        refine ⟨h2.1, fun m e => ?_⟩
        have h3 := h2.2
        rw [e] at h3
        exact h3
      exact xgo_frm (xP mid) (fun x hx => (hq x hx).1) (fun x hx m e n as h o h' c s hc => ih n m as h o h' c s ((hq x hx).2 m e) hc) n _ _ _ _ _ _ _ _ (fun x hx => hx) h1
    · rw [if_neg hg] at h1; cases h1
/-- a call, with what it leaves alone -/
theorem yC.frm {ci k mid : Nat} {cl : Nat → Bool} {as : List Value} {w : yS} {c s : Nat} {Q Q' : yQ} (hT : ∀ mid, cl mid = true → xClM ci k cl (xP mid) = true) (hm : cl mid = true) (h : yC mid as w c s Q) (hQ : ∀ o w' c' s', Q o w' c' s' → xFrm ci k (yH w) (yH w') → Q' o w' c' s') : yC mid as w c s Q' := by
  obtain ⟨n, o, w', c', s', e, hq⟩ := h
  exact ⟨n, o, w', c', s', e, hQ _ _ _ _ hq (xcall_frm hT n n mid as _ _ _ _ _ hm e)⟩
/-- the field of an object, read off the frame -/
theorem xFrm.fld {ci k a z z' n n' : Nat} {tg tg' : Nat → yT} {I I' : Nat → Nat → Int32} {R R' : Nat → Nat → Value} (h : xFrm ci k (yH (n, tg, I, R)) (yH (n', tg', I', R'))) (ha : a < n) (ht : tg a = (ci + 4, z)) (ht' : tg' a = (ci + 4, z')) (hN : Nat.blt k (yN ci) = true) (hi : yI ci k = true) : I' a k = I a k := by
  obtain ⟨fs', e1, e2⟩ := h.2 a _ ha (yH_obj ht)
  rw [yH_obj ht'] at e1
  cases e1
  rw [yFs_get (blt_lt hN), yFs_get (blt_lt hN), if_pos hi, if_pos hi] at e2
  exact Value.int.inj (Option.some.inj e2)
/-- a call, where a field of a known object is clean: use it ahead of the call's own lemma; its end then has the object's tag to tell, and may use that the field is as it was -/
theorem yC.fld {ci k a z mid n : Nat} {cl : Nat → Bool} {as : List Value} {tg : Nat → yT} {I : Nat → Nat → Int32} {R : Nat → Nat → Value} {c s : Nat} {Q : yQ} (hT : ∀ mid, cl mid = true → xClM ci k cl (xP mid) = true) (hm : cl mid = true) (ha : a < n) (ht : tg a = (ci + 4, z)) (hN : Nat.blt k (yN ci) = true) (hi : yI ci k = true)
    (h : yC mid as (n, tg, I, R) c s (fun o w' c' s' => w'.2.1 a = (ci + 4, z) ∧ (w'.2.2.1 a k = I a k → Q o w' c' s'))) : yC mid as (n, tg, I, R) c s Q :=
  h.frm hT hm (fun o w' c' s' hq hf => hq.2 (xFrm.fld (n' := w'.1) (tg' := w'.2.1) (I' := w'.2.2.1) (R' := w'.2.2.2) hf ha ht hq.1 hN hi))
