/-! THE SMALL MACHINE'S RUNS -/
abbrev xR : Type := (Option Value ⊕ String) × xH × Nat × Nat
abbrev xC : Type := List xI × xL × List Value × xH
/-- what one instruction does: it ends the method; it goes on (new cells, new slots); it calls (method, arguments, then the code behind it, the locals, the stack without the arguments, its own place) -/
abbrev xA : Type := xR ⊕ ((xC × Nat × Nat) ⊕ (Nat × List Value × List xI × xL × List Value × Nat))
def xat : List xI → Nat → List xI
  | [], _ => []
  | x :: r, t => if x.1 = t then x :: r else xat r t
def xcmp : Jvm.ClassFile.Cond → Int32 → Int32 → Bool
  | .eq, x, y => decide (x = y)
  | .ne, x, y => decide (¬ x = y)
  | .lt, x, y => decide (x < y)
  | .ge, x, y => decide (y ≤ x)
  | .gt, x, y => decide (y < x)
  | .le, x, y => decide (x ≤ y)
def xEx : List String := ["java/lang/IndexOutOfBoundsException", "java/lang/IllegalArgumentException", "java/lang/IllegalStateException"]
/-- two references that can be told to be one or not -/
def xapart : Value → Value → Bool
  | .ref a, .ref b => decide (a = b) || decide (xN0 ≤ a) || decide (xN0 ≤ b)
  | .null, .ref _ => true
  | .ref _, .null => true
  | .null, .null => true
  | .retAddr 1, .retAddr 1 => true
  | _, _ => false
def xgoto (M : xM) (t : Nat) (l : xL) (st : List Value) (h : xH) : Option xA := some (.inr (.inl ((xat M.2.2.2.2.1 t, l, st, h), 0, 0)))
def xfork (M : xM) (b : Bool) (t : Nat) (rest : List xI) (l : xL) (st : List Value) (h : xH) : Option xA := some (.inr (.inl ((bif b then xat M.2.2.2.2.1 t else rest, l, st, h), 0, 0)))
def xstk (o : Option (List Value)) (rest : List xI) (l : xL) (h : xH) : Option xA := match o with
  | some st => some (.inr (.inl ((rest, l, st, h), 0, 0)))
  | none => none
def xlst (o : Option (xL × List Value)) (rest : List xI) (h : xH) : Option xA := match o with
  | some (l, st) => some (.inr (.inl ((rest, l, st, h), 0, 0)))
  | none => none
def xhst (o : Option (List Value × xH × Nat × Nat)) (rest : List xI) (l : xL) : Option xA := match o with
  | some (st, h, c, s) => some (.inr (.inl ((rest, l, st, h), c, s)))
  | none => none
def xrecv (ci : Nat) (a : Value) (h : xH) : Bool := match a with
  | .ref b => if b < h.1 then (match h.2 b with
    | .inr (c, _) => Nat.beq c ci
    | _ => false) else false
  | _ => false
def xisr : Value → Bool
  | .ref _ => true
  | _ => false
/-- mode 0: static; 1: the receiver's class is looked at; 2: the receiver is an object -/
def xinv (pc : Nat) (an : List Nat) (rest : List xI) (l : xL) (st : List Value) (h : xH) (mode : Nat) : Option xA := match an with
  | 0 :: mid :: k :: ci :: _ =>
    match (st.take k).reverse with
    | [] => if k = 0 ∧ ((st.drop k).map fun v => v.category).sum ≤ 8 ∧ mode = 0 then some (.inr (.inr (mid, [], rest, l, st.drop k, pc))) else none
    | a :: as => if as.length + 1 = k ∧ ((st.drop k).map fun v => v.category).sum ≤ 8 ∧ (mode = 1 → xrecv ci a h = true) ∧ (mode = 2 → xisr a = true) then some (.inr (.inr (mid, a :: as, rest, l, st.drop k, pc))) else none
  | _ => none
theorem xinv_nil {pc mid k ci mode : Nat} {an0 : List Nat} {rest : List xI} {l : xL} {st : List Value} {h : xH} (hta : (st.take k).reverse = []) : xinv pc (0 :: mid :: k :: ci :: an0) rest l st h mode = if k = 0 ∧ ((st.drop k).map fun v => v.category).sum ≤ 8 ∧ mode = 0 then some (.inr (.inr (mid, [], rest, l, st.drop k, pc))) else none := by
  simp only [xinv, hta]
theorem xinv_cons {pc mid k ci mode : Nat} {an0 : List Nat} {rest : List xI} {l : xL} {st : List Value} {h : xH} {a : Value} {as : List Value} (hta : (st.take k).reverse = a :: as) : xinv pc (0 :: mid :: k :: ci :: an0) rest l st h mode = if as.length + 1 = k ∧ ((st.drop k).map fun v => v.category).sum ≤ 8 ∧ (mode = 1 → xrecv ci a h = true) ∧ (mode = 2 → xisr a = true) then some (.inr (.inr (mid, a :: as, rest, l, st.drop k, pc))) else none := by
  simp only [xinv, hta]
def xobj (rest : List xI) (l : xL) (st : List Value) (h : xH) : Option xA := match st with
  | .ref a :: r => if a < h.1 ∧ (r.map fun v => v.category).sum ≤ 8 then some (.inr (.inl ((rest, l, r, h), 0, 0))) else none
  | _ => none
def xnext (M : xM) (code : List xI) (l : xL) (st : List Value) (h : xH) : Option xA := match code with
  | [] => none
  | (pc, _, i, an) :: rest => match i with
    | .goto _ => xgoto M (an.getD 0 0) l st h
    | .ifCond c _ => match st with
      | .int x :: r => xfork M (xcmp c x 0) (an.getD 0 0) rest l r h
      | _ => none
    | .if_icmp c _ => match st with
      | .int y :: .int x :: r => xfork M (xcmp c x y) (an.getD 0 0) rest l r h
      | _ => none
    | .ifnull _ => match st with
      | .ref _ :: r => xfork M false (an.getD 0 0) rest l r h
      | .null :: r => xfork M true (an.getD 0 0) rest l r h
      | _ => none
    | .ifnonnull _ => match st with
      | .ref _ :: r => xfork M true (an.getD 0 0) rest l r h
      | .null :: r => xfork M false (an.getD 0 0) rest l r h
      | _ => none
    | .if_acmp .eq _ => match st with
      | v :: u :: r => if xapart u v = true then xfork M (decide (u = v)) (an.getD 0 0) rest l r h else none
      | _ => none
    | .if_acmp .ne _ => match st with
      | v :: u :: r => if xapart u v = true then xfork M (decide (¬ u = v)) (an.getD 0 0) rest l r h else none
      | _ => none
    | .tableswitch _ lo hi _ => match st with
      | .int x :: r => if x.toInt < lo ∨ hi < x.toInt then xgoto M (an.getD 0 0) l r h else xgoto M (an.getD (1 + (x.toInt - lo).toNat) 0) l r h
      | _ => none
    | .ireturn => match st with
      | [.int x] => match M.2.2.2.1 with
        | some ty => if xfit ty (.int x) = true then some (.inl (.inl (some (.int x)), h, 0, 0)) else none
        | none => none
      | _ => none
    | .lreturn => match st with
      | [.long x] => some (.inl (.inl (some (.long x)), h, 0, 0))
      | _ => none
    | .areturn => match st with
      | [.ref x] => some (.inl (.inl (some (.ref x)), h, 0, 0))
      | [.null] => some (.inl (.inl (some .null), h, 0, 0))
      | _ => none
    | .return_ => match st with
      | [] => some (.inl (.inl none, h, 0, 0))
      | _ => none
    | .new _ => match an with
      | 200 :: e :: _ => if (st.map fun v => v.category).sum ≤ 8 then some (.inl (.inr (xEx.getD e ""), h, 1, 6)) else none
      | _ => xhst (xheap i an st h) rest l
    | .invokevirtual _ => match an with
      | 2 :: _ => xhst (xheap i an st h) rest l
      | 6 :: _ => xhst (xheap i an st h) rest l
      | _ => xinv pc an rest l st h 1
    | .invokeinterface _ _ => xinv pc an rest l st h 1
    | .invokespecial _ => match an with
      | 1 :: _ => xobj rest l st h
      | 5 :: an => xinv pc (0 :: an) rest l st h 1
      | _ => xinv pc an rest l st h 2
    | .invokestatic _ => match an with
      | 3 :: _ => xhst (xheap i an st h) rest l
      | 4 :: an => if ((st.drop 2).map fun v => v.category).sum ≤ 8 then xstk (xmath an st) rest l h else none
      | _ => xinv pc an rest l st h 0
    | .ldc _ => match an with
      | 300 :: _ => xhst (xheap i an st h) rest l
      | 301 :: _ => xhst (xheap i an st h) rest l
      | _ => xstk (xpure i an st) rest l h
    | .ldc_w _ => match an with
      | 300 :: _ => xhst (xheap i an st h) rest l
      | 301 :: _ => xhst (xheap i an st h) rest l
      | _ => xstk (xpure i an st) rest l h
    | .iload _ | .iload_n _ | .lload _ | .lload_n _ | .aload _ | .aload_n _ | .istore _ | .istore_n _ | .lstore _ | .lstore_n _ | .astore _ | .astore_n _ | .iinc _ _ => xlst (xloc M.2.2.1 i l st) rest h
    | .getfield _ | .putfield _ | .getstatic _ | .iaload | .baload | .aaload | .iastore | .bastore | .aastore | .arraylength | .newarray _ | .anewarray _ | .checkcast _ => xhst (xheap i an st h) rest l
    | _ => xstk (xpure i an st) rest l h
def xadd (c s : Nat) (r : Option xR) : Option xR := match r with
  | some (o, h, a, b) => some (o, h, c + a, s + b)
  | none => none
/-- the first handler that stands round pc and takes E -/
def xhand : List (Nat × Nat × Nat × Nat × String) → Nat → String → Option Nat
  | [], _, _ => none
  | x :: r, pc, E => if x.1 ≤ pc ∧ pc < x.2.1 ∧ x.2.2.2.2 = E then some x.2.2.1 else xhand r pc E
def xgo (call : Nat → Nat → List Value → xH → Option xR) (M : xM) : Nat → List xI → xL → List Value → xH → Option xR
  | 0, _, _, _, _ => none
  | n + 1, code, l, st, h => match xnext M code l st h with
    | none => none
    | some (.inl r) => some r
    | some (.inr (.inl ((code', l', st', h'), c, s))) => xadd c s (xgo call M n code' l' st' h')
    | some (.inr (.inr (mid, as, rest, l', r, pc))) => match call n mid as h with
      | none => none
      | some (.inl v, h1, c, s) => xadd c s (xgo call M n rest l' (v.toList ++ r) h1)
      | some (.inr E, h1, c, s) => match xhand M.2.2.2.2.2 pc E with
        | some t => xadd c s (xgo call M n (xat M.2.2.2.2.1 t) l' [.retAddr 0] h1)
        | none => none
def xcall (P : Nat → xM) : Nat → Nat → Nat → List Value → xH → Option xR
  | 0, _, _, _, _ => none
  | d + 1, n, mid, as, h => if (as.map fun v => v.category).sum ≤ (P mid).2.2.1 then xgo (xcall P d) (P mid) n (P mid).2.2.2.2.1 (lv_args 0 as) [] h else none
/-- runs to an end, within so many new cells and slots -/
def xRun (P : Nat → xM) (d : Nat) (M : xM) (code : List xI) (l : xL) (st : List Value) (h : xH) (o : Option Value ⊕ String) (h' : xH) (C S : Nat) : Prop := ∃ n c s, xgo (xcall P d) M n code l st h = some (o, h', c, s) ∧ c ≤ C ∧ s ≤ S
def xCal (P : Nat → xM) (d : Nat) (mid : Nat) (as : List Value) (h : xH) (o : Option Value ⊕ String) (h' : xH) (C S : Nat) : Prop := ∃ n c s, xcall P d n mid as h = some (o, h', c, s) ∧ c ≤ C ∧ s ≤ S
theorem xadd_some {c s : Nat} {r : Option xR} {q : xR} (h : xadd c s r = some q) : ∃ a b, r = some (q.1, q.2.1, a, b) ∧ q.2.2.1 = c + a ∧ q.2.2.2 = s + b := by
  cases r with
  | none => cases h
  | some r => obtain ⟨o, h1, a, b⟩ := r; cases h; exact ⟨a, b, rfl, rfl, rfl⟩
theorem xgo_mono {call call' : Nat → Nat → List Value → xH → Option xR} (M : xM) (hc : ∀ n n' mid as h r, n ≤ n' → call n mid as h = some r → call' n' mid as h = some r) :
    ∀ (n n' : Nat) (code : List xI) (l : xL) (st : List Value) (h : xH) (r : xR), n ≤ n' → xgo call M n code l st h = some r → xgo call' M n' code l st h = some r := by
  intro n
  induction n with
  | zero => intro n' code l st h r _ h1; cases h1
  | succ n ih =>
    intro n' code l st h r hn h1
    obtain ⟨n', rfl⟩ : ∃ k, n' = k + 1 := ⟨n' - 1, by omega⟩
    have hn : n ≤ n' := by omega
    unfold xgo at h1 ⊢
    cases hx : xnext M code l st h with
    | none => rw [hx] at h1; cases h1
    | some a =>
      rw [hx] at h1
      match a with
      | .inl q => exact h1
      | .inr (.inl ((code', l', st', h'), c, s)) =>
        obtain ⟨a, b, e1, e2, e3⟩ := xadd_some h1
        show xadd c s (xgo call' M n' code' l' st' h') = some r
        rw [ih n' _ _ _ _ _ hn e1, ← Prod.eta r, ← Prod.eta r.2, ← Prod.eta r.2.2, e2, e3]; rfl
      | .inr (.inr (mid, as, rest, l', rs, pc)) =>
        dsimp only at h1 ⊢
        cases hq : call n mid as h with
        | none => rw [hq] at h1; cases h1
        | some q =>
          rw [hq] at h1
          rw [hc n n' mid as h q hn hq]
          match q with
          | (.inl v, h2, c, s) =>
            obtain ⟨a, b, e1, e2, e3⟩ := xadd_some h1
            show xadd c s (xgo call' M n' rest l' (v.toList ++ rs) h2) = some r
            rw [ih n' _ _ _ _ _ hn e1, ← Prod.eta r, ← Prod.eta r.2, ← Prod.eta r.2.2, e2, e3]; rfl
          | (.inr E, h2, c, s) =>
            dsimp only at h1 ⊢
            cases hh : xhand M.2.2.2.2.2 pc E with
            | none => rw [hh] at h1; cases h1
            | some t =>
              rw [hh] at h1
              obtain ⟨a, b, e1, e2, e3⟩ := xadd_some h1
              show xadd c s (xgo call' M n' (xat M.2.2.2.2.1 t) l' [.retAddr 0] h2) = some r
              rw [ih n' _ _ _ _ _ hn e1, ← Prod.eta r, ← Prod.eta r.2, ← Prod.eta r.2.2, e2, e3]; rfl
theorem xcall_mono (P : Nat → xM) : ∀ (d d' n n' mid : Nat) (as : List Value) (h : xH) (r : xR), d ≤ d' → n ≤ n' → xcall P d n mid as h = some r → xcall P d' n' mid as h = some r := by
  intro d
  induction d with
  | zero => intro d' n n' mid as h r _ _ h1; cases h1
  | succ d ih =>
    intro d' n n' mid as h r hd hn h1
    obtain ⟨d', rfl⟩ : ∃ k, d' = k + 1 := ⟨d' - 1, by omega⟩
    unfold xcall at h1 ⊢
    by_cases hg : (as.map fun v => v.category).sum ≤ (P mid).2.2.1
    · rw [if_pos hg] at h1 ⊢
      exact xgo_mono (P mid) (fun n n' mid as h r hn hq => ih d' n n' mid as h r (by omega) hn hq) n n' _ _ _ _ _ hn h1
    · rw [if_neg hg] at h1; cases h1
theorem xCal.mono {P : Nat → xM} {d d' mid : Nat} {as : List Value} {h : xH} {o : Option Value ⊕ String} {h' : xH} {C S C' S' : Nat} (hd : d ≤ d') (hC : C ≤ C') (hS : S ≤ S') (k : xCal P d mid as h o h' C S) : xCal P d' mid as h o h' C' S' := by
  obtain ⟨n, c, s, e, h1, h2⟩ := k
  exact ⟨n, c, s, xcall_mono P d d' n n mid as h _ hd (Nat.le_refl n) e, by omega, by omega⟩
section XRUN
variable {P : Nat → xM} {d : Nat} {M : xM} {code code' rest : List xI} {l l' : xL} {st st' rs : List Value} {h h' h1 : xH} {o : Option Value ⊕ String} {C S c s C' S' : Nat}
/-- an instruction that goes on -/
theorem xRun.stepA (hx : xnext M code l st h = some (.inr (.inl ((code', l', st', h1), c, s)))) (k : xRun P d M code' l' st' h1 o h' C S) : xRun P d M code l st h o h' (c + C) (s + S) := by
  obtain ⟨n, a, b, e, e1, e2⟩ := k
  refine ⟨n + 1, c + a, s + b, ?_, by omega, by omega⟩
  unfold xgo
  rw [hx]
  show xadd c s (xgo (xcall P d) M n code' l' st' h1) = _
  rw [e]; rfl
theorem xRun.step (hx : xnext M code l st h = some (.inr (.inl ((code', l', st', h1), 0, 0)))) (k : xRun P d M code' l' st' h1 o h' C S) : xRun P d M code l st h o h' C S := by
  have := xRun.stepA hx k
  rwa [Nat.zero_add, Nat.zero_add] at this
theorem xRun.stop (hx : xnext M code l st h = some (.inl (o, h', c, s))) (hC : c ≤ C) (hS : s ≤ S) : xRun P d M code l st h o h' C S := by
  refine ⟨1, c, s, ?_, hC, hS⟩
  unfold xgo
  rw [hx]
theorem xRun.fork {b : Bool} {A B : List xI} (kt : b = true → xRun P d M A l st h o h' C S) (kf : b = false → xRun P d M B l st h o h' C S) : xRun P d M (bif b then A else B) l st h o h' C S := by
  cases b with
  | true => exact kt rfl
  | false => exact kf rfl
/-- a whole method -/
theorem xCal.of {mid : Nat} {as : List Value} (hM : P mid = M) (hfit : (as.map fun v => v.category).sum ≤ M.2.2.1) (k : xRun P d M M.2.2.2.2.1 (lv_args 0 as) [] h o h' C S) : xCal P (d + 1) mid as h o h' C S := by
  subst hM
  obtain ⟨n, a, b, e, e1, e2⟩ := k
  refine ⟨n, a, b, ?_, e1, e2⟩
  unfold xcall
  rw [if_pos hfit]
  exact e
end XRUN
