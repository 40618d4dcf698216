/-! EVERY RUN OF THE SMALL MACHINE IS A RUN OF THE MACHINE -/
theorem xacmp {G : xG} {s : State} {H : Heap} {ws : va_W} {u v z w : Value} (hSh : xSh G s H) (hD : va_D (fun q => G.2.2.2.1 ≤ q) ws) (h : xapart u v = true) (hz : xV G.2.2.2.2 (G.2.2.1 ++ ws) u z) (hw : xV G.2.2.2.2 (G.2.2.1 ++ ws) v w) :
    ∃ rz rw : Option Nat, z = va_rf rz ∧ w = va_rf rw ∧ (rz = rw ↔ u = v) := by
  have hlt : ∀ (k : Nat) (q : Nat × va_E), k < xN0 → (G.2.2.1 ++ ws)[k]? = some q → q.1 < G.2.2.2.1 := fun k q hk hq => by
    rw [List.getElem?_append_left (by rw [hSh.2.2.1]; exact hk)] at hq
    exact hSh.2.1 k q hq
  have hge : ∀ (k : Nat) (q : Nat × va_E), xN0 ≤ k → (G.2.2.1 ++ ws)[k]? = some q → ws[k - xN0]? = some q ∧ G.2.2.2.1 ≤ q.1 := fun k q hk hq => by
    rw [xws_get hSh.2.2.1 hk] at hq
    exact ⟨hq, hD.2 _ q hq⟩
  unfold xapart at h
  split at h
  · rename_i a b
    obtain ⟨q, hq, rfl⟩ := hz
    obtain ⟨r, hr, rfl⟩ := hw
    refine ⟨some q.1, some r.1, rfl, rfl, ?_⟩
    have key : q.1 = r.1 ↔ a = b := by
      constructor
      · intro e
        simp only [Bool.or_eq_true, decide_eq_true_eq] at h
        by_cases ha : xN0 ≤ a <;> by_cases hb : xN0 ≤ b
        · obtain ⟨h1, -⟩ := hge a q ha hq
          obtain ⟨h2, -⟩ := hge b r hb hr
          have h3 : a - xN0 = b - xN0 := hD.1 _ _ q r h1 h2 e
          rw [← Nat.sub_add_cancel ha, ← Nat.sub_add_cancel hb, h3]
        · have h1 := (hge a q ha hq).2
          have h2 := hlt b r (Nat.lt_of_not_le hb) hr
          rw [← e] at h2
          exact absurd h1 (Nat.not_le.mpr h2)
        · have h1 := (hge b r hb hr).2
          have h2 := hlt a q (Nat.lt_of_not_le ha) hq
          rw [e] at h2
          exact absurd h1 (Nat.not_le.mpr h2)
        · rcases h with (h | h) | h
          · exact h
          · omega
          · omega
      · rintro rfl
        rw [hq] at hr; cases hr; rfl
    constructor
    · intro e; rw [key.mp (Option.some.inj e)]
    · intro e; rw [key.mpr (Value.ref.inj e)]
  · obtain ⟨q, hq, rfl⟩ := hw
    rw [show z = .null from hz]
    exact ⟨none, some q.1, rfl, rfl, ⟨(fun e => by cases e), (fun e => by cases e)⟩⟩
  · obtain ⟨q, hq, rfl⟩ := hz
    rw [show w = .null from hw]
    exact ⟨some q.1, none, rfl, rfl, ⟨(fun e => by cases e), (fun e => by cases e)⟩⟩
  · rw [show z = .null from hz, show w = .null from hw]
    exact ⟨none, none, rfl, rfl, ⟨fun _ => rfl, fun _ => rfl⟩⟩
  · rw [show z = .ref G.2.2.2.2 from hz, show w = .ref G.2.2.2.2 from hw]
    exact ⟨some _, some _, rfl, rfl, ⟨fun _ => rfl, fun _ => rfl⟩⟩
  · cases h
section XGO
variable {p : Program} {l : Launch} {e : Env} {R : Room} {s : State} {m : MethodId} {args : Array Value} {below : List Frame} {meth : Method} {c : Code} {Q : State → Prop} {G : xG} {P : Nat → xM} {M : xM} {call : Nat → Nat → List Value → xH → Option xR} {f0 l0 Cf Sf : Nat} {ws0 : va_W} {o : Option Value ⊕ String} {hf : xH}
/-- what the walk of a body leans on -/
def xEnv (p : Program) (l : Launch) (R : Room) (s : State) (m : MethodId) (args : Array Value) (meth : Method) (c : Code) (G : xG) (P : Nat → xM) (M : xM) (call : Nat → Nat → List Value → xH → Option xR) (f0 l0 Cf Sf : Nat) : Prop :=
  p.tables.exec = Jvm.exec ∧ c.code = M.2.1 ∧ c.maxLocals = M.2.2.1 ∧ s.vm.findClass M.1.cls = some m.cls ∧ (∀ w ∈ xTB, w.before args s = true) ∧ meth.name = M.1.name ∧ xSa G s s.heap ∧ xMok P M ∧ (∀ mid, xPok (P mid)) ∧ f0 + 4 ≤ R.frames ∧ l0 + 60 ≤ R.locals ∧ 200 ≤ R.locals ∧ Cf ≤ R.cells ∧ Sf ≤ R.slots
  ∧ (∀ (n mid : Nat) (as : List Value) (h : xH) (o : Option Value ⊕ String) (h' : xH) (c s : Nat) (ws : va_W), call n mid as h = some (o, h', c, s) → vx_Met l (P mid).1 (xword (P mid) :: xTB) { frames := f0, cells := c, slots := s, locals := l0 } (xPc G as h ws) (xQc G ws o h') (xXc G ws o h') c s (fun q => G.2.2.2.1 ≤ q))
  ∧ (M.2.2.2.2.2 = [] ∨ c.exceptionTable.toList = tableOf (M.2.2.2.2.2.map fun x => (x.1, x.2.1, x.2.2.1, x.2.2.2.1)) ∧ ∀ x ∈ M.2.2.2.2.2, x.2.2.2.2 ∈ xEx ∧ x.2.2.2.1 ≠ 0 ∧ (Cond.classLink M.1.cls x.2.2.2.1 x.2.2.2.2) ∈ xTB)
/-- the world at a point -/
def xAtW (s : State) (G : xG) (ws0 : va_W) (h : xH) (ws : va_W) (H : Heap) (locs : List Loc) : Prop := xLe (G.2.2.1 ++ ws0) (G.2.2.1 ++ ws) ∧ xHr G h (G.2.2.1 ++ ws) ∧ va_P G.1 vwCl ws H ∧ va_D (fun q => G.2.2.2.1 ≤ q) ws ∧ va_S (fun q => G.2.2.2.1 ≤ q) s.heap H locs
theorem snd_go (E0 : xEnv p l R s m args meth c G P M call f0 l0 Cf Sf)
    (hret : ∀ (i : Instr) (pc : Nat) (v cv : Option Value) (ws : va_W) (H : Heap) (locs : List Loc) (ls : Array Slot), decode M.2.1 pc = .ok (i, 1) → xret i M.2.2.2.1 v → xctl M.2.2.2.1 pc i [] = true → o = .inl v → xOV G.2.2.2.2 (G.2.2.1 ++ ws) v cv → xAtW s G ws0 hf ws H locs → W p l e R s m args below meth c H locs Cf Sf Q (F0 m pc ls cv.toList))
    (hthr : ∀ (pc ik ei : Nat) (an : List Nat) (ws : va_W) (H : Heap) (locs : List Loc) (ls : Array Slot) (cst : List Value) (cells slots : Nat), decode M.2.1 pc = .ok (.new ik, 3) → xthrow M pc ik (ei :: an) → o = .inr (xEx.getD ei "") → ls.size = M.2.2.1 → (cst.map fun v => v.category).sum ≤ 8 → cells + 1 = Cf → slots + 6 = Sf → xAtW s G ws0 hf ws H locs → W p l e R s m args below meth c H locs cells slots Q (F0 m pc ls cst)) :
    ∀ (n : Nat) (code : List xI) (al cl : xL) (st cst : List Value) (h : xH) (c1 s1 cells slots : Nat) (ws : va_W) (H : Heap) (locs : List Loc) (ls : Array Slot), xgo call M n code al st h = some (o, hf, c1, s1) → xsuf M.2.2.2.2.1 code → xAtW s G ws0 h ws H locs → xLs G.2.2.2.2 (G.2.2.1 ++ ws) al cl → lv_has ls M.2.2.1 cl → xVs G.2.2.2.2 (G.2.2.1 ++ ws) st cst → cells + c1 = Cf → slots + s1 = Sf →
      W p l e R s m args below meth c H locs cells slots Q (F0 m (xpc code) ls cst) := by
  obtain ⟨hexec, hb, hml, hown, hts, hname, hSa, hMok, hPok, hRf, hRl, hRl2, hCR, hSR, hC, hX⟩ := id E0
  intro n
  induction n with
  | zero => intro code al cl st cst h c1 s1 cells slots ws H locs ls hr; cases hr
  | succ n ih =>
    intro code al cl st cst h c1 s1 cells slots ws H locs ls hr hsuf hW hL hl hV hc1 hs1
    obtain ⟨hle, hHr, hP, hD, hS⟩ := id hW
    match code, hr, hsuf with
    | [], hr, _ => cases hr
    | (pc, len, i, an) :: rest, hr, hsuf =>
      have hI := hMok.2 _ hsuf.mem
      obtain ⟨hdec, hlen, hctl, hcall, hok⟩ := hI
      dsimp only at hdec hlen hctl hcall hok
      have hch : xchain ((pc, len, i, an) :: rest) = true := by
        obtain ⟨pre, hpre⟩ := hsuf
        exact xchain_app (pre := pre) (hpre ▸ hMok.1)
      have hlsz : ls.size = M.2.2.1 := hl.1
      have hmls : c.maxLocals = ls.size := by rw [hml, hlsz]
      -- where it goes on
      have next : ∀ {n' : Nat} {al' : xL} {st' : List Value} {h' : xH} {q : xR}, xgo call M n' rest al' st' h' = some q → xpc rest = pc + len := by
        intro n' al' st' h' q hq
        cases rest with
        | nil => cases n' <;> cases hq
        | cons y r =>
          have hch : (decide (y.1 = pc + len) && xchain (y :: r)) = true := hch
          exact of_decide_eq_true (Bool.and_eq_true _ _ ▸ hch).1
      have jump : ∀ {n' t : Nat} {al' : xL} {st' : List Value} {h' : xH} {q : xR}, xgo call M n' (xat M.2.2.2.2.1 t) al' st' h' = some q → xsuf M.2.2.2.2.1 (xat M.2.2.2.2.1 t) ∧ xpc (xat M.2.2.2.2.1 t) = t := by
        intro n' t al' st' h' q hq
        refine xat_suf t ⟨[], rfl⟩ (fun hz => ?_)
        rw [hz] at hq
        cases n' <;> cases hq
      have stepA : ∀ {code' : List xI} {al' : xL} {st' : List Value} {h' : xH} {dc ds : Nat}, xnext M ((pc, len, i, an) :: rest) al st h = some (.inr (.inl ((code', al', st', h'), dc, ds))) → ∃ a b, xgo call M n code' al' st' h' = some (o, hf, a, b) ∧ c1 = dc + a ∧ s1 = ds + b := by
        intro code' al' st' h' dc ds hx
        unfold xgo at hr
        rw [hx] at hr
        exact xadd_some hr
      have none0 : xnext M ((pc, len, i, an) :: rest) al st h = none → False := by
        intro hx
        unfold xgo at hr
        rw [hx] at hr
        cases hr
      show W p l e R s m args below meth c H locs cells slots Q (F0 m pc ls cst)
      have pureK : xnext M ((pc, len, i, an) :: rest) al st h = xstk (xpure i an st) rest al h → len = xlen i → (∀ k, i = .ldc2_w k → (Jvm.Cond.constantLong M.1.cls k (Int64.ofNat (an.getD 0 0))).before args s = true) → (∀ k, i = .ldc k → (Jvm.Cond.constant M.1.cls k (Int32.ofNat (an.getD 0 0))).before args s = true) → W p l e R s m args below meth c H locs cells slots Q (F0 m pc ls cst) := by
        intro hx hlen hk1 hk2
        cases hp : xpure i an st with
        | none => rw [hp] at hx; exact (none0 hx).elim
        | some st' =>
          rw [hp] at hx
          obtain ⟨a, b, h1, h2, h3⟩ := stepA hx
          refine snd_pure hexec hb hown hp (hlen ▸ hdec) hk1 hk2 hV (fun cst' hV' => ?_)
          rw [← hlen, ← next h1]
          exact ih rest al cl st' cst' h a b cells slots ws H locs ls h1 hsuf.tail hW hL hl hV' (by omega) (by omega)
      have locK : xnext M ((pc, len, i, an) :: rest) al st h = xlst (xloc M.2.2.1 i al st) rest h → len = xlen i → W p l e R s m args below meth c H locs cells slots Q (F0 m pc ls cst) := by
        intro hx hlen
        cases hp : xloc M.2.2.1 i al st with
        | none => rw [hp] at hx; exact (none0 hx).elim
        | some q =>
          obtain ⟨al', st'⟩ := q
          rw [hp] at hx
          obtain ⟨a, b, h1, h2, h3⟩ := stepA hx
          refine snd_loc hexec hb hp (hlen ▸ hdec) hL hl hV (fun cl' ls' cst' hL' hl' hV' => ?_)
          rw [← hlen, ← next h1]
          exact ih rest al' cl' st' cst' h a b cells slots ws H locs ls' h1 hsuf.tail hW hL' hl' hV' (by omega) (by omega)
      have heapK : xnext M ((pc, len, i, an) :: rest) al st h = xhst (xheap i an st h) rest al → len = xlen i → xok M.1.cls M.1.name i an = true → (∀ w ∈ xneed M.1.cls i an, xhas w) → W p l e R s m args below meth c H locs cells slots Q (F0 m pc ls cst) := by
        intro hx hlen hok hneed
        cases hp : xheap i an st h with
        | none => rw [hp] at hx; exact (none0 hx).elim
        | some q =>
          obtain ⟨st', h', dc, ds⟩ := q
          rw [hp] at hx
          obtain ⟨a, b, h1, h2, h3⟩ := stepA hx
          refine snd_heap hexec hb hts hown hmls hp (hlen ▸ hdec) (fun w hw => (hneed w hw).use hts hSa) (by rw [hname]; exact hok) hSa.1 hSa.2.1 hSa.2.2.2.1 (by omega) (by omega) hHr hP hD hS hV (by omega) (by omega) (fun cst' ws' H' locs' g1 g2 g3 g4 g5 g6 => ?_)
          rw [← hlen, ← next h1]
          exact ih rest al cl st' cst' h' a b _ _ ws' H' locs' ls h1 hsuf.tail ⟨hle.trans g1, g2, g3, g4, g5⟩ (hL.mono g1) hl g6 (by omega) (by omega)
      have forkT : ∀ {bb : Bool} {t : Nat} {st' cst' : List Value}, xnext M ((pc, len, i, an) :: rest) al st h = xfork M bb t rest al st' h → xVs G.2.2.2.2 (G.2.2.1 ++ ws) st' cst' → (bb = true → W p l e R s m args below meth c H locs cells slots Q (F0 m t ls cst')) ∧ (bb = false → W p l e R s m args below meth c H locs cells slots Q (F0 m (pc + len) ls cst')) := by
        intro bb t st' cst' hx hV'
        obtain ⟨a, b, h1, h2, h3⟩ := stepA hx
        constructor
        · rintro rfl
          obtain ⟨j1, j2⟩ := jump h1
          rw [← j2]
          exact ih _ al cl st' cst' h a b cells slots ws H locs ls h1 j1 hW hL hl hV' (by omega) (by omega)
        · rintro rfl
          rw [← next h1]
          exact ih rest al cl st' cst' h a b cells slots ws H locs ls h1 hsuf.tail hW hL hl hV' (by omega) (by omega)
      have gotoT : ∀ {t : Nat} {st' cst' : List Value}, xnext M ((pc, len, i, an) :: rest) al st h = xgoto M t al st' h → xVs G.2.2.2.2 (G.2.2.1 ++ ws) st' cst' → W p l e R s m args below meth c H locs cells slots Q (F0 m t ls cst') := by
        intro t st' cst' hx hV'
        obtain ⟨a, b, h1, h2, h3⟩ := stepA hx
        obtain ⟨j1, j2⟩ := jump h1
        rw [← j2]
        exact ih _ al cl st' cst' h a b cells slots ws H locs ls h1 j1 hW hL hl hV' (by omega) (by omega)
      have retK : ∀ {v : Option Value ⊕ String} {a b : Nat}, xnext M ((pc, len, i, an) :: rest) al st h = some (.inl (v, h, a, b)) → o = v ∧ hf = h ∧ c1 = a ∧ s1 = b := by
        intro v a b hx
        unfold xgo at hr
        rw [hx] at hr
        cases hr
        exact ⟨rfl, rfl, rfl, rfl⟩
      have retW : ∀ {v cv : Option Value}, xnext M ((pc, len, i, an) :: rest) al st h = some (.inl (.inl v, h, 0, 0)) → len = 1 → xret i M.2.2.2.1 v → xctl M.2.2.2.1 pc i [] = true → xOV G.2.2.2.2 (G.2.2.1 ++ ws) v cv → W p l e R s m args below meth c H locs cells slots Q (F0 m pc ls cv.toList) := by
        intro v cv hx hlen hr1 hr2 hov
        obtain ⟨g1, g2, g3, g4⟩ := retK hx
        subst hlen
        subst g2
        have e1 : Cf = cells := by omega
        have e2 : Sf = slots := by omega
        have := hret i pc v cv ws H locs ls hdec hr1 hr2 g1 hov hW
        rw [e1, e2] at this
        exact this
      have invK : ∀ {virt : Bool} {an' : List Nat}, xnext M ((pc, len, i, an) :: rest) al st h = xinv pc an' rest al st h virt → xiscall i = true → W p l e R s m args below meth c H locs cells slots Q (F0 m pc ls cst) := sorry
      have okN : (∀ ik, i ≠ .new ik) → xok M.1.cls M.1.name i an = true ∧ ∀ w ∈ xneed M.1.cls i an, xhas w := by
        intro hne
        split at hok
        · rename_i ik an' 
          exact absurd rfl (hne ik)
        · exact hok
      cases i with
      | iconst n => exact pureK rfl (of_decide_eq_true hlen) (fun _ h => by cases h) (fun _ h => by cases h)
      | bipush n => exact pureK rfl (of_decide_eq_true hlen) (fun _ h => by cases h) (fun _ h => by cases h)
      | sipush n => exact pureK rfl (of_decide_eq_true hlen) (fun _ h => by cases h) (fun _ h => by cases h)
      | lconst n => exact pureK rfl (of_decide_eq_true hlen) (fun _ h => by cases h) (fun _ h => by cases h)
      | aconst_null => exact pureK rfl (of_decide_eq_true hlen) (fun _ h => by cases h) (fun _ h => by cases h)
      | iadd => exact pureK rfl (of_decide_eq_true hlen) (fun _ h => by cases h) (fun _ h => by cases h)
      | isub => exact pureK rfl (of_decide_eq_true hlen) (fun _ h => by cases h) (fun _ h => by cases h)
      | imul => exact pureK rfl (of_decide_eq_true hlen) (fun _ h => by cases h) (fun _ h => by cases h)
      | idiv => exact pureK rfl (of_decide_eq_true hlen) (fun _ h => by cases h) (fun _ h => by cases h)
      | irem => exact pureK rfl (of_decide_eq_true hlen) (fun _ h => by cases h) (fun _ h => by cases h)
      | ineg => exact pureK rfl (of_decide_eq_true hlen) (fun _ h => by cases h) (fun _ h => by cases h)
      | ishl => exact pureK rfl (of_decide_eq_true hlen) (fun _ h => by cases h) (fun _ h => by cases h)
      | ishr => exact pureK rfl (of_decide_eq_true hlen) (fun _ h => by cases h) (fun _ h => by cases h)
      | iushr => exact pureK rfl (of_decide_eq_true hlen) (fun _ h => by cases h) (fun _ h => by cases h)
      | iand => exact pureK rfl (of_decide_eq_true hlen) (fun _ h => by cases h) (fun _ h => by cases h)
      | ior => exact pureK rfl (of_decide_eq_true hlen) (fun _ h => by cases h) (fun _ h => by cases h)
      | ixor => exact pureK rfl (of_decide_eq_true hlen) (fun _ h => by cases h) (fun _ h => by cases h)
      | i2l => exact pureK rfl (of_decide_eq_true hlen) (fun _ h => by cases h) (fun _ h => by cases h)
      | i2b => exact pureK rfl (of_decide_eq_true hlen) (fun _ h => by cases h) (fun _ h => by cases h)
      | i2c => exact pureK rfl (of_decide_eq_true hlen) (fun _ h => by cases h) (fun _ h => by cases h)
      | l2i => exact pureK rfl (of_decide_eq_true hlen) (fun _ h => by cases h) (fun _ h => by cases h)
      | ladd => exact pureK rfl (of_decide_eq_true hlen) (fun _ h => by cases h) (fun _ h => by cases h)
      | lsub => exact pureK rfl (of_decide_eq_true hlen) (fun _ h => by cases h) (fun _ h => by cases h)
      | lmul => exact pureK rfl (of_decide_eq_true hlen) (fun _ h => by cases h) (fun _ h => by cases h)
      | ldiv => exact pureK rfl (of_decide_eq_true hlen) (fun _ h => by cases h) (fun _ h => by cases h)
      | dup => exact pureK rfl (of_decide_eq_true hlen) (fun _ h => by cases h) (fun _ h => by cases h)
      | dup_x1 => exact pureK rfl (of_decide_eq_true hlen) (fun _ h => by cases h) (fun _ h => by cases h)
      | dup2 => exact pureK rfl (of_decide_eq_true hlen) (fun _ h => by cases h) (fun _ h => by cases h)
      | pop => exact pureK rfl (of_decide_eq_true hlen) (fun _ h => by cases h) (fun _ h => by cases h)
      | pop2 => exact pureK rfl (of_decide_eq_true hlen) (fun _ h => by cases h) (fun _ h => by cases h)
      | ldc2_w k => exact pureK rfl (of_decide_eq_true hlen) (fun k' h => by cases h; exact ((okN (fun _ h => by cases h)).2 _ List.mem_cons_self).use hts hSa) (fun _ h => by cases h)
      | iload k => exact locK rfl (of_decide_eq_true hlen)
      | iload_n k => exact locK rfl (of_decide_eq_true hlen)
      | lload k => exact locK rfl (of_decide_eq_true hlen)
      | lload_n k => exact locK rfl (of_decide_eq_true hlen)
      | aload k => exact locK rfl (of_decide_eq_true hlen)
      | aload_n k => exact locK rfl (of_decide_eq_true hlen)
      | istore k => exact locK rfl (of_decide_eq_true hlen)
      | istore_n k => exact locK rfl (of_decide_eq_true hlen)
      | lstore k => exact locK rfl (of_decide_eq_true hlen)
      | lstore_n k => exact locK rfl (of_decide_eq_true hlen)
      | astore k => exact locK rfl (of_decide_eq_true hlen)
      | astore_n k => exact locK rfl (of_decide_eq_true hlen)
      | iinc k n => exact locK rfl (of_decide_eq_true hlen)
      | getfield k => exact heapK rfl (of_decide_eq_true hlen) (okN (fun _ h => by cases h)).1 (okN (fun _ h => by cases h)).2
      | putfield k => exact heapK rfl (of_decide_eq_true hlen) (okN (fun _ h => by cases h)).1 (okN (fun _ h => by cases h)).2
      | getstatic k => exact heapK rfl (of_decide_eq_true hlen) (okN (fun _ h => by cases h)).1 (okN (fun _ h => by cases h)).2
      | iaload => exact heapK rfl (of_decide_eq_true hlen) (okN (fun _ h => by cases h)).1 (okN (fun _ h => by cases h)).2
      | baload => exact heapK rfl (of_decide_eq_true hlen) (okN (fun _ h => by cases h)).1 (okN (fun _ h => by cases h)).2
      | aaload => exact heapK rfl (of_decide_eq_true hlen) (okN (fun _ h => by cases h)).1 (okN (fun _ h => by cases h)).2
      | iastore => exact heapK rfl (of_decide_eq_true hlen) (okN (fun _ h => by cases h)).1 (okN (fun _ h => by cases h)).2
      | bastore => exact heapK rfl (of_decide_eq_true hlen) (okN (fun _ h => by cases h)).1 (okN (fun _ h => by cases h)).2
      | aastore => exact heapK rfl (of_decide_eq_true hlen) (okN (fun _ h => by cases h)).1 (okN (fun _ h => by cases h)).2
      | arraylength => exact heapK rfl (of_decide_eq_true hlen) (okN (fun _ h => by cases h)).1 (okN (fun _ h => by cases h)).2
      | newarray t => exact heapK rfl (of_decide_eq_true hlen) (okN (fun _ h => by cases h)).1 (okN (fun _ h => by cases h)).2
      | anewarray k => exact heapK rfl (of_decide_eq_true hlen) (okN (fun _ h => by cases h)).1 (okN (fun _ h => by cases h)).2
      | checkcast k => exact heapK rfl (of_decide_eq_true hlen) (okN (fun _ h => by cases h)).1 (okN (fun _ h => by cases h)).2
      | ldc_w k => exact heapK rfl (of_decide_eq_true hlen) (okN (fun _ h => by cases h)).1 (okN (fun _ h => by cases h)).2
      | ldc k =>
        have hokN := okN (fun _ h => by cases h)
        have hlen2 := of_decide_eq_true hlen
        cases an with
        | nil => exact absurd (show false = true from hokN.1) nofun
        | cons z an =>
          by_cases h300 : z = 300
          · subst h300; exact heapK rfl hlen2 hokN.1 hokN.2
          · by_cases h301 : z = 301
            · subst h301; exact heapK rfl hlen2 hokN.1 hokN.2
            · have hx : xnext M ((pc, len, .ldc k, z :: an) :: rest) al st h = xstk (xpure (.ldc k) (z :: an) st) rest al h := by
                unfold xnext; dsimp only; split
                · rename_i heq; cases heq; exact absurd rfl h300
                · rename_i heq; cases heq; exact absurd rfl h301
                · rfl
              have han : an = [] := by
                have h1 := hokN.1
                unfold xok at h1; dsimp only at h1
                split at h1
                · rename_i heq; cases heq; exact absurd rfl h300
                · rename_i heq; cases heq; exact absurd rfl h301
                · rename_i heq; cases heq; rfl
                · cases h1
              subst han
              refine pureK hx hlen2 (fun _ h => by cases h) (fun k' h => ?_)
              cases h
              have h1 : ∀ w ∈ xneed M.1.cls (.ldc k) [z], xhas w := hokN.2
              exact (h1 _ List.mem_cons_self).use hts hSa
      | goto off => 
        cases (show 3 = len from (of_decide_eq_true hlen).symm)
        exact lv_goto hexec hb hdec (of_decide_eq_true hctl) (gotoT rfl hV)
      | ifCond cnd off =>
        cases (show 3 = len from (of_decide_eq_true hlen).symm)
        have ht := of_decide_eq_true hctl
        cases st with
        | nil => exact (none0 rfl).elim
        | cons v r =>
          cases v with
          | int x =>
            obtain ⟨cr, rfl, hr2⟩ := hV.ints
            obtain ⟨k1, k2⟩ := forkT rfl hr2
            cases cnd with
            | eq => exact lv_if_eq hexec hb hdec ht (fun h => k1 (decide_eq_true h)) (fun h => k2 (decide_eq_false h))
            | ne => exact lv_if_ne hexec hb hdec ht (fun h => k1 (decide_eq_true h)) (fun h => k2 (decide_eq_false (fun h2 => h2 h)))
            | lt => exact lv_if_lt hexec hb hdec ht (fun h => k1 (decide_eq_true h)) (fun h => k2 (decide_eq_false h))
            | ge => exact lv_if_ge hexec hb hdec ht (fun h => k1 (decide_eq_true h)) (fun h => k2 (decide_eq_false h))
            | gt => exact lv_if_gt hexec hb hdec ht (fun h => k1 (decide_eq_true h)) (fun h => k2 (decide_eq_false h))
            | le => exact lv_if_le hexec hb hdec ht (fun h => k1 (decide_eq_true h)) (fun h => k2 (decide_eq_false h))
          | _ => exact (none0 rfl).elim
      | if_icmp cnd off =>
        cases (show 3 = len from (of_decide_eq_true hlen).symm)
        have ht := of_decide_eq_true hctl
        cases st with
        | nil => exact (none0 rfl).elim
        | cons v r =>
          cases v with
          | int y =>
            cases r with
            | nil => exact (none0 rfl).elim
            | cons v r =>
              cases v with
              | int x =>
                obtain ⟨cr, rfl, hr2⟩ := hV.ints
                obtain ⟨cr, rfl, hr3⟩ := hr2.ints
                obtain ⟨k1, k2⟩ := forkT rfl hr3
                cases cnd with
                | eq => exact lv_icmp_eq hexec hb hdec ht (fun h => k1 (decide_eq_true h)) (fun h => k2 (decide_eq_false h))
                | ne => exact lv_icmp_ne hexec hb hdec ht (fun h => k1 (decide_eq_true h)) (fun h => k2 (decide_eq_false (fun h2 => h2 h)))
                | lt => exact lv_icmp_lt hexec hb hdec ht (fun h => k1 (decide_eq_true h)) (fun h => k2 (decide_eq_false h))
                | ge => exact lv_icmp_ge hexec hb hdec ht (fun h => k1 (decide_eq_true h)) (fun h => k2 (decide_eq_false h))
                | gt => exact lv_icmp_gt hexec hb hdec ht (fun h => k1 (decide_eq_true h)) (fun h => k2 (decide_eq_false h))
                | le => exact lv_icmp_le hexec hb hdec ht (fun h => k1 (decide_eq_true h)) (fun h => k2 (decide_eq_false h))
              | _ => exact (none0 rfl).elim
          | _ => exact (none0 rfl).elim
      | ifnull off =>
        cases (show 3 = len from (of_decide_eq_true hlen).symm)
        have ht := of_decide_eq_true hctl
        cases st with
        | nil => exact (none0 rfl).elim
        | cons v r =>
          cases v with
          | ref x => obtain ⟨q, cr, rfl, -, hr2⟩ := hV.refs; exact lv_ifnull hexec hb hdec ((forkT rfl hr2).2 rfl)
          | null => obtain ⟨cr, rfl, hr2⟩ := hV.nulls; exact lv_ifnullN hexec hb hdec ht ((forkT rfl hr2).1 rfl)
          | _ => exact (none0 rfl).elim
      | ifnonnull off =>
        cases (show 3 = len from (of_decide_eq_true hlen).symm)
        have ht := of_decide_eq_true hctl
        cases st with
        | nil => exact (none0 rfl).elim
        | cons v r =>
          cases v with
          | ref x => obtain ⟨q, cr, rfl, -, hr2⟩ := hV.refs; exact lv_ifnonnull hexec hb hdec ht ((forkT rfl hr2).1 rfl)
          | null => obtain ⟨cr, rfl, hr2⟩ := hV.nulls; exact lv_ifnonnullN hexec hb hdec ((forkT rfl hr2).2 rfl)
          | _ => exact (none0 rfl).elim
      | if_acmp cnd off =>
        cases (show 3 = len from (of_decide_eq_true hlen).symm)
        have ht := of_decide_eq_true hctl
        cases st with
        | nil => cases cnd <;> exact (none0 rfl).elim
        | cons v r =>
          cases r with
          | nil => cases cnd <;> exact (none0 rfl).elim
          | cons u r =>
            obtain ⟨w, _, rfl, hw, hr2⟩ := hV.cons
            obtain ⟨z, cr, rfl, hz, hr3⟩ := hr2.cons
            by_cases hap : xapart u v = true
            · obtain ⟨rz, rw', rfl, rfl, hiff⟩ := xacmp hSa.2.2.2.1 hD hap hz hw
              cases cnd with
              | eq =>
                have hx : xnext M ((pc, 3, .if_acmp .eq off, an) :: rest) al (v :: u :: r) h = xfork M (decide (u = v)) (an.getD 0 0) rest al r h := if_pos hap
                obtain ⟨k1, k2⟩ := forkT hx hr3
                exact lv_acmp_eq hexec hb hdec ht (fun h => k1 (decide_eq_true (hiff.mp h))) (fun h => k2 (decide_eq_false (fun h2 => h (hiff.mpr h2))))
              | ne =>
                have hx : xnext M ((pc, 3, .if_acmp .ne off, an) :: rest) al (v :: u :: r) h = xfork M (decide (¬ u = v)) (an.getD 0 0) rest al r h := if_pos hap
                obtain ⟨k1, k2⟩ := forkT hx hr3
                exact lv_acmp_ne hexec hb hdec ht (fun h => k1 (decide_eq_true (fun h2 => h (hiff.mpr h2)))) (fun h => k2 (decide_eq_false (fun h2 => h2 (hiff.mp h))))
            · cases cnd with
              | eq => exact (none0 (if_neg hap)).elim
              | ne => exact (none0 (if_neg hap)).elim
      | tableswitch dflt lo hi offs =>
        unfold xctl at hctl; dsimp only at hctl
        simp only [Bool.and_eq_true, decide_eq_true_eq] at hctl
        obtain ⟨⟨ht, hsz⟩, htg⟩ := hctl
        cases st with
        | nil => exact (none0 rfl).elim
        | cons v r =>
          cases v with
          | int x =>
            obtain ⟨cr, rfl, hr2⟩ := hV.ints
            by_cases hout : x.toInt < lo ∨ hi < x.toInt
            · have hx : xnext M ((pc, len, .tableswitch dflt lo hi offs, an) :: rest) al (.int x :: r) h = xgoto M (an.getD 0 0) al r h := if_pos hout
              exact lv_tableOut hexec hb hdec hout ht (gotoT hx hr2)
            · have hx : xnext M ((pc, len, .tableswitch dflt lo hi offs, an) :: rest) al (.int x :: r) h = xgoto M (an.getD (1 + (x.toInt - lo).toNat) 0) al r h := if_neg hout
              have hlt : (x.toInt - lo).toNat < offs.size := by omega
              have h1 := List.all_eq_true.mp htg _ (List.mem_range.mpr hlt)
              rw [Array.getElem?_eq_getElem hlt] at h1
              exact lv_tableIn hexec hb hdec (fun h => hout (Or.inl h)) (fun h => hout (Or.inr h)) (Array.getElem?_eq_getElem hlt) (of_decide_eq_true h1) (gotoT hx hr2)
          | _ => exact (none0 rfl).elim
      | ireturn =>
        have hlen2 : len = 1 := of_decide_eq_true hlen
        cases st with
        | nil => exact (none0 rfl).elim
        | cons v r =>
          cases r with
          | cons u r => cases v <;> exact (none0 rfl).elim
          | nil =>
            cases v with
            | int x =>
              obtain ⟨cr, rfl, hr2⟩ := hV.ints
              have hcr := hr2.nil
              subst hcr
              cases hty : M.2.2.2.1 with
              | none =>
                refine (none0 ?_).elim
                unfold xnext; dsimp only; rw [hty]
              | some ty =>
                by_cases hfit : xfit ty (.int x) = true
                · have hx : xnext M ((pc, len, .ireturn, an) :: rest) al [.int x] h = some (.inl (.inl (some (.int x)), h, 0, 0)) := by
                    unfold xnext; dsimp only; rw [hty]; exact if_pos hfit
                  exact retW (cv := some (.int x)) hx hlen2 ⟨x, ty, rfl, hty, hfit⟩ rfl rfl
                · refine (none0 ?_).elim
                  unfold xnext; dsimp only; rw [hty]; exact if_neg hfit
            | _ => exact (none0 rfl).elim
      | lreturn =>
        have hlen2 : len = 1 := of_decide_eq_true hlen
        cases st with
        | nil => exact (none0 rfl).elim
        | cons v r =>
          cases r with
          | cons u r => cases v <;> exact (none0 rfl).elim
          | nil =>
            cases v with
            | long x =>
              obtain ⟨cr, rfl, hr2⟩ := hV.longs
              have hcr := hr2.nil
              subst hcr
              exact retW (cv := some (.long x)) rfl hlen2 ⟨x, rfl⟩ hctl rfl
            | _ => exact (none0 rfl).elim
      | areturn =>
        have hlen2 : len = 1 := of_decide_eq_true hlen
        cases st with
        | nil => exact (none0 rfl).elim
        | cons v r =>
          cases r with
          | cons u r => cases v <;> exact (none0 rfl).elim
          | nil =>
            cases v with
            | ref x =>
              obtain ⟨q, cr, rfl, hq, hr2⟩ := hV.refs
              have hcr := hr2.nil
              subst hcr
              exact retW (cv := some (.ref q.1)) rfl hlen2 (Or.inr ⟨x, rfl⟩) hctl ⟨q, hq, rfl⟩
            | null =>
              obtain ⟨cr, rfl, hr2⟩ := hV.nulls
              have hcr := hr2.nil
              subst hcr
              exact retW (cv := some .null) rfl hlen2 (Or.inl rfl) hctl rfl
            | _ => exact (none0 rfl).elim
      | return_ =>
        have hlen2 : len = 1 := of_decide_eq_true hlen
        cases st with
        | cons v r => exact (none0 rfl).elim
        | nil =>
          have hcr := hV.nil
          subst hcr
          exact retW (cv := none) rfl hlen2 rfl hctl trivial
      | new ik =>
        have hlen2 : len = 3 := of_decide_eq_true hlen
        cases an with
        | nil => exact heapK rfl hlen2 hok.1 hok.2
        | cons z an =>
          by_cases h200 : z = 200
          · subst h200
            cases an with
            | nil => exact hok.elim
            | cons ei an =>
              have hok : xthrow M pc ik (ei :: an) := hok
              by_cases hsum : (st.map fun v => v.category).sum ≤ 8
              · obtain ⟨g1, g2, g3, g4⟩ := retK (show xnext M ((pc, len, .new ik, 200 :: ei :: an) :: rest) al st h = some (.inl (.inr (xEx.getD ei ""), h, 1, 6)) from if_pos hsum)
                subst hlen2
                subst g2
                exact hthr pc ik ei an ws H locs ls cst cells slots hdec hok g1 hlsz (by rw [hV.sum]; exact hsum) (by omega) (by omega) hW
              · exact (none0 (if_neg hsum)).elim
          · have hx : xnext M ((pc, len, .new ik, z :: an) :: rest) al st h = xhst (xheap (.new ik) (z :: an) st h) rest al := by
              unfold xnext; dsimp only; split
              · rename_i heq; cases heq; exact absurd rfl h200
              · rfl
            have hok2 : xok M.1.cls M.1.name (.new ik) (z :: an) = true ∧ ∀ w ∈ xneed M.1.cls (.new ik) (z :: an), xhas w := by
              split at hok
              · rename_i heq1 heq2; cases heq2; exact absurd rfl h200
              · exact hok
            exact heapK hx hlen2 hok2.1 hok2.2
      | invokeinterface k cnt => exact invK rfl rfl
      | invokevirtual k =>
        have hokN := okN (fun _ h => by cases h)
        cases an with
        | nil => exact (none0 rfl).elim
        | cons z an =>
          by_cases h2 : z = 2
          · subst h2; exact heapK rfl (of_decide_eq_true hlen) hokN.1 hokN.2
          · refine invK (an' := z :: an) (virt := true) ?_ rfl
            unfold xnext; dsimp only; split
            · rename_i heq; cases heq; exact absurd rfl h2
            · rfl
      | invokestatic k =>
        have hokN := okN (fun _ h => by cases h)
        cases an with
        | nil => exact (none0 rfl).elim
        | cons z an =>
          by_cases h2 : z = 3
          · subst h2; exact heapK rfl (of_decide_eq_true hlen) hokN.1 hokN.2
          · refine invK (an' := z :: an) (virt := false) ?_ rfl
            unfold xnext; dsimp only; split
            · rename_i heq; cases heq; exact absurd rfl h2
            · rfl
      | invokespecial k => sorry
      | _ => exact (none0 rfl).elim
end XGO
