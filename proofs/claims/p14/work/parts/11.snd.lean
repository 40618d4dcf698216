/-! EVERY RUN OF THE SMALL MACHINE IS A RUN OF THE MACHINE -/
theorem xacmp {G : xG} {s : State} {H : Heap} {ws : va_W} {u v z w : Value} (hSh : xSh G s H) (hD : va_D (fun q => G.2.2.2.1 ≤ q) ws) (h : xapart u v = true) (hz : xV G.2.2.2.2 (G.2.2.1 ++ ws) u z) (hw : xV G.2.2.2.2 (G.2.2.1 ++ ws) v w) :
    ∃ rz rw : Option Nat, z = va_rf rz ∧ w = va_rf rw ∧ (rz = rw ↔ u = v) := by
  have hlt : ∀ (k : Nat) (q : Nat × va_E), k < xN0 → (G.2.2.1 ++ ws)[k]? = some q → q.1 < G.2.2.2.1 := fun k q hk hq => by
    rw [List.getElem?_append_left (by rw [hSh.2.2.1]; exact hk)] at hq
    exact hSh.2.1 k q hq
  have hge : ∀ (k : Nat) (q : Nat × va_E), xN0 ≤ k → (G.2.2.1 ++ ws)[k]? = some q → ws[k - xN0]? = some q ∧ G.2.2.2.1 ≤ q.1 := fun k q hk hq => by
    rw [xws_get hSh.2.2.1 hk] at hq
    exact ⟨hq, hD.2 _ q hq⟩
  unfold xapart at h
  split at h
  · rename_i a b
    obtain ⟨q, hq, rfl⟩ := hz
    obtain ⟨r, hr, rfl⟩ := hw
    refine ⟨some q.1, some r.1, rfl, rfl, ?_⟩
    have key : q.1 = r.1 ↔ a = b := by
      constructor
      · intro e
        simp only [Bool.or_eq_true, decide_eq_true_eq] at h
        by_cases ha : xN0 ≤ a <;> by_cases hb : xN0 ≤ b
        · obtain ⟨h1, -⟩ := hge a q ha hq
          obtain ⟨h2, -⟩ := hge b r hb hr
          have h3 : a - xN0 = b - xN0 := hD.1 _ _ q r h1 h2 e
          rw [← Nat.sub_add_cancel ha, ← Nat.sub_add_cancel hb, h3]
        · have h1 := (hge a q ha hq).2
          have h2 := hlt b r (Nat.lt_of_not_le hb) hr
          rw [← e] at h2
          exact absurd h1 (Nat.not_le.mpr h2)
        · have h1 := (hge b r hb hr).2
          have h2 := hlt a q (Nat.lt_of_not_le ha) hq
          rw [e] at h2
          exact absurd h1 (Nat.not_le.mpr h2)
        · rcases h with (h | h) | h
          · exact h
          · omega
          · omega
      · rintro rfl
        rw [hq] at hr; cases hr; rfl
    constructor
    · intro e; rw [key.mp (Option.some.inj e)]
    · intro e; rw [key.mpr (Value.ref.inj e)]
  · obtain ⟨q, hq, rfl⟩ := hw
    rw [show z = .null from hz]
    exact ⟨none, some q.1, rfl, rfl, ⟨(fun e => by cases e), (fun e => by cases e)⟩⟩
  · obtain ⟨q, hq, rfl⟩ := hz
    rw [show w = .null from hw]
    exact ⟨some q.1, none, rfl, rfl, ⟨(fun e => by cases e), (fun e => by cases e)⟩⟩
  · rw [show z = .null from hz, show w = .null from hw]
    exact ⟨none, none, rfl, rfl, ⟨fun _ => rfl, fun _ => rfl⟩⟩
  · rw [show z = .ref G.2.2.2.2 from hz, show w = .ref G.2.2.2.2 from hw]
    exact ⟨some _, some _, rfl, rfl, ⟨fun _ => rfl, fun _ => rfl⟩⟩
  · cases h
section XGO
variable {p : Program} {l : Launch} {e : Env} {R : Room} {s : State} {m : MethodId} {args : Array Value} {below : List Frame} {meth : Method} {c : Code} {Q : State → Prop} {G : xG} {P : Nat → xM} {M : xM} {call : Nat → Nat → List Value → xH → Option xR} {f0 l0 Cf Sf : Nat} {ws0 : va_W} {o : Option Value ⊕ String} {hf : xH}
/-- what the walk of a body leans on -/
def xEnv (p : Program) (l : Launch) (R : Room) (s : State) (m : MethodId) (args : Array Value) (meth : Method) (c : Code) (G : xG) (P : Nat → xM) (M : xM) (call : Nat → Nat → List Value → xH → Option xR) (f0 l0 Cf Sf : Nat) : Prop :=
  p.tables.exec = Jvm.exec ∧ c.code = M.2.1 ∧ c.maxLocals = M.2.2.1 ∧ s.vm.findClass M.1.cls = some m.cls ∧ (∀ w ∈ xTB, w.before args s = true) ∧ meth.name = M.1.name ∧ xSa G s s.heap ∧ xMok P M ∧ (∀ mid, xPok (P mid)) ∧ f0 + 4 ≤ R.frames ∧ l0 + 60 ≤ R.locals ∧ 200 ≤ R.locals ∧ Cf ≤ R.cells ∧ Sf ≤ R.slots
  ∧ (∀ (n mid : Nat) (as : List Value) (h : xH) (o : Option Value ⊕ String) (h' : xH) (c s : Nat) (ws : va_W), call n mid as h = some (o, h', c, s) → ((P mid).2.2.2.2.2 = [] → vx_Met l (P mid).1 (xword (P mid) :: xTB) { frames := f0, cells := c, slots := s, locals := l0 } (xPc G as h ws) (xQc G ws o h') (xXc G ws o h') c s (fun q => G.2.2.2.1 ≤ q)) ∧ (¬ (P mid).2.2.2.2.2 = [] → Met l (P mid).1 (xword (P mid) :: xTB) { frames := f0, cells := c, slots := s, locals := l0 } (xPc G as h ws) (xQc G ws o h') c s (fun q => G.2.2.2.1 ≤ q)))
  ∧ (M.2.2.2.2.2 = [] ∨ c.exceptionTable.toList = tableOf (M.2.2.2.2.2.map fun x => (x.1, x.2.1, x.2.2.1, x.2.2.2.1)) ∧ ∀ x ∈ M.2.2.2.2.2, x.2.2.2.2 ∈ xEx ∧ x.2.2.2.1 ≠ 0 ∧ (Cond.classLink M.1.cls x.2.2.2.1 x.2.2.2.2) ∈ xTB)
/-- the world at a point -/
def xAtW (s : State) (G : xG) (ws0 : va_W) (h : xH) (ws : va_W) (H : Heap) (locs : List Loc) : Prop := xLe (G.2.2.1 ++ ws0) (G.2.2.1 ++ ws) ∧ xHr G h (G.2.2.1 ++ ws) ∧ va_P G.1 vwCl ws H ∧ va_D (fun q => G.2.2.2.1 ≤ q) ws ∧ va_S (fun q => G.2.2.2.1 ≤ q) s.heap H locs
theorem snd_go (E0 : xEnv p l R s m args meth c G P M call f0 l0 Cf Sf)
    (hret : ∀ (i : Instr) (pc : Nat) (v cv : Option Value) (ws : va_W) (H : Heap) (locs : List Loc) (ls : Array Slot), decode M.2.1 pc = .ok (i, 1) → xret i M.2.2.2.1 v → xctl M.2.2.2.1 pc i [] = true → o = .inl v → xOV G.2.2.2.2 (G.2.2.1 ++ ws) v cv → xAtW s G ws0 hf ws H locs → W p l e R s m args below meth c H locs Cf Sf Q (F0 m pc ls cv.toList))
    (hthr : ∀ (pc ik ei : Nat) (an : List Nat) (ws : va_W) (H : Heap) (locs : List Loc) (ls : Array Slot) (cst : List Value) (cells slots : Nat), decode M.2.1 pc = .ok (.new ik, 3) → xthrow M pc ik (ei :: an) → o = .inr (xEx.getD ei "") → ls.size = M.2.2.1 → (cst.map fun v => v.category).sum ≤ 8 → cells + 1 = Cf → slots + 6 = Sf → xAtW s G ws0 hf ws H locs → W p l e R s m args below meth c H locs cells slots Q (F0 m pc ls cst)) :
    ∀ (n : Nat) (code : List xI) (al cl : xL) (st cst : List Value) (h : xH) (c1 s1 cells slots : Nat) (ws : va_W) (H : Heap) (locs : List Loc) (ls : Array Slot), xgo call M n code al st h = some (o, hf, c1, s1) → xsuf M.2.2.2.2.1 code → xAtW s G ws0 h ws H locs → xLs G.2.2.2.2 (G.2.2.1 ++ ws) al cl → lv_has ls M.2.2.1 cl → xVs G.2.2.2.2 (G.2.2.1 ++ ws) st cst → cells + c1 = Cf → slots + s1 = Sf →
      W p l e R s m args below meth c H locs cells slots Q (F0 m (xpc code) ls cst) := by
  obtain ⟨hexec, hb, hml, hown, hts, hname, hSa, hMok, hPok, hRf, hRl, hRl2, hCR, hSR, hC, hX⟩ := id E0
  intro n
  induction n with
  | zero => intro code al cl st cst h c1 s1 cells slots ws H locs ls hr; cases hr
  | succ n ih =>
    intro code al cl st cst h c1 s1 cells slots ws H locs ls hr hsuf hW hL hl hV hc1 hs1
    obtain ⟨hle, hHr, hP, hD, hS⟩ := id hW
    match code, hr, hsuf with
    | [], hr, _ => cases hr
    | (pc, len, i, an) :: rest, hr, hsuf =>
      have hI := hMok.2.2 _ hsuf.mem
      rcases hI with hnop | ⟨hdec, hlen, hctl, hcall, hok⟩
      · have hnop : i = .nop := hnop
        subst hnop
        unfold xgo at hr
        rw [show xnext M ((pc, len, .nop, an) :: rest) al st h = none from rfl] at hr
        cases hr
      dsimp only at hdec hlen hctl hcall hok
      have hch : xchain ((pc, len, i, an) :: rest) = true := by
        obtain ⟨pre, hpre⟩ := hsuf
        exact xchain_app (pre := pre) (hpre ▸ hMok.1)
      have hlsz : ls.size = M.2.2.1 := hl.1
      have hmls : c.maxLocals = ls.size := by rw [hml, hlsz]
      -- where it goes on
      have next : ∀ {n' : Nat} {al' : xL} {st' : List Value} {h' : xH} {q : xR}, xgo call M n' rest al' st' h' = some q → xpc rest = pc + len := by
        intro n' al' st' h' q hq
        cases rest with
        | nil => cases n' <;> cases hq
        | cons y r =>
          have hch : (decide (y.1 = pc + len) && xchain (y :: r)) = true := hch
          exact of_decide_eq_true (Bool.and_eq_true _ _ ▸ hch).1
      have jump : ∀ {n' t : Nat} {al' : xL} {st' : List Value} {h' : xH} {q : xR}, xgo call M n' (xat M.2.2.2.2.1 t) al' st' h' = some q → xsuf M.2.2.2.2.1 (xat M.2.2.2.2.1 t) ∧ xpc (xat M.2.2.2.2.1 t) = t := by
        intro n' t al' st' h' q hq
        refine xat_suf t ⟨[], rfl⟩ (fun hz => ?_)
        rw [hz] at hq
        cases n' <;> cases hq
      have stepA : ∀ {code' : List xI} {al' : xL} {st' : List Value} {h' : xH} {dc ds : Nat}, xnext M ((pc, len, i, an) :: rest) al st h = some (.inr (.inl ((code', al', st', h'), dc, ds))) → ∃ a b, xgo call M n code' al' st' h' = some (o, hf, a, b) ∧ c1 = dc + a ∧ s1 = ds + b := by
        intro code' al' st' h' dc ds hx
        unfold xgo at hr
        rw [hx] at hr
        exact xadd_some hr
      have none0 : xnext M ((pc, len, i, an) :: rest) al st h = none → False := by
        intro hx
        unfold xgo at hr
        rw [hx] at hr
        cases hr
      show W p l e R s m args below meth c H locs cells slots Q (F0 m pc ls cst)
      have pureK : xnext M ((pc, len, i, an) :: rest) al st h = xstk (xpure i an st) rest al h → len = xlen i → (∀ k, i = .ldc2_w k → (Jvm.Cond.constantLong M.1.cls k (Int64.ofNat (an.getD 0 0))).before args s = true) → (∀ k, i = .ldc k ∨ i = .ldc_w k → (Jvm.Cond.constant M.1.cls k (Int32.ofNat (an.getD 0 0))).before args s = true) → W p l e R s m args below meth c H locs cells slots Q (F0 m pc ls cst) := by
        intro hx hlen hk1 hk2
        cases hp : xpure i an st with
        | none => rw [hp] at hx; exact (none0 hx).elim
        | some st' =>
          rw [hp] at hx
          obtain ⟨a, b, h1, h2, h3⟩ := stepA hx
          refine snd_pure hexec hb hown hp (hlen ▸ hdec) hk1 hk2 hV (fun cst' hV' => ?_)
          rw [← hlen, ← next h1]
          exact ih rest al cl st' cst' h a b cells slots ws H locs ls h1 hsuf.tail hW hL hl hV' (by omega) (by omega)
      have locK : xnext M ((pc, len, i, an) :: rest) al st h = xlst (xloc M.2.2.1 i al st) rest h → len = xlen i → W p l e R s m args below meth c H locs cells slots Q (F0 m pc ls cst) := by
        intro hx hlen
        cases hp : xloc M.2.2.1 i al st with
        | none => rw [hp] at hx; exact (none0 hx).elim
        | some q =>
          obtain ⟨al', st'⟩ := q
          rw [hp] at hx
          obtain ⟨a, b, h1, h2, h3⟩ := stepA hx
          refine snd_loc hexec hb hp (hlen ▸ hdec) hL hl hV (fun cl' ls' cst' hL' hl' hV' => ?_)
          rw [← hlen, ← next h1]
          exact ih rest al' cl' st' cst' h a b cells slots ws H locs ls' h1 hsuf.tail hW hL' hl' hV' (by omega) (by omega)
      have heapK : xnext M ((pc, len, i, an) :: rest) al st h = xhst (xheap i an st h) rest al → len = xlen i → xok M.1.cls M.1.name i an = true → (∀ w ∈ xneed M.1.cls i an, xhas w) → W p l e R s m args below meth c H locs cells slots Q (F0 m pc ls cst) := by
        intro hx hlen hok hneed
        cases hp : xheap i an st h with
        | none => rw [hp] at hx; exact (none0 hx).elim
        | some q =>
          obtain ⟨st', h', dc, ds⟩ := q
          rw [hp] at hx
          obtain ⟨a, b, h1, h2, h3⟩ := stepA hx
          refine snd_heap hexec hb hts hown hmls hp (hlen ▸ hdec) (fun w hw => (hneed w hw).use hts hSa) (by rw [hname]; exact hok) hSa.1 hSa.2.1 hSa.2.2.2.1 (by omega) (by omega) hHr hP hD hS hV (by omega) (by omega) (fun cst' ws' H' locs' g1 g2 g3 g4 g5 g6 => ?_)
          rw [← hlen, ← next h1]
          exact ih rest al cl st' cst' h' a b _ _ ws' H' locs' ls h1 hsuf.tail ⟨hle.trans g1, g2, g3, g4, g5⟩ (hL.mono g1) hl g6 (by omega) (by omega)
      have forkT : ∀ {bb : Bool} {t : Nat} {st' cst' : List Value}, xnext M ((pc, len, i, an) :: rest) al st h = xfork M bb t rest al st' h → xVs G.2.2.2.2 (G.2.2.1 ++ ws) st' cst' → (bb = true → W p l e R s m args below meth c H locs cells slots Q (F0 m t ls cst')) ∧ (bb = false → W p l e R s m args below meth c H locs cells slots Q (F0 m (pc + len) ls cst')) := by
        intro bb t st' cst' hx hV'
        obtain ⟨a, b, h1, h2, h3⟩ := stepA hx
        constructor
        · rintro rfl
          obtain ⟨j1, j2⟩ := jump h1
          rw [← j2]
          exact ih _ al cl st' cst' h a b cells slots ws H locs ls h1 j1 hW hL hl hV' (by omega) (by omega)
        · rintro rfl
          rw [← next h1]
          exact ih rest al cl st' cst' h a b cells slots ws H locs ls h1 hsuf.tail hW hL hl hV' (by omega) (by omega)
      have gotoT : ∀ {t : Nat} {st' cst' : List Value}, xnext M ((pc, len, i, an) :: rest) al st h = xgoto M t al st' h → xVs G.2.2.2.2 (G.2.2.1 ++ ws) st' cst' → W p l e R s m args below meth c H locs cells slots Q (F0 m t ls cst') := by
        intro t st' cst' hx hV'
        obtain ⟨a, b, h1, h2, h3⟩ := stepA hx
        obtain ⟨j1, j2⟩ := jump h1
        rw [← j2]
        exact ih _ al cl st' cst' h a b cells slots ws H locs ls h1 j1 hW hL hl hV' (by omega) (by omega)
      have retK : ∀ {v : Option Value ⊕ String} {a b : Nat}, xnext M ((pc, len, i, an) :: rest) al st h = some (.inl (v, h, a, b)) → o = v ∧ hf = h ∧ c1 = a ∧ s1 = b := by
        intro v a b hx
        unfold xgo at hr
        rw [hx] at hr
        cases hr
        exact ⟨rfl, rfl, rfl, rfl⟩
      have retW : ∀ {v cv : Option Value}, xnext M ((pc, len, i, an) :: rest) al st h = some (.inl (.inl v, h, 0, 0)) → len = 1 → xret i M.2.2.2.1 v → xctl M.2.2.2.1 pc i [] = true → xOV G.2.2.2.2 (G.2.2.1 ++ ws) v cv → W p l e R s m args below meth c H locs cells slots Q (F0 m pc ls cv.toList) := by
        intro v cv hx hlen hr1 hr2 hov
        obtain ⟨g1, g2, g3, g4⟩ := retK hx
        subst hlen
        subst g2
        have e1 : Cf = cells := by omega
        have e2 : Sf = slots := by omega
        have := hret i pc v cv ws H locs ls hdec hr1 hr2 g1 hov hW
        rw [e1, e2] at this
        exact this
      have callK : ∀ {mid : Nat} {as r : List Value}, xnext M ((pc, len, i, an) :: rest) al st h = some (.inr (.inr (mid, as, rest, al, r, pc))) → ∃ (o1 : Option Value ⊕ String) (h1 : xH) (ca sa : Nat), call n mid as h = some (o1, h1, ca, sa) ∧ xKs p l e R s m args below meth c cells slots ca sa Q pc len ls G ws h1 o1 r ∧ cells + ca ≤ R.cells ∧ slots + sa ≤ R.slots := by
        intro mid as r hx
        unfold xgo at hr
        rw [hx] at hr
        try dsimp only at hr
        cases hcl : call n mid as h with
        | none => rw [hcl] at hr; cases hr
        | some q =>
          obtain ⟨o1, h1, ca, sa⟩ := q
          rw [hcl] at hr
          refine ⟨o1, h1, ca, sa, rfl, ?_⟩
          cases o1 with
          | inl v =>
            obtain ⟨a, b, e1, e2, e3⟩ := xadd_some hr
            refine ⟨⟨?_, fun E q ce ws' H1 locs1 cr ho => by cases ho⟩, by dsimp only at e2; omega, by dsimp only at e3; omega⟩
            intro v' cv ws' H1 locs1 cr ho hov hcr k1 k2 k3 k4 k5
            cases ho
            rw [← next e1]
            refine ih rest al cl (v.toList ++ r) (cv.toList ++ cr) h1 a b _ _ ws' H1 locs1 ls e1 hsuf.tail ⟨hle.trans k1, k2, k3, k4, k5⟩ (hL.mono k1) hl ?_ (by dsimp only at e2; omega) (by dsimp only at e3; omega)
            cases v with
            | none => cases cv with
              | none => exact hcr
              | some w => exact hov.elim
            | some v => cases cv with
              | none => exact hov.elim
              | some w => exact ⟨hov, hcr⟩
          | inr E =>
            try dsimp only at hr
            cases hh : xhand M.2.2.2.2.2 pc E with
            | none => rw [hh] at hr; cases hr
            | some t =>
              rw [hh] at hr
              obtain ⟨a, b, e1, e2, e3⟩ := xadd_some hr
              refine ⟨⟨(fun v cv ws' H1 locs1 cr ho => by cases ho), ?_⟩, by dsimp only at e2; omega, by dsimp only at e3; omega⟩
              intro E' q ce ws' H1 locs1 cr ho k1 k2 k3 k4 k5 k6 k7 k8
              cases ho
              obtain ⟨pre, x, suf, g1, g2, g3, g4, g5, g6⟩ := xhand_some hh
              obtain ⟨hT, hX2⟩ := hX.resolve_left (fun hz => by rw [hz] at g1; cases pre <;> cases g1)
              have hxm : x ∈ M.2.2.2.2.2 := by rw [g1]; simp
              have hxE := hX2 x hxm
              obtain ⟨j1, j2⟩ := jump e1
              have hEin : E ∈ xEx := by rw [← g5]; exact hxE.1
              refine vx_catch (own := M.1.cls) (name := E) hown (tableOf (pre.map fun x => (x.1, x.2.1, x.2.2.1, x.2.2.2.1))) ⟨x.1, x.2.1, x.2.2.1, x.2.2.2.1⟩ (tableOf (suf.map fun x => (x.1, x.2.1, x.2.2.1, x.2.2.2.1))) ?_ ?_ ?_ hxE.2.1 (hts _ (g5 ▸ hxE.2.2)) ?_ k6 k7 k8 ?_
              · rw [hT, g1]; unfold tableOf; simp
              · intro z hz
                unfold tableOf at hz
                obtain ⟨y, hy, rfl⟩ := List.mem_map.mp hz
                obtain ⟨w, hw, rfl⟩ := List.mem_map.mp hy
                have hwm : w ∈ M.2.2.2.2.2 := by rw [g1]; exact List.mem_append_left _ hw
                have hwE := hX2 w hwm
                by_cases hcov : w.1 ≤ pc ∧ pc < w.2.1
                · refine Or.inr ⟨hwE.2.1, w.2.2.2.2, hts _ hwE.2.2, hSa.2.2.2.2.2.2.1 E hEin _ hwE.1 (fun he => g2 w hw ⟨hcov.1, hcov.2, he.symm⟩)⟩
                · left
                  unfold covers
                  simp only [Bool.and_eq_false_iff, decide_eq_false_iff_not]
                  by_cases h1 : w.1 ≤ pc
                  · exact Or.inr (fun h2 => hcov ⟨h1, h2⟩)
                  · exact Or.inl h1
              · unfold covers; simp only [Bool.and_eq_true, decide_eq_true_eq]; exact ⟨g3, g4⟩
              · exact (hSa.2.2.2.2.2.2.2.1 _ (xEx_cast E hEin) rfl).use rfl
              · show W p l e R s m args below meth c H1 locs1 _ _ Q (F0 m x.2.2.1 ls [.ref q])
                rw [g6, ← j2]
                exact ih _ al cl [.retAddr 0] [.ref q] h1 a b _ _ ws' H1 locs1 ls e1 j1 ⟨hle.trans k1, k2, k3, k4, k5⟩ (hL.mono k1) hl ⟨Or.inr ⟨q, rfl⟩, trivial⟩ (by dsimp only at e2; omega) (by dsimp only at e3; omega)
      have inv0 : ∀ {mid k ci : Nat} {an0 : List Nat} {mode : Nat}, xnext M ((pc, len, i, an) :: rest) al st h = xinv pc (0 :: mid :: k :: ci :: an0) rest al st h mode → ((st.take k).reverse = [] ∧ k = 0 ∧ mode = 0 ∨ ∃ a as, (st.take k).reverse = a :: as ∧ as.length + 1 = k ∧ (mode = 1 → xrecv ci a h = true) ∧ (mode = 2 → xisr a = true)) ∧ ((st.drop k).map fun v => v.category).sum ≤ 8 ∧ ∃ (o1 : Option Value ⊕ String) (h1 : xH) (ca sa : Nat), call n mid (st.take k).reverse h = some (o1, h1, ca, sa) ∧ xKs p l e R s m args below meth c cells slots ca sa Q pc len ls G ws h1 o1 (st.drop k) ∧ cells + ca ≤ R.cells ∧ slots + sa ≤ R.slots := by
        intro mid k ci an0 mode hx
        cases hta : (st.take k).reverse with
        | nil =>
          rw [xinv_nil hta] at hx
          by_cases hg : k = 0 ∧ ((st.drop k).map fun v => v.category).sum ≤ 8 ∧ mode = 0
          · rw [if_pos hg] at hx
            exact ⟨Or.inl ⟨rfl, hg.1, hg.2.2⟩, hg.2.1, callK hx⟩
          · rw [if_neg hg] at hx; exact (none0 hx).elim
        | cons a as =>
          rw [xinv_cons hta] at hx
          by_cases hg : as.length + 1 = k ∧ ((st.drop k).map fun v => v.category).sum ≤ 8 ∧ (mode = 1 → xrecv ci a h = true) ∧ (mode = 2 → xisr a = true)
          · rw [if_pos hg] at hx
            exact ⟨Or.inr ⟨a, as, rfl, hg.1, hg.2.2⟩, hg.2.1, callK hx⟩
          · rw [if_neg hg] at hx; exact (none0 hx).elim
      have nestw : ∀ {w : Cond}, xhas w → xNw w = true → va_Nw w s := fun {w} h hn => by
        rcases h with h | ⟨-, h⟩
        · exact va_Nw.of (xNw_tab hn) (hts w h)
        · exact hSa.2.2.2.2.2.2.2.1 w h hn
      have plain : ∀ {w : Cond}, xhas w → xNw w = false → w ∈ xTB := fun h hn => by
        rcases h with h | ⟨h, -⟩
        · exact h
        · rw [hn] at h; cases h
      have okN : (∀ ik, i ≠ .new ik) → xok M.1.cls M.1.name i an = true ∧ ∀ w ∈ xneed M.1.cls i an, xhas w := by
        intro hne
        split at hok
        · rename_i ik an' 
          exact absurd rfl (hne ik)
        · exact hok
      cases i with
      | iconst n => exact pureK rfl (of_decide_eq_true hlen) (fun _ h => by cases h) (fun _ h => by rcases h with h | h <;> cases h)
      | bipush n => exact pureK rfl (of_decide_eq_true hlen) (fun _ h => by cases h) (fun _ h => by rcases h with h | h <;> cases h)
      | sipush n => exact pureK rfl (of_decide_eq_true hlen) (fun _ h => by cases h) (fun _ h => by rcases h with h | h <;> cases h)
      | lconst n => exact pureK rfl (of_decide_eq_true hlen) (fun _ h => by cases h) (fun _ h => by rcases h with h | h <;> cases h)
      | aconst_null => exact pureK rfl (of_decide_eq_true hlen) (fun _ h => by cases h) (fun _ h => by rcases h with h | h <;> cases h)
      | iadd => exact pureK rfl (of_decide_eq_true hlen) (fun _ h => by cases h) (fun _ h => by rcases h with h | h <;> cases h)
      | isub => exact pureK rfl (of_decide_eq_true hlen) (fun _ h => by cases h) (fun _ h => by rcases h with h | h <;> cases h)
      | imul => exact pureK rfl (of_decide_eq_true hlen) (fun _ h => by cases h) (fun _ h => by rcases h with h | h <;> cases h)
      | idiv => exact pureK rfl (of_decide_eq_true hlen) (fun _ h => by cases h) (fun _ h => by rcases h with h | h <;> cases h)
      | irem => exact pureK rfl (of_decide_eq_true hlen) (fun _ h => by cases h) (fun _ h => by rcases h with h | h <;> cases h)
      | ineg => exact pureK rfl (of_decide_eq_true hlen) (fun _ h => by cases h) (fun _ h => by rcases h with h | h <;> cases h)
      | ishl => exact pureK rfl (of_decide_eq_true hlen) (fun _ h => by cases h) (fun _ h => by rcases h with h | h <;> cases h)
      | ishr => exact pureK rfl (of_decide_eq_true hlen) (fun _ h => by cases h) (fun _ h => by rcases h with h | h <;> cases h)
      | iushr => exact pureK rfl (of_decide_eq_true hlen) (fun _ h => by cases h) (fun _ h => by rcases h with h | h <;> cases h)
      | iand => exact pureK rfl (of_decide_eq_true hlen) (fun _ h => by cases h) (fun _ h => by rcases h with h | h <;> cases h)
      | ior => exact pureK rfl (of_decide_eq_true hlen) (fun _ h => by cases h) (fun _ h => by rcases h with h | h <;> cases h)
      | ixor => exact pureK rfl (of_decide_eq_true hlen) (fun _ h => by cases h) (fun _ h => by rcases h with h | h <;> cases h)
      | i2l => exact pureK rfl (of_decide_eq_true hlen) (fun _ h => by cases h) (fun _ h => by rcases h with h | h <;> cases h)
      | i2b => exact pureK rfl (of_decide_eq_true hlen) (fun _ h => by cases h) (fun _ h => by rcases h with h | h <;> cases h)
      | i2c => exact pureK rfl (of_decide_eq_true hlen) (fun _ h => by cases h) (fun _ h => by rcases h with h | h <;> cases h)
      | l2i => exact pureK rfl (of_decide_eq_true hlen) (fun _ h => by cases h) (fun _ h => by rcases h with h | h <;> cases h)
      | ladd => exact pureK rfl (of_decide_eq_true hlen) (fun _ h => by cases h) (fun _ h => by rcases h with h | h <;> cases h)
      | lsub => exact pureK rfl (of_decide_eq_true hlen) (fun _ h => by cases h) (fun _ h => by rcases h with h | h <;> cases h)
      | lmul => exact pureK rfl (of_decide_eq_true hlen) (fun _ h => by cases h) (fun _ h => by rcases h with h | h <;> cases h)
      | ldiv => exact pureK rfl (of_decide_eq_true hlen) (fun _ h => by cases h) (fun _ h => by rcases h with h | h <;> cases h)
      | lcmp => exact pureK rfl (of_decide_eq_true hlen) (fun _ h => by cases h) (fun _ h => by rcases h with h | h <;> cases h)
      | dup => exact pureK rfl (of_decide_eq_true hlen) (fun _ h => by cases h) (fun _ h => by rcases h with h | h <;> cases h)
      | dup_x1 => exact pureK rfl (of_decide_eq_true hlen) (fun _ h => by cases h) (fun _ h => by rcases h with h | h <;> cases h)
      | dup2 => exact pureK rfl (of_decide_eq_true hlen) (fun _ h => by cases h) (fun _ h => by rcases h with h | h <;> cases h)
      | pop => exact pureK rfl (of_decide_eq_true hlen) (fun _ h => by cases h) (fun _ h => by rcases h with h | h <;> cases h)
      | pop2 => exact pureK rfl (of_decide_eq_true hlen) (fun _ h => by cases h) (fun _ h => by rcases h with h | h <;> cases h)
      | ldc2_w k => exact pureK rfl (of_decide_eq_true hlen) (fun k' h => by cases h; exact ((okN (fun _ h => by cases h)).2 _ List.mem_cons_self).use hts hSa) (fun _ h => by rcases h with h | h <;> cases h)
      | iload k => exact locK rfl (of_decide_eq_true hlen)
      | iload_n k => exact locK rfl (of_decide_eq_true hlen)
      | lload k => exact locK rfl (of_decide_eq_true hlen)
      | lload_n k => exact locK rfl (of_decide_eq_true hlen)
      | aload k => exact locK rfl (of_decide_eq_true hlen)
      | aload_n k => exact locK rfl (of_decide_eq_true hlen)
      | istore k => exact locK rfl (of_decide_eq_true hlen)
      | istore_n k => exact locK rfl (of_decide_eq_true hlen)
      | lstore k => exact locK rfl (of_decide_eq_true hlen)
      | lstore_n k => exact locK rfl (of_decide_eq_true hlen)
      | astore k => exact locK rfl (of_decide_eq_true hlen)
      | astore_n k => exact locK rfl (of_decide_eq_true hlen)
      | iinc k n => exact locK rfl (of_decide_eq_true hlen)
      | getfield k => exact heapK rfl (of_decide_eq_true hlen) (okN (fun _ h => by cases h)).1 (okN (fun _ h => by cases h)).2
      | putfield k => exact heapK rfl (of_decide_eq_true hlen) (okN (fun _ h => by cases h)).1 (okN (fun _ h => by cases h)).2
      | getstatic k => exact heapK rfl (of_decide_eq_true hlen) (okN (fun _ h => by cases h)).1 (okN (fun _ h => by cases h)).2
      | iaload => exact heapK rfl (of_decide_eq_true hlen) (okN (fun _ h => by cases h)).1 (okN (fun _ h => by cases h)).2
      | baload => exact heapK rfl (of_decide_eq_true hlen) (okN (fun _ h => by cases h)).1 (okN (fun _ h => by cases h)).2
      | aaload => exact heapK rfl (of_decide_eq_true hlen) (okN (fun _ h => by cases h)).1 (okN (fun _ h => by cases h)).2
      | iastore => exact heapK rfl (of_decide_eq_true hlen) (okN (fun _ h => by cases h)).1 (okN (fun _ h => by cases h)).2
      | bastore => exact heapK rfl (of_decide_eq_true hlen) (okN (fun _ h => by cases h)).1 (okN (fun _ h => by cases h)).2
      | aastore => exact heapK rfl (of_decide_eq_true hlen) (okN (fun _ h => by cases h)).1 (okN (fun _ h => by cases h)).2
      | arraylength => exact heapK rfl (of_decide_eq_true hlen) (okN (fun _ h => by cases h)).1 (okN (fun _ h => by cases h)).2
      | newarray t => exact heapK rfl (of_decide_eq_true hlen) (okN (fun _ h => by cases h)).1 (okN (fun _ h => by cases h)).2
      | anewarray k => exact heapK rfl (of_decide_eq_true hlen) (okN (fun _ h => by cases h)).1 (okN (fun _ h => by cases h)).2
      | checkcast k => exact heapK rfl (of_decide_eq_true hlen) (okN (fun _ h => by cases h)).1 (okN (fun _ h => by cases h)).2
      | ldc k =>
        have hokN := okN (fun _ h => by cases h)
        have hlen2 := of_decide_eq_true hlen
        cases an with
        | nil => exact absurd (show false = true from hokN.1) nofun
        | cons z an =>
          by_cases h300 : z = 300
          · subst h300; exact heapK rfl hlen2 hokN.1 hokN.2
          · by_cases h301 : z = 301
            · subst h301; exact heapK rfl hlen2 hokN.1 hokN.2
            · have hx : xnext M ((pc, len, .ldc k, z :: an) :: rest) al st h = xstk (xpure (.ldc k) (z :: an) st) rest al h := by
                unfold xnext; dsimp only; split
                · rename_i heq; cases heq; exact absurd rfl h300
                · rename_i heq; cases heq; exact absurd rfl h301
                · rfl
              have han : an = [] := by
                have h1 := hokN.1
                unfold xok at h1; dsimp only at h1
                split at h1
                · rename_i heq; cases heq; exact absurd rfl h300
                · rename_i heq; cases heq; exact absurd rfl h301
                · rename_i heq; cases heq; rfl
                · cases h1
              subst han
              refine pureK hx hlen2 (fun _ h => by cases h) (fun k' h => ?_)
              rcases h with h | h <;> cases h
              have h1 : ∀ w ∈ xneed M.1.cls (.ldc k) [z], xhas w := hokN.2
              exact (h1 _ List.mem_cons_self).use hts hSa
      | ldc_w k =>
        have hokN := okN (fun _ h => by cases h)
        have hlen2 := of_decide_eq_true hlen
        cases an with
        | nil => exact absurd (show false = true from hokN.1) nofun
        | cons z an =>
          by_cases h300 : z = 300
          · subst h300; exact heapK rfl hlen2 hokN.1 hokN.2
          · by_cases h301 : z = 301
            · subst h301; exact heapK rfl hlen2 hokN.1 hokN.2
            · have hx : xnext M ((pc, len, .ldc_w k, z :: an) :: rest) al st h = xstk (xpure (.ldc_w k) (z :: an) st) rest al h := by
                unfold xnext; dsimp only; split
                · rename_i heq; cases heq; exact absurd rfl h300
                · rename_i heq; cases heq; exact absurd rfl h301
                · rfl
              have han : an = [] := by
                have h1 := hokN.1
                unfold xok at h1; dsimp only at h1
                split at h1
                · rename_i heq; cases heq; exact absurd rfl h300
                · rename_i heq; cases heq; rfl
                · cases h1
              subst han
              refine pureK hx hlen2 (fun _ h => by cases h) (fun k' h => ?_)
              rcases h with h | h <;> cases h
              have h1 : ∀ w ∈ xneed M.1.cls (.ldc_w k) [z], xhas w := hokN.2
              exact (h1 _ List.mem_cons_self).use hts hSa
      | goto off => 
        cases (show 3 = len from (of_decide_eq_true hlen).symm)
        exact lv_goto hexec hb hdec (of_decide_eq_true hctl) (gotoT rfl hV)
      | ifCond cnd off =>
        cases (show 3 = len from (of_decide_eq_true hlen).symm)
        have ht := of_decide_eq_true hctl
        cases st with
        | nil => exact (none0 rfl).elim
        | cons v r =>
          cases v with
          | int x =>
            obtain ⟨cr, rfl, hr2⟩ := hV.ints
            obtain ⟨k1, k2⟩ := forkT rfl hr2
            cases cnd with
            | eq => exact lv_if_eq hexec hb hdec ht (fun h => k1 (decide_eq_true h)) (fun h => k2 (decide_eq_false h))
            | ne => exact lv_if_ne hexec hb hdec ht (fun h => k1 (decide_eq_true h)) (fun h => k2 (decide_eq_false (fun h2 => h2 h)))
            | lt => exact lv_if_lt hexec hb hdec ht (fun h => k1 (decide_eq_true h)) (fun h => k2 (decide_eq_false h))
            | ge => exact lv_if_ge hexec hb hdec ht (fun h => k1 (decide_eq_true h)) (fun h => k2 (decide_eq_false h))
            | gt => exact lv_if_gt hexec hb hdec ht (fun h => k1 (decide_eq_true h)) (fun h => k2 (decide_eq_false h))
            | le => exact lv_if_le hexec hb hdec ht (fun h => k1 (decide_eq_true h)) (fun h => k2 (decide_eq_false h))
          | _ => exact (none0 rfl).elim
      | if_icmp cnd off =>
        cases (show 3 = len from (of_decide_eq_true hlen).symm)
        have ht := of_decide_eq_true hctl
        cases st with
        | nil => exact (none0 rfl).elim
        | cons v r =>
          cases v with
          | int y =>
            cases r with
            | nil => exact (none0 rfl).elim
            | cons v r =>
              cases v with
              | int x =>
                obtain ⟨cr, rfl, hr2⟩ := hV.ints
                obtain ⟨cr, rfl, hr3⟩ := hr2.ints
                obtain ⟨k1, k2⟩ := forkT rfl hr3
                cases cnd with
                | eq => exact lv_icmp_eq hexec hb hdec ht (fun h => k1 (decide_eq_true h)) (fun h => k2 (decide_eq_false h))
                | ne => exact lv_icmp_ne hexec hb hdec ht (fun h => k1 (decide_eq_true h)) (fun h => k2 (decide_eq_false (fun h2 => h2 h)))
                | lt => exact lv_icmp_lt hexec hb hdec ht (fun h => k1 (decide_eq_true h)) (fun h => k2 (decide_eq_false h))
                | ge => exact lv_icmp_ge hexec hb hdec ht (fun h => k1 (decide_eq_true h)) (fun h => k2 (decide_eq_false h))
                | gt => exact lv_icmp_gt hexec hb hdec ht (fun h => k1 (decide_eq_true h)) (fun h => k2 (decide_eq_false h))
                | le => exact lv_icmp_le hexec hb hdec ht (fun h => k1 (decide_eq_true h)) (fun h => k2 (decide_eq_false h))
              | _ => exact (none0 rfl).elim
          | _ => exact (none0 rfl).elim
      | ifnull off =>
        cases (show 3 = len from (of_decide_eq_true hlen).symm)
        have ht := of_decide_eq_true hctl
        cases st with
        | nil => exact (none0 rfl).elim
        | cons v r =>
          cases v with
          | ref x => obtain ⟨q, cr, rfl, -, hr2⟩ := hV.refs; exact lv_ifnull hexec hb hdec ((forkT rfl hr2).2 rfl)
          | null => obtain ⟨cr, rfl, hr2⟩ := hV.nulls; exact lv_ifnullN hexec hb hdec ht ((forkT rfl hr2).1 rfl)
          | _ => exact (none0 rfl).elim
      | ifnonnull off =>
        cases (show 3 = len from (of_decide_eq_true hlen).symm)
        have ht := of_decide_eq_true hctl
        cases st with
        | nil => exact (none0 rfl).elim
        | cons v r =>
          cases v with
          | ref x => obtain ⟨q, cr, rfl, -, hr2⟩ := hV.refs; exact lv_ifnonnull hexec hb hdec ht ((forkT rfl hr2).1 rfl)
          | null => obtain ⟨cr, rfl, hr2⟩ := hV.nulls; exact lv_ifnonnullN hexec hb hdec ((forkT rfl hr2).2 rfl)
          | _ => exact (none0 rfl).elim
      | if_acmp cnd off =>
        cases (show 3 = len from (of_decide_eq_true hlen).symm)
        have ht := of_decide_eq_true hctl
        cases st with
        | nil => cases cnd <;> exact (none0 rfl).elim
        | cons v r =>
          cases r with
          | nil => cases cnd <;> exact (none0 rfl).elim
          | cons u r =>
            obtain ⟨w, _, rfl, hw, hr2⟩ := hV.cons
            obtain ⟨z, cr, rfl, hz, hr3⟩ := hr2.cons
            by_cases hap : xapart u v = true
            · obtain ⟨rz, rw', rfl, rfl, hiff⟩ := xacmp hSa.2.2.2.1 hD hap hz hw
              cases cnd with
              | eq =>
                have hx : xnext M ((pc, 3, .if_acmp .eq off, an) :: rest) al (v :: u :: r) h = xfork M (decide (u = v)) (an.getD 0 0) rest al r h := if_pos hap
                obtain ⟨k1, k2⟩ := forkT hx hr3
                exact lv_acmp_eq hexec hb hdec ht (fun h => k1 (decide_eq_true (hiff.mp h))) (fun h => k2 (decide_eq_false (fun h2 => h (hiff.mpr h2))))
              | ne =>
                have hx : xnext M ((pc, 3, .if_acmp .ne off, an) :: rest) al (v :: u :: r) h = xfork M (decide (¬ u = v)) (an.getD 0 0) rest al r h := if_pos hap
                obtain ⟨k1, k2⟩ := forkT hx hr3
                exact lv_acmp_ne hexec hb hdec ht (fun h => k1 (decide_eq_true (fun h2 => h (hiff.mpr h2)))) (fun h => k2 (decide_eq_false (fun h2 => h2 (hiff.mp h))))
            · cases cnd with
              | eq => exact (none0 (if_neg hap)).elim
              | ne => exact (none0 (if_neg hap)).elim
      | tableswitch dflt lo hi offs =>
        unfold xctl at hctl; dsimp only at hctl
        simp only [Bool.and_eq_true, decide_eq_true_eq] at hctl
        obtain ⟨⟨ht, hsz⟩, htg⟩ := hctl
        cases st with
        | nil => exact (none0 rfl).elim
        | cons v r =>
          cases v with
          | int x =>
            obtain ⟨cr, rfl, hr2⟩ := hV.ints
            by_cases hout : x.toInt < lo ∨ hi < x.toInt
            · have hx : xnext M ((pc, len, .tableswitch dflt lo hi offs, an) :: rest) al (.int x :: r) h = xgoto M (an.getD 0 0) al r h := if_pos hout
              exact lv_tableOut hexec hb hdec hout ht (gotoT hx hr2)
            · have hx : xnext M ((pc, len, .tableswitch dflt lo hi offs, an) :: rest) al (.int x :: r) h = xgoto M (an.getD (1 + (x.toInt - lo).toNat) 0) al r h := if_neg hout
              have hlt : (x.toInt - lo).toNat < offs.size := by omega
              have h1 := List.all_eq_true.mp htg _ (List.mem_range.mpr hlt)
              rw [Array.getElem?_eq_getElem hlt] at h1
              exact lv_tableIn hexec hb hdec (fun h => hout (Or.inl h)) (fun h => hout (Or.inr h)) (Array.getElem?_eq_getElem hlt) (of_decide_eq_true h1) (gotoT hx hr2)
          | _ => exact (none0 rfl).elim
      | ireturn =>
        have hlen2 : len = 1 := of_decide_eq_true hlen
        cases st with
        | nil => exact (none0 rfl).elim
        | cons v r =>
          cases r with
          | cons u r => cases v <;> exact (none0 rfl).elim
          | nil =>
            cases v with
            | int x =>
              obtain ⟨cr, rfl, hr2⟩ := hV.ints
              have hcr := hr2.nil
              subst hcr
              cases hty : M.2.2.2.1 with
              | none =>
                refine (none0 ?_).elim
                unfold xnext; dsimp only; rw [hty]
              | some ty =>
                by_cases hfit : xfit ty (.int x) = true
                · have hx : xnext M ((pc, len, .ireturn, an) :: rest) al [.int x] h = some (.inl (.inl (some (.int x)), h, 0, 0)) := by
                    unfold xnext; dsimp only; rw [hty]; exact if_pos hfit
                  exact retW (cv := some (.int x)) hx hlen2 ⟨x, ty, rfl, hty, hfit⟩ rfl rfl
                · refine (none0 ?_).elim
                  unfold xnext; dsimp only; rw [hty]; exact if_neg hfit
            | _ => exact (none0 rfl).elim
      | lreturn =>
        have hlen2 : len = 1 := of_decide_eq_true hlen
        cases st with
        | nil => exact (none0 rfl).elim
        | cons v r =>
          cases r with
          | cons u r => cases v <;> exact (none0 rfl).elim
          | nil =>
            cases v with
            | long x =>
              obtain ⟨cr, rfl, hr2⟩ := hV.longs
              have hcr := hr2.nil
              subst hcr
              exact retW (cv := some (.long x)) rfl hlen2 ⟨x, rfl⟩ hctl rfl
            | _ => exact (none0 rfl).elim
      | areturn =>
        have hlen2 : len = 1 := of_decide_eq_true hlen
        cases st with
        | nil => exact (none0 rfl).elim
        | cons v r =>
          cases r with
          | cons u r => cases v <;> exact (none0 rfl).elim
          | nil =>
            cases v with
            | ref x =>
              obtain ⟨q, cr, rfl, hq, hr2⟩ := hV.refs
              have hcr := hr2.nil
              subst hcr
              exact retW (cv := some (.ref q.1)) rfl hlen2 (Or.inr ⟨x, rfl⟩) hctl ⟨q, hq, rfl⟩
            | null =>
              obtain ⟨cr, rfl, hr2⟩ := hV.nulls
              have hcr := hr2.nil
              subst hcr
              exact retW (cv := some .null) rfl hlen2 (Or.inl rfl) hctl rfl
            | _ => exact (none0 rfl).elim
      | return_ =>
        have hlen2 : len = 1 := of_decide_eq_true hlen
        cases st with
        | cons v r => exact (none0 rfl).elim
        | nil =>
          have hcr := hV.nil
          subst hcr
          exact retW (cv := none) rfl hlen2 rfl hctl trivial
      | new ik =>
        have hlen2 : len = 3 := of_decide_eq_true hlen
        cases an with
        | nil => exact heapK rfl hlen2 hok.1 hok.2
        | cons z an =>
          by_cases h200 : z = 200
          · subst h200
            cases an with
            | nil => exact hok.elim
            | cons ei an =>
              have hok : xthrow M pc ik (ei :: an) := hok
              by_cases hsum : (st.map fun v => v.category).sum ≤ 8
              · obtain ⟨g1, g2, g3, g4⟩ := retK (show xnext M ((pc, len, .new ik, 200 :: ei :: an) :: rest) al st h = some (.inl (.inr (xEx.getD ei ""), h, 1, 6)) from if_pos hsum)
                subst hlen2
                subst g2
                exact hthr pc ik ei an ws H locs ls cst cells slots hdec hok g1 hlsz (by rw [hV.sum]; exact hsum) (by omega) (by omega) hW
              · exact (none0 (if_neg hsum)).elim
          · have hx : xnext M ((pc, len, .new ik, z :: an) :: rest) al st h = xhst (xheap (.new ik) (z :: an) st h) rest al := by
              unfold xnext; dsimp only; split
              · rename_i heq; cases heq; exact absurd rfl h200
              · rfl
            have hok2 : xok M.1.cls M.1.name (.new ik) (z :: an) = true ∧ ∀ w ∈ xneed M.1.cls (.new ik) (z :: an), xhas w := by
              split at hok
              · rename_i heq1 heq2; cases heq2; exact absurd rfl h200
              · exact hok
            exact heapK hx hlen2 hok2.1 hok2.2
      | invokeinterface idx cnt =>
        have hokN := okN (fun _ h => by cases h)
        cases (show 5 = len from (of_decide_eq_true hlen).symm)
        have hx : xnext M ((pc, 5, .invokeinterface idx cnt, an) :: rest) al st h = xinv pc an rest al st h 1 := rfl
        rcases an with _ | ⟨z, an⟩
        · exact (none0 hx).elim
        · unfold xinv at hx
          by_cases h0 : z = 0
          · subst h0
            rcases an with _ | ⟨mid, _ | ⟨k, _ | ⟨ci, _ | ⟨kind, an⟩⟩⟩⟩
            · exact (none0 hx).elim
            · exact (none0 hx).elim
            · exact (none0 hx).elim
            · exact absurd (show false = true from (hcall rfl).1) nofun
            · obtain ⟨hcok, hcn⟩ := hcall rfl
              obtain ⟨hsh, hsum, o1, h1, ca, sa, hcl, hK, hcc, hss⟩ := inv0 (an0 := kind :: an) hx
              rcases hsh with ⟨-, -, hf⟩ | ⟨a, as, hta, hak, hrv, -⟩
              · cases hf
              · have hrv := hrv rfl
                subst hak
                have hcok : ((match xFw[kind]? with
                  | some (x, y) => xnm x as.length && decide (y = (P mid).1)
                  | none => false) && decide ((vwCl.getD ci (RL, TX0, 0)).1 = "java/util/ArrayList$Itr") && (P mid).2.2.2.2.2.isEmpty) = true := hcok
                simp only [Bool.and_eq_true, decide_eq_true_eq] at hcok
                obtain ⟨⟨hc1, hc2⟩, hc3⟩ := hcok
                cases hxf : xFw[kind]? with
                | none => rw [hxf] at hc1; cases hc1
                | some q =>
                  obtain ⟨x, y⟩ := q
                  rw [hxf] at hc1
                  simp only [Bool.and_eq_true, decide_eq_true_eq] at hc1
                  obtain ⟨hc1, rfl⟩ := hc1
                  have hcn : ∀ w ∈ va_wsF M.1.cls idx ((vwCl.getD ci (RL, TX0, 0)).1) ((xFw.getD kind (⟨"", "", ""⟩, ⟨"", "", ""⟩)).1) (P mid).1 [], xhas w := hcn
                  have hgx : xFw.getD kind (⟨"", "", ""⟩, ⟨"", "", ""⟩) = (x, (P mid).1) := by rw [List.getD_eq_getElem?_getD, hxf]; rfl
                  rw [hgx] at hcn
                  have hcn : ∀ w ∈ va_wsF M.1.cls idx ((vwCl.getD ci (RL, TX0, 0)).1) x (P mid).1 [], xhas w := hcn
                  exact snd_F hexec hb hml hlsz hown hts (hPok mid).1 (List.isEmpty_iff.mp hc3) hSa hHr hP hD hS (hta ▸ (hC n mid _ h o1 h1 ca sa ws hcl).1 (List.isEmpty_iff.mp hc3)) (by omega) (by have := (hPok mid).2; omega) hcc hss hta hrv hxf (fun w hw => plain (hcn w hw) (by unfold va_wsF at hw; simp at hw; rcases hw with rfl | rfl | rfl | rfl <;> rfl)) hc2 hc1 hV hsum hdec hK
          · refine (none0 (hx.trans ?_)).elim
            split
            · rename_i heq; cases heq; exact absurd rfl h0
            · rfl
      | invokevirtual idx =>
        have hokN := okN (fun _ h => by cases h)
        cases an with
        | nil => exact (none0 rfl).elim
        | cons z an =>
          by_cases h2 : z = 2
          · subst h2; exact heapK rfl (of_decide_eq_true hlen) hokN.1 hokN.2
          by_cases h6 : z = 6
          · subst h6; exact heapK rfl (of_decide_eq_true hlen) hokN.1 hokN.2
          · cases (show 3 = len from (of_decide_eq_true hlen).symm)
            have hx : xnext M ((pc, 3, .invokevirtual idx, z :: an) :: rest) al st h = xinv pc (z :: an) rest al st h 1 := by
              unfold xnext; dsimp only; split
              · rename_i heq; cases heq; exact absurd rfl h2
              · rename_i heq; cases heq; exact absurd rfl h6
              · rfl
            unfold xinv at hx
            by_cases h0 : z = 0
            · subst h0
              rcases an with _ | ⟨mid, _ | ⟨k, _ | ⟨ci, _ | ⟨kind, an⟩⟩⟩⟩
              · exact (none0 hx).elim
              · exact (none0 hx).elim
              · exact (none0 hx).elim
              · exact absurd (show false = true from (hcall rfl).1) nofun
              · obtain ⟨hcok, hcn⟩ := hcall rfl
                obtain ⟨hsh, hsum, o1, h1, ca, sa, hcl, hK, hcc, hss⟩ := inv0 (an0 := kind :: an) hx
                rcases hsh with ⟨-, -, hf⟩ | ⟨a, as, hta, hak, hrv, -⟩
                · cases hf
                · have hrv := hrv rfl
                  subst hak
                  match kind, hcok, hcn with
                  | 0, hcok, hcn =>
                    have hcok : (xnm (P mid).1 as.length && decide ((P mid).1.cls = (vwCl.getD ci (RL, TX0, 0)).1) && (P mid).2.2.2.2.2.isEmpty) = true := hcok
                    simp only [Bool.and_eq_true, decide_eq_true_eq] at hcok
                    have hcn : ∀ w ∈ wsV M.1.cls idx ((vwCl.getD ci (RL, TX0, 0)).1) (P mid).1 [], xhas w := hcn
                    exact snd_V hexec hb hml hlsz hown hts (hPok mid).1 (List.isEmpty_iff.mp hcok.2) hSa hHr hP hD hS (hta ▸ (hC n mid _ h o1 h1 ca sa ws hcl).1 (List.isEmpty_iff.mp hcok.2)) (by omega) (by have := (hPok mid).2; omega) hcc hss hta hrv (fun w hw => plain (hcn w hw) (by unfold wsV at hw; simp at hw; rcases hw with rfl | rfl | rfl | rfl <;> rfl)) hcok.1.2 hcok.1.1 hV hsum hdec hK
                  | 1, hcok, hcn =>
                    have hcok : (xnm (P mid).1 as.length && (P mid).2.2.2.2.2.isEmpty) = true := hcok
                    simp only [Bool.and_eq_true, decide_eq_true_eq] at hcok
                    have hcn : ∀ w ∈ va_wsU M.1.cls idx ((vwCl.getD ci (RL, TX0, 0)).1) (P mid).1.cls (P mid).1 (P mid).1 [], xhas w := hcn
                    exact snd_U hexec hb hml hlsz hown hts (hPok mid).1 (List.isEmpty_iff.mp hcok.2) hSa hHr hP hD hS (hta ▸ (hC n mid _ h o1 h1 ca sa ws hcl).1 (List.isEmpty_iff.mp hcok.2)) (by omega) (by have := (hPok mid).2; omega) hcc hss hta hrv (fun w hw => plain (hcn w hw) (by unfold va_wsU at hw; simp at hw; rcases hw with rfl | rfl | rfl | rfl | rfl <;> rfl)) hcok.1 hV hsum hdec hK
                  | kind + 2, hcok, hcn =>
                    have hcok : (xnm (P mid).1 as.length && decide ((P mid).1.name = "length") && decide ((P mid).1.desc = "()I") && (P mid).2.2.2.2.2.isEmpty) = true := hcok
                    simp only [Bool.and_eq_true, decide_eq_true_eq] at hcok
                    have hcn : ∀ w ∈ va_wsO M.1.cls idx ((vwCl.getD ci (RL, TX0, 0)).1) "java/lang/AbstractStringBuilder" ⟨"java/lang/AbstractStringBuilder", (P mid).1.name, (P mid).1.desc⟩ (P mid).1 [], xhas w := hcn
                    obtain ⟨b0, m0, r0, h0⟩ := xASB
                    exact snd_O hexec hb hml hlsz hown hts (hPok mid).1 (List.isEmpty_iff.mp hcok.2) hSa hHr hP hD hS (hta ▸ (hC n mid _ h o1 h1 ca sa ws hcl).1 (List.isEmpty_iff.mp hcok.2)) (by omega) (by have := (hPok mid).2; omega) hcc hss hta hrv (fun w hw => plain (hcn w hw) (by unfold va_wsO at hw; simp at hw; rcases hw with rfl | rfl | rfl | rfl | rfl | rfl <;> rfl)) hcok.1.1.1 (by rw [hcok.1.1.2, hcok.1.2]; exact h0) hV hsum hdec hK
            · refine (none0 (hx.trans ?_)).elim
              split
              · rename_i heq; cases heq; exact absurd rfl h0
              · rfl
      | invokestatic idx =>
        have hokN := okN (fun _ h => by cases h)
        cases an with
        | nil => exact (none0 rfl).elim
        | cons z an =>
          by_cases h2 : z = 3
          · subst h2; exact heapK rfl (of_decide_eq_true hlen) hokN.1 hokN.2
          by_cases h4 : z = 4
          · subst h4
            cases (show 3 = len from (of_decide_eq_true hlen).symm)
            have hx : xnext M ((pc, 3, .invokestatic idx, 4 :: an) :: rest) al st h = if ((st.drop 2).map fun v => v.category).sum ≤ 8 then xstk (xmath an st) rest al h else none := rfl
            by_cases hg : ((st.drop 2).map fun v => v.category).sum ≤ 8
            · rw [if_pos hg] at hx
              match an, hokN, hx with
              | 0 :: an, hokN, hx =>
                cases hp : xmath (0 :: an) st with
                | none => rw [hp] at hx; exact (none0 hx).elim
                | some st' =>
                  rw [hp] at hx
                  obtain ⟨a, b, h1, h2, h3⟩ := stepA hx
                  obtain ⟨x, y, r, rfl, rfl⟩ := x2i_some (show x2i _ st = some st' from hp)
                  obtain ⟨_, rfl, hr1⟩ := hV.ints
                  obtain ⟨cr, rfl, hr2⟩ := hr1.ints
                  have hw := fun w hw => (hokN.2 w hw).use hts hSa
                  have hsm : (r.map fun v => v.category).sum ≤ 8 := hg
                  refine va_mmax hexec hb hmls hown (hw _ (.head _)) (hw _ (.tail _ (.head _))) (hw _ (.tail _ (.tail _ (.head _)))) (hw _ (.tail _ (.tail _ (.tail _ (.head _))))) (by omega) (by rw [hr2.sum]; omega) (by omega) (by omega) hdec ?_
                  rw [← next h1]
                  exact ih rest al cl _ _ h a b cells slots ws H locs ls h1 hsuf.tail hW hL hl ⟨rfl, hr2⟩ (by omega) (by omega)
              | 1 :: an, hokN, hx =>
                cases hp : xmath (1 :: an) st with
                | none => rw [hp] at hx; exact (none0 hx).elim
                | some st' =>
                  rw [hp] at hx
                  obtain ⟨a, b, h1, h2, h3⟩ := stepA hx
                  obtain ⟨x, y, r, rfl, rfl⟩ := x2i_some (show x2i _ st = some st' from hp)
                  obtain ⟨_, rfl, hr1⟩ := hV.ints
                  obtain ⟨cr, rfl, hr2⟩ := hr1.ints
                  have hw := fun w hw => (hokN.2 w hw).use hts hSa
                  have hsm : (r.map fun v => v.category).sum ≤ 8 := hg
                  refine va_mmin hexec hb hmls hown (hw _ (.head _)) (hw _ (.tail _ (.head _))) (hw _ (.tail _ (.tail _ (.head _)))) (hw _ (.tail _ (.tail _ (.tail _ (.head _))))) (by omega) (by rw [hr2.sum]; omega) (by omega) (by omega) hdec ?_
                  rw [← next h1]
                  exact ih rest al cl _ _ h a b cells slots ws H locs ls h1 hsuf.tail hW hL hl ⟨rfl, hr2⟩ (by omega) (by omega)
              | [], _, hx => exact (none0 hx).elim
              | (_ + 2) :: _, _, hx => exact (none0 hx).elim
            · rw [if_neg hg] at hx; exact (none0 hx).elim
          · cases (show 3 = len from (of_decide_eq_true hlen).symm)
            have hx : xnext M ((pc, 3, .invokestatic idx, z :: an) :: rest) al st h = xinv pc (z :: an) rest al st h 0 := by
              unfold xnext; dsimp only; split
              · rename_i heq; cases heq; exact absurd rfl h2
              · rename_i heq; cases heq; exact absurd rfl h4
              · rfl
            unfold xinv at hx
            by_cases h0 : z = 0
            · subst h0
              rcases an with _ | ⟨mid, _ | ⟨k, _ | ⟨ci, _ | ⟨kind, an⟩⟩⟩⟩
              · exact (none0 hx).elim
              · exact (none0 hx).elim
              · exact (none0 hx).elim
              · exact absurd (show false = true from (hcall rfl).1) nofun
              · obtain ⟨hcok, hcn⟩ := hcall rfl
                obtain ⟨hsh, hsum, o1, h1, ca, sa, hcl, hK, hcc, hss⟩ := inv0 (an0 := kind :: an) hx
                have hklen : (st.take k).reverse.length = k := by
                  rcases hsh with ⟨h1, h2, -⟩ | ⟨a, as, h1, h2, -, -⟩
                  · rw [h1, h2]; rfl
                  · rw [h1]; exact h2
                match kind, hcok, hcn with
                | 0, hcok, hcn =>
                  have hcok : (xnm (P mid).1 k && true) = true := hcok
                  have hcok : xnm (P mid).1 k = true := by simpa using hcok
                  have hcn : ∀ w ∈ va_wsS M.1.cls idx (P mid).1 [], xhas w := hcn
                  have hn : ∀ w ∈ va_wsS M.1.cls idx (P mid).1 [], w ∈ xTB := fun w hw => plain (hcn w hw) (by unfold va_wsS at hw; simp at hw; rcases hw with rfl | rfl | rfl <;> rfl)
                  have hnm : xnm (P mid).1 (st.take k).reverse.length = true := by rw [hklen]; exact hcok
                  by_cases hhs : (P mid).2.2.2.2.2 = []
                  · exact snd_S hexec hb hml hlsz hown hts (hPok mid).1 hhs hSa hHr hP hD hS ((hC n mid _ h o1 h1 ca sa ws hcl).1 hhs) (by omega) (by have := (hPok mid).2; omega) hcc hss rfl hn hnm hV hsum hdec hK
                  · exact snd_SW hexec hb hml hlsz hown hts (hPok mid).1 hhs hSa hHr hP hD hS ((hC n mid _ h o1 h1 ca sa ws hcl).2 hhs) (by omega) (by have := (hPok mid).2; omega) hcc hss rfl hn hnm hV hsum hdec hK
                | kind + 1, hcok, hcn =>
                  have hcok : (xnm (P mid).1 k && (P mid).2.2.2.2.2.isEmpty) = true := by
                    have h1 : (xnm (P mid).1 k && (decide (kind + 1 = 0) || (P mid).2.2.2.2.2.isEmpty)) = true := hcok
                    simpa using h1
                  simp only [Bool.and_eq_true] at hcok
                  have hnm : xnm (P mid).1 (st.take k).reverse.length = true := by rw [hklen]; exact hcok.1
                  have hcn : ∀ w ∈ [Cond.methodLinkNest M.1.cls idx (P mid).1 (xHosts.getD kind ""), .static (P mid).1, .initialized (P mid).1.cls], xhas w := hcn
                  exact snd_SN hexec hb hml hlsz hown hts (hPok mid).1 (List.isEmpty_iff.mp hcok.2) hSa hHr hP hD hS ((hC n mid _ h o1 h1 ca sa ws hcl).1 (List.isEmpty_iff.mp hcok.2)) (by omega) (by have := (hPok mid).2; omega) hcc hss rfl (nestw (hcn _ List.mem_cons_self) rfl) (fun w hw => plain (hcn w (List.mem_cons_of_mem _ hw)) (by simp at hw; rcases hw with rfl | rfl <;> rfl)) hnm hV hsum hdec hK
            · refine (none0 (hx.trans ?_)).elim
              split
              · rename_i heq; cases heq; exact absurd rfl h0
              · rfl
      | invokespecial idx =>
        have hokN := okN (fun _ h => by cases h)
        cases (show 3 = len from (of_decide_eq_true hlen).symm)
        rcases an with _ | ⟨z, an⟩
        · exact (none0 rfl).elim
        · by_cases hz1 : z = 1
          · subst hz1
            obtain ⟨-, hcn⟩ := hcall rfl
            have hcn : ∀ w ∈ [Cond.methodLink M.1.cls idx objectInit, .instanceMethod objectInit, .code objectInit ⟨#[0xb1]⟩ 1 none], xhas w := by
              cases an with
              | nil => exact hcn
              | cons a an => cases an with
                | nil => exact hcn
                | cons b an => cases an with
                  | nil => exact hcn
                  | cons c an => cases an with
                    | nil => exact hcn
                    | cons d an => exact absurd (show false = true from (hcall rfl).1) nofun
            cases st with
            | nil => exact (none0 rfl).elim
            | cons v r =>
              cases v with
              | ref a =>
                by_cases hg : a < h.1 ∧ (r.map fun v => v.category).sum ≤ 8
                · obtain ⟨a1, b1, h1, h2, h3⟩ := stepA (show xnext M ((pc, 3, .invokespecial idx, 1 :: an) :: rest) al (.ref a :: r) h = some (.inr (.inl ((rest, al, r, h), 0, 0))) from if_pos hg)
                  obtain ⟨q, cr, rfl, hq, hr2⟩ := hV.refs
                  refine W.objInit hexec hb hown (hts _ (plain (hcn _ (by simp)) rfl)) (hts _ (plain (hcn _ (by simp)) rfl)) (hts _ (plain (hcn _ (by simp)) rfl)) rfl (by rw [hml]; exact hlsz) rfl hdec (by omega) (by show 2 * 0 + _ + 12 ≤ _; rw [hr2.sum]; omega) ?_
                  have := ih rest al cl r cr h a1 b1 cells slots ws H locs ls h1 hsuf.tail hW hL hl hr2 (by omega) (by omega)
                  rw [next h1] at this
                  exact this
                · exact (none0 (if_neg hg)).elim
              | _ => exact (none0 rfl).elim
          · by_cases hz5 : z = 5
            · subst hz5
              have hx : xnext M ((pc, 3, .invokespecial idx, 5 :: an) :: rest) al st h = xinv pc (0 :: an) rest al st h 1 := rfl
              unfold xinv at hx
              rcases an with _ | ⟨mid, _ | ⟨k, _ | ⟨ci, _ | ⟨kind, an⟩⟩⟩⟩
              · exact (none0 hx).elim
              · exact (none0 hx).elim
              · exact (none0 hx).elim
              · exact absurd (show false = true from (hcall rfl).1) nofun
              · obtain ⟨hcok, hcn⟩ := hcall rfl
                obtain ⟨hsh, hsum, o1, h1, ca, sa, hcl, hK, hcc, hss⟩ := inv0 (an0 := kind :: an) hx
                rcases hsh with ⟨-, -, hf⟩ | ⟨a, as, hta, hak, hrv, -⟩
                · cases hf
                · have hrv := hrv rfl
                  subst hak
                  have hcok : (xnm (P mid).1 as.length && decide ((P mid).1.name ≠ "<init>") && (P mid).2.2.2.2.2.isEmpty) = true := hcok
                  simp only [Bool.and_eq_true, decide_eq_true_eq] at hcok
                  have hcn : ∀ w ∈ va_wsSU M.1.cls idx (P mid).1 [], xhas w := hcn
                  exact snd_SU hexec hb hml hlsz hown hts (hPok mid).1 (List.isEmpty_iff.mp hcok.2) hSa hHr hP hD hS (hta ▸ (hC n mid _ h o1 h1 ca sa ws hcl).1 (List.isEmpty_iff.mp hcok.2)) (by omega) (by have := (hPok mid).2; omega) hcc hss hta hrv (fun w hw => plain (hcn w hw) (by unfold va_wsSU at hw; simp at hw; rcases hw with rfl | rfl | rfl | rfl | rfl <;> rfl)) hcok.1.2 hcok.1.1 hV hsum hdec hK
            · have hx : xnext M ((pc, 3, .invokespecial idx, z :: an) :: rest) al st h = xinv pc (z :: an) rest al st h 2 := by
                unfold xnext; dsimp only; split
                · rename_i heq; cases heq; exact absurd rfl hz1
                · rename_i heq; cases heq; exact absurd rfl hz5
                · rfl
              unfold xinv at hx
              by_cases h0 : z = 0
              · subst h0
                rcases an with _ | ⟨mid, _ | ⟨k, _ | ⟨ci, _ | ⟨kind, an⟩⟩⟩⟩
                · exact (none0 hx).elim
                · exact (none0 hx).elim
                · exact (none0 hx).elim
                · exact absurd (show false = true from (hcall rfl).1) nofun
                · obtain ⟨hcok, hcn⟩ := hcall rfl
                  obtain ⟨hsh, hsum, o1, h1, ca, sa, hcl, hK, hcc, hss⟩ := inv0 (an0 := kind :: an) hx
                  have hco : (xnm (P mid).1 (k - 1) && decide ((P mid).1.name = "<init>") && decide ((P mid).2.2.2.1 = none) && (P mid).2.2.2.2.2.isEmpty) = true := hcok
                  simp only [Bool.and_eq_true, decide_eq_true_eq] at hco
                  rcases hsh with ⟨h2, h3, h4⟩ | ⟨a, as, hta, hak, -, hsp⟩
                  · cases h4
                  · subst hak
                    obtain ⟨b0, rfl⟩ : ∃ b0, a = .ref b0 := by
                      have h9 := hsp rfl
                      cases a with
                      | ref b0 => exact ⟨b0, rfl⟩
                      | _ => cases h9
                    match kind, hcn with
                    | 0, hcn =>
                      have hcn : ∀ w ∈ [Cond.methodLink M.1.cls idx (P mid).1, .instanceMethod (P mid).1, .initialized (P mid).1.cls], xhas w := hcn
                      exact snd_I hexec hb hml hlsz hown hts (hPok mid).1 (List.isEmpty_iff.mp hco.2) hSa hHr hP hD hS (hta ▸ (hC n mid _ h o1 h1 ca sa ws hcl).1 (List.isEmpty_iff.mp hco.2)) (by omega) (by have := (hPok mid).2; omega) hcc hss hta (fun w hw => plain (hcn w hw) (by simp at hw; rcases hw with rfl | rfl | rfl <;> rfl)) hco.1.1.2 hco.1.2 hco.1.1.1 hV hsum hdec hK
                    | kind + 1, hcn =>
                      have hcn : ∀ w ∈ [Cond.methodLinkNest M.1.cls idx (P mid).1 (xHosts.getD kind ""), .instanceMethod (P mid).1, .initialized (P mid).1.cls], xhas w := hcn
                      exact snd_IN hexec hb hml hlsz hown hts (hPok mid).1 (List.isEmpty_iff.mp hco.2) hSa hHr hP hD hS (hta ▸ (hC n mid _ h o1 h1 ca sa ws hcl).1 (List.isEmpty_iff.mp hco.2)) (by omega) (by have := (hPok mid).2; omega) hcc hss hta (nestw (hcn _ List.mem_cons_self) rfl) (fun w hw => plain (hcn w (List.mem_cons_of_mem _ hw)) (by simp at hw; rcases hw with rfl | rfl <;> rfl)) hco.1.1.2 hco.1.2 hco.1.1.1 hV hsum hdec hK
              · refine (none0 (hx.trans ?_)).elim
                split
                · rename_i heq; cases heq; exact absurd rfl h0
                · rfl
      | _ => exact (none0 rfl).elim
end XGO
