/-! THE CONTRACTS OF ALL METHODS, OUT OF THE SMALL MACHINE'S RUNS -/
theorem lg_sl_len : ∀ (vs : List Value), (lg_sl vs).length = (vs.map fun v => v.category).sum
  | [] => rfl
  | v :: vs => by
    have ih := lg_sl_len vs
    show (lg_sl (v :: vs)).length = v.category + (vs.map fun v => v.category).sum
    have h1 : lg_sl (v :: vs) = (if v.category = 2 then [Slot.val v, Slot.second] else [Slot.val v]) ++ lg_sl vs := by unfold lg_sl; rw [List.flatMap_cons]
    rw [h1, List.length_append, ih]
    cases v <;> rfl
def xfr (d : Nat) : Nat := 8 + 4 * d
def xlo (d : Nat) : Nat := 400 + 60 * d
/-- what is asked of the whole table of methods -/
def xTab (P : Nat → xM) : Prop := ∀ mid, xMok P (P mid) ∧ xPok (P mid) ∧ plainName (P mid).1.cls = true ∧ ∀ x ∈ (P mid).2.2.2.2.2, x.2.2.2.2 ∈ xEx ∧ x.2.2.2.1 ≠ 0 ∧ (Cond.classLink (P mid).1.cls x.2.2.2.1 x.2.2.2.2) ∈ xTB
section XAL
variable {p : Program} {l : Launch} {e : Env} {s s₁ : State} {m : MethodId} {below : List Frame} {meth : Method} {c : Code} {G : xG} {P : Nat → xM} {ws0 : va_W} {o : Option Value ⊕ String} {hf : xH} {free : Addr → Prop}
/-- the end of a body that returns -/
theorem snd_ends {R : Room} {M : xM} {args : Array Value} {Cf Sf : Nat} {i : Instr} {pc : Nat} {v cv : Option Value} {ws : va_W} {H : Heap} {locs : List Loc} {ls : Array Slot} (hexec : p.tables.exec = Jvm.exec) (hb : c.code = M.2.1) (hr : meth.sig.returnType = M.2.2.2.1) (hlocks : meth.locks = false)
    (hd : decode M.2.1 pc = .ok (i, 1)) (h1 : xret i M.2.2.2.1 v) (h2 : xctl M.2.2.2.1 pc i [] = true) (ho : o = .inl v) (hov : xOV G.2.2.2.2 (G.2.2.1 ++ ws) v cv) (hW : xAtW s G ws0 hf ws H locs) :
    W p l e R s m args below meth c H locs Cf Sf (MQ below (xQc G ws0 o hf) args s Cf Sf (fun q => G.2.2.2.1 ≤ q)) (F0 m pc ls cv.toList) := by
  obtain ⟨hle, hHr, hP, hD, hS⟩ := hW
  have hq : ∀ t : State, t.heap = H → s.WarmedH t.vm → xQc G ws0 o hf args s (.returned cv) t := fun t ht _ => ⟨v, cv, ws, ho, rfl, hov, ⟨hle, hHr, by rw [ht]; exact hP, hD⟩, hS.F ht⟩
  unfold xret at h1
  split at h1
  · obtain ⟨x, ty, rfl, hty, hfit⟩ := h1
    cases cv with
    | none => exact hov.elim
    | some w =>
      cases (show w = .int x from hov)
      exact W.zret hexec hb (hr.trans hty) (narrow_of_fits (xfit_ok (mi := 0) (all := []) (v := .int x) (w := .int x) hfit rfl)) hq hS.2.2 hd hlocks
  · obtain ⟨x, rfl⟩ := h1
    cases cv with
    | none => exact hov.elim
    | some w =>
      cases (show w = .long x from hov)
      exact W.lret hexec hb (hr.trans (of_decide_eq_true h2)) hq hS.2.2 hd hlocks
  · unfold xctl at h2; dsimp only at h2
    split at h2
    · rename_i nm hty
      rcases h1 with rfl | ⟨x, rfl⟩
      · cases cv with
        | none => exact hov.elim
        | some w =>
          cases (show w = .null from hov)
          exact W.aret hexec hb (hr.trans hty) (Or.inl ⟨nm, rfl⟩) (Or.inl rfl) hq hS.2.2 hd hlocks
      · cases cv with
        | none => exact hov.elim
        | some w =>
          obtain ⟨q, hq2, rfl⟩ := (show ∃ q : Nat × va_E, (G.2.2.1 ++ ws)[x]? = some q ∧ w = .ref q.1 from hov)
          exact W.aret hexec hb (hr.trans hty) (Or.inl ⟨nm, rfl⟩) (Or.inr ⟨_, rfl⟩) hq hS.2.2 hd hlocks
    · rename_i nm hty
      rcases h1 with rfl | ⟨x, rfl⟩
      · cases cv with
        | none => exact hov.elim
        | some w =>
          cases (show w = .null from hov)
          exact W.aret hexec hb (hr.trans hty) (Or.inr ⟨nm, rfl⟩) (Or.inl rfl) hq hS.2.2 hd hlocks
      · cases cv with
        | none => exact hov.elim
        | some w =>
          obtain ⟨q, hq2, rfl⟩ := (show ∃ q : Nat × va_E, (G.2.2.1 ++ ws)[x]? = some q ∧ w = .ref q.1 from hov)
          exact W.aret hexec hb (hr.trans hty) (Or.inr ⟨nm, rfl⟩) (Or.inr ⟨_, rfl⟩) hq hS.2.2 hd hlocks
    · cases h2
  · subst h1
    cases cv with
    | some w => exact hov.elim
    | none => exact W.vret hexec hb (hr.trans (of_decide_eq_true h2)) hq hS.2.2 hd hlocks
  · exact h1.elim
/-- the end of a body that throws -/
theorem snd_throws {R : Room} {M : xM} {args : Array Value} {Cf Sf : Nat} {pc ik ei : Nat} {an : List Nat} {ws : va_W} {H : Heap} {locs : List Loc} {ls : Array Slot} {cst : List Value} {cells slots : Nat} (hexec : p.tables.exec = Jvm.exec) (hb : c.code = M.2.1) (hml : c.maxLocals = M.2.2.1) (hown : s.vm.findClass M.1.cls = some m.cls) (hts : ∀ w ∈ xTB, w.before args s = true) (hSa : xSa G s s.heap) (hlocks : meth.locks = false) (htb : M.2.2.2.2.2 = [] → ∀ x ∈ c.exceptionTable.toList, False) (hst : l.stackTraces = false) (hRf : 6 ≤ R.frames) (hRl : 200 ≤ R.locals) (hRc : Cf ≤ R.cells) (hRs : Sf ≤ R.slots)
    (hd : decode M.2.1 pc = .ok (.new ik, 3)) (hx : xthrow M pc ik (ei :: an)) (ho : o = .inr (xEx.getD ei "")) (hsz : ls.size = M.2.2.1) (hsum : (cst.map fun v => v.category).sum ≤ 8) (hc : cells + 1 = Cf) (hs : slots + 6 = Sf) (hW : xAtW s G ws0 hf ws H locs) :
    W p l e R s m args below meth c H locs cells slots (vx_MQ below (xQc G ws0 o hf) (xXc G ws0 o hf) args s Cf Sf (fun q => G.2.2.2.1 ≤ q)) (F0 m pc ls cst) := by
  obtain ⟨hle, hHr, hP, hD, hS⟩ := hW
  have hxc : ∀ t : State, s.vm.Alike t.vm → H.size ≤ t.heap.size → (∀ q : Nat, q < H.size → t.heap[q]? = H[q]?) → xXc G ws0 o hf (xEx.getD ei "") s t := fun t _ h1 h2 =>
    ⟨ho, ws, ⟨hle, hHr, hP.kept (fun k q hq => h2 q.1 (hP k q hq).lt), hD⟩, Nat.le_trans hS.1 h1, fun q h3 h4 => (h2 q (Nat.lt_of_lt_of_le h3 hS.1)).trans (hS.2.1 q h3 h4)⟩
  match an, hx with
  | is :: ic :: w :: mi :: _, hx =>
    obtain ⟨tx, hmsg, hei, hh, d3, hw, hwords⟩ := hx
    have htb := htb hh
    obtain ⟨sa, hsa⟩ := hSa.2.2.1 _ (List.mem_of_getElem? hmsg)
    have hnm : ∀ n ∈ xNames, Bundle.fit n = true := by decide +kernel
    have hfc : Bundle.fit (xEx.getD ei "") = true := by
      match ei, hei with
      | 0, _ => decide +kernel
      | 1, _ => decide +kernel
      | 2, _ => decide +kernel
    by_cases hw0 : w = 0
    · rw [if_pos hw0] at hw
      exact vx_throwS hexec hb hst hown hfc hnm ((hwords _ List.mem_cons_self).1.use hts hSa) ((hwords _ (List.mem_cons_of_mem _ List.mem_cons_self)).1.use hts hSa) hsa (fun w h => (hwords w (List.mem_cons_of_mem _ (List.mem_cons_of_mem _ h))).1.use hts hSa) (fun w h => (hwords w h).2) hSa.2.2.2.2.1 hSa.2.2.2.2.2.1 hS (hsz.trans hml.symm) hd d3 hw.1 hw.2.1 hw.2.2 (fun x hx => (htb x hx).elim) (by show 2 + 3 < _; omega) (by show _ + (13 * (2 + 1) + 43) ≤ _; omega) (by omega) (by omega) hlocks hxc hS.2.2 (by omega) (by omega)
    · rw [if_neg hw0] at hw
      exact vx_throwSW hexec hb hst hown hfc hnm ((hwords _ List.mem_cons_self).1.use hts hSa) ((hwords _ (List.mem_cons_of_mem _ List.mem_cons_self)).1.use hts hSa) hsa (fun w h => (hwords w (List.mem_cons_of_mem _ (List.mem_cons_of_mem _ h))).1.use hts hSa) (fun w h => (hwords w h).2) hSa.2.2.2.2.1 hSa.2.2.2.2.2.1 hS (hsz.trans hml.symm) hd d3 hw.1 hw.2.1 hw.2.2 (fun x hx => (htb x hx).elim) (by show 2 + 3 < _; omega) (by show _ + (13 * (2 + 1) + 43) ≤ _; omega) (by omega) (by omega) hlocks hxc hS.2.2 (by omega) (by omega)
end XAL
/-- EVERY CALL that the small machine runs is one of the machine's, with its answer and its heap -/
theorem snd_all (l : Launch) (hst : l.stackTraces = false) (G : xG) (P : Nat → xM) (hT : xTab P) : ∀ (d n mid : Nat) (as : List Value) (h : xH) (o : Option Value ⊕ String) (h' : xH) (c s : Nat) (ws : va_W), xcall P d n mid as h = some (o, h', c, s) →
    ((P mid).2.2.2.2.2 = [] → vx_Met l (P mid).1 (xword (P mid) :: xTB) { frames := xfr d, cells := c, slots := s, locals := xlo d } (xPc G as h ws) (xQc G ws o h') (xXc G ws o h') c s (fun q => G.2.2.2.1 ≤ q))
    ∧ (¬ (P mid).2.2.2.2.2 = [] → Met l (P mid).1 (xword (P mid) :: xTB) { frames := xfr d, cells := c, slots := s, locals := xlo d } (xPc G as h ws) (xQc G ws o h') c s (fun q => G.2.2.2.1 ≤ q)) := by
  intro d
  induction d with
  | zero => intro n mid as h o h' c s ws hr; cases hr
  | succ d ih =>
    intro n mid as h o h' cc sc ws hr
    obtain ⟨hMok, hPok, hpn, hhx⟩ := hT mid
    unfold xcall at hr
    by_cases hfit : (as.map fun v => v.category).sum ≤ (P mid).2.2.1
    · rw [if_pos hfit] at hr
      have body : ∀ (p : Program) (e : Env) (s : State) (m : MethodId) (args : Array Value) (below : List Frame) (meth : Method) (c : Code) (s₁ : State) (Q : State → Prop), BodyLoose p l (P mid).1 (headSpec (xword (P mid) :: xTB) { frames := xfr (d + 1), cells := cc, slots := sc, locals := xlo (d + 1) }) (P mid).2.1 (P mid).2.2.1 (P mid).2.2.2.1 e s m args below meth c s₁ → c.maxLocals = (P mid).2.2.1 → xPc G as h ws args s →
          (∀ (i : Instr) (pc : Nat) (v cv : Option Value) (ws' : va_W) (H : Heap) (locs : List Loc) (ls : Array Slot), decode (P mid).2.1 pc = .ok (i, 1) → xret i (P mid).2.2.2.1 v → xctl (P mid).2.2.2.1 pc i [] = true → o = .inl v → xOV G.2.2.2.2 (G.2.2.1 ++ ws') v cv → xAtW s G ws h' ws' H locs → W p l e { frames := xfr (d + 1), cells := cc, slots := sc, locals := xlo (d + 1) } s m args below meth c H locs cc sc Q (F0 m pc ls cv.toList)) →
          (∀ (pc ik ei : Nat) (an : List Nat) (ws' : va_W) (H : Heap) (locs : List Loc) (ls : Array Slot) (cst : List Value) (cells slots : Nat), decode (P mid).2.1 pc = .ok (.new ik, 3) → xthrow (P mid) pc ik (ei :: an) → o = .inr (xEx.getD ei "") → ls.size = (P mid).2.2.1 → (cst.map fun v => v.category).sum ≤ 8 → cells + 1 = cc → slots + 6 = sc → xAtW s G ws h' ws' H locs → W p l e { frames := xfr (d + 1), cells := cc, slots := sc, locals := xlo (d + 1) } s m args below meth c H locs cells slots Q (F0 m pc ls cst)) →
          W p l e { frames := xfr (d + 1), cells := cc, slots := sc, locals := xlo (d + 1) } s m args below meth c s.heap [] 0 0 Q (entryFrame m args (P mid).2.2.1) := by
        intro p e s m args below meth c s₁ Q B hml hv hret hthr
        obtain ⟨cs, rfl, hVs, hSa, hHr, hP, hD⟩ := hv
        have hts : ∀ w ∈ (xword (P mid) :: xTB), w.before cs.toArray s = true := atoms_spec (ws := xword (P mid) :: xTB) B.pre
        have hown : s.vm.findClass (P mid).1.cls = some m.cls := findClass_of_methodNamed B.named
        have hX : (P mid).2.2.2.2.2 = [] ∨ c.exceptionTable.toList = tableOf ((P mid).2.2.2.2.2.map fun x => (x.1, x.2.1, x.2.2.1, x.2.2.2.1)) ∧ ∀ x ∈ (P mid).2.2.2.2.2, x.2.2.2.2 ∈ xEx ∧ x.2.2.2.1 ≠ 0 ∧ (Cond.classLink (P mid).1.cls x.2.2.2.1 x.2.2.2.2) ∈ xTB := by
          by_cases hz : (P mid).2.2.2.2.2 = []
          · exact Or.inl hz
          · refine Or.inr ⟨?_, hhx⟩
            have hw : xword (P mid) = .codeWith (P mid).1 (P mid).2.1 (P mid).2.2.1 (P mid).2.2.2.1 ((P mid).2.2.2.2.2.map fun x => (x.1, x.2.1, x.2.2.1, x.2.2.2.1)) := by
              unfold xword
              split
              · rename_i h0; exact absurd h0 hz
              · rfl
            exact vx_table (x := (P mid).1) B (hw ▸ hts _ List.mem_cons_self)
        have E0 : xEnv p l { frames := xfr (d + 1), cells := cc, slots := sc, locals := xlo (d + 1) } s m cs.toArray meth c G P (P mid) (xcall P d) (xfr d) (xlo d) cc sc :=
          ⟨B.exec, B.bytes, hml, hown, fun w hw => hts w (List.mem_cons_of_mem _ hw), (name_of_methodNamed B.named B.method).1, hSa, hMok, fun mid => (hT mid).2.1, by unfold xfr; dsimp only; omega, by unfold xlo; dsimp only; omega, by unfold xlo; dsimp only; omega, Nat.le_refl _, Nat.le_refl _, fun n mid as h o h' c s ws hq => ih n mid as h o h' c s ws hq, hX⟩
        have hlv := lv_entry cs (n := (P mid).2.2.1) (by rw [lg_sl_len, hVs.sum]; exact hfit)
        rw [lg_entry_eq]
        have hgo := snd_go E0 (Q := Q) (ws0 := ws) (o := o) (hf := h') hret hthr n (P mid).2.2.2.2.1 (lv_args 0 as) (lv_args 0 cs) [] [] h cc sc 0 0 ws s.heap [] _ hr ⟨[], rfl⟩ ⟨xLe.rf, hHr, hP, hD, va_S.rf⟩ (xLs.args 0 hVs) hlv trivial (Nat.zero_add _) (Nat.zero_add _)
        have h0 : xpc (P mid).2.2.2.2.1 = 0 := hMok.2.1
        rw [h0] at hgo
        exact hgo
      have hlk : ∀ {p : Program} {e : Env} {s : State} {m : MethodId} {args : Array Value} {below : List Frame} {meth : Method} {c : Code} {s₁ : State}, BodyLoose p l (P mid).1 (headSpec (xword (P mid) :: xTB) { frames := xfr (d + 1), cells := cc, slots := sc, locals := xlo (d + 1) }) (P mid).2.1 (P mid).2.2.1 (P mid).2.2.2.1 e s m args below meth c s₁ → meth.locks = false := fun B => B.notSynchronized
      constructor
      · intro hz
        have hw : xword (P mid) = .code (P mid).1 (P mid).2.1 (P mid).2.2.1 (P mid).2.2.2.1 := by unfold xword; rw [hz]
        refine vx_ofW (cc := (P mid).2.1) (maxL := (P mid).2.2.1) (ret := (P mid).2.2.2.1) hpn (by rw [hw]) ?_
        intro p e s m args below meth c s₁ B hml ht hv
        have hv2 := hv
        obtain ⟨cs, hcs, hVs, hSa, -⟩ := hv2
        have hts : ∀ w ∈ (xword (P mid) :: xTB), w.before args s = true := atoms_spec (ws := xword (P mid) :: xTB) B.pre
        have hown : s.vm.findClass (P mid).1.cls = some m.cls := findClass_of_methodNamed B.named
        exact body p e s m args below meth c s₁ _ B hml hv (fun i pc v cv ws' H locs ls h1 h2 h3 h4 h5 h6 => vx_ret (snd_ends B.exec B.bytes B.returns B.notSynchronized h1 h2 h3 h4 h5 h6))
          (fun pc ik ei an ws' H locs ls cst cells slots h1 h2 h3 h4 h5 h6 h7 h8 => snd_throws B.exec B.bytes hml hown (fun w hw => hts w (List.mem_cons_of_mem _ hw)) hSa B.notSynchronized (fun _ => ht) hst (by unfold xfr; dsimp only; omega) (by unfold xlo; dsimp only; omega) (Nat.le_refl _) (Nat.le_refl _) h1 h2 h3 h4 h5 h6 h7 h8)
      · intro hz
        have hw : xword (P mid) = .codeWith (P mid).1 (P mid).2.1 (P mid).2.2.1 (P mid).2.2.2.1 ((P mid).2.2.2.2.2.map fun x => (x.1, x.2.1, x.2.2.1, x.2.2.2.1)) := by
          unfold xword
          split
          · rename_i h0; exact absurd h0 hz
          · rfl
        refine va_MetW (cc := (P mid).2.1) (maxL := (P mid).2.2.1) (ret := (P mid).2.2.2.1) hpn (by rw [hw]) ?_
        intro p e s m args below meth c s₁ B hml hv
        exact body p e s m args below meth c s₁ _ B hml hv (fun i pc v cv ws' H locs ls h1 h2 h3 h4 h5 h6 => snd_ends B.exec B.bytes B.returns B.notSynchronized h1 h2 h3 h4 h5 h6)
          (fun pc ik ei an ws' H locs ls cst cells slots h1 h2 h3 h4 h5 h6 h7 h8 => by
            match an, h2 with
            | _ :: _ :: _ :: _ :: _, h2 => exact absurd h2.choose_spec.2.2.1 hz)
    · rw [if_neg hfit] at hr; cases hr
