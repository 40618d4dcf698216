/-! CALLS, IN THE MACHINE -/
def xword (M : xM) : Cond := match M.2.2.2.2.2 with
  | [] => .code M.1 M.2.1 M.2.2.1 M.2.2.2.1
  | hs => .codeWith M.1 M.2.1 M.2.2.1 M.2.2.2.1 (hs.map fun x => (x.1, x.2.1, x.2.2.1, x.2.2.2.1))
def xHosts : List String := ["RibafreeHouse", "RibafreeHouseModel", "RibafreeHouseLaw"]
/-- what a call asks of the tables -/
def xcneed (P : Nat → xM) (own : String) (i : Instr) (an : List Nat) : List Cond := match an with
  | z :: mid :: _ :: ci :: kind :: _ => match z with
    | 0 => match i with
      | .invokevirtual idx => match kind with
        | 0 => wsV own idx ((vwCl.getD ci (RL, TX0, 0)).1) (P mid).1 []
        | 1 => va_wsU own idx ((vwCl.getD ci (RL, TX0, 0)).1) (P mid).1.cls (P mid).1 (P mid).1 []
        | _ => va_wsO own idx ((vwCl.getD ci (RL, TX0, 0)).1) "java/lang/AbstractStringBuilder" ⟨"java/lang/AbstractStringBuilder", (P mid).1.name, (P mid).1.desc⟩ (P mid).1 []
      | .invokespecial idx => match kind with
        | 0 => [.methodLink own idx (P mid).1, .instanceMethod (P mid).1, .initialized (P mid).1.cls]
        | h + 1 => [.methodLinkNest own idx (P mid).1 (xHosts.getD h ""), .instanceMethod (P mid).1, .initialized (P mid).1.cls]
      | .invokestatic idx => match kind with
        | 0 => va_wsS own idx (P mid).1 []
        | h + 1 => [.methodLinkNest own idx (P mid).1 (xHosts.getD h ""), .static (P mid).1, .initialized (P mid).1.cls]
      | .invokeinterface idx _ => va_wsF own idx ((vwCl.getD ci (RL, TX0, 0)).1) ((xFw.getD kind (⟨"", "", ""⟩, ⟨"", "", ""⟩)).1) (P mid).1 []
      | _ => []
    | 5 => match i with
      | .invokespecial idx => va_wsSU own idx (P mid).1 []
      | _ => []
    | _ => []
  | 1 :: _ => match i with
    | .invokespecial idx => [.methodLink own idx objectInit, .instanceMethod objectInit, .code objectInit ⟨#[0xb1]⟩ 1 none]
    | _ => []
  | _ => []
theorem xASB : ∃ (b0 : ByteArray) (m0 : Nat) (r0 : Option FieldType), Cond.code ⟨"java/lang/AbstractStringBuilder", "length", "()I"⟩ b0 m0 r0 ∈ xTB := ⟨prog_18_method_6_code, 1, some .int, List.mem_filter.mpr ⟨of_decide_eq_true (by decide +kernel), rfl⟩⟩
def xnm (y : MethodName) (n : Nat) : Bool := decide (y.cls ≠ "java/lang/invoke/MethodHandle") && decide (y.cls ≠ "java/lang/invoke/VarHandle") && decide ((parseMethodDescriptor y.desc).map (fun d => d.parameters.length) = some n)
theorem xnm_ok {y : MethodName} {n : Nat} (h : xnm y n = true) : y.cls ≠ "java/lang/invoke/MethodHandle" ∧ y.cls ≠ "java/lang/invoke/VarHandle" ∧ (parseMethodDescriptor y.desc).map (fun d => d.parameters.length) = some n := by
  unfold xnm at h
  simp only [Bool.and_eq_true, decide_eq_true_eq] at h
  exact ⟨h.1.1, h.1.2, h.2⟩
theorem xsplit {mi k : Nat} {all : va_W} {st cst : List Value} {a : Value} {as : List Value} (h : (st.take k).reverse = a :: as) (hV : xVs mi all st cst) : ∃ (ca : Value) (cas cr : List Value), cst = cas.reverse ++ ca :: cr ∧ xV mi all a ca ∧ xVs mi all as cas ∧ xVs mi all (st.drop k) cr := by
  have h1 := (hV.take k).rev
  rw [h] at h1
  obtain ⟨ca, cas, h2, h3, h4⟩ := h1.cons
  refine ⟨ca, cas, cst.drop k, ?_, h3, h4, hV.drop k⟩
  have h5 : cst.take k = (ca :: cas).reverse := by rw [← h2, List.reverse_reverse]
  calc cst = cst.take k ++ cst.drop k := (List.take_append_drop k cst).symm
    _ = _ := by rw [h5, List.reverse_cons, List.append_assoc]; rfl
section XC5
variable {p : Program} {l : Launch} {e : Env} {R : Room} {s : State} {m : MethodId} {args : Array Value} {below : List Frame} {meth : Method} {c : Code} {H : Heap} {locs : List Loc} {cells slots mc ms : Nat} {Q : State → Prop}
  {pc : Nat} {ls : Array Slot} {G : xG} {ws : va_W} {st0 rest : List Value} {h1 : xH} {o : Option Value ⊕ String} {a : Array Value}
theorem snd_back5 (hr : vx_Run5 p l e R s m args below meth c H locs cells slots mc ms (F0 m pc ls st0) rest (xQc G ws o h1 a) (xXc G ws o h1) (fun q => G.2.2.2.1 ≤ q)) (hS : va_S (fun q => G.2.2.2.1 ≤ q) s.heap H locs)
    (kk : ∀ (v cv : Option Value) (ws' : va_W) (H1 : Heap) (locs1 : List Loc), o = .inl v → xOV G.2.2.2.2 (G.2.2.1 ++ ws') v cv → xLe (G.2.2.1 ++ ws) (G.2.2.1 ++ ws') → xHr G h1 (G.2.2.1 ++ ws') → va_P G.1 vwCl ws' H1 → va_D (fun q => G.2.2.2.1 ≤ q) ws' → va_S (fun q => G.2.2.2.1 ≤ q) s.heap H1 locs1 →
      W p l e R s m args below meth c H1 locs1 (cells + mc) (slots + ms) Q (F0 m (pc + 5) ls (cv.toList ++ rest)))
    (kx : ∀ (E : String) (q : Addr) (ce : Cell) (ws' : va_W) (H1 : Heap) (locs1 : List Loc), o = .inr E → xLe (G.2.2.1 ++ ws) (G.2.2.1 ++ ws') → xHr G h1 (G.2.2.1 ++ ws') → va_P G.1 vwCl ws' H1 → va_D (fun q => G.2.2.2.1 ≤ q) ws' → va_S (fun q => G.2.2.2.1 ≤ q) s.heap H1 locs1 →
      H1[q]? = some ce → ce.vm = .none → s.vm.findClass E = some ce.cls → vx_W p l e R s m args below meth c H1 locs1 (cells + mc) (slots + ms) Q (F0 m pc ls rest) q) : W p l e R s m args below meth c H locs cells slots Q (F0 m pc ls st0) := by
  intro T hT X
  rcases hr T hT X with ⟨v, st₀, t, T', L, h0, X', hL, e1, e2, ⟨v', cv, ws', ho, hoc, hov, ⟨hle, hh, hp, hd⟩, hF⟩, st⟩ | ⟨q, st₀, t, T', L, E, ce, h0, X', hL, e1, e2, ⟨ho, ws', ⟨hle, hh, hp, hd⟩, hF⟩, hce, hcv, hcl, st⟩
  · cases hoc
    obtain ⟨-, -, hS'⟩ := vx_keep (A1 := fun q => G.2.2.2.1 ≤ q) h0 e1 hS (fun _ _ h => h) (fun _ h => h) hL hF
    obtain ⟨t2, a1, b1⟩ := kk v' v ws' T'.heap (locs ++ L) ho hov hle hh (by rw [e1]; exact hp) hd hS' T' rfl X'
    exact ⟨t2, st t2 a1, b1⟩
  · obtain ⟨-, -, hS'⟩ := vx_keep (A1 := fun q => G.2.2.2.1 ≤ q) h0 e1 hS (fun _ _ h => h) (fun _ h => h) hL hF
    obtain ⟨t2, a1, b1⟩ := kx E q ce ws' T'.heap (locs ++ L) ho hle hh (by rw [e1]; exact hp) hd hS' (by rw [e1]; exact hce) hcv hcl T' rfl X'
    exact ⟨t2, st.trans a1, b1⟩
theorem snd_backR (hr : va_Run p l e R s m args below meth c H locs cells slots mc ms (F0 m pc ls st0) rest (xQc G ws o h1 a) (fun q => G.2.2.2.1 ≤ q)) (hS : va_S (fun q => G.2.2.2.1 ≤ q) s.heap H locs)
    (kk : ∀ (v cv : Option Value) (ws' : va_W) (H1 : Heap) (locs1 : List Loc), o = .inl v → xOV G.2.2.2.2 (G.2.2.1 ++ ws') v cv → xLe (G.2.2.1 ++ ws) (G.2.2.1 ++ ws') → xHr G h1 (G.2.2.1 ++ ws') → va_P G.1 vwCl ws' H1 → va_D (fun q => G.2.2.2.1 ≤ q) ws' → va_S (fun q => G.2.2.2.1 ≤ q) s.heap H1 locs1 →
      W p l e R s m args below meth c H1 locs1 (cells + mc) (slots + ms) Q (F0 m (pc + 3) ls (cv.toList ++ rest))) : W p l e R s m args below meth c H locs cells slots Q (F0 m pc ls st0) := by
  intro T hT X
  obtain ⟨v, st₀, t, T', L, h0, X', hL, e1, e2, ⟨v', cv, ws', ho, hoc, hov, ⟨hle, hh, hp, hd⟩, hF⟩, st⟩ := hr T hT X
  cases hoc
  obtain ⟨-, -, hS'⟩ := vx_keep (A1 := fun q => G.2.2.2.1 ≤ q) h0 e1 hS (fun _ _ h => h) (fun _ h => h) hL hF
  obtain ⟨t2, a1, b1⟩ := kk v' v ws' T'.heap (locs ++ L) ho hov hle hh (by rw [e1]; exact hp) hd hS' T' rfl X'
  exact ⟨t2, st t2 a1, b1⟩
end XC5
section XCK
variable {p : Program} {l : Launch} {e : Env} {R : Room} {s : State} {m : MethodId} {args : Array Value} {below : List Frame} {meth : Method} {c : Code} {H : Heap} {locs : List Loc} {cells slots mc ms : Nat} {Q : State → Prop}
  {cc : ByteArray} {nL pc k f0 l0 : Nat} {ls : Array Slot} {G : xG} {ws : va_W} {st cst as : List Value} {h h1 : xH} {o : Option Value ⊕ String} {a : Value} {own : String} {P : Nat → xM} {mid : Nat}
/-- what a call leaves to be shown: behind its return, behind its throw -/
def xKs (p : Program) (l : Launch) (e : Env) (R : Room) (s : State) (m : MethodId) (args : Array Value) (below : List Frame) (meth : Method) (c : Code) (cells slots mc ms : Nat) (Q : State → Prop) (pc len : Nat) (ls : Array Slot) (G : xG) (ws : va_W) (h1 : xH) (o : Option Value ⊕ String) (r : List Value) : Prop :=
  (∀ (v cv : Option Value) (ws' : va_W) (H1 : Heap) (locs1 : List Loc) (cr : List Value), o = .inl v → xOV G.2.2.2.2 (G.2.2.1 ++ ws') v cv → xVs G.2.2.2.2 (G.2.2.1 ++ ws') r cr → xLe (G.2.2.1 ++ ws) (G.2.2.1 ++ ws') → xHr G h1 (G.2.2.1 ++ ws') → va_P G.1 vwCl ws' H1 → va_D (fun q => G.2.2.2.1 ≤ q) ws' → va_S (fun q => G.2.2.2.1 ≤ q) s.heap H1 locs1 →
      W p l e R s m args below meth c H1 locs1 (cells + mc) (slots + ms) Q (F0 m (pc + len) ls (cv.toList ++ cr)))
  ∧ (∀ (E : String) (q : Addr) (ce : Cell) (ws' : va_W) (H1 : Heap) (locs1 : List Loc) (cr : List Value), o = .inr E → xLe (G.2.2.1 ++ ws) (G.2.2.1 ++ ws') → xHr G h1 (G.2.2.1 ++ ws') → va_P G.1 vwCl ws' H1 → va_D (fun q => G.2.2.2.1 ≤ q) ws' → va_S (fun q => G.2.2.2.1 ≤ q) s.heap H1 locs1 →
      H1[q]? = some ce → ce.vm = .none → s.vm.findClass E = some ce.cls → vx_W p l e R s m args below meth c H1 locs1 (cells + mc) (slots + ms) Q (F0 m pc ls cr) q)
theorem xcall_pre (hSa : xSa G s s.heap) (hHr : xHr G h (G.2.2.1 ++ ws)) (hP : va_P G.1 vwCl ws H) (hD : va_D (fun q => G.2.2.2.1 ≤ q) ws) (hS : va_S (fun q => G.2.2.2.1 ≤ q) s.heap H locs) {as cs : List Value} (hV : xVs G.2.2.2.2 (G.2.2.1 ++ ws) as cs) :
    ∀ U : State, U.heap = H → s.WarmedH U.vm → xPc G as h ws cs.toArray U := fun U hU hW => ⟨cs, rfl, hV, by rw [hU]; exact hSa.warm hW hS.1 (fun a h1 h2 => hS.2.1 a h1 h2), hHr, by rw [hU]; exact hP, hD⟩
theorem snd_V (hexec : p.tables.exec = Jvm.exec) (hb : c.code = cc) (hml : c.maxLocals = nL) (hsz : ls.size = nL) (hown : s.vm.findClass own = some m.cls) (hts : ∀ w ∈ xTB, w.before args s = true) (hcw : xword (P mid) ∈ xTB) (hhs : (P mid).2.2.2.2.2 = [])
    (hSa : xSa G s s.heap) (hHr : xHr G h (G.2.2.1 ++ ws)) (hP : va_P G.1 vwCl ws H) (hD : va_D (fun q => G.2.2.2.1 ≤ q) ws) (hS : va_S (fun q => G.2.2.2.1 ≤ q) s.heap H locs)
    (hM : vx_Met l (P mid).1 (xword (P mid) :: xTB) { frames := f0, cells := mc, slots := ms, locals := l0 } (xPc G (a :: as) h ws) (xQc G ws o h1) (xXc G ws o h1) mc ms (fun q => G.2.2.2.1 ≤ q))
    (hR1 : f0 + 1 ≤ R.frames) (hR2 : 8 + ((P mid).2.2.1 + 11) + l0 ≤ R.locals) (hc : cells + mc ≤ R.cells) (hs : slots + ms ≤ R.slots)
    {idx : Nat} (hta : (st.take k).reverse = a :: as) {ci : Nat} (hrv : xrecv ci a h = true) (hn : ∀ w ∈ wsV own idx ((vwCl.getD ci (RL, TX0, 0)).1) (P mid).1 [], w ∈ xTB) (hC : (P mid).1.cls = (vwCl.getD ci (RL, TX0, 0)).1) (hnm : xnm (P mid).1 as.length = true)
    (hV : xVs G.2.2.2.2 (G.2.2.1 ++ ws) st cst) (hsum : ((st.drop k).map fun v => v.category).sum ≤ 8) (hd : decode cc pc = .ok (.invokevirtual idx, 3))
    (K : xKs p l e R s m args below meth c cells slots mc ms Q pc 3 ls G ws h1 o (st.drop k)) : W p l e R s m args below meth c H locs cells slots Q (F0 m pc ls cst) := by
  obtain ⟨ca, cas, cr, rfl, hca, hcas, hcr⟩ := xsplit hta hV
  have hw : xword (P mid) = .code (P mid).1 (P mid).2.1 (P mid).2.2.1 (P mid).2.2.2.1 := by unfold xword; rw [hhs]
  unfold xrecv at hrv
  split at hrv
  · rename_i b
    split at hrv
    · split at hrv
      · rename_i c0 fs hcell
        have hce : c0 = ci := Nat.eq_of_beq_eq_true hrv
        subst hce
        obtain ⟨q, hq, rfl⟩ := hca
        obtain ⟨ad, fs', rfl, -⟩ := hHr.obj hq hcell
        obtain ⟨⟨C, T, N⟩, hcl, hrc⟩ := xrecvP hSa.1.1 hSa.2.2.2.1 hS hP hq
        have hCe : (vwCl.getD c0 (RL, TX0, 0)).1 = C := by rw [List.getD_eq_getElem?_getD, hcl]; rfl
        rw [hCe] at hn hC
        have hG : GoodIn xTB (wsV own idx C (P mid).1 (xword (P mid) :: xTB)) := xTB_good fun w hw => by
          unfold wsV at hw hn
          rcases List.mem_append.mp hw with h | h
          · exact hn w (by rw [List.append_nil]; exact h)
          · rcases List.mem_cons.mp h with rfl | h
            · exact hcw
            · exact h
        rw [hw] at hG hM
        exact snd_back (vx_runV (As := cas) (rest := cr) ⟨hexec, hb, hml, hown, hts⟩ hM (cwV as.length hts hG rfl rfl rfl ⟨hC, xnm_ok hnm⟩ ⟨hR1, hR2⟩) ⟨xPc.blind, hrc, xcall_pre hSa hHr hP hD hS ⟨⟨_, hq, rfl⟩, hcas⟩⟩ rfl hcas.len hsz rfl (lv_room (by rw [hcr.sum]; exact hsum)) hd ⟨hc, hs⟩) hS
          (fun v cv ws' H1 locs1 h1 h2 h3 h4 h5 h6 h7 => K.1 v cv ws' H1 locs1 cr h1 h2 (hcr.mono h3) h3 h4 h5 h6 h7) (fun E q ce ws' H1 locs1 h1 h2 h3 h4 h5 h6 h7 h8 h9 => K.2 E q ce ws' H1 locs1 cr h1 h2 h3 h4 h5 h6 h7 h8 h9)
      · cases hrv
    · cases hrv
  · cases hrv
theorem snd_U (hexec : p.tables.exec = Jvm.exec) (hb : c.code = cc) (hml : c.maxLocals = nL) (hsz : ls.size = nL) (hown : s.vm.findClass own = some m.cls) (hts : ∀ w ∈ xTB, w.before args s = true) (hcw : xword (P mid) ∈ xTB) (hhs : (P mid).2.2.2.2.2 = [])
    (hSa : xSa G s s.heap) (hHr : xHr G h (G.2.2.1 ++ ws)) (hP : va_P G.1 vwCl ws H) (hD : va_D (fun q => G.2.2.2.1 ≤ q) ws) (hS : va_S (fun q => G.2.2.2.1 ≤ q) s.heap H locs)
    (hM : vx_Met l (P mid).1 (xword (P mid) :: xTB) { frames := f0, cells := mc, slots := ms, locals := l0 } (xPc G (a :: as) h ws) (xQc G ws o h1) (xXc G ws o h1) mc ms (fun q => G.2.2.2.1 ≤ q))
    (hR1 : f0 + 1 ≤ R.frames) (hR2 : 8 + ((P mid).2.2.1 + 11) + l0 ≤ R.locals) (hc : cells + mc ≤ R.cells) (hs : slots + ms ≤ R.slots)
    {idx : Nat} (hta : (st.take k).reverse = a :: as) {ci : Nat} (hrv : xrecv ci a h = true) (hn : ∀ w ∈ va_wsU own idx ((vwCl.getD ci (RL, TX0, 0)).1) (P mid).1.cls (P mid).1 (P mid).1 [], w ∈ xTB) (hnm : xnm (P mid).1 as.length = true)
    (hV : xVs G.2.2.2.2 (G.2.2.1 ++ ws) st cst) (hsum : ((st.drop k).map fun v => v.category).sum ≤ 8) (hd : decode cc pc = .ok (.invokevirtual idx, 3))
    (K : xKs p l e R s m args below meth c cells slots mc ms Q pc 3 ls G ws h1 o (st.drop k)) : W p l e R s m args below meth c H locs cells slots Q (F0 m pc ls cst) := by
  obtain ⟨ca, cas, cr, rfl, hca, hcas, hcr⟩ := xsplit hta hV
  have hw : xword (P mid) = .code (P mid).1 (P mid).2.1 (P mid).2.2.1 (P mid).2.2.2.1 := by unfold xword; rw [hhs]
  unfold xrecv at hrv
  split at hrv
  · rename_i b
    split at hrv
    · split at hrv
      · rename_i c0 fs hcell
        have hce : c0 = ci := Nat.eq_of_beq_eq_true hrv
        subst hce
        obtain ⟨q, hq, rfl⟩ := hca
        obtain ⟨ad, fs', rfl, -⟩ := hHr.obj hq hcell
        obtain ⟨⟨C, T, N⟩, hcl, hrc⟩ := xrecvP hSa.1.1 hSa.2.2.2.1 hS hP hq
        have hCe : (vwCl.getD c0 (RL, TX0, 0)).1 = C := by rw [List.getD_eq_getElem?_getD, hcl]; rfl
        rw [hCe] at hn
        have hG : GoodIn xTB (va_wsU own idx C (P mid).1.cls (P mid).1 (P mid).1 (xword (P mid) :: xTB)) := xTB_good fun w hw => by
          unfold va_wsU at hw hn
          rcases List.mem_append.mp hw with h | h
          · exact hn w (by rw [List.append_nil]; exact h)
          · rcases List.mem_cons.mp h with rfl | h
            · exact hcw
            · exact h
        rw [hw] at hG hM
        exact snd_back (vx_runU (As := cas) (rest := cr) ⟨hexec, hb, hml, hown, hts⟩ hM (va_cwU as.length hts hG rfl rfl rfl rfl (xnm_ok hnm) ⟨hR1, hR2⟩) ⟨xPc.blind, hrc, xcall_pre hSa hHr hP hD hS ⟨⟨_, hq, rfl⟩, hcas⟩⟩ rfl hcas.len hsz rfl (lv_room (by rw [hcr.sum]; exact hsum)) hd ⟨hc, hs⟩) hS
          (fun v cv ws' H1 locs1 h1 h2 h3 h4 h5 h6 h7 => K.1 v cv ws' H1 locs1 cr h1 h2 (hcr.mono h3) h3 h4 h5 h6 h7) (fun E q ce ws' H1 locs1 h1 h2 h3 h4 h5 h6 h7 h8 h9 => K.2 E q ce ws' H1 locs1 cr h1 h2 h3 h4 h5 h6 h7 h8 h9)
      · cases hrv
    · cases hrv
  · cases hrv
theorem snd_O (hexec : p.tables.exec = Jvm.exec) (hb : c.code = cc) (hml : c.maxLocals = nL) (hsz : ls.size = nL) (hown : s.vm.findClass own = some m.cls) (hts : ∀ w ∈ xTB, w.before args s = true) (hcw : xword (P mid) ∈ xTB) (hhs : (P mid).2.2.2.2.2 = [])
    (hSa : xSa G s s.heap) (hHr : xHr G h (G.2.2.1 ++ ws)) (hP : va_P G.1 vwCl ws H) (hD : va_D (fun q => G.2.2.2.1 ≤ q) ws) (hS : va_S (fun q => G.2.2.2.1 ≤ q) s.heap H locs)
    (hM : vx_Met l (P mid).1 (xword (P mid) :: xTB) { frames := f0, cells := mc, slots := ms, locals := l0 } (xPc G (a :: as) h ws) (xQc G ws o h1) (xXc G ws o h1) mc ms (fun q => G.2.2.2.1 ≤ q))
    (hR1 : f0 + 1 ≤ R.frames) (hR2 : 8 + ((P mid).2.2.1 + 11) + l0 ≤ R.locals) (hc : cells + mc ≤ R.cells) (hs : slots + ms ≤ R.slots)
    {idx : Nat} (hta : (st.take k).reverse = a :: as) {ci : Nat} (hrv : xrecv ci a h = true) (hn : ∀ w ∈ va_wsO own idx ((vwCl.getD ci (RL, TX0, 0)).1) "java/lang/AbstractStringBuilder" ⟨"java/lang/AbstractStringBuilder", (P mid).1.name, (P mid).1.desc⟩ (P mid).1 [], w ∈ xTB) (hnm : xnm (P mid).1 as.length = true) {b0 : ByteArray} {m0 : Nat} {r0 : Option FieldType} (h0 : Cond.code ⟨"java/lang/AbstractStringBuilder", (P mid).1.name, (P mid).1.desc⟩ b0 m0 r0 ∈ xTB)
    (hV : xVs G.2.2.2.2 (G.2.2.1 ++ ws) st cst) (hsum : ((st.drop k).map fun v => v.category).sum ≤ 8) (hd : decode cc pc = .ok (.invokevirtual idx, 3))
    (K : xKs p l e R s m args below meth c cells slots mc ms Q pc 3 ls G ws h1 o (st.drop k)) : W p l e R s m args below meth c H locs cells slots Q (F0 m pc ls cst) := by
  obtain ⟨ca, cas, cr, rfl, hca, hcas, hcr⟩ := xsplit hta hV
  have hw : xword (P mid) = .code (P mid).1 (P mid).2.1 (P mid).2.2.1 (P mid).2.2.2.1 := by unfold xword; rw [hhs]
  unfold xrecv at hrv
  split at hrv
  · rename_i b
    split at hrv
    · split at hrv
      · rename_i c0 fs hcell
        have hce : c0 = ci := Nat.eq_of_beq_eq_true hrv
        subst hce
        obtain ⟨q, hq, rfl⟩ := hca
        obtain ⟨ad, fs', rfl, -⟩ := hHr.obj hq hcell
        obtain ⟨⟨C, T, N⟩, hcl, hrc⟩ := xrecvP hSa.1.1 hSa.2.2.2.1 hS hP hq
        have hCe : (vwCl.getD c0 (RL, TX0, 0)).1 = C := by rw [List.getD_eq_getElem?_getD, hcl]; rfl
        rw [hCe] at hn
        have hG : GoodIn xTB (va_wsO own idx C "java/lang/AbstractStringBuilder" ⟨"java/lang/AbstractStringBuilder", (P mid).1.name, (P mid).1.desc⟩ (P mid).1 (xword (P mid) :: xTB)) := xTB_good fun w hw => by
          unfold va_wsO at hw hn
          rcases List.mem_append.mp hw with h | h
          · exact hn w (by rw [List.append_nil]; exact h)
          · rcases List.mem_cons.mp h with rfl | h
            · exact hcw
            · exact h
        rw [hw] at hG hM
        exact snd_back (vx_runU (As := cas) (rest := cr) ⟨hexec, hb, hml, hown, hts⟩ hM (va_cwO as.length hts hG rfl rfl rfl h0 ⟨by decide, by decide, (xnm_ok hnm).2.2⟩ ⟨hR1, hR2⟩) ⟨xPc.blind, hrc, xcall_pre hSa hHr hP hD hS ⟨⟨_, hq, rfl⟩, hcas⟩⟩ rfl hcas.len hsz rfl (lv_room (by rw [hcr.sum]; exact hsum)) hd ⟨hc, hs⟩) hS
          (fun v cv ws' H1 locs1 h1 h2 h3 h4 h5 h6 h7 => K.1 v cv ws' H1 locs1 cr h1 h2 (hcr.mono h3) h3 h4 h5 h6 h7) (fun E q ce ws' H1 locs1 h1 h2 h3 h4 h5 h6 h7 h8 h9 => K.2 E q ce ws' H1 locs1 cr h1 h2 h3 h4 h5 h6 h7 h8 h9)
      · cases hrv
    · cases hrv
  · cases hrv
theorem snd_F (hexec : p.tables.exec = Jvm.exec) (hb : c.code = cc) (hml : c.maxLocals = nL) (hsz : ls.size = nL) (hown : s.vm.findClass own = some m.cls) (hts : ∀ w ∈ xTB, w.before args s = true) (hcw : xword (P mid) ∈ xTB) (hhs : (P mid).2.2.2.2.2 = [])
    (hSa : xSa G s s.heap) (hHr : xHr G h (G.2.2.1 ++ ws)) (hP : va_P G.1 vwCl ws H) (hD : va_D (fun q => G.2.2.2.1 ≤ q) ws) (hS : va_S (fun q => G.2.2.2.1 ≤ q) s.heap H locs)
    (hM : vx_Met l (P mid).1 (xword (P mid) :: xTB) { frames := f0, cells := mc, slots := ms, locals := l0 } (xPc G (a :: as) h ws) (xQc G ws o h1) (xXc G ws o h1) mc ms (fun q => G.2.2.2.1 ≤ q))
    (hR1 : f0 + 1 ≤ R.frames) (hR2 : 8 + ((P mid).2.2.1 + 11) + l0 ≤ R.locals) (hc : cells + mc ≤ R.cells) (hs : slots + ms ≤ R.slots)
    {idx cnt j : Nat} (hta : (st.take k).reverse = a :: as) {ci : Nat} (hrv : xrecv ci a h = true) {x : MethodName} (hx : xFw[j]? = some (x, (P mid).1)) (hn : ∀ w ∈ va_wsF own idx ((vwCl.getD ci (RL, TX0, 0)).1) x (P mid).1 [], w ∈ xTB) (hC : (vwCl.getD ci (RL, TX0, 0)).1 = "java/util/ArrayList$Itr") (hnm : xnm x as.length = true)
    (hV : xVs G.2.2.2.2 (G.2.2.1 ++ ws) st cst) (hsum : ((st.drop k).map fun v => v.category).sum ≤ 8) (hd : decode cc pc = .ok (.invokeinterface idx cnt, 5))
    (K : xKs p l e R s m args below meth c cells slots mc ms Q pc 5 ls G ws h1 o (st.drop k)) : W p l e R s m args below meth c H locs cells slots Q (F0 m pc ls cst) := by
  obtain ⟨ca, cas, cr, rfl, hca, hcas, hcr⟩ := xsplit hta hV
  have hw : xword (P mid) = .code (P mid).1 (P mid).2.1 (P mid).2.2.1 (P mid).2.2.2.1 := by unfold xword; rw [hhs]
  unfold xrecv at hrv
  split at hrv
  · rename_i b
    split at hrv
    · split at hrv
      · rename_i c0 fs hcell
        have hce : c0 = ci := Nat.eq_of_beq_eq_true hrv
        subst hce
        obtain ⟨q, hq, rfl⟩ := hca
        obtain ⟨ad, fs', rfl, -⟩ := hHr.obj hq hcell
        obtain ⟨⟨C, T, N⟩, hcl, hrc⟩ := xrecvP hSa.1.1 hSa.2.2.2.1 hS hP hq
        have hCe : (vwCl.getD c0 (RL, TX0, 0)).1 = C := by rw [List.getD_eq_getElem?_getD, hcl]; rfl
        rw [hCe] at hn hC
        have hG : GoodIn xTB (va_wsF own idx C x (P mid).1 (xword (P mid) :: xTB)) := xTB_good fun w hw => by
          unfold va_wsF at hw hn
          rcases List.mem_append.mp hw with h | h
          · exact hn w (by rw [List.append_nil]; exact h)
          · rcases List.mem_cons.mp h with rfl | h
            · exact hcw
            · exact h
        rw [hw] at hG hM
        have hFw := hSa.2.2.2.2.2.2.2.2 _ (List.mem_of_getElem? hx)
        rw [← hC] at hFw
        exact snd_back5 (vx_runF (hSa.1.1.1 _ _ hcl).2 (As := cas) (rest := cr) ⟨hexec, hb, hml, hown, hts⟩ hM (va_cwF as.length hts hG rfl rfl rfl hFw (xnm_ok hnm) ⟨hR1, hR2⟩) ⟨xPc.blind, hrc, xcall_pre hSa hHr hP hD hS ⟨⟨_, hq, rfl⟩, hcas⟩⟩ rfl hcas.len hsz rfl (lv_room (by rw [hcr.sum]; exact hsum)) hd ⟨hc, hs⟩) hS
          (fun v cv ws' H1 locs1 h1 h2 h3 h4 h5 h6 h7 => K.1 v cv ws' H1 locs1 cr h1 h2 (hcr.mono h3) h3 h4 h5 h6 h7) (fun E q ce ws' H1 locs1 h1 h2 h3 h4 h5 h6 h7 h8 h9 => K.2 E q ce ws' H1 locs1 cr h1 h2 h3 h4 h5 h6 h7 h8 h9)
      · cases hrv
    · cases hrv
  · cases hrv
theorem snd_I {b0 : Nat} (hexec : p.tables.exec = Jvm.exec) (hb : c.code = cc) (hml : c.maxLocals = nL) (hsz : ls.size = nL) (hown : s.vm.findClass own = some m.cls) (hts : ∀ w ∈ xTB, w.before args s = true) (hcw : xword (P mid) ∈ xTB) (hhs : (P mid).2.2.2.2.2 = [])
    (hSa : xSa G s s.heap) (hHr : xHr G h (G.2.2.1 ++ ws)) (hP : va_P G.1 vwCl ws H) (hD : va_D (fun q => G.2.2.2.1 ≤ q) ws) (hS : va_S (fun q => G.2.2.2.1 ≤ q) s.heap H locs)
    (hM : vx_Met l (P mid).1 (xword (P mid) :: xTB) { frames := f0, cells := mc, slots := ms, locals := l0 } (xPc G (.ref b0 :: as) h ws) (xQc G ws o h1) (xXc G ws o h1) mc ms (fun q => G.2.2.2.1 ≤ q))
    (hR1 : f0 + 1 ≤ R.frames) (hR2 : 8 + ((P mid).2.2.1 + 11) + l0 ≤ R.locals) (hc : cells + mc ≤ R.cells) (hs : slots + ms ≤ R.slots)
    {idx : Nat} (hta : (st.take k).reverse = .ref b0 :: as) (hn : ∀ w ∈ [Cond.methodLink own idx (P mid).1, .instanceMethod (P mid).1, .initialized (P mid).1.cls], w ∈ xTB) (hi : (P mid).1.name = "<init>") (hret : (P mid).2.2.2.1 = none) (hnm : xnm (P mid).1 as.length = true)
    (hV : xVs G.2.2.2.2 (G.2.2.1 ++ ws) st cst) (hsum : ((st.drop k).map fun v => v.category).sum ≤ 8) (hd : decode cc pc = .ok (.invokespecial idx, 3))
    (K : xKs p l e R s m args below meth c cells slots mc ms Q pc 3 ls G ws h1 o (st.drop k)) : W p l e R s m args below meth c H locs cells slots Q (F0 m pc ls cst) := by
  obtain ⟨ca, cas, cr, rfl, hca, hcas, hcr⟩ := xsplit hta hV
  have hw : xword (P mid) = .code (P mid).1 (P mid).2.1 (P mid).2.2.1 (P mid).2.2.2.1 := by unfold xword; rw [hhs]
  obtain ⟨q, hq, rfl⟩ := hca
  have hG : GoodIn xTB (xword (P mid) :: xTB) := xTB_good fun w hw => by
    rcases List.mem_cons.mp hw with rfl | h
    · exact hcw
    · exact h
  rw [hret] at hw
  rw [hw] at hG hM
  exact snd_back (vx_runI (As := cas) (rest := cr) ⟨hexec, hb, hml, hown, hts⟩ hM (cwI as.length hts hG rfl rfl rfl (hts _ (hn _ (by simp))) (hts _ (hn _ (by simp))) (hts _ (hn _ (by simp))) hi (xnm_ok hnm) ⟨hR1, hR2⟩) ⟨xPc.blind, xcall_pre hSa hHr hP hD hS ⟨⟨_, hq, rfl⟩, hcas⟩⟩ rfl hcas.len hsz rfl (lv_room (by rw [hcr.sum]; exact hsum)) hd ⟨hc, hs⟩) hS
    (fun v cv ws' H1 locs1 h1 h2 h3 h4 h5 h6 h7 => K.1 v cv ws' H1 locs1 cr h1 h2 (hcr.mono h3) h3 h4 h5 h6 h7) (fun E q ce ws' H1 locs1 h1 h2 h3 h4 h5 h6 h7 h8 h9 => K.2 E q ce ws' H1 locs1 cr h1 h2 h3 h4 h5 h6 h7 h8 h9)
theorem snd_IN {b0 : Nat} (hexec : p.tables.exec = Jvm.exec) (hb : c.code = cc) (hml : c.maxLocals = nL) (hsz : ls.size = nL) (hown : s.vm.findClass own = some m.cls) (hts : ∀ w ∈ xTB, w.before args s = true) (hcw : xword (P mid) ∈ xTB) (hhs : (P mid).2.2.2.2.2 = [])
    (hSa : xSa G s s.heap) (hHr : xHr G h (G.2.2.1 ++ ws)) (hP : va_P G.1 vwCl ws H) (hD : va_D (fun q => G.2.2.2.1 ≤ q) ws) (hS : va_S (fun q => G.2.2.2.1 ≤ q) s.heap H locs)
    (hM : vx_Met l (P mid).1 (xword (P mid) :: xTB) { frames := f0, cells := mc, slots := ms, locals := l0 } (xPc G (.ref b0 :: as) h ws) (xQc G ws o h1) (xXc G ws o h1) mc ms (fun q => G.2.2.2.1 ≤ q))
    (hR1 : f0 + 1 ≤ R.frames) (hR2 : 8 + ((P mid).2.2.1 + 11) + l0 ≤ R.locals) (hc : cells + mc ≤ R.cells) (hs : slots + ms ≤ R.slots)
    {idx : Nat} {host : String} (hta : (st.take k).reverse = .ref b0 :: as) (hnn : va_Nw (.methodLinkNest own idx (P mid).1 host) s) (hn : ∀ w ∈ [Cond.instanceMethod (P mid).1, .initialized (P mid).1.cls], w ∈ xTB) (hi : (P mid).1.name = "<init>") (hret : (P mid).2.2.2.1 = none) (hnm : xnm (P mid).1 as.length = true)
    (hV : xVs G.2.2.2.2 (G.2.2.1 ++ ws) st cst) (hsum : ((st.drop k).map fun v => v.category).sum ≤ 8) (hd : decode cc pc = .ok (.invokespecial idx, 3))
    (K : xKs p l e R s m args below meth c cells slots mc ms Q pc 3 ls G ws h1 o (st.drop k)) : W p l e R s m args below meth c H locs cells slots Q (F0 m pc ls cst) := by
  obtain ⟨ca, cas, cr, rfl, hca, hcas, hcr⟩ := xsplit hta hV
  have hw : xword (P mid) = .code (P mid).1 (P mid).2.1 (P mid).2.2.1 (P mid).2.2.2.1 := by unfold xword; rw [hhs]
  obtain ⟨q, hq, rfl⟩ := hca
  have hG : GoodIn xTB (xword (P mid) :: xTB) := xTB_good fun w hw => by
    rcases List.mem_cons.mp hw with rfl | h
    · exact hcw
    · exact h
  rw [hret] at hw
  rw [hw] at hG hM
  exact snd_back (vx_runIN (As := cas) (rest := cr) ⟨hexec, hb, hml, hown, hts⟩ hM ⟨va_cnB as.length hts hG rfl rfl rfl hnn (hts _ (hn _ (by simp))) (xnm_ok hnm) ⟨hR1, hR2⟩, hi, hts _ (hn _ (by simp))⟩ ⟨xPc.blind, xcall_pre hSa hHr hP hD hS ⟨⟨_, hq, rfl⟩, hcas⟩⟩ rfl hcas.len hsz rfl (lv_room (by rw [hcr.sum]; exact hsum)) hd ⟨hc, hs⟩) hS
    (fun v cv ws' H1 locs1 h1 h2 h3 h4 h5 h6 h7 => K.1 v cv ws' H1 locs1 cr h1 h2 (hcr.mono h3) h3 h4 h5 h6 h7) (fun E q ce ws' H1 locs1 h1 h2 h3 h4 h5 h6 h7 h8 h9 => K.2 E q ce ws' H1 locs1 cr h1 h2 h3 h4 h5 h6 h7 h8 h9)
theorem snd_S (hexec : p.tables.exec = Jvm.exec) (hb : c.code = cc) (hml : c.maxLocals = nL) (hsz : ls.size = nL) (hown : s.vm.findClass own = some m.cls) (hts : ∀ w ∈ xTB, w.before args s = true) (hcw : xword (P mid) ∈ xTB) (hhs : (P mid).2.2.2.2.2 = [])
    (hSa : xSa G s s.heap) (hHr : xHr G h (G.2.2.1 ++ ws)) (hP : va_P G.1 vwCl ws H) (hD : va_D (fun q => G.2.2.2.1 ≤ q) ws) (hS : va_S (fun q => G.2.2.2.1 ≤ q) s.heap H locs)
    (hM : vx_Met l (P mid).1 (xword (P mid) :: xTB) { frames := f0, cells := mc, slots := ms, locals := l0 } (xPc G as h ws) (xQc G ws o h1) (xXc G ws o h1) mc ms (fun q => G.2.2.2.1 ≤ q))
    (hR1 : f0 + 1 ≤ R.frames) (hR2 : 8 + ((P mid).2.2.1 + 11) + l0 ≤ R.locals) (hc : cells + mc ≤ R.cells) (hs : slots + ms ≤ R.slots)
    {idx : Nat} (hta : (st.take k).reverse = as) (hn : ∀ w ∈ va_wsS own idx (P mid).1 [], w ∈ xTB) (hnm : xnm (P mid).1 as.length = true)
    (hV : xVs G.2.2.2.2 (G.2.2.1 ++ ws) st cst) (hsum : ((st.drop k).map fun v => v.category).sum ≤ 8) (hd : decode cc pc = .ok (.invokestatic idx, 3))
    (K : xKs p l e R s m args below meth c cells slots mc ms Q pc 3 ls G ws h1 o (st.drop k)) : W p l e R s m args below meth c H locs cells slots Q (F0 m pc ls cst) := by
  have hw : xword (P mid) = .code (P mid).1 (P mid).2.1 (P mid).2.2.1 (P mid).2.2.2.1 := by unfold xword; rw [hhs]
  have hcr := hV.drop k
  have hcs := (hV.take k).rev
  rw [hta] at hcs
  have hst : cst = (cst.take k).reverse.reverse ++ cst.drop k := by rw [List.reverse_reverse, List.take_append_drop]
  have hG : GoodIn xTB (va_wsS own idx (P mid).1 (xword (P mid) :: xTB)) := xTB_good fun w hw => by
    unfold va_wsS at hw hn
    rcases List.mem_append.mp hw with h | h
    · exact hn w (by rw [List.append_nil]; exact h)
    · rcases List.mem_cons.mp h with rfl | h
      · exact hcw
      · exact h
  rw [hw] at hG hM
  exact snd_back (vx_runS (As := (cst.take k).reverse) (rest := cst.drop k) ⟨hexec, hb, hml, hown, hts⟩ hM (va_cwS as.length hts hG rfl rfl rfl (xnm_ok hnm) ⟨hR1, hR2⟩) ⟨xPc.blind, xcall_pre hSa hHr hP hD hS hcs⟩ rfl hcs.len hsz hst (lv_room (by rw [hcr.sum]; exact hsum)) hd ⟨hc, hs⟩) hS
    (fun v cv ws' H1 locs1 h1 h2 h3 h4 h5 h6 h7 => K.1 v cv ws' H1 locs1 (cst.drop k) h1 h2 (hcr.mono h3) h3 h4 h5 h6 h7) (fun E q ce ws' H1 locs1 h1 h2 h3 h4 h5 h6 h7 h8 h9 => K.2 E q ce ws' H1 locs1 (cst.drop k) h1 h2 h3 h4 h5 h6 h7 h8 h9)
theorem snd_SN (hexec : p.tables.exec = Jvm.exec) (hb : c.code = cc) (hml : c.maxLocals = nL) (hsz : ls.size = nL) (hown : s.vm.findClass own = some m.cls) (hts : ∀ w ∈ xTB, w.before args s = true) (hcw : xword (P mid) ∈ xTB) (hhs : (P mid).2.2.2.2.2 = [])
    (hSa : xSa G s s.heap) (hHr : xHr G h (G.2.2.1 ++ ws)) (hP : va_P G.1 vwCl ws H) (hD : va_D (fun q => G.2.2.2.1 ≤ q) ws) (hS : va_S (fun q => G.2.2.2.1 ≤ q) s.heap H locs)
    (hM : vx_Met l (P mid).1 (xword (P mid) :: xTB) { frames := f0, cells := mc, slots := ms, locals := l0 } (xPc G as h ws) (xQc G ws o h1) (xXc G ws o h1) mc ms (fun q => G.2.2.2.1 ≤ q))
    (hR1 : f0 + 1 ≤ R.frames) (hR2 : 8 + ((P mid).2.2.1 + 11) + l0 ≤ R.locals) (hc : cells + mc ≤ R.cells) (hs : slots + ms ≤ R.slots)
    {idx : Nat} {host : String} (hta : (st.take k).reverse = as) (hnn : va_Nw (.methodLinkNest own idx (P mid).1 host) s) (hn : ∀ w ∈ [Cond.static (P mid).1, .initialized (P mid).1.cls], w ∈ xTB) (hnm : xnm (P mid).1 as.length = true)
    (hV : xVs G.2.2.2.2 (G.2.2.1 ++ ws) st cst) (hsum : ((st.drop k).map fun v => v.category).sum ≤ 8) (hd : decode cc pc = .ok (.invokestatic idx, 3))
    (K : xKs p l e R s m args below meth c cells slots mc ms Q pc 3 ls G ws h1 o (st.drop k)) : W p l e R s m args below meth c H locs cells slots Q (F0 m pc ls cst) := by
  have hw : xword (P mid) = .code (P mid).1 (P mid).2.1 (P mid).2.2.1 (P mid).2.2.2.1 := by unfold xword; rw [hhs]
  have hcr := hV.drop k
  have hcs := (hV.take k).rev
  rw [hta] at hcs
  have hst : cst = (cst.take k).reverse.reverse ++ cst.drop k := by rw [List.reverse_reverse, List.take_append_drop]
  have hG : GoodIn xTB (xword (P mid) :: xTB) := xTB_good fun w hw => by
    rcases List.mem_cons.mp hw with rfl | h
    · exact hcw
    · exact h
  rw [hw] at hG hM
  exact snd_back (vx_runSN (As := (cst.take k).reverse) (rest := cst.drop k) ⟨hexec, hb, hml, hown, hts⟩ hM ⟨va_cnB as.length hts hG rfl rfl rfl hnn (hts _ (hn _ (by simp))) (xnm_ok hnm) ⟨hR1, hR2⟩, hts _ (hn _ (by simp)), trivial⟩ ⟨xPc.blind, xcall_pre hSa hHr hP hD hS hcs⟩ rfl hcs.len hsz hst (lv_room (by rw [hcr.sum]; exact hsum)) hd ⟨hc, hs⟩) hS
    (fun v cv ws' H1 locs1 h1 h2 h3 h4 h5 h6 h7 => K.1 v cv ws' H1 locs1 (cst.drop k) h1 h2 (hcr.mono h3) h3 h4 h5 h6 h7) (fun E q ce ws' H1 locs1 h1 h2 h3 h4 h5 h6 h7 h8 h9 => K.2 E q ce ws' H1 locs1 (cst.drop k) h1 h2 h3 h4 h5 h6 h7 h8 h9)
theorem snd_SW (hexec : p.tables.exec = Jvm.exec) (hb : c.code = cc) (hml : c.maxLocals = nL) (hsz : ls.size = nL) (hown : s.vm.findClass own = some m.cls) (hts : ∀ w ∈ xTB, w.before args s = true) (hcw : xword (P mid) ∈ xTB) (hhs : ¬ (P mid).2.2.2.2.2 = [])
    (hSa : xSa G s s.heap) (hHr : xHr G h (G.2.2.1 ++ ws)) (hP : va_P G.1 vwCl ws H) (hD : va_D (fun q => G.2.2.2.1 ≤ q) ws) (hS : va_S (fun q => G.2.2.2.1 ≤ q) s.heap H locs)
    (hM : Met l (P mid).1 (xword (P mid) :: xTB) { frames := f0, cells := mc, slots := ms, locals := l0 } (xPc G as h ws) (xQc G ws o h1) mc ms (fun q => G.2.2.2.1 ≤ q))
    (hR1 : f0 + 1 ≤ R.frames) (hR2 : 8 + ((P mid).2.2.1 + 11) + l0 ≤ R.locals) (hc : cells + mc ≤ R.cells) (hs : slots + ms ≤ R.slots)
    {idx : Nat} (hta : (st.take k).reverse = as) (hn : ∀ w ∈ va_wsS own idx (P mid).1 [], w ∈ xTB) (hnm : xnm (P mid).1 as.length = true)
    (hV : xVs G.2.2.2.2 (G.2.2.1 ++ ws) st cst) (hsum : ((st.drop k).map fun v => v.category).sum ≤ 8) (hd : decode cc pc = .ok (.invokestatic idx, 3))
    (K : xKs p l e R s m args below meth c cells slots mc ms Q pc 3 ls G ws h1 o (st.drop k)) : W p l e R s m args below meth c H locs cells slots Q (F0 m pc ls cst) := by
  have hw : xword (P mid) = .codeWith (P mid).1 (P mid).2.1 (P mid).2.2.1 (P mid).2.2.2.1 ((P mid).2.2.2.2.2.map fun x => (x.1, x.2.1, x.2.2.1, x.2.2.2.1)) := by
    unfold xword
    split
    · rename_i hz; exact absurd hz hhs
    · rfl
  have hcr := hV.drop k
  have hcs := (hV.take k).rev
  rw [hta] at hcs
  have hst : cst = (cst.take k).reverse.reverse ++ cst.drop k := by rw [List.reverse_reverse, List.take_append_drop]
  have hG : GoodIn xTB (va_wsS own idx (P mid).1 (xword (P mid) :: xTB)) := xTB_good fun w hw => by
    unfold va_wsS at hw hn
    rcases List.mem_append.mp hw with h | h
    · exact hn w (by rw [List.append_nil]; exact h)
    · rcases List.mem_cons.mp h with rfl | h
      · exact hcw
      · exact h
  rw [hw] at hG hM
  exact snd_backR (vx_runSW (As := (cst.take k).reverse) (rest := cst.drop k) ⟨hexec, hb, hml, hown, hts⟩ hM (vx_cwSW as.length hts hG rfl rfl rfl (xnm_ok hnm) ⟨hR1, hR2⟩) ⟨xPc.blind, xcall_pre hSa hHr hP hD hS hcs⟩ rfl hcs.len hsz hst (lv_room (by rw [hcr.sum]; exact hsum)) hd ⟨hc, hs⟩) hS
    (fun v cv ws' H1 locs1 h1 h2 h3 h4 h5 h6 h7 => K.1 v cv ws' H1 locs1 (cst.drop k) h1 h2 (hcr.mono h3) h3 h4 h5 h6 h7)
theorem snd_SU (hexec : p.tables.exec = Jvm.exec) (hb : c.code = cc) (hml : c.maxLocals = nL) (hsz : ls.size = nL) (hown : s.vm.findClass own = some m.cls) (hts : ∀ w ∈ xTB, w.before args s = true) (hcw : xword (P mid) ∈ xTB) (hhs : (P mid).2.2.2.2.2 = [])
    (hSa : xSa G s s.heap) (hHr : xHr G h (G.2.2.1 ++ ws)) (hP : va_P G.1 vwCl ws H) (hD : va_D (fun q => G.2.2.2.1 ≤ q) ws) (hS : va_S (fun q => G.2.2.2.1 ≤ q) s.heap H locs)
    (hM : vx_Met l (P mid).1 (xword (P mid) :: xTB) { frames := f0, cells := mc, slots := ms, locals := l0 } (xPc G (a :: as) h ws) (xQc G ws o h1) (xXc G ws o h1) mc ms (fun q => G.2.2.2.1 ≤ q))
    (hR1 : f0 + 1 ≤ R.frames) (hR2 : 8 + ((P mid).2.2.1 + 11) + l0 ≤ R.locals) (hc : cells + mc ≤ R.cells) (hs : slots + ms ≤ R.slots)
    {idx : Nat} (hta : (st.take k).reverse = a :: as) {ci : Nat} (hrv : xrecv ci a h = true) (hn : ∀ w ∈ va_wsSU own idx (P mid).1 [], w ∈ xTB) (hi : (P mid).1.name ≠ "<init>") (hnm : xnm (P mid).1 as.length = true)
    (hV : xVs G.2.2.2.2 (G.2.2.1 ++ ws) st cst) (hsum : ((st.drop k).map fun v => v.category).sum ≤ 8) (hd : decode cc pc = .ok (.invokespecial idx, 3))
    (K : xKs p l e R s m args below meth c cells slots mc ms Q pc 3 ls G ws h1 o (st.drop k)) : W p l e R s m args below meth c H locs cells slots Q (F0 m pc ls cst) := by
  obtain ⟨ca, cas, cr, rfl, hca, hcas, hcr⟩ := xsplit hta hV
  have hw : xword (P mid) = .code (P mid).1 (P mid).2.1 (P mid).2.2.1 (P mid).2.2.2.1 := by unfold xword; rw [hhs]
  unfold xrecv at hrv
  split at hrv
  · rename_i b
    split at hrv
    · split at hrv
      · rename_i c0 fs hcell
        have hce : c0 = ci := Nat.eq_of_beq_eq_true hrv
        subst hce
        obtain ⟨q, hq, rfl⟩ := hca
        obtain ⟨ad, fs', rfl, -⟩ := hHr.obj hq hcell
        obtain ⟨⟨C, T, N⟩, hcl, hrc⟩ := xrecvP hSa.1.1 hSa.2.2.2.1 hS hP hq
        have hCe : (vwCl.getD c0 (RL, TX0, 0)).1 = C := by rw [List.getD_eq_getElem?_getD, hcl]; rfl
        skip
        have hG : GoodIn xTB (va_wsSU own idx (P mid).1 (xword (P mid) :: xTB)) := xTB_good fun w hw => by
          unfold va_wsSU at hw hn
          rcases List.mem_append.mp hw with h | h
          · exact hn w (by rw [List.append_nil]; exact h)
          · rcases List.mem_cons.mp h with rfl | h
            · exact hcw
            · exact h
        rw [hw] at hG hM
        exact snd_back (vx_runSU (hSa.1.1.1 _ _ hcl).2 (As := cas) (rest := cr) ⟨hexec, hb, hml, hown, hts⟩ hM (va_cwSU as.length hts hG rfl rfl rfl ⟨hi, (xnm_ok hnm).2.2⟩ ⟨hR1, hR2⟩) ⟨xPc.blind, hrc, xcall_pre hSa hHr hP hD hS ⟨⟨_, hq, rfl⟩, hcas⟩⟩ rfl hcas.len hsz rfl (lv_room (by rw [hcr.sum]; exact hsum)) hd ⟨hc, hs⟩) hS
          (fun v cv ws' H1 locs1 h1 h2 h3 h4 h5 h6 h7 => K.1 v cv ws' H1 locs1 cr h1 h2 (hcr.mono h3) h3 h4 h5 h6 h7) (fun E q ce ws' H1 locs1 h1 h2 h3 h4 h5 h6 h7 h8 h9 => K.2 E q ce ws' H1 locs1 cr h1 h2 h3 h4 h5 h6 h7 h8 h9)
      · cases hrv
    · cases hrv
  · cases hrv
end XCK
