/-! CONTRACTS OUT OF RUNS: the start, the end, a call -/


/-- words that the tables keep, but not as goodWord says it -/
def xNw : Cond → Bool
  | .fieldLinkNest _ _ _ _ _ _ => true
  | .methodLinkNest _ _ _ _ => true
  | .castable _ _ => true
  | .declares _ => true
  | _ => false
theorem xNw_warm {w : Cond} {s U : State} (hg : xNw w = true) (hW : s.WarmedH U.vm) (h : va_Nw w s) : va_Nw w U := by
  unfold xNw at hg
  split at hg
  · exact h.warmF hW
  · exact h.warmM hW
  · exact h.warmC hW
  · exact h.warmD hW
  · cases hg
theorem xNw_tab {w : Cond} (hg : xNw w = true) : w.onTables = true := by
  unfold xNw at hg
  split at hg
  · rfl
  · rfl
  · rfl
  · rfl
  · cases hg
/-- the iterator's two: what is called, what is run -/
def xFw : List (MethodName × MethodName) := [(⟨"java/util/Iterator", "hasNext", "()Z"⟩, ⟨"java/util/ArrayList$Itr", "hasNext", "()Z"⟩), (⟨"java/util/Iterator", "next", "()Ljava/lang/Object;"⟩, ⟨"java/util/ArrayList$Itr", "next", "()Ljava/lang/Object;"⟩)]
theorem xFw_cls : ∀ x ∈ xFw, x.1.cls ≠ "java/lang/invoke/MethodHandle" ∧ x.1.cls ≠ "java/lang/invoke/VarHandle" := by decide
theorem xEx_cast0 : xEx.all (fun E => decide (Cond.castable E E ∈ xlw)) = true := by decide +kernel
theorem xEx_cast : ∀ E ∈ xEx, Cond.castable E E ∈ xlw := fun E hE => of_decide_eq_true (List.all_eq_true.mp xEx_cast0 E hE)
theorem xhand_some : ∀ {hs : List (Nat × Nat × Nat × Nat × String)} {pc t : Nat} {E : String}, xhand hs pc E = some t → ∃ pre x suf, hs = pre ++ x :: suf ∧ (∀ z ∈ pre, ¬ (z.1 ≤ pc ∧ pc < z.2.1 ∧ z.2.2.2.2 = E)) ∧ x.1 ≤ pc ∧ pc < x.2.1 ∧ x.2.2.2.2 = E ∧ x.2.2.1 = t
  | [], _, _, _, h => by cases h
  | x :: hs, pc, t, E, h => by
    unfold xhand at h
    by_cases hx : x.1 ≤ pc ∧ pc < x.2.1 ∧ x.2.2.2.2 = E
    · rw [if_pos hx] at h
      cases h
      exact ⟨[], x, hs, rfl, fun z hz => (List.not_mem_nil hz).elim, hx.1, hx.2.1, hx.2.2, rfl⟩
    · rw [if_neg hx] at h
      obtain ⟨pre, y, suf, h1, h2, h3⟩ := xhand_some h
      refine ⟨x :: pre, y, suf, by rw [h1]; rfl, fun z hz => ?_, h3⟩
      rcases List.mem_cons.mp hz with rfl | hz
      · exact hx
      · exact h2 z hz
def xOV (mi : Nat) (all : va_W) (v w : Option Value) : Prop := match v, w with
  | none, none => True
  | some v, some w => xV mi all v w
  | _, _ => False
/-- all that holds at a method's start of what stands -/
def xSa (G : xG) (U : State) (H : Heap) : Prop := xSv G U ∧ xSs G U ∧ (∀ e ∈ xMsgs, ∃ sa : Nat, vk_R e.1 e.2.1 e.2.2 sa U) ∧ xSh G U H ∧ vx_Zq Bundle.tN "UNASSIGNED_STACK" Bundle.steD (fun q => G.2.2.2.1 ≤ q) U H ∧ vx_Zq Bundle.tN "SUPPRESSED_SENTINEL" Bundle.listD (fun q => G.2.2.2.1 ≤ q) U H
  ∧ (∀ E ∈ xEx, ∀ E' ∈ xEx, E ≠ E' → va_Nc E E' U) ∧ (∀ w ∈ xlw, xNw w = true → va_Nw w U) ∧ ∀ x ∈ xFw, va_Fw "java/util/ArrayList$Itr" x.1 x.2 U
def xOut (G : xG) (ws : va_W) (h : xH) (ws' : va_W) (t : State) : Prop := xLe (G.2.2.1 ++ ws) (G.2.2.1 ++ ws') ∧ xHr G h (G.2.2.1 ++ ws') ∧ va_P G.1 vwCl ws' t.heap ∧ va_D (fun q => G.2.2.2.1 ≤ q) ws'
def xPc (G : xG) (as : List Value) (h : xH) (ws : va_W) : Array Value → State → Prop := fun v U => ∃ cs : List Value, v = cs.toArray ∧ xVs G.2.2.2.2 (G.2.2.1 ++ ws) as cs ∧ xSa G U U.heap ∧ xHr G h (G.2.2.1 ++ ws) ∧ va_P G.1 vwCl ws U.heap ∧ va_D (fun q => G.2.2.2.1 ≤ q) ws
def xQc (G : xG) (ws : va_W) (o : Option Value ⊕ String) (h : xH) : Array Value → State → Outcome → State → Prop := fun _ st oc t => ∃ (v cv : Option Value) (ws' : va_W), o = .inl v ∧ oc = .returned cv ∧ xOV G.2.2.2.2 (G.2.2.1 ++ ws') v cv ∧ xOut G ws h ws' t ∧ va_F (fun q => G.2.2.2.1 ≤ q) st t
def xXc (G : xG) (ws : va_W) (o : Option Value ⊕ String) (h : xH) : String → State → State → Prop := fun E st t => o = .inr E ∧ ∃ ws' : va_W, xOut G ws h ws' t ∧ va_F (fun q => G.2.2.2.1 ≤ q) st t
theorem xStaF.moved {G : xG} {e : String × String × String × Nat × Nat} {u U : State} {H : Heap} (hvm : u.vm.Alike U.vm) (h : xStaF G e u H) : xStaF G e U H := by
  unfold xStaF at h ⊢
  split at h
  · exact h.moved hvm
  · obtain ⟨q, h1, h2⟩ := h; exact ⟨q, h1, h2.moved hvm⟩
  · exact h.moved hvm
theorem xStaF.kept {G : xG} {e : String × String × String × Nat × Nat} {U : State} {H H1 : Heap} (h : xStaF G e U H) (hq : ∀ a : Nat, a < H.size → ¬ G.2.2.2.1 ≤ a → H1[a]? = H[a]?) : xStaF G e U H1 := by
  unfold xStaF at h ⊢
  split at h
  · exact h.kept hq
  · obtain ⟨q, h1, h2⟩ := h; exact ⟨q, h1, h2.kept hq⟩
  · exact h.kept hq
theorem xSa.warm {G : xG} {s U : State} {H0 H : Heap} (h : xSa G s H0) (hW : s.WarmedH U.vm) (hsz : H0.size ≤ H.size) (hq : ∀ a : Nat, a < H0.size → ¬ G.2.2.2.1 ≤ a → H[a]? = H0[a]?) : xSa G U H := by
  obtain ⟨⟨hK, hT4, hMi, hAO, hDc, hca, hcb⟩, hs, hm, ⟨g1, g2, g3, g4, g5⟩, hu, hn, hx, hy, hf⟩ := h
  refine ⟨⟨va_K.moved hW.alike hK, hT4, hMi.moved hW.alike, hAO.moved hW.alike, hDc.moved hW.alike, fun q hq => (hca q hq).warmC hW, fun t ht => (hcb t ht).warmC hW⟩, fun e he => ?_, fun e he => ?_, ⟨fun k q hk => ((g1 k q hk).kept hq).moved hW.alike, g2, g3, Nat.le_trans g4 hsz, fun e he => ((g5 e he).kept hq).moved hW.alike⟩, (hu.kept hq).moved hW.alike, (hn.kept hq).moved hW.alike, fun E hE E' hE' hne => (hx E hE E' hE' hne).moved hW.alike, fun w hw hg => xNw_warm hg hW (hy w hw hg), fun x hx => (hf x hx).moved (xFw_cls x hx) hW.alike⟩
  · obtain ⟨q, h1, h2⟩ := hs e he; exact ⟨q, h1, h2.warm hW⟩
  · obtain ⟨sa, h2⟩ := hm e he; exact ⟨sa, h2.warm hW⟩
theorem xSa.same {G : xG} {u U : State} {H : Heap} (hvm : U.vm = u.vm) (h : xSa G u H) : xSa G U H := by
  have hal : u.vm.Alike U.vm := by rw [hvm]; exact Vm.Alike.refl u.vm
  obtain ⟨⟨hK, hT4, hMi, hAO, hDc, hca, hcb⟩, hs, hm, ⟨g1, g2, g3, g4, g5⟩, hu, hn, hx, hy, hf⟩ := h
  refine ⟨⟨va_K.moved hal hK, hT4, hMi.moved hal, hAO.moved hal, hDc.moved hal, fun q hq => (hca q hq).same rfl hvm.symm, fun t ht => (hcb t ht).same rfl hvm.symm⟩, fun e he => ?_, fun e he => ?_, ⟨fun k q hk => (g1 k q hk).moved hal, g2, g3, g4, fun e he => (g5 e he).moved hal⟩, hu.moved hal, hn.moved hal, fun E hE E' hE' hne => (hx E hE E' hE' hne).moved hal, fun w hw hg => (hy w hw hg).same (xNw_tab hg) hvm.symm, fun x hx => (hf x hx).moved (xFw_cls x hx) hal⟩
  · obtain ⟨q, h1, h2⟩ := hs e he; exact ⟨q, h1, h2.same hvm⟩
  · obtain ⟨sa, h2⟩ := hm e he; exact ⟨sa, h2.same hvm⟩
theorem xPc.blind {G : xG} {as : List Value} {h : xH} {ws : va_W} : FrameBlind (xPc G as h ws) := by
  intro a U g mk ⟨cs, h1, h2, h3, h4⟩
  exact ⟨cs, h1, h2, xSa.same (u := U) rfl h3, h4⟩
section XCL
variable {p : Program} {l : Launch} {e : Env} {R : Room} {s : State} {m : MethodId} {args : Array Value} {below : List Frame} {meth : Method} {c : Code} {H : Heap} {locs : List Loc} {cells slots mc ms : Nat} {Q : State → Prop}
  {pc : Nat} {ls : Array Slot} {G : xG} {ws : va_W} {st0 rest : List Value} {h1 : xH} {o : Option Value ⊕ String} {a : Array Value}
theorem snd_back (hr : vx_Run p l e R s m args below meth c H locs cells slots mc ms (F0 m pc ls st0) rest (xQc G ws o h1 a) (xXc G ws o h1) (fun q => G.2.2.2.1 ≤ q)) (hS : va_S (fun q => G.2.2.2.1 ≤ q) s.heap H locs)
    (kk : ∀ (v cv : Option Value) (ws' : va_W) (H1 : Heap) (locs1 : List Loc), o = .inl v → xOV G.2.2.2.2 (G.2.2.1 ++ ws') v cv → xLe (G.2.2.1 ++ ws) (G.2.2.1 ++ ws') → xHr G h1 (G.2.2.1 ++ ws') → va_P G.1 vwCl ws' H1 → va_D (fun q => G.2.2.2.1 ≤ q) ws' → va_S (fun q => G.2.2.2.1 ≤ q) s.heap H1 locs1 →
      W p l e R s m args below meth c H1 locs1 (cells + mc) (slots + ms) Q (F0 m (pc + 3) ls (cv.toList ++ rest)))
    (kx : ∀ (E : String) (q : Addr) (ce : Cell) (ws' : va_W) (H1 : Heap) (locs1 : List Loc), o = .inr E → xLe (G.2.2.1 ++ ws) (G.2.2.1 ++ ws') → xHr G h1 (G.2.2.1 ++ ws') → va_P G.1 vwCl ws' H1 → va_D (fun q => G.2.2.2.1 ≤ q) ws' → va_S (fun q => G.2.2.2.1 ≤ q) s.heap H1 locs1 →
      H1[q]? = some ce → ce.vm = .none → s.vm.findClass E = some ce.cls → vx_W p l e R s m args below meth c H1 locs1 (cells + mc) (slots + ms) Q (F0 m pc ls rest) q) : W p l e R s m args below meth c H locs cells slots Q (F0 m pc ls st0) := by
  intro T hT X
  rcases hr T hT X with ⟨v, st₀, t, T', L, h0, X', hL, e1, e2, ⟨v', cv, ws', ho, hoc, hov, ⟨hle, hh, hp, hd⟩, hF⟩, st⟩ | ⟨q, st₀, t, T', L, E, ce, h0, X', hL, e1, e2, ⟨ho, ws', ⟨hle, hh, hp, hd⟩, hF⟩, hce, hcv, hcl, st⟩
  · cases hoc
    obtain ⟨-, -, hS'⟩ := vx_keep (A1 := fun q => G.2.2.2.1 ≤ q) h0 e1 hS (fun _ _ h => h) (fun _ h => h) hL hF
    obtain ⟨t2, a1, b1⟩ := kk v' v ws' T'.heap (locs ++ L) ho hov hle hh (by rw [e1]; exact hp) hd hS' T' rfl X'
    exact ⟨t2, st t2 a1, b1⟩
  · obtain ⟨-, -, hS'⟩ := vx_keep (A1 := fun q => G.2.2.2.1 ≤ q) h0 e1 hS (fun _ _ h => h) (fun _ h => h) hL hF
    obtain ⟨t2, a1, b1⟩ := kx E q ce ws' T'.heap (locs ++ L) ho hle hh (by rw [e1]; exact hp) hd hS' (by rw [e1]; exact hce) hcv hcl T' rfl X'
    exact ⟨t2, st.trans a1, b1⟩
end XCL
