/-! THE CHECKER OF A METHOD -/
def xget : Nat → List Cond → Nat → Option Cond
  | 0, l, _ => l.head?
  | n + 1, l, k => if k < 2 ^ n then xget n (l.take (2 ^ n)) k else xget n (l.drop (2 ^ n)) (k - 2 ^ n)
theorem xget_mem : ∀ {n : Nat} {l : List Cond} {k : Nat} {w : Cond}, xget n l k = some w → w ∈ l
  | 0, l, _, w, h => by
    have h : l.head? = some w := h
    exact List.mem_of_mem_head? h
  | n + 1, l, k, w, h => by
    unfold xget at h
    split at h
    · exact List.mem_of_mem_take (xget_mem h)
    · exact List.mem_of_mem_drop (xget_mem h)
def xlook : List Nat → List (Option Cond)
  | [] => []
  | p :: ps => xget 12 xlw p :: xlook ps
def xlk : List (List Nat) → List (List (Option Cond))
  | [] => []
  | p :: ps => xlook p :: xlk ps
def xsm : List Cond → List (Option Cond)
  | [] => []
  | w :: ws => some w :: xsm ws
theorem xlook_mem : ∀ {ps : List Nat} {ws : List Cond}, xlook ps = xsm ws → ∀ w ∈ ws, w ∈ xlw
  | _, [], _, w, hw => by cases hw
  | [], v :: ws, h, w, hw => by cases h
  | p :: ps, v :: ws, h, w, hw => by
    have h : xget 12 xlw p :: xlook ps = some v :: xsm ws := h
    injection h with h1 h2
    rcases List.mem_cons.mp hw with rfl | hw
    · exact xget_mem h1
    · exact xlook_mem h2 w hw
def xw1 (P : Nat → xM) (M : xM) (i : Instr) (an : List Nat) : List Cond := match i, an with
  | .new ik, 200 :: an => [.classLink M.1.cls ik (xEx.getD (an.getD 0 0) ""), .initialized (xEx.getD (an.getD 0 0) ""), .methodLink M.1.cls (an.getD 2 0) (Bundle.initS (xEx.getD (an.getD 0 0) ""))]
  | i, an => if xiscall i = true then xcneed P M.1.cls i an ++ xneed M.1.cls i an else xneed M.1.cls i an
def xwn (P : Nat → xM) (M : xM) : List xI → List (List (Option Cond))
  | [] => []
  | x :: r => xsm (if x.2.2.1 = .nop then [] else xw1 P M x.2.2.1 x.2.2.2) :: xwn P M r
def xhw (M : xM) : List Cond := xword M :: M.2.2.2.2.2.map fun x => .classLink M.1.cls x.2.2.2.1 x.2.2.2.2
theorem xwn_mem {P : Nat → xM} {M : xM} : ∀ {ps : List (List Nat)} {code : List xI}, xlk ps = xwn P M code → ∀ x ∈ code, x.2.2.1 = .nop ∨ ∀ w ∈ xw1 P M x.2.2.1 x.2.2.2, w ∈ xlw
  | _, [], _, x, hx => by cases hx
  | [], y :: r, h, x, hx => by cases h
  | p :: ps, y :: r, h, x, hx => by
    have h : xlook p :: xlk ps = xsm (if y.2.2.1 = .nop then [] else xw1 P M y.2.2.1 y.2.2.2) :: xwn P M r := h
    injection h with h1 h2
    rcases List.mem_cons.mp hx with rfl | hx
    · by_cases hn : x.2.2.1 = .nop
      · exact .inl hn
      · rw [if_neg hn] at h1
        exact .inr (xlook_mem h1)
    · exact xwn_mem h2 x hx
def xgd (w : Cond) : Bool := goodWord w || xNw w
theorem xgd_has {w : Cond} (h : xgd w = true) (hw : w ∈ xlw) : xhas w := by
  by_cases g : goodWord w = true
  · exact .inl (List.mem_filter.mpr ⟨hw, g⟩)
  · unfold xgd at h
    simp only [Bool.or_eq_true] at h
    exact .inr ⟨h.resolve_left g, hw⟩
theorem xgd_ot {w : Cond} (h : xgd w = true) : vx_ot w = true := by
  unfold xgd at h
  unfold vx_ot
  simp only [Bool.or_eq_true] at h ⊢
  exact h.elim .inr fun h => .inl (xNw_tab h)
def xdq (b : ByteArray) (pc : Nat) (i : Instr) (len : Nat) : Bool := match decode b pc with
  | .ok (j, l) => decide (j = i) && decide (l = len)
  | .error _ => false
theorem xdq_ok {b : ByteArray} {pc : Nat} {i : Instr} {len : Nat} (h : xdq b pc i len = true) : decode b pc = .ok (i, len) := by
  unfold xdq at h
  split at h
  · rename_i j l hd
    simp only [Bool.and_eq_true, decide_eq_true_eq] at h
    rw [hd, h.1, h.2]
  · cases h
def xthB (M : xM) (pc : Nat) (an : List Nat) : Bool := match an with
  | ei :: is :: ic :: w :: mi :: _ => (match xMsgs[mi]? with
    | some (c, k, _) => decide (c = M.1.cls) && decide (k = is)
    | none => false) && (decide (ei < 3) && (M.2.2.2.2.2.isEmpty && (xdq M.2.1 (pc + 3) .dup 1 && (if w = 0 then xdq M.2.1 (pc + 4) (.ldc is) 2 && (xdq M.2.1 (pc + 6) (.invokespecial ic) 3 && xdq M.2.1 (pc + 9) .athrow 1) else xdq M.2.1 (pc + 4) (.ldc_w is) 3 && (xdq M.2.1 (pc + 7) (.invokespecial ic) 3 && xdq M.2.1 (pc + 10) .athrow 1)))))
  | _ => false
def xlast (M : xM) (pc : Nat) (i : Instr) (an : List Nat) : Bool := match i, an with
  | .new _, 200 :: an => xthB M pc an
  | i, an => xok M.1.cls M.1.name i an
def xi1 (P : Nat → xM) (M : xM) (x : xI) : Bool := decide (x.2.2.1 = .nop) || (xdq M.2.1 x.1 x.2.2.1 x.2.1 && (xlenok x.2.2.1 x.2.1 && (xctl M.2.2.2.1 x.1 x.2.2.1 x.2.2.2 && ((!xiscall x.2.2.1 || xcok P x.2.2.1 x.2.2.2) && ((xw1 P M x.2.2.1 x.2.2.2).all xgd && xlast M x.1 x.2.2.1 x.2.2.2)))))
def xchkB (P : Nat → xM) (M : xM) : Bool := xchain M.2.2.2.2.1 && (decide (xpc M.2.2.2.2.1 = 0) && (M.2.2.2.2.1.all (xi1 P M) && (goodWord (xword M) && (decide (M.2.2.1 ≤ 40) && (plainName M.1.cls && M.2.2.2.2.2.all (fun x => decide (x.2.2.2.2 ∈ xEx) && decide (x.2.2.2.1 ≠ 0)))))))
def xThA (X : String) : List Cond := Bundle.throwableAtoms ++ Bundle.throwableSAtoms ++ Bundle.chainSAtoms X xNames
def xThT (X : String) : List Cond := (Bundle.ownAtoms "" 0 X xNames).drop ((xThA X).length + 1)
/-- the words of a throw, but the call's own -/
def xEw (E : String) : Bool := (xThA E ++ xThT E).all fun w => !vx_no w || (decide (w ∈ xlw) && xgd w)
theorem xE_at : xEx.all xEw = true := by decide +kernel
theorem xown {own : String} {ic : Nat} {X : String} {w : Cond} (h : w ∈ Bundle.ownAtoms own ic X xNames) : w = .methodLink own ic (Bundle.initS X) ∨ w ∈ xThA X ++ xThT X := by
  have hT : ∀ m T, Bundle.ownAtoms "" 0 X xNames = xThA X ++ m :: T → xThT X = T := by
    intro m T hh
    unfold xThT
    rw [hh, List.drop_length_add_append]
    rfl
  have h0 := hT _ _ rfl
  unfold Bundle.ownAtoms at h
  rcases List.mem_append.mp h with h | h
  · exact .inr (List.mem_append.mpr (.inl h))
  · rcases List.mem_cons.mp h with h | h
    · exact .inl h
    · exact .inr (List.mem_append.mpr (.inr (h0 ▸ h)))
theorem xEx_get {ei : Nat} (h : ei < 3) : xEx.getD ei "" ∈ xEx := by
  match ei, h with
  | 0, _ => exact .head _
  | 1, _ => exact .tail _ (.head _)
  | 2, _ => exact .tail _ (.tail _ (.head _))
theorem xth_words {own : String} {ik ic : Nat} {E : String} (hE : E ∈ xEx) (h1 : xhas (.classLink own ik E) ∧ vx_ot (.classLink own ik E) = true) (h2 : xhas (.initialized E) ∧ vx_ot (.initialized E) = true) (h3 : xhas (.methodLink own ic (Bundle.initS E)) ∧ vx_ot (.methodLink own ic (Bundle.initS E)) = true) :
    ∀ w ∈ Cond.classLink own ik E :: Cond.initialized E :: vx_atS own ic E xNames, xhas w ∧ vx_ot w = true := by
  intro w hw
  rcases List.mem_cons.mp hw with rfl | hw
  · exact h1
  rcases List.mem_cons.mp hw with rfl | hw
  · exact h2
  have hw' := List.mem_filter.mp hw
  rcases xown hw'.1 with rfl | hm
  · exact h3
  · have hq : xEw E = true := List.all_eq_true.mp xE_at E hE
    have hq := List.all_eq_true.mp hq w hm
    simp only [Bool.or_eq_true, Bool.and_eq_true, decide_eq_true_eq, hw'.2, Bool.not_true, Bool.false_eq_true, false_or] at hq
    exact ⟨xgd_has hq.2 hq.1, xgd_ot hq.2⟩
theorem xlast_ok {P : Nat → xM} {M : xM} {pc : Nat} {i : Instr} {an : List Nat} (h : xlast M pc i an = true) (hw : ∀ w ∈ xw1 P M i an, w ∈ xlw) (hg : (xw1 P M i an).all xgd = true) (hc : xiscall i = true → xcok P i an = true) :
    (xiscall i = true → xcok P i an = true ∧ ∀ w ∈ xcneed P M.1.cls i an, xhas w) ∧
    match (generalizing := false) i, an with
    | .new ik, 200 :: an => xthrow M pc ik an
    | i, an => xok M.1.cls M.1.name i an = true ∧ ∀ w ∈ xneed M.1.cls i an, xhas w := by
  have hh : ∀ w ∈ xw1 P M i an, xhas w ∧ vx_ot w = true := fun w hm => ⟨xgd_has (List.all_eq_true.mp hg w hm) (hw w hm), xgd_ot (List.all_eq_true.mp hg w hm)⟩
  by_cases hn : ∃ ik a, i = .new ik ∧ an = 200 :: a
  · obtain ⟨ik, a, rfl, rfl⟩ := hn
    refine ⟨fun h => (by cases h), ?_⟩
    have h : xthB M pc a = true := h
    show xthrow M pc ik a
    match a, h, hh with
    | ei :: is :: ic :: w :: mi :: r, h, hh =>
      unfold xthB at h
      simp only [Bool.and_eq_true, decide_eq_true_eq, List.isEmpty_iff] at h
      obtain ⟨h1, h2, h3, h4, h5⟩ := h
      split at h1
      · rename_i c k tx hm
        simp only [Bool.and_eq_true, decide_eq_true_eq] at h1
        refine ⟨tx, by rw [hm, h1.1, h1.2], h2, h3, xdq_ok h4, ?_, ?_⟩
        · by_cases hw0 : w = 0
          · rw [if_pos hw0] at h5 ⊢
            simp only [Bool.and_eq_true] at h5
            exact ⟨xdq_ok h5.1, xdq_ok h5.2.1, xdq_ok h5.2.2⟩
          · rw [if_neg hw0] at h5 ⊢
            simp only [Bool.and_eq_true] at h5
            exact ⟨xdq_ok h5.1, xdq_ok h5.2.1, xdq_ok h5.2.2⟩
        · exact xth_words (xEx_get h2) (hh _ (.head _)) (hh _ (.tail _ (.head _))) (hh _ (.tail _ (.tail _ (.head _))))
      · cases h1
    | [], h, _ => cases h
    | [_], h, _ => cases h
    | [_, _], h, _ => cases h
    | [_, _, _], h, _ => cases h
    | [_, _, _, _], h, _ => cases h
  · have e1 : xlast M pc i an = xok M.1.cls M.1.name i an := by
      unfold xlast
      split
      · exact absurd ⟨_, _, rfl, rfl⟩ hn
      · rfl
    have e2 : xw1 P M i an = if xiscall i = true then xcneed P M.1.cls i an ++ xneed M.1.cls i an else xneed M.1.cls i an := by
      unfold xw1
      split
      · exact absurd ⟨_, _, rfl, rfl⟩ hn
      · rfl
    rw [e1] at h
    rw [e2] at hh
    refine ⟨fun hcl => ⟨hc hcl, fun w hm => ?_⟩, ?_⟩
    · rw [if_pos hcl] at hh
      exact (hh w (List.mem_append.mpr (.inl hm))).1
    · have hx : ∀ w ∈ xneed M.1.cls i an, xhas w := by
        intro w hm
        by_cases hcl : xiscall i = true
        · rw [if_pos hcl] at hh
          exact (hh w (List.mem_append.mpr (.inr hm))).1
        · rw [if_neg hcl] at hh
          exact (hh w hm).1
      split
      · exact absurd ⟨_, _, rfl, rfl⟩ hn
      · exact ⟨h, hx⟩
def xTat (P : Nat → xM) (M : xM) : Prop := xMok P M ∧ xPok M ∧ plainName M.1.cls = true ∧ ∀ x ∈ M.2.2.2.2.2, x.2.2.2.2 ∈ xEx ∧ x.2.2.2.1 ≠ 0 ∧ (Cond.classLink M.1.cls x.2.2.2.1 x.2.2.2.2) ∈ xTB
theorem xchk_ok {P : Nat → xM} {M : xM} {ps : List (List Nat)} (h1 : xchkB P M = true) (h2 : xlk ps = xsm (xhw M) :: xwn P M M.2.2.2.2.1) : xTat P M := by
  unfold xchkB at h1
  simp only [Bool.and_eq_true, decide_eq_true_eq] at h1
  obtain ⟨a1, a2, a3, a4, a5, a6, a7⟩ := h1
  match ps, h2 with
  | p :: ps, h2 =>
    have h2 : xlook p :: xlk ps = xsm (xhw M) :: xwn P M M.2.2.2.2.1 := h2
    injection h2 with b1 b2
    have b1 := xlook_mem b1
    refine ⟨⟨a1, a2, fun x hx => ?_⟩, ⟨List.mem_filter.mpr ⟨b1 _ (.head _), a4⟩, a5⟩, a6, fun x hx => ?_⟩
    · have c1 := List.all_eq_true.mp a3 x hx
      unfold xi1 at c1
      by_cases hn : x.2.2.1 = .nop
      · exact .inl hn
      · simp only [Bool.or_eq_true, Bool.and_eq_true, decide_eq_true_eq, hn, false_or] at c1
        obtain ⟨d1, d2, d3, d4, d5, d6⟩ := c1
        have hw := (xwn_mem b2 x hx).resolve_left hn
        have hl := xlast_ok d6 hw d5 (fun hc => by simpa [hc] using d4)
        exact .inr ⟨xdq_ok d1, d2, d3, hl.1, hl.2⟩
    · have c1 := List.all_eq_true.mp a7 x hx
      simp only [Bool.and_eq_true, decide_eq_true_eq] at c1
      exact ⟨c1.1, c1.2, List.mem_filter.mpr ⟨b1 _ (List.mem_cons_of_mem _ (List.mem_map.mpr ⟨x, hx, rfl⟩)), rfl⟩⟩
theorem xite {Q : xM → Prop} {c : Prop} [Decidable c] {a b : xM} (ha : Q a) (hb : Q b) : Q (if c then a else b) := by
  split
  · exact ha
  · exact hb
