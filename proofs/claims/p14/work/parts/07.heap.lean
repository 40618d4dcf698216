/-! WHAT THE HEAP SEES, IN THE MACHINE -/
def xTB : List Cond := xlw.filter goodWord
theorem xTB_good {ws : List Cond} (h : ∀ w ∈ ws, w ∈ xTB) : GoodIn xTB ws := fun w hw => ⟨h w hw, good_of_word (List.mem_filter.mp (h w hw)).2⟩
def xHost : String := RL
/-- statics that code reads: class, name, descriptor, kind (0 a number, 1 a place, 2 any reference), number or place -/
def xSta : List (String × String × String × Nat × Nat) := [("java/util/ArrayList", "DEFAULTCAPACITY_EMPTY_ELEMENTDATA", "[Ljava/lang/Object;", 1, 0), ("java/lang/Integer", "DigitOnes", "[B", 1, 1), ("java/lang/Integer", "DigitTens", "[B", 1, 2), ("java/lang/String", "COMPACT_STRINGS", "Z", 0, 1), ("jdk/internal/util/Preconditions", "SIOOBE_FORMATTER", "Ljava/util/function/BiFunction;", 2, 0)]
abbrev xGC : MethodName := ⟨"java/lang/Object", "getClass", "()Ljava/lang/Class;"⟩
abbrev xCN : MethodName := ⟨"[B", "clone", "()Ljava/lang/Object;"⟩
abbrev xCO : MethodName := ⟨"java/lang/Object", "clone", "()Ljava/lang/Object;"⟩
def xCLw (own : String) (idx : Nat) : List Cond := [.methodLink own idx xCN, .sameMethod "[B" "java/lang/Object" "clone" "()Ljava/lang/Object;", .native xCO, .instanceMethod xCO, .selects "[B" xCN xCO, .castable "[B" "java/lang/Cloneable"]
/-- what one instruction asks of the tables -/
def xneed (own : String) (i : Instr) (an : List Nat) : List Cond := match i with
  | .getfield idx => match an with
    | ci :: k :: kind :: _ => match vwCl[ci]? with
      | some (C, T, _) => match kind with
        | 1 => [.fieldLink own idx C (T k).2.1 (T k).2.2.1, .sameField C (T k).1 (T k).2.1 (T k).2.2.1]
        | 2 => [.fieldLinkNest own idx (T k).1 (T k).2.1 (T k).2.2.1 xHost]
        | 3 => [.fieldLinkNest own idx (T k).1 (T k).2.1 (T k).2.2.1 "java/util/ArrayList"]
        | _ => [.fieldLink own idx (T k).1 (T k).2.1 (T k).2.2.1]
      | none => []
    | _ => []
  | .putfield idx => match an with
    | ci :: k :: kind :: _ => match vwCl[ci]? with
      | some (C, T, _) => match kind with
        | 1 => [.fieldLink own idx C (T k).2.1 (T k).2.2.1, .sameField C (T k).1 (T k).2.1 (T k).2.2.1]
        | 2 => [.fieldLinkNest own idx (T k).1 (T k).2.1 (T k).2.2.1 xHost]
        | _ => [.fieldLink own idx (T k).1 (T k).2.1 (T k).2.2.1]
      | none => []
    | _ => []
  | .getstatic idx => match an with
    | _ :: _ :: j :: _ => match xSta[j]? with
      | some (C, n, d, _, _) => [.fieldLink own idx C n d]
      | none => []
    | _ => []
  | .new idx => match an with
    | ci :: n :: _ => match vwCl[ci]? with
      | some (C, _, _) => [.classLink own idx C, .instantiable C n, .initialized C]
      | none => []
    | _ => []
  | .newarray t => [.arrayClass (newarray.typeOf t)]
  | .anewarray idx => [.classLink own idx "java/lang/Object"]
  | .checkcast idx => match an with
    | ci :: _ => match vwCl[ci]? with
      | some (C, _, _) => [.classLink own idx C]
      | none => match ci with
        | 100 => [.classLink own idx "[I"]
        | 102 => [.classLink own idx "[B"]
        | _ => [.classLink own idx "[Ljava/lang/Object;"]
    | _ => []
  | .ldc k => match an with
    | [n] => [.constant own k (Int32.ofNat n)]
    | 301 :: _ :: _ => [.classLink own k "[Ljava/lang/Object;"]
    | _ => []
  | .ldc_w k => match an with
    | [n] => [.constant own k (Int32.ofNat n)]
    | _ => []
  | .invokevirtual idx => match an with
    | 2 :: _ => [.methodLink own idx xGC, .selects "[Ljava/lang/Object;" xGC xGC, .instanceMethod xGC, .native xGC]
    | 6 :: _ => xCLw own idx
    | _ => []
  | .invokestatic idx => match an with
    | 3 :: _ => [.methodLink own idx arraycopyName, .native arraycopyName, .static arraycopyName, .initialized "java/lang/System"]
    | 4 :: 0 :: _ => [.methodLink own idx Lib.Math.max.name, .static Lib.Math.max.name, .initialized "java/lang/Math", .code Lib.Math.max.name Lib.Math.max.code 2 (some .int)]
    | 4 :: 1 :: _ => [.methodLink own idx Lib.Math.min.name, .static Lib.Math.min.name, .initialized "java/lang/Math", .code Lib.Math.min.name Lib.Math.min.code 2 (some .int)]
    | _ => []
  | .ldc2_w k => [.constantLong own k (Int64.ofNat (an.getD 0 0))]
  | _ => []
/-- what one instruction asks besides -/
def xok (own name : String) (i : Instr) (an : List Nat) : Bool := match i with
  | .getfield _ => match an with
    | ci :: k :: kind :: _ => match vwCl[ci]? with
      | some (_, _, N) => decide (k < N) && decide (kind < 4) && (!(Nat.beq ci 0) || decide (kind < 2))
      | none => false
    | _ => false
  | .putfield _ => match an with
    | ci :: k :: kind :: _ => match vwCl[ci]? with
      | some (_, T, N) => decide (k < N) && (match kind with
        | 3 => (T k).2.2.2 && decide (name = "<init>") && decide ((T k).1 = own)
        | _ => !(T k).2.2.2 && decide (kind < 3))
      | none => false
    | _ => false
  | .getstatic _ => match an with
    | kd :: x :: j :: _ => match xSta[j]? with
      | some (_, _, _, kd', x') => decide (kd = kd') && decide (x = x')
      | none => false
    | _ => false
  | .new _ => match an with
    | ci :: n :: _ => match vwCl[ci]? with
      | some (_, _, N) => decide (n = N)
      | none => false
    | _ => false
  | .newarray t => match t with
    | .int => decide (an.head? = some 0)
    | .boolean => decide (an.head? = some 1)
    | .byte => decide (an.head? = some 2)
    | _ => false
  | .ldc k => match an with
    | 300 :: x :: j :: _ => match xStrs[j]? with
      | some (o, k', _, x') => decide (o = own) && decide (k' = k) && decide (x' = x)
      | none => false
    | 301 :: _ :: _ => true
    | [n] => decide (n ≠ 300) && decide (n ≠ 301)
    | _ => false
  | .ldc_w k => match an with
    | 300 :: x :: j :: _ => match xStrs[j]? with
      | some (o, k', _, x') => decide (o = own) && decide (k' = k) && decide (x' = x)
      | none => false
    | [n] => decide (n ≠ 300) && decide (n ≠ 301)
    | _ => false
  | .checkcast _ => match an with
    | ci :: _ => match vwCl[ci]? with
      | some _ => true
      | none => decide (ci = 100) || decide (ci = 102) || decide (ci = 103)
    | _ => false
  | _ => true
theorem xlk_map {α : Type} {f : α → List Cond} : ∀ {ps : List (List Nat)} {l : List α}, xlk ps = l.map (fun q => xsm (f q)) → ∀ q ∈ l, ∀ w ∈ f q, w ∈ xlw
  | _, [], _, q, hq => by cases hq
  | [], a :: l, h, q, hq => by cases h
  | p :: ps, a :: l, h, q, hq => by
    have h : xlook p :: xlk ps = xsm (f a) :: l.map (fun q => xsm (f q)) := h
    injection h with h1 h2
    rcases List.mem_cons.mp hq with rfl | hq
    · exact xlook_mem h1
    · exact xlk_map h2 q hq
set_option maxRecDepth 20000 in
theorem xclw_at : xlk xlwF = vwCl.map (fun q => xsm (u_ws q.1 q.2.1 q.2.2)) := rfl
theorem xclw_gd : vwCl.all (fun q => (u_ws q.1 q.2.1 q.2.2).all goodWord) = true := by decide +kernel
theorem xcl_words : ∀ q ∈ vwCl, ∀ w ∈ u_ws q.1 q.2.1 q.2.2, w ∈ xTB := by
  intro q hq w hw
  have h : (u_ws q.1 q.2.1 q.2.2).all goodWord = true := List.all_eq_true.mp xclw_gd q hq
  exact List.mem_filter.mpr ⟨xlk_map (f := fun q => u_ws q.1 q.2.1 q.2.2) xclw_at q hq w hw, List.all_eq_true.mp h w hw⟩
def xcln (ci : Nat) : Bool := match vwCl[ci]? with
  | some (_, T, N) => (List.range N).all (fun a => (List.range N).all fun b => decide (a = b) || decide ((T a).2.1 ≠ (T b).2.1)) && (List.range N).all fun k => decide (parseFieldDescriptor (T k).2.2.1 = some (xty ci k))
  | none => true
theorem xcln_all : (List.range 19).all xcln = true := by decide +kernel
theorem xcln_len : vwCl.length = 19 := rfl
theorem xcl_names : ∀ (ci : Nat) (C : String) (T : u_T) (N : Nat), vwCl[ci]? = some (C, T, N) → (∀ a, a < N → ∀ b, b < N → a ≠ b → (T a).2.1 ≠ (T b).2.1) ∧ ∀ k, k < N → parseFieldDescriptor (T k).2.2.1 = some (xty ci k) := by
  intro ci C T N hq
  have hl : ci < 19 := xcln_len ▸ (List.getElem?_eq_some_iff.mp hq).1
  have h : xcln ci = true := List.all_eq_true.mp xcln_all ci (List.mem_range.mpr hl)
  unfold xcln at h
  rw [hq] at h
  simp only [Bool.and_eq_true] at h
  refine ⟨fun a ha b hb hab => ?_, fun k hk => ?_⟩
  · have h1 := List.all_eq_true.mp (List.all_eq_true.mp h.1 a (List.mem_range.mpr ha)) b (List.mem_range.mpr hb)
    simp only [Bool.or_eq_true, decide_eq_true_eq] at h1
    exact h1.resolve_left hab
  · exact of_decide_eq_true (List.all_eq_true.mp h.2 k (List.mem_range.mpr hk))
/-- of the tables, at a state -/
def xSv (G : xG) (U : State) : Prop := va_K G.1 vwCl G.2.1 U ∧ (∀ t, t < 4 → ∃ c : ClassId, G.2.1[t]? = some (c, xAT t)) ∧ va_Mi "[Ljava/lang/Object;" G.2.2.2.2 U ∧ va_AO "java/lang/Object" U ∧ va_Dc U
  ∧ (∀ q ∈ vwCl, va_Nw (.castable q.1 "java/lang/Object") U) ∧ ∀ t, t < 4 → va_Nw (.castable ("[" ++ (xAT t).toString) "java/lang/Object") U
def xSs (G : xG) (U : State) : Prop := ∀ e ∈ xStrs, ∃ q : Nat × va_E, G.2.2.1[e.2.2.2]? = some q ∧ vk_R e.1 e.2.1 e.2.2.1 q.1 U
def xStaF (G : xG) (e : String × String × String × Nat × Nat) (U : State) (H : Heap) : Prop := match e.2.2.2.1 with
  | 0 => va_Z e.1 e.2.1 e.2.2.1 (.int (Int32.ofNat e.2.2.2.2)) (fun q => G.2.2.2.1 ≤ q) U H
  | 1 => ∃ q : Nat × va_E, G.2.2.1[e.2.2.2.2]? = some q ∧ va_Z e.1 e.2.1 e.2.2.1 (.ref q.1) (fun q => G.2.2.2.1 ≤ q) U H
  | _ => va_Zq e.1 e.2.1 e.2.2.1 (fun q => G.2.2.2.1 ≤ q) U H
/-- a cell that is only read: a table, the empty Object[], a String (its value, its coder) -/
def xRc (G : xG) (q : Nat × va_E) (U : State) (H : Heap) : Prop := match q.2 with
  | .inl (cA, n, .inl f) => ∃ t : Nat, t < 3 ∧ G.2.1[t]? = some (cA, xAT t) ∧ va_T (xAT t) q.1 n (fun j => .int (f j)) (fun q => G.2.2.2.1 ≤ q) U H
  | .inl (_, n, .inr (.inr (.inr (.inr _)))) => n = 0 ∧ va_T (.object "java/lang/Object") q.1 0 (fun _ => .null) (fun q => G.2.2.2.1 ≤ q) U H
  | .inr (c, fs) => c = 0 ∧ ∃ r : vw_C, vwCl[c]? = some r ∧ va_O r.1 q.1 (fun q => G.2.2.2.1 ≤ q) U H ∧ ∀ (k : Nat) (v : Value), k < 2 → fs[k]? = some v → va_OF (r.2.1 k).1 (r.2.1 k).2.1 (r.2.1 k).2.2.1 v q.1 (fun q => G.2.2.2.1 ≤ q) U H
  | _ => False
theorem xRc.moved {G : xG} {q : Nat × va_E} {u U : State} {H : Heap} (hvm : u.vm.Alike U.vm) (h : xRc G q u H) : xRc G q U H := by
  unfold xRc at h ⊢
  split at h
  · obtain ⟨t, h1, h2, h3⟩ := h; exact ⟨t, h1, h2, h3.moved hvm⟩
  · exact ⟨h.1, h.2.moved hvm⟩
  · obtain ⟨h1, r, h2, h3, h4⟩ := h; exact ⟨h1, r, h2, h3.moved hvm, fun k v hk hv => (h4 k v hk hv).moved hvm⟩
  · exact h.elim
theorem xRc.kept {G : xG} {q : Nat × va_E} {U : State} {H H1 : Heap} (h : xRc G q U H) (hq : ∀ a : Nat, a < H.size → ¬ G.2.2.2.1 ≤ a → H1[a]? = H[a]?) : xRc G q U H1 := by
  unfold xRc at h ⊢
  split at h
  · obtain ⟨t, h1, h2, h3⟩ := h; exact ⟨t, h1, h2, h3.kept hq⟩
  · exact ⟨h.1, h.2.kept hq⟩
  · obtain ⟨h1, r, h2, h3, h4⟩ := h; exact ⟨h1, r, h2, h3.kept hq, fun k v hk hv => (h4 k v hk hv).kept hq⟩
  · exact h.elim
/-- of the cells that stand, at a state and a heap -/
def xSh (G : xG) (U : State) (H : Heap) : Prop := (∀ (k : Nat) (q : Nat × va_E), G.2.2.1[k]? = some q → xRc G q U H) ∧ (∀ (k : Nat) (q : Nat × va_E), G.2.2.1[k]? = some q → q.1 < G.2.2.2.1) ∧ G.2.2.1.length = xN0 ∧ G.2.2.2.1 ≤ H.size ∧ ∀ e ∈ xSta, xStaF G e U H
theorem xHr.obj {G : xG} {h : xH} {all : va_W} {a c : Nat} {fs : List Value} {q : Nat × va_E} (k : xHr G h all) (hq : all[a]? = some q) (hc : h.2 a = .inr (c, fs)) : ∃ (ad : Nat) (fs' : List Value), q = (ad, .inr (c, fs')) ∧ xVs G.2.2.2.2 all fs fs' := by
  have hce := k.2 a q hq
  rw [hc] at hce
  obtain ⟨ad, e2⟩ := q
  cases e2 with
  | inl z => exact hce.elim
  | inr o => obtain ⟨c2, fs'⟩ := o; obtain ⟨rfl, hfs⟩ := hce; exact ⟨ad, fs', rfl, hfs⟩
theorem xHr.arr {G : xG} {h : xH} {all : va_W} {a n : Nat} {t : ClassId} {f : Nat → Int32} {q : Nat × va_E} (k : xHr G h all) (hq : all[a]? = some q) (hc : h.2 a = .inl (t, n, .inl f)) : ∃ (ad : Nat) (cA : ClassId), q = (ad, .inl (cA, n, .inl f)) ∧ G.2.1[t]? = some (cA, xAT t) ∧ t < 3 := by
  have hce := k.2 a q hq
  rw [hc] at hce
  obtain ⟨ad, e2⟩ := q
  match e2, hce with
  | .inl (cA, n', .inl f'), hce => obtain ⟨h1, h2, rfl, rfl⟩ := hce; exact ⟨ad, cA, rfl, h1, h2⟩
theorem xHr.arq {G : xG} {h : xH} {all : va_W} {a n : Nat} {t : ClassId} {f : Nat → Option Nat} {q : Nat × va_E} (k : xHr G h all) (hq : all[a]? = some q) (hc : h.2 a = .inl (t, n, .inr (.inr (.inr (.inr f))))) : ∃ (ad : Nat) (cA : ClassId) (f' : Nat → Option Nat), q = (ad, .inl (cA, n, .inr (.inr (.inr (.inr f'))))) ∧ G.2.1[t]? = some (cA, xAT t) ∧ t = 3 ∧ ∀ j, xO all (f j) (f' j) := by
  have hce := k.2 a q hq
  rw [hc] at hce
  obtain ⟨ad, e2⟩ := q
  match e2, hce with
  | .inl (cA, n', .inr (.inr (.inr (.inr f')))), hce => obtain ⟨h1, h2, rfl, h4⟩ := hce; exact ⟨ad, cA, f', rfl, h1, h2, h4⟩
theorem xHr.any {G : xG} {h : xH} {all : va_W} {a : Nat} {z : ClassId × vp_A} {q : Nat × va_E} (k : xHr G h all) (hq : all[a]? = some q) (hc : h.2 a = .inl z) : ∃ (ad : Nat) (cA : ClassId) (x : vp_A), q = (ad, .inl (cA, x)) ∧ G.2.1[z.1]? = some (cA, xAT z.1) ∧ x.1 = z.2.1 := by
  obtain ⟨t, n, d⟩ := z
  match d, hc with
  | .inl f, hc => obtain ⟨ad, cA, rfl, h1, -⟩ := k.arr hq hc; exact ⟨ad, cA, _, rfl, h1, rfl⟩
  | .inr (.inr (.inr (.inr f))), hc => obtain ⟨ad, cA, f', rfl, h1, -⟩ := k.arq hq hc; exact ⟨ad, cA, _, rfl, h1, rfl⟩
  | .inr (.inl f), hc => have hce := k.2 a q hq; rw [hc] at hce; exact hce.elim
  | .inr (.inr (.inl f)), hc => have hce := k.2 a q hq; rw [hc] at hce; exact hce.elim
  | .inr (.inr (.inr (.inl f))), hc => have hce := k.2 a q hq; rw [hc] at hce; exact hce.elim
theorem xro_get {ro ws : va_W} {a : Nat} {q : Nat × va_E} (hl : ro.length = xN0) (ha : ¬ xN0 ≤ a) (h : (ro ++ ws)[a]? = some q) : ro[a]? = some q := by rw [List.getElem?_append_left (by omega)] at h; exact h
theorem xws_get {ro ws : va_W} {a : Nat} (hl : ro.length = xN0) (ha : xN0 ≤ a) : (ro ++ ws)[a]? = ws[a - xN0]? := by rw [List.getElem?_append_right (by omega), hl]
theorem xws_set {ro ws : va_W} {a : Nat} {x : Nat × va_E} (hl : ro.length = xN0) (ha : xN0 ≤ a) : (ro ++ ws).set a x = ro ++ ws.set (a - xN0) x := by rw [List.set_append_right _ _ (by omega), hl]
theorem xwant_in {i : Int32} {n : Nat} (h : xwant i n = true) : vp_in i n := of_decide_eq_true (p := ¬ (i < 0 ∨ n ≤ i.toNatClampNeg)) h
theorem xfit_ok {mi : Nat} {all : va_W} {ty : FieldType} {v w : Value} (h : xfit ty v = true) (k : xV mi all v w) : fits ty w = true := by
  unfold xfit at h
  split at h
  · rw [show w = _ from k]; rfl
  · rw [show w = _ from k]; rfl
  · rw [show w = _ from k]; exact h
  · rw [show w = _ from k]; exact h
  · obtain ⟨q, -, rfl⟩ := k; rfl
  · rw [show w = _ from k]; rfl
  · obtain ⟨q, -, rfl⟩ := k; rfl
  · rw [show w = _ from k]; rfl
  · cases h
theorem xldcSW {p : Program} {l : Launch} {e : Env} {R : Room} {s : State} {m : MethodId} {args : Array Value} {below : List Frame} {meth : Method} {c : Code} {H : Heap} {locs : List Loc} {cells slots : Nat} {Q : State → Prop} {cc : ByteArray} {pc : Nat} {ls : Array Slot} {rest : List Value} (hexec : p.tables.exec = Jvm.exec) (hb : c.code = cc) {own tx : String} {index q : Nat} (hown : s.vm.findClass own = some m.cls) (hZ : vk_R own index tx q s) (hdg : decode cc pc = .ok (.ldc_w index, 3))
    (k : W p l e R s m args below meth c H locs cells slots Q (F0 m (pc + 3) ls (.ref q :: rest))) : W p l e R s m args below meth c H locs cells slots Q (F0 m pc ls rest) := by
  intro T hT X
  obtain ⟨t, a1, b1⟩ := k T hT X
  exact ⟨t, X.ldcStringW hexec hown (text := tx) (a := q) hZ.1 hZ.2 (g := F0 m pc ls rest) rfl (by rw [hb]; exact hdg) t a1, b1⟩
theorem xcopyB {p : Program} {l : Launch} {e : Env} {R : Room} {s : State} {m : MethodId} {args : Array Value} {below : List Frame} {meth : Method} {c : Code} {H : Heap} {locs : List Loc} {cells slots : Nat} {Q : State → Prop} {cc : ByteArray} {pc : Nat} {ls : Array Slot} {rest : List Value} {D : va_G} {cl : List vw_C} {A : Nat → Prop} {a : Nat} {tys : List (ClassId × FieldType)} {ws : va_W} {H0 : Heap} {own : String} {index : Nat}
    (hexec : p.tables.exec = Jvm.exec) (hb : c.code = cc) (hml : c.maxLocals = ls.size) (hown : s.vm.findClass own = some m.cls) (hlink : (Cond.methodLink own index arraycopyName).before args s = true) (hnat : (Cond.native arraycopyName).before args s = true) (hstat : (Cond.static arraycopyName).before args s = true) (hini : (Cond.initialized "java/lang/System").before args s = true)
    (hK : va_K D cl tys s) (hP : va_P D cl ws H) (hD : va_D A ws) (hS : va_S A H0 H locs) (q1 t1 : Nat) {a0 : Nat} {c0 c1 : ClassId} {n0 n1 : Nat} {f g : Nat → Int32} (hc0 : H[a0]? = some (vp_cell c0 (n0, .inl f))) (ha1 : ws[q1]? = some (a, .inl (c1, n1, .inl g))) (ht0 : tys[t1]? = some (c0, .byte)) (ht1 : tys[t1]? = some (c1, .byte))
    {sp dp n : Int32} (h1 : ¬ sp < 0) (h2 : ¬ dp < 0) (h3 : ¬ n < 0) (h4 : sp.toNatClampNeg + n.toNatClampNeg ≤ n0) (h5 : dp.toNatClampNeg + n.toNatClampNeg ≤ n1) (hfit : ∀ i : Nat, i < n.toNatClampNeg → fits .byte (.int (f (sp.toNatClampNeg + i))) = true)
    (hframes : 1 ≤ R.frames) (hlocals : (rest.map fun v => v.category).sum + (nativeFrameWords "java/lang/System" "arraycopy" 5 + 11) ≤ R.locals) (hdg : decode cc pc = .ok (.invokestatic index, 3))
    (kk : ∀ (H1 : Heap) (locs1 : List Loc), va_P D cl (ws.set q1 (a, .inl (c1, n1, .inl (va_cpy f g sp.toNatClampNeg dp.toNatClampNeg n.toNatClampNeg)))) H1 → va_D A (ws.set q1 (a, .inl (c1, n1, .inl (va_cpy f g sp.toNatClampNeg dp.toNatClampNeg n.toNatClampNeg)))) → va_S A H0 H1 locs1 → W p l e R s m args below meth c H1 locs1 cells slots Q (F0 m (pc + 3) ls rest)) : W p l e R s m args below meth c H locs cells slots Q (F0 m pc ls (.int n :: .int dp :: .ref a :: .int sp :: .ref a0 :: rest)) := by
  have nn : ∀ z : Int32, ¬ z < 0 → z.toInt = ((z.toNatClampNeg : Nat) : Int) := fun z hz => by
    have h0 : 0 ≤ z.toInt := by
      have := Int32.not_lt.mp hz
      simpa using Int32.le_iff_toInt_le.mp this
    show z.toInt = ((z.toInt.toNat : Nat) : Int)
    omega
  intro T hT X
  have hc1 : H[a]? = some (vp_cell c1 (n1, .inl g)) := hP q1 _ ha1
  obtain ⟨-, k0, hk0, cm0, hkk0⟩ := (hK.2 t1 _ ht0).1 n0 (fun j => .int (f j))
  obtain ⟨-, k1, hk1, cm1, hkk1⟩ := (hK.2 t1 _ ht1).1 n1 (fun j => .int (g j))
  obtain ⟨vm', X', step⟩ := X.arraycopy hexec hown hlink hnat hstat hini (src := a0) (dst := a) (cs := vp_cell c0 (n0, .inl f)) (cd := vp_cell c1 (n1, .inl g)) (srcPos := sp) (destPos := dp) (n := n) (by rw [hT]; exact hc0) (by rw [hT]; exact hc1)
    (fun _ h => by cases h) (fun _ h => by cases h) (fun h => by cases h) (fun h => by cases h) hk0 hk1 hkk0 hkk1 (by simp [refKind]) h1 h2 h3
    (by rw [nn sp h1, nn n h3]; show ¬ _ > ((arrV c0 n0 (fun j => .int (f j))).slots.size : Int); rw [arrV_size]; omega)
    (by rw [nn dp h2, nn n h3]; show ¬ _ > ((arrV c1 n1 (fun j => .int (g j))).slots.size : Int); rw [arrV_size]; omega)
    (fun vm₁ _ i hi => by
      have e : (vp_cell c0 (n0, .inl f)).slots.getD (sp.toNatClampNeg + i) .null = .int (f (sp.toNatClampNeg + i)) := by
        show (arrV c0 n0 (fun j => .int (f j))).slots.getD _ _ = _
        rw [Array.getD_eq_getD_getElem?, arrV_read _ _ (by omega)]
        rfl
      refine ⟨?_, ?_⟩
      · rw [e]
        exact hfit i hi
      · rw [e]
        exact trivial)
    (g := F0 m pc ls (.int n :: .int dp :: .ref a :: .int sp :: .ref a0 :: rest)) rfl (by rw [hml]) (rest := rest) rfl (by rw [hb]; exact hdg) hframes (by show 2 * 0 + _ + _ ≤ _; omega)
  have e1 : copied (vp_cell c0 (n0, .inl f)) (vp_cell c1 (n1, .inl g)) sp dp n = vp_cell c1 (n1, .inl (va_cpy f g sp.toNatClampNeg dp.toNatClampNeg n.toNatClampNeg)) := va_copied (fun z => .int z) c0 c1 f g h4
  rw [e1] at X' step
  have hl : a < H.size := (Array.getElem?_eq_some_iff.mp hc1).1
  have hheap : ((T.setVm vm').setCell a (vp_cell c1 (n1, .inl (va_cpy f g sp.toNatClampNeg dp.toNatClampNeg n.toNatClampNeg)))).heap = H.setIfInBounds a (vp_cell c1 (n1, .inl (va_cpy f g sp.toNatClampNeg dp.toNatClampNeg n.toNatClampNeg))) := by rw [← hT]; rfl
  have oq : ∀ q : Nat, q ≠ a → (H.setIfInBounds a (vp_cell c1 (n1, .inl (va_cpy f g sp.toNatClampNeg dp.toNatClampNeg n.toNatClampNeg))))[q]? = H[q]? := fun q hq => by simp [Array.getElem?_setIfInBounds, Ne.symm hq]
  obtain ⟨t, a1, b1⟩ := kk _ _ (hP.set hD ha1 (show (H.setIfInBounds a _)[a]? = some _ by simp [Array.getElem?_setIfInBounds, hl]) oq) (hD.set ha1) ⟨by simp; exact hS.1, fun q g1 g2 => by
      rw [oq q (fun e => g2 (by rw [e]; exact hD.2 q1 _ ha1))]
      exact hS.2.1 q g1 g2, fun q hq => by
      rcases List.mem_append.mp hq with h | h
      · exact hS.2.2 q h
      · obtain ⟨z, -, hz⟩ := List.mem_map.mp h
        rw [← hz]
        exact hD.2 q1 _ ha1⟩ _ hheap X'
  exact ⟨t, step t a1, b1⟩
theorem va_RA.fc {U : State} {cA : ClassId} {ty : FieldType} (h : va_RA U cA ty) : U.vm.findClass ("[" ++ ty.toString) = some cA := by
  cases ty with
  | object C => obtain ⟨_, _, _, _, _, h⟩ := h; exact h
  | _ => exact h
theorem xAT_inj {U : State} {cA : ClassId} {t t0 : Nat} (h : U.vm.findClass ("[" ++ (xAT t).toString) = some cA) (h0 : U.vm.findClass ("[" ++ (xAT t0).toString) = some cA) (ht : t < 3) (ht0 : t0 < 3) : t = t0 := by
  obtain ⟨k, h1, h2⟩ := Vm.findClass_spec h
  obtain ⟨k0, h3, h4⟩ := Vm.findClass_spec h0
  rw [h1] at h3
  cases h3
  have h5 : "[" ++ (xAT t).toString = "[" ++ (xAT t0).toString := h2.symm.trans h4
  match t, t0, ht, ht0 with
  | 0, 0, _, _ | 1, 1, _, _ | 2, 2, _, _ => rfl
  | 0, 1, _, _ | 0, 2, _, _ | 1, 0, _, _ | 1, 2, _, _ | 2, 0, _, _ | 2, 1, _, _ => exact absurd h5 (by decide)
/-- a table that is only read -/
theorem xRc.arr {G : xG} {s : State} {H : Heap} {ad n t : Nat} {cA : ClassId} {f : Nat → Int32} (hK : va_K G.1 vwCl G.2.1 s) (h : xRc G (ad, .inl (cA, n, .inl f)) s H) (ht : G.2.1[t]? = some (cA, xAT t)) (h3 : t < 3) : va_T (xAT t) ad n (fun j => .int (f j)) (fun q => G.2.2.2.1 ≤ q) s H := by
  obtain ⟨t0, h1, h2, h4⟩ := h
  have e : t = t0 := xAT_inj (hK.2 t _ ht).2.fc (hK.2 t0 _ h2).2.fc h3 h1
  rw [e]; exact h4
/-- the class of an object, wherever it stands -/
theorem xrecvP {G : xG} {s : State} {H : Heap} {locs : List Loc} {ws : va_W} {b ad c0 : Nat} {fs : List Value} (hK : va_K G.1 vwCl G.2.1 s) (hSh : xSh G s s.heap) (hS : va_S (fun q => G.2.2.2.1 ≤ q) s.heap H locs) (hP : va_P G.1 vwCl ws H) (hq : (G.2.2.1 ++ ws)[b]? = some (ad, .inr (c0, fs))) : ∃ r : vw_C, vwCl[c0]? = some r ∧ ∃ cell : Cell, H[ad]? = some cell ∧ cell.vm.isStatics = false ∧ s.vm.findClass r.1 = some cell.cls := by
  by_cases hb : xN0 ≤ b
  · rw [xws_get hSh.2.2.1 hb] at hq
    obtain ⟨r, hr, -⟩ := id (hP _ _ hq)
    exact ⟨r, hr, va_recv hK hP hr hq⟩
  · obtain ⟨-, r, hr, h2, -⟩ := hSh.1 b _ (xro_get hSh.2.2.1 hb hq)
    exact ⟨r, hr, va_Orecv h2 hS⟩
theorem xCe.ty {G : xG} {all : va_W} {e : va_E} {cA : ClassId} {x : vp_A} (k : xCe G all e (.inl (cA, x))) : ∃ t : Nat, t < 4 ∧ G.2.1[t]? = some (cA, xAT t) := by
  unfold xCe at k
  split at k
  · rename_i heq; cases heq
  · rename_i heq; cases heq; exact ⟨_, Nat.lt_trans k.2.1 (by decide), k.1⟩
  · rename_i heq; cases heq; exact ⟨_, by rw [k.2.1]; decide, k.1⟩
  · exact k.elim
/-- any cell of the world may stand in an Object[] -/
theorem xAnyO {G : xG} {s : State} {H : Heap} {ws : va_W} {k : Nat} {h : xH} {q : Nat × va_E} (hSv : xSv G s) (hl : G.2.2.1.length = xN0) (hP : va_P G.1 vwCl ws H) (hHr : xHr G h (G.2.2.1 ++ ws)) (hk : xN0 ≤ k) (hq0 : (G.2.2.1 ++ ws)[k]? = some q) : va_Any "java/lang/Object" s H q.1 := by
  obtain ⟨hK, hT4, hMi, hAO, hDc, hca, hcb⟩ := hSv
  have hq := hq0
  rw [xws_get hl hk] at hq
  obtain ⟨ad, e2⟩ := q
  have has : ∀ {C : String} (c0 comp : ClassId), va_Nw (.castable C "java/lang/Object") s → s.vm.findClass C = some c0 → s.vm.findClass "java/lang/Object" = some comp → s.vm.assignable c0 comp = true := by
    intro C c0 comp hc h1 h2
    obtain ⟨c3, c4, h3, h4, h5⟩ := Cond.castable_spec (show (Cond.castable C "java/lang/Object").before #[] s = true from hc)
    cases h1.symm.trans h3
    cases h2.symm.trans h4
    exact h5
  cases e2 with
  | inr o =>
    obtain ⟨ci, fs⟩ := o
    obtain ⟨r, hr, -⟩ := hP _ _ hq
    exact va_rAny hK hP hq hr (fun comp c0 h1 h2 => has c0 comp (hca r (List.mem_of_getElem? hr)) h2 h1)
  | inl z =>
    obtain ⟨cA, x⟩ := z
    obtain ⟨t, ht4, ht⟩ := xCe.ty (hHr.2 k _ hq0)
    have hfc := (hK.2 t _ ht).2.fc
    have hcell : H[ad]? = some (vp_cell cA x) := hP _ _ hq
    obtain ⟨kC, hkC, -⟩ := Vm.findClass_spec hfc
    have hcls : (vp_cell cA x).cls = cA ∧ (vp_cell cA x).vm.isStatics = false := by
      obtain ⟨n, d⟩ := x
      match d with
      | .inl f => exact ⟨rfl, rfl⟩
      | .inr (.inl f) => exact ⟨rfl, rfl⟩
      | .inr (.inr (.inl f)) => exact ⟨rfl, rfl⟩
      | .inr (.inr (.inr (.inl f))) => exact ⟨rfl, rfl⟩
      | .inr (.inr (.inr (.inr f))) => exact ⟨rfl, rfl⟩
    exact ⟨_, hcell, hcls.2, ⟨kC, by rw [hcls.1]; exact hkC⟩, fun comp h => by rw [hcls.1]; exact has cA comp (hcb t ht4) hfc h⟩
theorem xfresh_rel {mi : Nat} {all : va_W} (ci n : Nat) : xVs mi all (xfresh ci n) (xfresh ci n) := by
  have key : ∀ (ks : List Nat), xVs mi all (ks.map fun k => defaultValue (xty ci k)) (ks.map fun k => defaultValue (xty ci k)) := by
    intro ks
    induction ks with
    | nil => trivial
    | cons k ks ih =>
      refine ⟨?_, ih⟩
      show xV mi all (defaultValue (xty ci k)) (defaultValue (xty ci k))
      generalize xty ci k = ty
      cases ty <;> exact (rfl : (_ : Value) = _)
  exact key _
section XSH
variable {p : Program} {l : Launch} {e : Env} {R : Room} {s : State} {m : MethodId} {args : Array Value} {below : List Frame} {meth : Method} {c : Code} {H : Heap} {locs : List Loc} {cells slots : Nat} {Q : State → Prop}
  {cc : ByteArray} {pc : Nat} {ls : Array Slot} {G : xG} {ws : va_W} {st st' cst : List Value} {own : String} {h h' : xH} {dc ds : Nat}
theorem snd_heap (hexec : p.tables.exec = Jvm.exec) (hb : c.code = cc) (hts : ∀ w ∈ xTB, w.before args s = true) (hown : s.vm.findClass own = some m.cls) (hml : c.maxLocals = ls.size) {i : Instr} {an : List Nat} (hx : xheap i an st h = some (st', h', dc, ds)) (hd : decode cc pc = .ok (i, xlen i))
    (hn : ∀ w ∈ xneed own i an, w.before args s = true) (hok : xok own meth.name i an = true) (hSv : xSv G s) (hSs : xSs G s) (hSh : xSh G s s.heap) (hRf : 1 ≤ R.frames) (hRl : 100 ≤ R.locals)
    (hHr : xHr G h (G.2.2.1 ++ ws)) (hP : va_P G.1 vwCl ws H) (hD : va_D (fun q => G.2.2.2.1 ≤ q) ws) (hS : va_S (fun q => G.2.2.2.1 ≤ q) s.heap H locs) (hV : xVs G.2.2.2.2 (G.2.2.1 ++ ws) st cst) (hc : cells + dc ≤ R.cells) (hs : slots + ds ≤ R.slots)
    (kk : ∀ (cst' : List Value) (ws' : va_W) (H' : Heap) (locs' : List Loc), xLe (G.2.2.1 ++ ws) (G.2.2.1 ++ ws') → xHr G h' (G.2.2.1 ++ ws') → va_P G.1 vwCl ws' H' → va_D (fun q => G.2.2.2.1 ≤ q) ws' → va_S (fun q => G.2.2.2.1 ≤ q) s.heap H' locs' → xVs G.2.2.2.2 (G.2.2.1 ++ ws') st' cst' →
      W p l e R s m args below meth c H' locs' (cells + dc) (slots + ds) Q (F0 m (pc + xlen i) ls cst')) : W p l e R s m args below meth c H locs cells slots Q (F0 m pc ls cst) := by
  obtain ⟨hK, hT4, hMi, hAO, hDc, hca, hcb⟩ := id hSv
  have hA : ∀ q, s.heap.size ≤ q → G.2.2.2.1 ≤ q := fun q hq => Nat.le_trans hSh.2.2.2.1 hq
  cases i with
  | getfield idx =>
    unfold xheap at hx; dsimp only at hx
    split at hx
    · rename_i a r ci k an
      split at hx
      · rename_i hg
        split at hx
        · rename_i ci' fs hcell
          split at hx
          · rename_i hci
            split at hx
            · rename_i v hv
              cases hx
              subst hci
              obtain ⟨q, cr, rfl, hq, hr⟩ := hV.refs
              have hce := hHr.2 a q hq
              rw [hcell] at hce
              obtain ⟨ad, e2⟩ := q
              cases e2 with
              | inl z => exact hce.elim
              | inr o =>
                obtain ⟨c2, fs'⟩ := o
                obtain ⟨rfl, hfs⟩ := hce
                obtain ⟨w, hw, hvw⟩ := hfs.get hv
                unfold xok at hok; dsimp only at hok
                split at hok
                · rename_i ci k kind an heq
                  cases heq
                  split at hok
                  · rename_i C T N hcl
                    simp only [Bool.and_eq_true, decide_eq_true_eq] at hok
                    have hw2 := xcl_words _ (List.mem_of_getElem? hcl)
                    unfold xneed at hn; dsimp only at hn
                    rw [hcl] at hn; dsimp only at hn
                    have hkk := kk (w :: cr) ws H locs xLe.rf hHr hP hD hS ⟨hvw, hr⟩
                    by_cases hxa : xN0 ≤ a
                    · rw [xws_get hSh.2.2.1 hxa] at hq
                      match kind, hok.1.2 with
                      | 0, _ => exact va_get hexec hb hts hw2 hown hK hP (a - xN0) hq hcl k hok.1.1 (hn _ List.mem_cons_self) (fun _ h9 => h9) hw hd hkk
                      | 1, _ => exact va_get hexec hb hts hw2 hown hK hP (a - xN0) hq hcl k hok.1.1 (hn _ List.mem_cons_self) (u_same (hn _ (List.mem_cons_of_mem _ List.mem_cons_self))) hw hd hkk
                      | 2, _ => exact va_getN hexec hb hts hw2 hown hK hP (a - xN0) hq hcl k hok.1.1 (hn _ List.mem_cons_self) (fun _ h9 => h9) hw hd hkk
                      | 3, _ => exact va_getN hexec hb hts hw2 hown hK hP (a - xN0) hq hcl k hok.1.1 (hn _ List.mem_cons_self) (fun _ h9 => h9) hw hd hkk
                    · obtain ⟨hc0, r0, hr0, -, hof⟩ := hSh.1 a _ (xro_get hSh.2.2.1 hxa hq)
                      rw [hcl] at hr0
                      cases hr0
                      have hk2 : k < 2 := by
                        have h9 := hg.2
                        rw [hc0] at h9
                        exact Nat.not_le.mp fun h8 => by rw [Nat.ble_eq_true_of_le h8] at h9; exact absurd h9 (by decide)
                      have hkd : kind < 2 := by
                        have h9 := hok.2
                        rw [hc0] at h9
                        simpa using h9
                      match kind, hkd with
                      | 0, _ => exact vk_getf hexec hb (hof k w hk2 hw) hS hown (hn _ List.mem_cons_self) (fun _ h9 => h9) hd hkk
                      | 1, _ => exact vk_getf hexec hb (hof k w hk2 hw) hS hown (hn _ List.mem_cons_self) (u_same (hn _ (List.mem_cons_of_mem _ List.mem_cons_self))) hd hkk
                  · cases hok
                · cases hok
            · cases hx
          · cases hx
        · cases hx
      · cases hx
    · cases hx
  | putfield idx =>
    unfold xheap at hx; dsimp only at hx
    split at hx
    · rename_i v a r ci k an
      split at hx
      · rename_i hg
        obtain ⟨ha, ha0, hfit⟩ := hg
        split at hx
        · rename_i ci' fs hcell
          split at hx
          · rename_i hci
            obtain ⟨rfl, hkl⟩ := hci
            cases hx
            obtain ⟨w, cr0, rfl, hvw, hr0⟩ := hV.cons
            obtain ⟨q, cr, rfl, hq, hr⟩ := hr0.refs
            obtain ⟨ad, fs', rfl, hfs⟩ := hHr.obj hq hcell
            have hq2 := hq
            rw [xws_get hSh.2.2.1 ha0] at hq2
            unfold xok at hok; dsimp only at hok
            split at hok
            · rename_i ci k kind an heq
              cases heq
              split at hok
              · rename_i C T N hcl
                simp only [Bool.and_eq_true, decide_eq_true_eq] at hok
                have hw2 := xcl_words _ (List.mem_of_getElem? hcl)
                obtain ⟨hnm, hty⟩ := xcl_names _ _ _ _ hcl
                have hfw := xfit_ok hfit hvw
                have hnw := narrow_of_fits hfw
                unfold xneed at hn; dsimp only at hn
                rw [hcl] at hn; dsimp only at hn
                have hHr2 : xHr G (xset h a (.inr (ci', fs.set k v))) (G.2.2.1 ++ ws.set (a - xN0) (ad, .inr (ci', fs'.set k w))) := by
                  rw [← xws_set hSh.2.2.1 ha0]
                  exact hHr.set hq ⟨rfl, hfs.set hvw⟩
                have hle : xLe (G.2.2.1 ++ ws) (G.2.2.1 ++ ws.set (a - xN0) (ad, .inr (ci', fs'.set k w))) := by
                  rw [← xws_set hSh.2.2.1 ha0]; exact xLe.set hq
                have hkk := fun (H1 : Heap) (locs1 : List Loc) a1 a2 a3 => kk cr (ws.set (a - xN0) (ad, .inr (ci', fs'.set k w))) H1 locs1 hle hHr2 a1 a2 a3 (hr.mono hle)
                have hkf : k < fs'.length := by rw [hfs.len]; exact hkl
                match kind, hok.2 with
                | 0, hk2 => exact va_put hexec hb hts hw2 (xty ci') hty hnm hown hK hP hD hS (a - xN0) hq2 hcl k hok.1 (hn _ List.mem_cons_self) (fun _ h9 => h9) (by simpa using hk2) (hty k hok.1) hnw hfw hkf hd hkk
                | 1, hk2 => exact va_put hexec hb hts hw2 (xty ci') hty hnm hown hK hP hD hS (a - xN0) hq2 hcl k hok.1 (hn _ List.mem_cons_self) (u_same (hn _ (List.mem_cons_of_mem _ List.mem_cons_self))) (by simpa using hk2) (hty k hok.1) hnw hfw hkf hd hkk
                | 2, hk2 => exact va_putN hexec hb hts hw2 (xty ci') hty hnm hown hK hP hD hS (a - xN0) hq2 hcl k hok.1 (hn _ List.mem_cons_self) (fun _ h9 => h9) (by simpa using hk2) (hty k hok.1) hnw hfw hkf hd hkk
                | 3, hk2 =>
                  simp only [Bool.and_eq_true, decide_eq_true_eq] at hk2
                  exact va_putF hexec hb hts hw2 (xty ci') hty hnm hown hK hP hD hS (a - xN0) hq2 hcl k hok.1 (hn _ List.mem_cons_self) (fun _ h9 => h9) hk2.1.1 hk2.1.2 hk2.2 (hty k hok.1) hnw hfw hkf hd hkk
                | n + 4, hk2 => simp at hk2; omega
              · cases hok
            · cases hok
          · cases hx
        · cases hx
      · cases hx
    · cases hx
  | iaload =>
    unfold xheap at hx; dsimp only at hx
    split at hx
    · rename_i i a r
      split at hx
      · split at hx
        · rename_i n f hcell
          split at hx
          · rename_i hw
            cases hx
            obtain ⟨cr0, rfl, hr0⟩ := hV.ints
            obtain ⟨q, cr, rfl, hq, hr⟩ := hr0.refs
            obtain ⟨ad, cA, rfl, ht, -⟩ := hHr.arr hq hcell
            by_cases hxa : xN0 ≤ a
            · rw [xws_get hSh.2.2.1 hxa] at hq
              exact va_iald hexec hb hK hP (a - xN0) 0 hq ht (xwant_in hw) hd (kk _ ws H locs xLe.rf hHr hP hD hS ⟨rfl, hr⟩)
            · exact va_ti hexec hb ((hSh.1 a _ (xro_get hSh.2.2.1 hxa hq)).arr hK ht (by decide)) hS (xwant_in hw) rfl hd (kk _ ws H locs xLe.rf hHr hP hD hS ⟨rfl, hr⟩)
          · cases hx
        · cases hx
      · cases hx
    · cases hx
  | baload =>
    unfold xheap at hx; dsimp only at hx
    split at hx
    · rename_i i a r
      split at hx
      · split at hx
        · rename_i n f hcell
          split at hx
          · rename_i hw
            cases hx
            obtain ⟨cr0, rfl, hr0⟩ := hV.ints
            obtain ⟨q, cr, rfl, hq, hr⟩ := hr0.refs
            obtain ⟨ad, cA, rfl, ht, -⟩ := hHr.arr hq hcell
            by_cases hxa : xN0 ≤ a
            · rw [xws_get hSh.2.2.1 hxa] at hq
              exact va_zald hexec hb hK hP (a - xN0) 1 hq ht (xwant_in hw) hd (kk _ ws H locs xLe.rf hHr hP hD hS ⟨rfl, hr⟩)
            · exact va_tz hexec hb ((hSh.1 a _ (xro_get hSh.2.2.1 hxa hq)).arr hK ht (by decide)) hS (xwant_in hw) rfl hd (kk _ ws H locs xLe.rf hHr hP hD hS ⟨rfl, hr⟩)
          · cases hx
        · rename_i n f hcell
          split at hx
          · rename_i hw
            cases hx
            obtain ⟨cr0, rfl, hr0⟩ := hV.ints
            obtain ⟨q, cr, rfl, hq, hr⟩ := hr0.refs
            obtain ⟨ad, cA, rfl, ht, -⟩ := hHr.arr hq hcell
            by_cases hxa : xN0 ≤ a
            · rw [xws_get hSh.2.2.1 hxa] at hq
              exact va_bald hexec hb hK hP (a - xN0) 2 hq ht (xwant_in hw) hd (kk _ ws H locs xLe.rf hHr hP hD hS ⟨rfl, hr⟩)
            · exact va_tb hexec hb ((hSh.1 a _ (xro_get hSh.2.2.1 hxa hq)).arr hK ht (by decide)) hS (xwant_in hw) rfl hd (kk _ ws H locs xLe.rf hHr hP hD hS ⟨rfl, hr⟩)
          · cases hx
        · cases hx
      · cases hx
    · cases hx
  | aaload =>
    unfold xheap at hx; dsimp only at hx
    split at hx
    · rename_i i a r
      split at hx
      · split at hx
        · rename_i n f hcell
          split at hx
          · rename_i hw
            cases hx
            obtain ⟨cr0, rfl, hr0⟩ := hV.ints
            obtain ⟨q, cr, rfl, hq, hr⟩ := hr0.refs
            obtain ⟨ad, cA, f', rfl, ht, -, hf⟩ := hHr.arq hq hcell
            have hxa : xN0 ≤ a := by
              refine Classical.byContradiction fun hxa => ?_
              obtain ⟨hn0, -⟩ := hSh.1 a _ (xro_get hSh.2.2.1 hxa hq)
              have h9 := xwant_in hw
              rw [hn0] at h9
              exact h9 (Or.inr (Nat.zero_le _))
            rw [xws_get hSh.2.2.1 hxa] at hq
            refine va_aldq hexec hb hK hP (a - xN0) 3 hq ht (xwant_in hw) hd (kk _ ws H locs xLe.rf hHr hP hD hS ⟨?_, hr⟩)
            have hj := hf i.toNatClampNeg
            cases hfi : f i.toNatClampNeg with
            | none => rw [hfi] at hj; rw [show f' _ = none from hj]; rfl
            | some k => rw [hfi] at hj; obtain ⟨-, q, h1, h2⟩ := hj; rw [h2]; exact ⟨q, h1, rfl⟩
          · cases hx
        · cases hx
      · cases hx
    · cases hx
  | iastore =>
    unfold xheap at hx; dsimp only at hx
    split at hx
    · rename_i x i a r
      split at hx
      · rename_i hg
        obtain ⟨ha, ha0⟩ := hg
        split at hx
        · rename_i n f hcell
          split at hx
          · rename_i hw
            cases hx
            obtain ⟨cr1, rfl, hr1⟩ := hV.ints
            obtain ⟨cr0, rfl, hr0⟩ := hr1.ints
            obtain ⟨q, cr, rfl, hq, hr⟩ := hr0.refs
            obtain ⟨ad, cA, rfl, ht, h3⟩ := hHr.arr hq hcell
            have hq2 := hq
            rw [xws_get hSh.2.2.1 ha0] at hq2
            refine va_iast hexec hb hK hP hD hS (a - xN0) 0 hq2 ht (xwant_in hw) hd (fun H1 locs1 a1 a2 a3 => kk _ _ H1 locs1 ?_ ?_ a1 a2 a3 (hr.mono ?_))
            · rw [← xws_set hSh.2.2.1 ha0]; exact xLe.set hq
            · rw [← xws_set hSh.2.2.1 ha0]; exact hHr.set hq ⟨ht, h3, rfl, rfl⟩
            · rw [← xws_set hSh.2.2.1 ha0]; exact xLe.set hq
          · cases hx
        · cases hx
      · cases hx
    · cases hx
  | bastore =>
    unfold xheap at hx; dsimp only at hx
    split at hx
    · rename_i x i a r
      split at hx
      · rename_i hg
        obtain ⟨ha, ha0⟩ := hg
        split at hx
        · rename_i n f hcell
          split at hx
          · rename_i hw
            obtain ⟨hw, hx2⟩ := hw
            cases hx
            obtain ⟨cr1, rfl, hr1⟩ := hV.ints
            obtain ⟨cr0, rfl, hr0⟩ := hr1.ints
            obtain ⟨q, cr, rfl, hq, hr⟩ := hr0.refs
            obtain ⟨ad, cA, rfl, ht, h3⟩ := hHr.arr hq hcell
            have hq2 := hq
            rw [xws_get hSh.2.2.1 ha0] at hq2
            refine va_zast hexec hb hK hP hD hS (a - xN0) 1 hq2 ht (xwant_in hw) hd (fun H1 locs1 a1 a2 a3 => kk _ _ H1 locs1 ?_ ?_ a1 a2 a3 (hr.mono ?_))
            · rw [← xws_set hSh.2.2.1 ha0]; exact xLe.set hq
            · rw [← xws_set hSh.2.2.1 ha0, hx2]; exact hHr.set hq ⟨ht, h3, rfl, rfl⟩
            · rw [← xws_set hSh.2.2.1 ha0]; exact xLe.set hq
          · cases hx
        · rename_i n f hcell
          split at hx
          · rename_i hw
            obtain ⟨hw, hx2⟩ := hw
            cases hx
            obtain ⟨cr1, rfl, hr1⟩ := hV.ints
            obtain ⟨cr0, rfl, hr0⟩ := hr1.ints
            obtain ⟨q, cr, rfl, hq, hr⟩ := hr0.refs
            obtain ⟨ad, cA, rfl, ht, h3⟩ := hHr.arr hq hcell
            have hq2 := hq
            rw [xws_get hSh.2.2.1 ha0] at hq2
            refine va_bast hexec hb hK hP hD hS (a - xN0) 2 hq2 ht (xwant_in hw) hd (fun H1 locs1 a1 a2 a3 => kk _ _ H1 locs1 ?_ ?_ a1 a2 a3 (hr.mono ?_))
            · rw [← xws_set hSh.2.2.1 ha0]; exact xLe.set hq
            · rw [← xws_set hSh.2.2.1 ha0, hx2]; exact hHr.set hq ⟨ht, h3, rfl, rfl⟩
            · rw [← xws_set hSh.2.2.1 ha0]; exact xLe.set hq
          · cases hx
        · cases hx
      · cases hx
    · cases hx
  | arraylength =>
    unfold xheap at hx; dsimp only at hx
    split at hx
    · rename_i a r
      split at hx
      · split at hx
        · rename_i t n d hcell
          cases hx
          obtain ⟨q, cr, rfl, hq, hr⟩ := hV.refs
          obtain ⟨ad, cA, x, rfl, ht, hxn⟩ := hHr.any hq hcell
          have hkk := kk (.int (Int32.ofNat n) :: cr) ws H locs xLe.rf hHr hP hD hS ⟨rfl, hr⟩
          by_cases hxa : xN0 ≤ a
          · rw [xws_get hSh.2.2.1 hxa] at hq
            exact va_alen hexec hb hK hP (a - xN0) t hq ht (by rw [hxn]) hd hkk
          · have hrc := hSh.1 a _ (xro_get hSh.2.2.1 hxa hq)
            have hxn : x.1 = n := hxn
            obtain ⟨n', x⟩ := x
            cases (show n' = n from hxn)
            match x, hrc with
            | .inl f, hrc =>
              obtain ⟨t0, -, -, h4⟩ := hrc
              exact va_tlen hexec hb h4 hS rfl hd hkk
            | .inr (.inr (.inr (.inr f))), hrc =>
              obtain ⟨hn0, h4⟩ := hrc
              exact va_tlen hexec hb h4 hS (by rw [hn0]) hd hkk
            | .inr (.inl f), hrc => exact hrc.elim
            | .inr (.inr (.inl f)), hrc => exact hrc.elim
            | .inr (.inr (.inr (.inl f))), hrc => exact hrc.elim
        · cases hx
      · cases hx
    · cases hx
  | aastore =>
    unfold xheap at hx; dsimp only at hx
    split at hx
    · rename_i x i a r
      split at hx
      · rename_i hg
        obtain ⟨ha, ha0, hx1, hx0⟩ := hg
        split at hx
        · rename_i n f hcell
          split at hx
          · rename_i hw
            cases hx
            obtain ⟨qx, cr1, rfl, hqx, hr1⟩ := hV.refs
            obtain ⟨cr0, rfl, hr0⟩ := hr1.ints
            obtain ⟨q, cr, rfl, hq, hr⟩ := hr0.refs
            obtain ⟨ad, cA, f', rfl, ht, h3, hf⟩ := hHr.arq hq hcell
            have hq2 := hq
            rw [xws_get hSh.2.2.1 ha0] at hq2
            refine va_astqM hexec hb hK hP hD hS (a - xN0) 3 hq2 ht (xAnyO hSv hSh.2.2.1 hP hHr hx0 hqx) (xwant_in hw) hd (fun H1 locs1 a1 a2 a3 => kk _ _ H1 locs1 ?_ ?_ a1 a2 a3 (hr.mono ?_))
            · rw [← xws_set hSh.2.2.1 ha0]; exact xLe.set hq
            · rw [← xws_set hSh.2.2.1 ha0]
              refine hHr.set hq ⟨ht, rfl, rfl, fun j => ?_⟩
              unfold va_up
              by_cases hj : j = i.toNatClampNeg
              · rw [if_pos hj, if_pos hj]; exact ⟨hx0, qx, hqx, rfl⟩
              · rw [if_neg hj, if_neg hj]; exact hf j
            · rw [← xws_set hSh.2.2.1 ha0]; exact xLe.set hq
          · cases hx
        · cases hx
      · cases hx
    · cases hx
  | invokestatic idx =>
    unfold xheap at hx; dsimp only at hx
    split at hx
    · rename_i n dp b sp a r
      split at hx
      · rename_i hg
        obtain ⟨han, ha, hb1, hb0, hab, hsp, hdp, hn0, hsum⟩ := hg
        have hloc : ∀ {cr : List Value}, xVs G.2.2.2.2 (G.2.2.1 ++ ws) r cr → (cr.map fun v => v.category).sum + (nativeFrameWords "java/lang/System" "arraycopy" 5 + 11) ≤ R.locals := by
          intro cr hr
          rw [hr.sum]
          have : nativeFrameWords "java/lang/System" "arraycopy" 5 ≤ 50 := by decide
          omega
        have hnl : ∀ w, w ∈ [Cond.methodLink own idx arraycopyName, .native arraycopyName, .static arraycopyName, .initialized "java/lang/System"] → w.before args s = true := by
          cases an with
          | nil => cases han
          | cons z an => cases (show z = 3 from han); exact hn
        split at hx
        · rename_i m0 f m1 g hca2 hcb2
          split at hx
          · rename_i hw
            obtain ⟨h4, h5, hfit⟩ := hw
            cases hx
            obtain ⟨cr4, rfl, hr4⟩ := hV.ints
            obtain ⟨cr3, rfl, hr3⟩ := hr4.ints
            obtain ⟨qb, cr2, rfl, hqb, hr2⟩ := hr3.refs
            obtain ⟨cr1, rfl, hr1⟩ := hr2.ints
            obtain ⟨qa, cr, rfl, hqa, hr⟩ := hr1.refs
            obtain ⟨ada, cA, rfl, hta, -⟩ := hHr.arr hqa hca2
            obtain ⟨adb, cB, rfl, htb, h3⟩ := hHr.arr hqb hcb2
            have hq2 := hqb
            rw [xws_get hSh.2.2.1 hb0] at hq2
            by_cases hxa : xN0 ≤ a
            · rw [xws_get hSh.2.2.1 hxa] at hqa
              refine xcopyB hexec hb hml hown (hnl _ (by simp)) (hnl _ (by simp)) (hnl _ (by simp)) (hnl _ (by simp)) hK hP hD hS (b - xN0) 2 (hP (a - xN0) _ hqa) hq2 hta htb hsp hdp hn0 h4 h5 hfit hRf (hloc hr) hd (fun H1 locs1 a1 a2 a3 => kk _ _ H1 locs1 ?_ ?_ a1 a2 a3 (hr.mono ?_))
              · rw [← xws_set hSh.2.2.1 hb0]; exact xLe.set hqb
              · rw [← xws_set hSh.2.2.1 hb0]; exact hHr.set hqb ⟨htb, h3, rfl, rfl⟩
              · rw [← xws_set hSh.2.2.1 hb0]; exact xLe.set hqb
            · refine vk_copyt hexec hb hml hown (hnl _ (by simp)) (hnl _ (by simp)) (hnl _ (by simp)) (hnl _ (by simp)) hK hP hD hS ((hSh.1 a _ (xro_get hSh.2.2.1 hxa hqa)).arr hK hta (by decide)) (b - xN0) 2 hq2 htb hsp hdp hn0 h4 h5 hfit hRf (hloc hr) hd (fun H1 locs1 a1 a2 a3 => kk _ _ H1 locs1 ?_ ?_ a1 a2 a3 (hr.mono ?_))
              · rw [← xws_set hSh.2.2.1 hb0]; exact xLe.set hqb
              · rw [← xws_set hSh.2.2.1 hb0]; exact hHr.set hqb ⟨htb, h3, rfl, rfl⟩
              · rw [← xws_set hSh.2.2.1 hb0]; exact xLe.set hqb
          · cases hx
        · rename_i m0 f m1 g hca2 hcb2
          split at hx
          · rename_i hw
            obtain ⟨h4, h5, ha0⟩ := hw
            cases hx
            obtain ⟨cr4, rfl, hr4⟩ := hV.ints
            obtain ⟨cr3, rfl, hr3⟩ := hr4.ints
            obtain ⟨qb, cr2, rfl, hqb, hr2⟩ := hr3.refs
            obtain ⟨cr1, rfl, hr1⟩ := hr2.ints
            obtain ⟨qa, cr, rfl, hqa, hr⟩ := hr1.refs
            obtain ⟨ada, cA, f', rfl, hta, -, hfa⟩ := hHr.arq hqa hca2
            obtain ⟨adb, cB, g', rfl, htb, h3, hfb⟩ := hHr.arq hqb hcb2
            have hq2 := hqb
            rw [xws_get hSh.2.2.1 hb0] at hq2
            have hq1 := hqa
            rw [xws_get hSh.2.2.1 ha0] at hq1
            refine va_copyM hexec hb hml hown (hnl _ (by simp)) (hnl _ (by simp)) (hnl _ (by simp)) (hnl _ (by simp)) hK hP hD hS (a - xN0) (b - xN0) 3 3 hq1 hq2 hta htb hsp hdp hn0 h4 h5 (fun i hi y hy => ?_) hRf (hloc hr) hd (fun H1 locs1 a1 a2 a3 => kk _ _ H1 locs1 ?_ ?_ a1 a2 a3 (hr.mono ?_))
            · have hj := hfa (sp.toNatClampNeg + i)
              rw [hy] at hj
              cases hz : f (sp.toNatClampNeg + i) with
              | none => rw [hz] at hj; cases (show some y = none from hj)
              | some k => rw [hz] at hj; obtain ⟨hk0, q, hq, hqy⟩ := hj; cases hqy; exact xAnyO hSv hSh.2.2.1 hP hHr hk0 hq
            · rw [← xws_set hSh.2.2.1 hb0]; exact xLe.set hqb
            · rw [← xws_set hSh.2.2.1 hb0]
              refine hHr.set hqb ⟨htb, rfl, rfl, fun j => ?_⟩
              unfold va_cpy
              split
              · exact hfa _
              · exact hfb _
            · rw [← xws_set hSh.2.2.1 hb0]; exact xLe.set hqb
          · cases hx
        · cases hx
      · cases hx
    · cases hx
  | invokevirtual idx =>
    unfold xheap at hx; dsimp only at hx
    split at hx
    · rename_i a r
      split at hx
      · rename_i hg
        obtain ⟨han, ha, hxa, hsum⟩ := hg
        split at hx
        · rename_i n d hcell
          cases hx
          have hnl : ∀ w, w ∈ [Cond.methodLink own idx xGC, .selects "[Ljava/lang/Object;" xGC xGC, .instanceMethod xGC, .native xGC] → w.before args s = true := by
            cases an with
            | nil => cases han
            | cons z an => cases (show z = 2 from han); exact hn
          obtain ⟨q, cr, rfl, hq, hr⟩ := hV.refs
          obtain ⟨ad, cA, x, rfl, ht, hxn⟩ := hHr.any hq hcell
          have hfc : s.vm.findClass "[Ljava/lang/Object;" = some cA := (hK.2 3 _ ht).2.fc
          refine va_getC hexec hb hml hown (hnl _ (by simp)) hDc.use (hnl _ (by simp)) (hnl _ (by simp)) (hnl _ (by simp)) hMi ⟨vp_cell cA x, (show va_at G.1 vwCl (ad, .inl (cA, x)) H from hP (a - xN0) _ (by rw [← xws_get hSh.2.2.1 hxa]; exact hq)), ?_, ?_⟩ hRf (by rw [hr.sum]; omega) hd (kk _ ws H locs xLe.rf hHr hP hD hS ⟨rfl, hr⟩)
          · obtain ⟨n, d⟩ := x
            match d with
            | .inl f => rfl
            | .inr (.inl f) => rfl
            | .inr (.inr (.inl f)) => rfl
            | .inr (.inr (.inr (.inl f))) => rfl
            | .inr (.inr (.inr (.inr f))) => rfl
          · rw [hfc]
            obtain ⟨n, d⟩ := x
            match d with
            | .inl f => rfl
            | .inr (.inl f) => rfl
            | .inr (.inr (.inl f)) => rfl
            | .inr (.inr (.inr (.inl f))) => rfl
            | .inr (.inr (.inr (.inr f))) => rfl
        · cases hx
      · split at hx
        · rename_i hg
          obtain ⟨han, ha, ha0, hsum⟩ := hg
          split at hx
          · rename_i n f hcell
            split at hx
            · rename_i hf
              cases hx
              have hnl : ∀ w, w ∈ xCLw own idx → w.before args s = true := by
                cases an with
                | nil => cases han
                | cons z an => cases (show z = 6 from han); exact hn
              obtain ⟨q, cr, rfl, hq, hr⟩ := hV.refs
              obtain ⟨ad, cA, rfl, ht, -⟩ := hHr.arr hq hcell
              rw [xws_get hSh.2.2.1 ha0] at hq
              have hfc : s.vm.findClass "[B" = some cA := (hK.2 2 _ ht).2.fc
              refine va_clone (x := (ds, .inl f)) (ty := .byte) hexec hb hml hown (hnl _ (by simp [xCLw])) (hnl _ (by simp [xCLw])) (hnl _ (by simp [xCLw])) (hnl _ (by simp [xCLw])) (hnl _ (by simp [xCLw])) (hnl (.castable "[B" "java/lang/Cloneable") (by simp [xCLw])) hK hP hD hS hA (a - xN0) 2 hq ht hfc (fun i v hv => va_fit (F := fun i => .int (f i)) hf i v hv) hRf (by rw [hr.sum]; omega) hc hs hd (fun q H1 hK2 hP2 hD2 hS2 => ?_)
              have hle : xLe (G.2.2.1 ++ ws) (G.2.2.1 ++ (ws ++ [(q, .inl (cA, ds, .inl f))])) := by rw [← List.append_assoc]; exact xLe.push
              refine kk (.ref q :: cr) _ H1 locs hle ?_ hP2 hD2 hS2 ⟨⟨(q, .inl (cA, ds, .inl f)), ?_, rfl⟩, hr.mono hle⟩
              · rw [← List.append_assoc]; exact hHr.push ⟨ht, by decide, rfl, rfl⟩
              · rw [← List.append_assoc, List.getElem?_append_right (by rw [hHr.1]; exact Nat.le_refl _), hHr.1, Nat.sub_self]; rfl
            · cases hx
          · cases hx
        · cases hx
    · cases hx
  | getstatic idx =>
    unfold xheap at hx; dsimp only at hx
    have hse : ∀ (kd x j : Nat) (an' : List Nat), an = kd :: x :: j :: an' → ∃ C n d, xSta[j]? = some (C, n, d, kd, x) ∧ (Cond.fieldLink own idx C n d).before args s = true ∧ xStaF G (C, n, d, kd, x) s s.heap := by
      intro kd x j an' e
      subst e
      unfold xok at hok; dsimp only at hok
      unfold xneed at hn; dsimp only at hn
      split at hok
      · rename_i C n d kd' x' he
        simp only [Bool.and_eq_true, decide_eq_true_eq] at hok
        obtain ⟨rfl, rfl⟩ := hok
        rw [he] at hn
        exact ⟨C, n, d, he, hn _ List.mem_cons_self, hSh.2.2.2.2 _ (List.mem_of_getElem? he)⟩
      · cases hok
    have han : ∃ kd x j an', an = kd :: x :: j :: an' := by
      unfold xok at hok; dsimp only at hok
      split at hok
      · exact ⟨_, _, _, _, rfl⟩
      · cases hok
    obtain ⟨kd, x, j, an', rfl⟩ := han
    obtain ⟨C, n, d, he, hlk, hst⟩ := hse kd x j an' rfl
    match kd, hx, hst with
    | 0, hx, hst =>
      cases hx
      exact va_gets hexec hb hst hS hown hlk (fun _ h9 => h9) hd (kk _ ws H locs xLe.rf hHr hP hD hS ⟨rfl, hV⟩)
    | 1, hx, hst =>
      have hx : (if x < xN0 ∧ x < h.1 then some (Value.ref x :: st, h, 0, 0) else none) = some (st', h', dc, ds) := hx
      split at hx
      · rename_i hxl
        cases hx
        obtain ⟨q, hq, hz⟩ := hst
        refine va_gets hexec hb hz hS hown hlk (fun _ h9 => h9) hd (kk _ ws H locs xLe.rf hHr hP hD hS ⟨⟨q, ?_, rfl⟩, hV⟩)
        rw [List.getElem?_append_left (List.getElem?_eq_some_iff.mp hq).1]
        exact hq
      · cases hx
    | 2, hx, hst =>
      cases hx
      rcases hst with hz | ⟨t, hz⟩
      · exact va_gets hexec hb hz hS hown hlk (fun _ h9 => h9) hd (kk _ ws H locs xLe.rf hHr hP hD hS ⟨Or.inl rfl, hV⟩)
      · exact va_gets hexec hb hz hS hown hlk (fun _ h9 => h9) hd (kk _ ws H locs xLe.rf hHr hP hD hS ⟨Or.inr ⟨t, rfl⟩, hV⟩)
    | n + 3, hx, _ => cases hx
  | ldc k =>
    unfold xheap at hx; dsimp only at hx
    split at hx
    · rename_i x an'
      split at hx
      · rename_i hxl
        cases hx
        unfold xok at hok; dsimp only at hok
        match an', hok with
        | j :: an', hok =>
          have hok : (match xStrs[j]? with
            | some (o, k', _, x') => decide (o = own) && decide (k' = k) && decide (x' = x)
            | none => false) = true := hok
          split at hok
          · rename_i o k' tx x' he
            simp only [Bool.and_eq_true, decide_eq_true_eq] at hok
            obtain ⟨⟨rfl, rfl⟩, rfl⟩ := hok
            obtain ⟨q, hq, hz⟩ := hSs _ (List.mem_of_getElem? he)
            refine va_ldcS hexec hb hown hz hd (kk _ ws H locs xLe.rf hHr hP hD hS ⟨⟨q, ?_, rfl⟩, hV⟩)
            rw [List.getElem?_append_left (List.getElem?_eq_some_iff.mp hq).1]
            exact hq
          · cases hok
        | [], hok => cases hok
      · cases hx
    · cases hx
      rename_i an'
      cases an' with
      | nil => cases hok
      | cons z an' => exact va_ldcM hexec hb hown (hn _ List.mem_cons_self) hMi hd (kk _ ws H locs xLe.rf hHr hP hD hS ⟨rfl, hV⟩)
    · cases hx
  | ldc_w k =>
    unfold xheap at hx; dsimp only at hx
    split at hx
    · rename_i x an'
      split at hx
      · rename_i hxl
        cases hx
        unfold xok at hok; dsimp only at hok
        match an', hok with
        | j :: an', hok =>
          have hok : (match xStrs[j]? with
            | some (o, k', _, x') => decide (o = own) && decide (k' = k) && decide (x' = x)
            | none => false) = true := hok
          split at hok
          · rename_i o k' tx x' he
            simp only [Bool.and_eq_true, decide_eq_true_eq] at hok
            obtain ⟨⟨rfl, rfl⟩, rfl⟩ := hok
            obtain ⟨q, hq, hz⟩ := hSs _ (List.mem_of_getElem? he)
            refine xldcSW hexec hb hown hz hd (kk _ ws H locs xLe.rf hHr hP hD hS ⟨⟨q, ?_, rfl⟩, hV⟩)
            rw [List.getElem?_append_left (List.getElem?_eq_some_iff.mp hq).1]
            exact hq
          · cases hok
        | [], hok => cases hok
      · cases hx
    · rename_i an'
      cases an' with
      | nil => exact absurd (show (decide (301 ≠ 300) && decide (301 ≠ 301)) = true from hok) (by decide)
      | cons z an' => cases an' <;> cases hok
    · cases hx
  | newarray t =>
    unfold xheap at hx; dsimp only at hx
    split at hx
    · rename_i n r tc an'
      split at hx
      · cases hx
      · rename_i hg
        have hg : ¬ n < 0 ∧ ¬ 100000 < n := not_or.mp hg
        cases hx
        obtain ⟨cr, rfl, hr⟩ := hV.ints
        have hle : n.toNatClampNeg ≤ 100000 := by
          have h1 := Int32.not_lt.mp hg.2
          have h2 := Int32.le_iff_toInt_le.mp h1
          have h3 : (100000 : Int32).toInt = 100000 := by decide
          show n.toInt.toNat ≤ 100000
          omega
        have key : ∀ (ty : FieldType) (tc : Nat), tc < 3 → newarray.typeOf t = ty → ty = xAT tc → (∀ cA : ClassId, vp_cell cA (n.toNatClampNeg, .inl (fun _ => 0)) = arrV cA n.toNatClampNeg (fun _ => defaultValue ty)) → componentBytes ty ≤ 8 →
            (∀ (cst' : List Value) (ws' : va_W) (H' : Heap) (locs' : List Loc), xLe (G.2.2.1 ++ ws) (G.2.2.1 ++ ws') → xHr G (xpush h (.inl (tc, n.toNatClampNeg, .inl (fun _ => 0)))) (G.2.2.1 ++ ws') → va_P G.1 vwCl ws' H' → va_D (fun q => G.2.2.2.1 ≤ q) ws' → va_S (fun q => G.2.2.2.1 ≤ q) s.heap H' locs' → xVs G.2.2.2.2 (G.2.2.1 ++ ws') (.ref h.1 :: r) cst' →
              W p l e R s m args below meth c H' locs' (cells + 1) (slots + n.toNatClampNeg) Q (F0 m (pc + 2) ls cst')) → W p l e R s m args below meth c H locs cells slots Q (F0 m pc ls (.int n :: cr)) := by
          intro ty tc htc hty hat ha0 hcb kk
          refine va_newa hexec hb (hn _ List.mem_cons_self) hty hK hP hD hS hA (a0 := (n.toNatClampNeg, .inl (fun _ => 0))) ha0 hg.1 rfl ?_ hc hs hd (fun q cA H1 hK2 hP2 hD2 hS2 => ?_)
          · exact Nat.le_trans (Nat.mul_le_mul hle hcb) (by decide)
          · obtain ⟨c0, hc0⟩ := hT4 tc (by omega)
            have e1 := (hK.2 tc _ hc0).2.fc
            have e2 := (hK2.2 G.2.1.length (cA, ty) (by rw [List.getElem?_append_right (Nat.le_refl _), Nat.sub_self]; rfl)).2.fc
            rw [hat] at e2
            cases e1.symm.trans e2
            have hle : xLe (G.2.2.1 ++ ws) (G.2.2.1 ++ (ws ++ [(q, .inl (cA, n.toNatClampNeg, .inl (fun _ => 0)))])) := by rw [← List.append_assoc]; exact xLe.push
            refine kk (.ref q :: cr) _ H1 locs hle ?_ hP2 hD2 hS2 ⟨⟨(q, .inl (cA, n.toNatClampNeg, .inl (fun _ => 0))), ?_, rfl⟩, hr.mono hle⟩
            · rw [← List.append_assoc]; exact hHr.push ⟨hc0, htc, rfl, rfl⟩
            · rw [← List.append_assoc, List.getElem?_append_right (by rw [hHr.1]; exact Nat.le_refl _), hHr.1, Nat.sub_self]; rfl
        unfold xok at hok; dsimp only at hok
        match t, hok with
        | .int, hok =>
          cases (Option.some.inj (of_decide_eq_true hok))
          exact key .int 0 (by decide) rfl rfl (fun _ => rfl) (by decide) kk
        | .boolean, hok =>
          cases (Option.some.inj (of_decide_eq_true hok))
          exact key .boolean 1 (by decide) rfl rfl (fun _ => rfl) (by decide) kk
        | .byte, hok =>
          cases (Option.some.inj (of_decide_eq_true hok))
          exact key .byte 2 (by decide) rfl rfl (fun _ => rfl) (by decide) kk
    · cases hx
  | anewarray idx =>
    unfold xheap at hx; dsimp only at hx
    split at hx
    · rename_i n r
      split at hx
      · cases hx
      · rename_i hg
        have hg : ¬ n < 0 ∧ ¬ 100000 < n := not_or.mp hg
        cases hx
        obtain ⟨cr, rfl, hr⟩ := hV.ints
        have hle : n.toNatClampNeg ≤ 100000 := by
          have h1 := Int32.not_lt.mp hg.2
          have h2 := Int32.le_iff_toInt_le.mp h1
          have h3 : (100000 : Int32).toInt = 100000 := by decide
          show n.toInt.toNat ≤ 100000
          omega
        refine va_newq hexec hb hown (hn _ List.mem_cons_self) hAO hK hP hD hS hA hg.1 rfl ?_ hc hs hd (fun q cA H1 hK2 hP2 hD2 hS2 => ?_)
        · exact Nat.le_trans (Nat.mul_le_mul hle (Nat.le_refl 4)) (by decide)
        · obtain ⟨c0, hc0⟩ := hT4 3 (by decide)
          have e1 := (hK.2 3 _ hc0).2.fc
          have e2 := (hK2.2 G.2.1.length (cA, .object "java/lang/Object") (by rw [List.getElem?_append_right (Nat.le_refl _), Nat.sub_self]; rfl)).2.fc
          cases e1.symm.trans e2
          have hle : xLe (G.2.2.1 ++ ws) (G.2.2.1 ++ (ws ++ [(q, .inl (cA, n.toNatClampNeg, .inr (.inr (.inr (.inr (fun _ => none))))))])) := by rw [← List.append_assoc]; exact xLe.push
          refine kk (.ref q :: cr) _ H1 locs hle ?_ hP2 hD2 hS2 ⟨⟨(q, .inl (cA, n.toNatClampNeg, .inr (.inr (.inr (.inr (fun _ => none)))))), ?_, rfl⟩, hr.mono hle⟩
          · rw [← List.append_assoc]; exact hHr.push ⟨hc0, rfl, rfl, fun j => rfl⟩
          · rw [← List.append_assoc, List.getElem?_append_right (by rw [hHr.1]; exact Nat.le_refl _), hHr.1, Nat.sub_self]; rfl
    · cases hx
  | new idx =>
    unfold xheap at hx; dsimp only at hx
    split at hx
    · rename_i ci n an'
      cases hx
      unfold xok at hok; dsimp only at hok
      split at hok
      · rename_i C T N hcl
        have hN : ds = N := of_decide_eq_true hok
        subst hN
        have hw2 := xcl_words _ (List.mem_of_getElem? hcl)
        obtain ⟨hnm, hty⟩ := xcl_names _ _ _ _ hcl
        unfold xneed at hn; dsimp only at hn
        rw [hcl] at hn; dsimp only at hn
        refine va_new (fs := xfresh ci ds) hexec hb hts hw2 (xty ci) hty hown (hn _ (by simp)) (hn _ (by simp)) (hn _ (by simp)) hK hP hD hS hA hcl (fun j hj => ?_) hc hs hd (fun q H1 hP2 hD2 hS2 => ?_)
        · unfold vp_V xfresh
          rw [List.getD_eq_getElem?_getD, List.getElem?_map, List.getElem?_range hj]; rfl
        · have hle : xLe (G.2.2.1 ++ ws) (G.2.2.1 ++ (ws ++ [(q, .inr (ci, xfresh ci ds))])) := by rw [← List.append_assoc]; exact xLe.push
          refine kk (.ref q :: cst) _ H1 locs hle ?_ hP2 hD2 hS2 ⟨⟨(q, .inr (ci, xfresh ci ds)), ?_, rfl⟩, hV.mono hle⟩
          · rw [← List.append_assoc]; exact hHr.push ⟨rfl, xfresh_rel ci _⟩
          · rw [← List.append_assoc, List.getElem?_append_right (by rw [hHr.1]; exact Nat.le_refl _), hHr.1, Nat.sub_self]; rfl
      · cases hok
    · cases hx
  | checkcast idx =>
    unfold xheap at hx; dsimp only at hx
    split at hx
    · rename_i a r ci an'
      split at hx
      · split at hx
        · rename_i c0 fs hcell
          split at hx
          · rename_i hci
            subst hci
            cases hx
            obtain ⟨q, cr, rfl, hq, hr⟩ := hV.refs
            obtain ⟨ad, fs', rfl, hfs⟩ := hHr.obj hq hcell
            obtain ⟨r0, hr0, hrc⟩ := xrecvP hK hSh hS hP hq
            obtain ⟨C, T, N⟩ := r0
            unfold xneed at hn; dsimp only at hn
            rw [hr0] at hn; dsimp only at hn
            exact va_castS hexec hb hown (hn _ List.mem_cons_self) (hK.1 _ _ hr0).2 hrc hd (kk _ ws H locs xLe.rf hHr hP hD hS ⟨⟨_, hq, rfl⟩, hr⟩)
          · cases hx
        · rename_i t n d hcell
          split at hx
          · rename_i hci
            obtain ⟨hci, hxa⟩ := hci
            cases hx
            obtain ⟨q, cr, rfl, hq, hr⟩ := hV.refs
            obtain ⟨ad, cA, x, rfl, ht, hxn⟩ := hHr.any hq hcell
            have hq2 := hq
            rw [xws_get hSh.2.2.1 hxa] at hq2
            have hfc := (hK.2 t _ ht).2.fc
            have hvn : vwCl[t + 100]? = none := by
              apply List.getElem?_eq_none
              exact Nat.le_trans (show vwCl.length ≤ 100 by decide) (by omega)
            unfold xok at hok; dsimp only at hok
            unfold xneed at hn; dsimp only at hn
            subst hci
            rw [hvn] at hok hn
            dsimp only at hok
            have hok2 : t = 0 ∨ t = 2 ∨ t = 3 := by
              simp only [Bool.or_eq_true, decide_eq_true_eq] at hok
              rcases hok with (h1 | h1) | h1
              · exact Or.inl (Nat.add_right_cancel (show t + 100 = 0 + 100 from h1))
              · exact Or.inr (Or.inl (Nat.add_right_cancel (show t + 100 = 2 + 100 from h1)))
              · exact Or.inr (Or.inr (Nat.add_right_cancel (show t + 100 = 3 + 100 from h1)))
            rcases hok2 with rfl | rfl | rfl
            · exact va_castA hexec hb hown (hn _ List.mem_cons_self) hP (a - xN0) hq2 hfc hd (kk _ ws H locs xLe.rf hHr hP hD hS ⟨⟨_, hq, rfl⟩, hr⟩)
            · exact va_castA hexec hb hown (hn _ List.mem_cons_self) hP (a - xN0) hq2 hfc hd (kk _ ws H locs xLe.rf hHr hP hD hS ⟨⟨_, hq, rfl⟩, hr⟩)
            · exact va_castA hexec hb hown (hn _ List.mem_cons_self) hP (a - xN0) hq2 hfc hd (kk _ ws H locs xLe.rf hHr hP hD hS ⟨⟨_, hq, rfl⟩, hr⟩)
          · cases hx
      · cases hx
    · cases hx
  | _ => exact absurd (show (none : Option (List Value × xH × Nat × Nat)) = some _ from hx) nofun
end XSH
