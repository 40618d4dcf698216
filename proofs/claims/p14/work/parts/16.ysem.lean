/-! THE WORLD AS FUNCTIONS: how many cells; tags (kind, length; kind 0 to 2 numbers, 3 references, 4 + ci objects); whole numbers; other values. Rules for each instruction over such worlds. -/
abbrev yT : Type := Nat × Nat
theorem blt_lt {a b : Nat} (h : Nat.blt a b = true) : a < b := Nat.le_of_ble_eq_true h
abbrev yS : Type := Nat × (Nat → yT) × (Nat → Nat → Int32) × (Nat → Nat → Value)
abbrev yLs : Type := List (Option Value)
abbrev yQ : Type := Option Value ⊕ String → yS → Nat → Nat → Prop
def yint : FieldType → Bool
  | .int => true
  | .boolean => true
  | .byte => true
  | _ => false
def yI (ci k : Nat) : Bool := yint (xty ci k)
def yNs : List Nat := [4, 4, 4, 3, 2, 8, 10, 5, 3, 11, 8, 5, 10, 2, 8, 10, 6, 4, 18]
def yN (ci : Nat) : Nat := yNs.getD ci 0
def yO : Value → Option Nat
  | .ref a => some a
  | _ => none
def yFs (ci : Nat) (I : Nat → Int32) (R : Nat → Value) : List Value := (List.range (yN ci)).map fun k => if yI ci k = true then .int (I k) else R k
def yCell (t : yT) (I : Nat → Int32) (R : Nat → Value) : va_E :=
  if t.1 < 3 then .inl (t.1, t.2, .inl I) else if t.1 = 3 then .inl (3, t.2, .inr (.inr (.inr (.inr fun j => yO (R j))))) else .inr (t.1 - 4, yFs (t.1 - 4) I R)
def yH (w : yS) : xH := (w.1, fun a => yCell (w.2.1 a) (w.2.2.1 a) (w.2.2.2 a))
theorem yH_arr {n : Nat} {tg : Nat → yT} {I : Nat → Nat → Int32} {R : Nat → Nat → Value} {a k len : Nat} (ht : tg a = (k, len)) (hk : k < 3) : (yH (n, tg, I, R)).2 a = .inl (k, len, .inl (I a)) := by
  show yCell (tg a) (I a) (R a) = _
  rw [ht]; exact if_pos hk
theorem yH_ref {n : Nat} {tg : Nat → yT} {I : Nat → Nat → Int32} {R : Nat → Nat → Value} {a len : Nat} (ht : tg a = (3, len)) : (yH (n, tg, I, R)).2 a = .inl (3, len, .inr (.inr (.inr (.inr fun j => yO (R a j))))) := by
  show yCell (tg a) (I a) (R a) = _
  rw [ht]; rfl
theorem yH_obj {n : Nat} {tg : Nat → yT} {I : Nat → Nat → Int32} {R : Nat → Nat → Value} {a ci z : Nat} (ht : tg a = (ci + 4, z)) : (yH (n, tg, I, R)).2 a = .inr (ci, yFs ci (I a) (R a)) := by
  show yCell (tg a) (I a) (R a) = _
  rw [ht]; unfold yCell
  rw [if_neg (show ¬ (ci + 4, z).1 < 3 by show ¬ ci + 4 < 3; omega), if_neg (show ¬ (ci + 4, z).1 = 3 by show ¬ ci + 4 = 3; omega)]
  rfl
theorem yFs_get {ci k : Nat} {I : Nat → Int32} {R : Nat → Value} (h : k < yN ci) : (yFs ci I R)[k]? = some (if yI ci k = true then .int (I k) else R k) := by
  unfold yFs
  rw [List.getElem?_map, List.getElem?_range h]; rfl
theorem yFs_set {ci k : Nat} {I I' : Nat → Int32} {R R' : Nat → Value} {v : Value} (hv : (if yI ci k = true then .int (I' k) else R' k) = v) (hI : ∀ j, j ≠ k → I' j = I j) (hR : ∀ j, j ≠ k → R' j = R j) : (yFs ci I R).set k v = yFs ci I' R' := by
  apply List.ext_getElem?
  intro j
  by_cases hj : k = j
  · subst hj
    by_cases hl : k < yN ci
    · rw [List.getElem?_set_self (by unfold yFs; simpa using hl), yFs_get hl, hv]
    · rw [List.getElem?_eq_none (by unfold yFs; simpa using hl), List.getElem?_eq_none (by unfold yFs; simpa using hl)]
  · rw [List.getElem?_set_ne hj]
    by_cases hl : j < yN ci
    · rw [yFs_get hl, yFs_get hl, hI j (Ne.symm hj), hR j (Ne.symm hj)]
    · rw [List.getElem?_eq_none (by unfold yFs; simpa using hl), List.getElem?_eq_none (by unfold yFs; simpa using hl)]
def upd2 {α : Type} (f : Nat → Nat → α) (a k : Nat) (v : α) : Nat → Nat → α := fun b j => if b = a ∧ j = k then v else f b j
theorem upd2_self {α : Type} {f : Nat → Nat → α} {a k : Nat} {v : α} : upd2 f a k v a k = v := if_pos ⟨rfl, rfl⟩
theorem upd2_ne {α : Type} {f : Nat → Nat → α} {a k b j : Nat} {v : α} (h : b ≠ a ∨ j ≠ k) : upd2 f a k v b j = f b j := if_neg fun ⟨h1, h2⟩ => h.elim (· h1) (· h2)
theorem upd2_row {α : Type} {f : Nat → Nat → α} {a k b : Nat} {v : α} (h : b ≠ a) : upd2 f a k v b = f b := funext fun _ => upd2_ne (.inl h)
theorem yH_set {n : Nat} {tg : Nat → yT} {I I' : Nat → Nat → Int32} {R R' : Nat → Nat → Value} {a : Nat} {e : va_E} (he : e = yCell (tg a) (I' a) (R' a)) (hI : ∀ b, b ≠ a → I' b = I b) (hR : ∀ b, b ≠ a → R' b = R b) : xset (yH (n, tg, I, R)) a e = yH (n, tg, I', R') := by
  unfold xset yH
  refine Prod.ext rfl (funext fun b => ?_)
  show (if b = a then e else yCell (tg b) (I b) (R b)) = yCell (tg b) (I' b) (R' b)
  by_cases hb : b = a
  · subst hb; rw [if_pos rfl, he]
  · rw [if_neg hb, hI b hb, hR b hb]
def yD (t : yT) (k : Nat) : Value := if t.1 ≤ 3 then .null else defaultValue (xty (t.1 - 4) k)
/-- one cell more -/
def yNew (w : yS) (t : yT) : yS := (w.1 + 1, fun a => if a = w.1 then t else w.2.1 a, fun a k => if a = w.1 then 0 else w.2.2.1 a k, fun a k => if a = w.1 then yD t k else w.2.2.2 a k)
theorem yH_push {w : yS} {t : yT} {e : va_E} (he : e = yCell t (fun _ => 0) (yD t)) : xpush (yH w) e = yH (yNew w t) := by
  unfold xpush yH yNew
  refine Prod.ext rfl (funext fun b => ?_)
  show (if b = w.1 then e else yCell (w.2.1 b) (w.2.2.1 b) (w.2.2.2 b)) = yCell (if b = w.1 then t else w.2.1 b) (fun k => if b = w.1 then 0 else w.2.2.1 b k) (fun k => if b = w.1 then yD t k else w.2.2.2 b k)
  by_cases hb : b = w.1
  · simp only [hb, if_true, he]
  · simp only [hb, if_false]
/-! locals -/
def yL (ls : yLs) (l : xL) : Prop := ∀ i v, ls[i]? = some (some v) → xld l i = some v
theorem xld_filter {f : Nat × Value → Bool} : ∀ {l : xL} {j : Nat} {w : Value}, xld l j = some w → f (j, w) = true → xld (l.filter f) j = some w
  | q :: l, j, w, h, hf => by
    unfold xld at h
    by_cases hq : q.1 = j
    · rw [if_pos hq] at h
      have hw : q.2 = w := Option.some.inj h
      have e : q = (j, w) := Prod.ext hq hw
      subst e
      rw [List.filter_cons_of_pos hf]
      unfold xld; rw [if_pos rfl]
    · rw [if_neg hq] at h
      by_cases hq2 : f q = true
      · rw [List.filter_cons_of_pos hq2]
        unfold xld; rw [if_neg hq]
        exact xld_filter h hf
      · rw [List.filter_cons_of_neg hq2]
        exact xld_filter h hf
def yst1 (ls : yLs) (i : Nat) (v : Value) : yLs := match i with
  | 0 => ls.set 0 (some v)
  | j + 1 => match ls[j]? with
    | some (some w) => if w.category = 2 then (ls.set j none).set (j + 1) (some v) else ls.set (j + 1) (some v)
    | _ => ls.set (j + 1) (some v)
def yst2 (ls : yLs) (i : Nat) (v : Value) : yLs := match i with
  | 0 => (ls.set 0 (some v)).set 1 none
  | j + 1 => match ls[j]? with
    | some (some w) => if w.category = 2 then ((ls.set j none).set (j + 1) (some v)).set (j + 2) none else (ls.set (j + 1) (some v)).set (j + 2) none
    | _ => (ls.set (j + 1) (some v)).set (j + 2) none
theorem yL_set {ls : yLs} {l : xL} {i : Nat} {v : Value} {f : Nat × Value → Bool} {ls' : yLs} (h : yL ls l) (h1 : ∀ w, ls'[i]? = some (some w) → w = v) (h2 : ∀ j w, j ≠ i → ls'[j]? = some (some w) → ls[j]? = some (some w) ∧ f (j, w) = true) : yL ls' ((i, v) :: l.filter f) := by
  intro j w hj
  unfold xld
  by_cases hi : i = j
  · subst hi
    rw [if_pos rfl, h1 w hj]
  · rw [if_neg hi]
    obtain ⟨a, b⟩ := h2 j w (Ne.symm hi) hj
    exact xld_filter (h j w a) b
theorem set_some {ls : yLs} {i j : Nat} {o : Option Value} {w : Value} (h : (ls.set i o)[j]? = some (some w)) : (j = i ∧ o = some w) ∨ (j ≠ i ∧ ls[j]? = some (some w)) := by
  by_cases hj : i = j
  · subst hj
    rw [List.getElem?_set] at h
    simp only [if_true] at h
    split at h
    · exact .inl ⟨rfl, Option.some.inj h⟩
    · cases h
  · rw [List.getElem?_set_ne hj] at h
    exact .inr ⟨Ne.symm hj, h⟩
theorem yL_st1 {ls : yLs} {l : xL} {i : Nat} {v : Value} (h : yL ls l) : yL (yst1 ls i v) (xst1 l i v) := by
  unfold xst1
  have key : ∀ j w, j ≠ i → ¬ (j + 1 = i ∧ w.category = 2) → xf1 i (j, w) = true := by
    intro j w h1 h2
    unfold xf1
    simp only [Bool.and_eq_true, Bool.not_eq_true', beq_eq_false_iff_ne, Bool.and_eq_false_imp, beq_iff_eq, ne_eq]
    exact ⟨h1, fun h3 h4 => h2 ⟨h3, h4⟩⟩
  unfold yst1
  match i with
  | 0 =>
    refine yL_set h (fun w hw => ?_) (fun j w hj hw => ?_)
    · rcases set_some hw with ⟨-, e⟩ | ⟨e, -⟩
      · exact (Option.some.inj e).symm
      · exact absurd rfl e
    · rcases set_some hw with ⟨e, -⟩ | ⟨-, e⟩
      · exact absurd e hj
      · exact ⟨e, key j w hj (fun ⟨e, _⟩ => by omega)⟩
  | k + 1 =>
    have plain : (∀ w, ls[k]? = some (some w) → ¬ w.category = 2) → yL (ls.set (k + 1) (some v)) ((k + 1, v) :: l.filter (xf1 (k + 1))) := by
      intro hn
      refine yL_set h (fun w hw => ?_) (fun j w hj hw => ?_)
      · rcases set_some hw with ⟨-, e⟩ | ⟨e, -⟩
        · exact (Option.some.inj e).symm
        · exact absurd rfl e
      · rcases set_some hw with ⟨e, -⟩ | ⟨-, e⟩
        · exact absurd e hj
        · refine ⟨e, key j w hj (fun ⟨e1, e2⟩ => ?_)⟩
          have : j = k := by omega
          subst this
          exact hn w e e2
    dsimp only
    split
    · rename_i w hw
      split
      · rename_i hc
        refine yL_set h (fun w hw => ?_) (fun j w hj hw => ?_)
        · rcases set_some hw with ⟨-, e⟩ | ⟨e, -⟩
          · exact (Option.some.inj e).symm
          · exact absurd rfl e
        · rcases set_some hw with ⟨e, -⟩ | ⟨-, e⟩
          · exact absurd e hj
          · rcases set_some e with ⟨-, e⟩ | ⟨e1, e⟩
            · cases e
            · exact ⟨e, key j w hj (fun ⟨e2, _⟩ => e1 (by omega))⟩
      · rename_i hc
        exact plain (fun w' hw' => by rw [hw] at hw'; cases hw'; exact hc)
    · rename_i hn
      exact plain (fun w' hw' => absurd hw' (hn w'))
theorem yL_st2 {ls : yLs} {l : xL} {i : Nat} {v : Value} (h : yL ls l) : yL (yst2 ls i v) (xst2 l i v) := by
  unfold xst2
  have key : ∀ j w, j ≠ i → j ≠ i + 1 → ¬ (j + 1 = i ∧ w.category = 2) → xf2 i (j, w) = true := by
    intro j w h1 h3 h2
    unfold xf2
    simp only [Bool.and_eq_true, Bool.not_eq_true', beq_eq_false_iff_ne, Bool.and_eq_false_imp, beq_iff_eq, ne_eq]
    exact ⟨h1, h3, fun h3 h4 => h2 ⟨h3, h4⟩⟩
  have two : ∀ {ls0 : yLs} {i : Nat}, (∀ j w, j ≠ i → j ≠ i + 1 → ls0[j]? = some (some w) → ls[j]? = some (some w) ∧ ¬ (j + 1 = i ∧ w.category = 2)) → (∀ j w, j ≠ i → j ≠ i + 1 → ¬ (j + 1 = i ∧ w.category = 2) → xf2 i (j, w) = true) → yL ((ls0.set i (some v)).set (i + 1) none) ((i, v) :: l.filter (xf2 i)) := by
    intro ls0 i h0 key
    refine yL_set h (fun w hw => ?_) (fun j w hj hw => ?_)
    · rcases set_some hw with ⟨-, e⟩ | ⟨-, e⟩
      · cases e
      · rcases set_some e with ⟨-, e⟩ | ⟨e, -⟩
        · exact (Option.some.inj e).symm
        · exact absurd rfl e
    · rcases set_some hw with ⟨-, e⟩ | ⟨h1, e⟩
      · cases e
      · rcases set_some e with ⟨e, -⟩ | ⟨-, e⟩
        · exact absurd e hj
        · obtain ⟨a, b⟩ := h0 j w hj h1 e
          exact ⟨a, key j w hj h1 b⟩
  unfold yst2
  match i with
  | 0 => exact two (fun j w h1 h2 h3 => ⟨h3, fun ⟨e, _⟩ => by omega⟩) key
  | k + 1 =>
    dsimp only
    split
    · rename_i w hw
      split
      · rename_i hc
        refine two (fun j w h1 h2 h3 => ?_) key
        rcases set_some h3 with ⟨-, e⟩ | ⟨e1, e⟩
        · cases e
        · exact ⟨e, fun ⟨e2, _⟩ => e1 (by omega)⟩
      · rename_i hc
        refine two (fun j w' h1 h2 h3 => ⟨h3, fun ⟨e1, e2⟩ => ?_⟩) key
        have : j = k := by omega
        subst this
        rw [hw] at h3; cases h3; exact hc e2
    · rename_i hn
      refine two (fun j w' h1 h2 h3 => ⟨h3, fun ⟨e1, e2⟩ => ?_⟩) key
      have : j = k := by omega
      subst this
      exact hn w' h3
def yAr : List Value → yLs
  | [] => []
  | v :: r => if v.category = 2 then some v :: none :: yAr r else some v :: yAr r
def yA (n : Nat) (as : List Value) : yLs := yAr as ++ List.replicate (n - (yAr as).length) none
theorem cat12 (v : Value) : v.category = 1 ∨ v.category = 2 := by cases v <;> first | exact .inl rfl | exact .inr rfl
theorem lv_cons {i : Nat} {v : Value} {r : List Value} : lv_args i (v :: r) = (i, v) :: lv_args (i + v.category) r := by
  rw [lv_args]
  rcases cat12 v with h | h <;> simp [h]
theorem yAr_ok : ∀ {as : List Value} {i j : Nat} {v : Value}, (yAr as)[j]? = some (some v) → xld (lv_args i as) (i + j) = some v
  | [], _, _, _, h => by cases h
  | w :: r, i, j, v, h => by
    rw [lv_cons]
    show (if i = i + j then some w else xld (lv_args (i + w.category) r) (i + j)) = some v
    unfold yAr at h
    rcases cat12 w with hc | hc
    · rw [if_neg (by omega)] at h
      match j, h with
      | 0, h => rw [if_pos (Nat.add_zero i).symm]; exact Option.some.inj h
      | j + 1, h =>
        rw [if_neg (by omega), hc, show i + (j + 1) = i + 1 + j by omega]
        exact yAr_ok h
    · rw [if_pos hc] at h
      match j, h with
      | 0, h => rw [if_pos (Nat.add_zero i).symm]; exact Option.some.inj h
      | 1, h => cases h
      | j + 2, h =>
        rw [if_neg (by omega), hc, show i + (j + 2) = i + 2 + j by omega]
        exact yAr_ok h
theorem yA_ok {n : Nat} {as : List Value} : yL (yA n as) (lv_args 0 as) := by
  intro j v h
  unfold yA at h
  have h0 : (yAr as)[j]? = some (some v) := by
    by_cases hl : j < (yAr as).length
    · rw [List.getElem?_append_left hl] at h; exact h
    · rw [List.getElem?_append_right (by omega)] at h
      exfalso
      rw [List.getElem?_replicate] at h
      split at h <;> cases h
  have := yAr_ok (i := 0) h0
  rwa [Nat.zero_add] at this
/-! THE JUDGEMENTS: from this point of a method, and for a whole call; c, s count new cells and slots -/
def yW (M : xM) (code : List xI) (ls : yLs) (st : List Value) (w : yS) (c s : Nat) (Q : yQ) : Prop := ∀ l, yL ls l → ∃ n o w' c' s', xgo (xcall xP n) M n code l st (yH w) = some (o, yH w', c', s') ∧ Q o w' (c + c') (s + s')
def yC (mid : Nat) (as : List Value) (w : yS) (c s : Nat) (Q : yQ) : Prop := ∃ n o w' c' s', xcall xP n n mid as (yH w) = some (o, yH w', c', s') ∧ Q o w' (c + c') (s + s')
/-- behind a call -/
def yK (M : xM) (p : Nat) (rest : List xI) (ls : yLs) (r : List Value) (Q : yQ) : yQ := fun o w c s => match o with
  | .inl v => yW M rest ls (v.toList ++ r) w c s Q
  | .inr E => ∃ t, xhand M.2.2.2.2.2 p E = some t ∧ yW M (xat M.2.2.2.2.1 t) ls [.retAddr 0] w c s Q
theorem xgo_up {M : xM} {n n' : Nat} (hn : n ≤ n') {k k' : Nat} (hk : k ≤ k') {code : List xI} {l : xL} {st : List Value} {h : xH} {r : xR} (e : xgo (xcall xP n) M k code l st h = some r) : xgo (xcall xP n') M k' code l st h = some r :=
  xgo_mono M (fun n1 n2 mid as h r hn2 hq => xcall_mono xP n n' n1 n2 mid as h r hn hn2 hq) k k' _ _ _ _ _ hk e
section YSTEP
variable {M : xM} {code code' rest : List xI} {ls ls' : yLs} {st st' r : List Value} {w w' : yS} {c s : Nat} {Q Q' : yQ} {p len : Nat} {an : List Nat}
theorem yW.mono (h : yW M code ls st w c s Q) (hQ : ∀ o w c s, Q o w c s → Q' o w c s) : yW M code ls st w c s Q' := by
  intro l hl
  obtain ⟨n, o, w', c', s', h1, h2⟩ := h l hl
  exact ⟨n, o, w', c', s', h1, hQ _ _ _ _ h2⟩
theorem yC.mono {mid : Nat} {as : List Value} (h : yC mid as w c s Q) (hQ : ∀ o w c s, Q o w c s → Q' o w c s) : yC mid as w c s Q' := by
  obtain ⟨n, o, w', c', s', h1, h2⟩ := h
  exact ⟨n, o, w', c', s', h1, hQ _ _ _ _ h2⟩
theorem y_step {dc ds : Nat} (hx : ∀ l, yL ls l → ∃ l', yL ls' l' ∧ xnext M code l st (yH w) = some (.inr (.inl ((code', l', st', yH w'), dc, ds)))) (k : yW M code' ls' st' w' (c + dc) (s + ds) Q) : yW M code ls st w c s Q := by
  intro l hl
  obtain ⟨l', hl', e⟩ := hx l hl
  obtain ⟨n, o, w2, c2, s2, h1, h2⟩ := k l' hl'
  refine ⟨n + 1, o, w2, dc + c2, ds + s2, ?_, by rw [← Nat.add_assoc, ← Nat.add_assoc]; exact h2⟩
  unfold xgo; rw [e]
  show xadd dc ds (xgo (xcall xP (n + 1)) M n code' l' st' (yH w')) = _
  rw [xgo_up (Nat.le_succ n) (Nat.le_refl n) h1]; rfl
theorem y_step0 (hx : ∀ l, yL ls l → ∃ l', yL ls' l' ∧ xnext M code l st (yH w) = some (.inr (.inl ((code', l', st', yH w'), 0, 0)))) (k : yW M code' ls' st' w' c s Q) : yW M code ls st w c s Q := y_step hx k
theorem y_stop {o : Option Value ⊕ String} {dc ds : Nat} (hx : ∀ l, yL ls l → xnext M code l st (yH w) = some (.inl (o, yH w', dc, ds))) (k : Q o w' (c + dc) (s + ds)) : yW M code ls st w c s Q := by
  intro l hl
  refine ⟨1, o, w', dc, ds, ?_, k⟩
  unfold xgo; rw [hx l hl]
theorem y_call {mid : Nat} {as : List Value} (hx : ∀ l, yL ls l → xnext M code l st (yH w) = some (.inr (.inr (mid, as, rest, l, r, p)))) (k : yC mid as w c s (yK M p rest ls r Q)) : yW M code ls st w c s Q := by
  intro l hl
  obtain ⟨n1, o1, w1, c1, s1, h1, h2⟩ := k
  have go : ∀ (code2 : List xI) (st2 : List Value), yW M code2 ls st2 w1 (c + c1) (s + s1) Q → ∃ n2 o2 w2 c2 s2, xgo (xcall xP n2) M n2 code2 l st2 (yH w1) = some (o2, yH w2, c2, s2) ∧ Q o2 w2 (c + (c1 + c2)) (s + (s1 + s2)) := by
    intro code2 st2 h
    obtain ⟨n2, o2, w2, c2, s2, e1, e2⟩ := h l hl
    exact ⟨n2, o2, w2, c2, s2, e1, by rw [← Nat.add_assoc, ← Nat.add_assoc]; exact e2⟩
  cases o1 with
  | inl v =>
    obtain ⟨n2, o2, w2, c2, s2, e1, e2⟩ := go rest (v.toList ++ r) h2
    refine ⟨max n1 n2 + 1, o2, w2, c1 + c2, s1 + s2, ?_, e2⟩
    unfold xgo; rw [hx l hl]
    show (match xcall xP (max n1 n2 + 1) (max n1 n2) mid as (yH w) with
      | none => none
      | some (.inl v, h1, c, s) => xadd c s (xgo (xcall xP (max n1 n2 + 1)) M (max n1 n2) rest l (v.toList ++ r) h1)
      | some (.inr E, h1, c, s) => match xhand M.2.2.2.2.2 p E with
        | some t => xadd c s (xgo (xcall xP (max n1 n2 + 1)) M (max n1 n2) (xat M.2.2.2.2.1 t) l [.retAddr 0] h1)
        | none => none) = _
    rw [xcall_mono xP n1 (max n1 n2 + 1) n1 (max n1 n2) mid as (yH w) _ (by omega) (by omega) h1]
    show xadd c1 s1 (xgo (xcall xP (max n1 n2 + 1)) M (max n1 n2) rest l (v.toList ++ r) (yH w1)) = _
    rw [xgo_up (n' := max n1 n2 + 1) (k' := max n1 n2) (by omega) (by omega) e1]; rfl
  | inr E =>
    obtain ⟨t, ht, h2⟩ := h2
    obtain ⟨n2, o2, w2, c2, s2, e1, e2⟩ := go _ _ h2
    refine ⟨max n1 n2 + 1, o2, w2, c1 + c2, s1 + s2, ?_, e2⟩
    unfold xgo; rw [hx l hl]
    show (match xcall xP (max n1 n2 + 1) (max n1 n2) mid as (yH w) with
      | none => none
      | some (.inl v, h1, c, s) => xadd c s (xgo (xcall xP (max n1 n2 + 1)) M (max n1 n2) rest l (v.toList ++ r) h1)
      | some (.inr E, h1, c, s) => match xhand M.2.2.2.2.2 p E with
        | some t => xadd c s (xgo (xcall xP (max n1 n2 + 1)) M (max n1 n2) (xat M.2.2.2.2.1 t) l [.retAddr 0] h1)
        | none => none) = _
    rw [xcall_mono xP n1 (max n1 n2 + 1) n1 (max n1 n2) mid as (yH w) _ (by omega) (by omega) h1]
    show (match xhand M.2.2.2.2.2 p E with
        | some t => xadd c1 s1 (xgo (xcall xP (max n1 n2 + 1)) M (max n1 n2) (xat M.2.2.2.2.1 t) l [.retAddr 0] (yH w1))
        | none => none) = _
    rw [ht]
    show xadd c1 s1 (xgo (xcall xP (max n1 n2 + 1)) M (max n1 n2) (xat M.2.2.2.2.1 t) l [.retAddr 0] (yH w1)) = _
    rw [xgo_up (n' := max n1 n2 + 1) (k' := max n1 n2) (by omega) (by omega) e1]; rfl
/-- a whole method -/
theorem y_in {mid : Nat} {as : List Value} (hP : xP mid = M) (hfit : Nat.ble (as.map fun v => v.category).sum M.2.2.1 = true) (hA : yA M.2.2.1 as = ls) (k : yW M M.2.2.2.2.1 ls [] w c s Q) : yC mid as w c s Q := by
  obtain ⟨n, o, w', c', s', h1, h2⟩ := k (lv_args 0 as) (hA ▸ yA_ok)
  refine ⟨n + 1, o, w', c', s', ?_, h2⟩
  unfold xcall
  rw [hP, if_pos (Nat.le_of_ble_eq_true hfit)]
  exact xgo_up (Nat.le_refl n) (Nat.le_succ n) h1
theorem y_ret1 {x : Value} (k : yW M rest ls (x :: r) w c s Q) : yK M p rest ls r Q (.inl (some x)) w c s := k
theorem y_ret0 (k : yW M rest ls r w c s Q) : yK M p rest ls r Q (.inl none) w c s := k
theorem y_thr {t : Nat} {E : String} (ht : xhand M.2.2.2.2.2 p E = some t) (hc : xat M.2.2.2.2.1 t = code') (k : yW M code' ls [.retAddr 0] w c s Q) : yK M p rest ls r Q (.inr E) w c s := ⟨t, ht, hc ▸ k⟩
/-! what only the stack sees -/
theorem y_iconst {z : Int} (hk : code = (p, len, .iconst z, an) :: rest) (k : yW M rest ls (.int (Int32.ofInt z) :: st) w c s Q) : yW M code ls st w c s Q := by subst hk; exact y_step0 (fun l hl => ⟨l, hl, rfl⟩) k
theorem y_bipush {z : Int} (hk : code = (p, len, .bipush z, an) :: rest) (k : yW M rest ls (.int (Int8.ofInt z).toInt32 :: st) w c s Q) : yW M code ls st w c s Q := by subst hk; exact y_step0 (fun l hl => ⟨l, hl, rfl⟩) k
theorem y_sipush {z : Int} (hk : code = (p, len, .sipush z, an) :: rest) (k : yW M rest ls (.int (Int16.ofInt z).toInt32 :: st) w c s Q) : yW M code ls st w c s Q := by subst hk; exact y_step0 (fun l hl => ⟨l, hl, rfl⟩) k
theorem y_lconst {z : Fin 2} (hk : code = (p, len, .lconst z, an) :: rest) (k : yW M rest ls (.long (Int64.ofNat (z : Nat)) :: st) w c s Q) : yW M code ls (st) w c s Q := by subst hk; exact y_step0 (fun l hl => ⟨l, hl, rfl⟩) k
theorem y_null (hk : code = (p, len, .aconst_null, an) :: rest) (k : yW M rest ls (.null :: st) w c s Q) : yW M code ls (st) w c s Q := by subst hk; exact y_step0 (fun l hl => ⟨l, hl, rfl⟩) k
theorem y_iadd {x y : Int32} (hk : code = (p, len, .iadd, an) :: rest) (k : yW M rest ls (.int (x + y) :: r) w c s Q) : yW M code ls (.int y :: .int x :: r) w c s Q := by subst hk; exact y_step0 (fun l hl => ⟨l, hl, rfl⟩) k
theorem y_isub {x y : Int32} (hk : code = (p, len, .isub, an) :: rest) (k : yW M rest ls (.int (x - y) :: r) w c s Q) : yW M code ls (.int y :: .int x :: r) w c s Q := by subst hk; exact y_step0 (fun l hl => ⟨l, hl, rfl⟩) k
theorem y_imul {x y : Int32} (hk : code = (p, len, .imul, an) :: rest) (k : yW M rest ls (.int (x * y) :: r) w c s Q) : yW M code ls (.int y :: .int x :: r) w c s Q := by subst hk; exact y_step0 (fun l hl => ⟨l, hl, rfl⟩) k
theorem y_ishl {x y : Int32} (hk : code = (p, len, .ishl, an) :: rest) (k : yW M rest ls (.int (x <<< (y &&& 31)) :: r) w c s Q) : yW M code ls (.int y :: .int x :: r) w c s Q := by subst hk; exact y_step0 (fun l hl => ⟨l, hl, rfl⟩) k
theorem y_ishr {x y : Int32} (hk : code = (p, len, .ishr, an) :: rest) (k : yW M rest ls (.int (x >>> (y &&& 31)) :: r) w c s Q) : yW M code ls (.int y :: .int x :: r) w c s Q := by subst hk; exact y_step0 (fun l hl => ⟨l, hl, rfl⟩) k
theorem y_iushr {x y : Int32} (hk : code = (p, len, .iushr, an) :: rest) (k : yW M rest ls (.int ((x.toUInt32 >>> (y.toUInt32 &&& Int32.toUInt32 31)).toInt32) :: r) w c s Q) : yW M code ls (.int y :: .int x :: r) w c s Q := by subst hk; exact y_step0 (fun l hl => ⟨l, hl, rfl⟩) k
theorem y_iand {x y : Int32} (hk : code = (p, len, .iand, an) :: rest) (k : yW M rest ls (.int (x &&& y) :: r) w c s Q) : yW M code ls (.int y :: .int x :: r) w c s Q := by subst hk; exact y_step0 (fun l hl => ⟨l, hl, rfl⟩) k
theorem y_ior {x y : Int32} (hk : code = (p, len, .ior, an) :: rest) (k : yW M rest ls (.int (x ||| y) :: r) w c s Q) : yW M code ls (.int y :: .int x :: r) w c s Q := by subst hk; exact y_step0 (fun l hl => ⟨l, hl, rfl⟩) k
theorem y_ixor {x y : Int32} (hk : code = (p, len, .ixor, an) :: rest) (k : yW M rest ls (.int (x ^^^ y) :: r) w c s Q) : yW M code ls (.int y :: .int x :: r) w c s Q := by subst hk; exact y_step0 (fun l hl => ⟨l, hl, rfl⟩) k
theorem y_idiv {x y : Int32} (hk : code = (p, len, .idiv, an) :: rest) (hy : ¬ y = 0) (k : yW M rest ls (.int (x / y) :: r) w c s Q) : yW M code ls (.int y :: .int x :: r) w c s Q := by subst hk; exact y_step0 (fun l hl => ⟨l, hl, by show xstk (if y = 0 then none else some (.int (x / y) :: r)) rest l (yH w) = _; rw [if_neg hy]; rfl⟩) k
theorem y_irem {x y : Int32} (hk : code = (p, len, .irem, an) :: rest) (hy : ¬ y = 0) (k : yW M rest ls (.int (x - x / y * y) :: r) w c s Q) : yW M code ls (.int y :: .int x :: r) w c s Q := by subst hk; exact y_step0 (fun l hl => ⟨l, hl, by show xstk (if y = 0 then none else some (.int (x - x / y * y) :: r)) rest l (yH w) = _; rw [if_neg hy]; rfl⟩) k
theorem y_ineg {x : Int32} (hk : code = (p, len, .ineg, an) :: rest) (k : yW M rest ls (.int (-x) :: r) w c s Q) : yW M code ls (.int x :: r) w c s Q := by subst hk; exact y_step0 (fun l hl => ⟨l, hl, rfl⟩) k
theorem y_i2l {x : Int32} (hk : code = (p, len, .i2l, an) :: rest) (k : yW M rest ls (.long x.toInt64 :: r) w c s Q) : yW M code ls (.int x :: r) w c s Q := by subst hk; exact y_step0 (fun l hl => ⟨l, hl, rfl⟩) k
theorem y_i2b {x : Int32} (hk : code = (p, len, .i2b, an) :: rest) (k : yW M rest ls (.int x.toInt8.toInt32 :: r) w c s Q) : yW M code ls (.int x :: r) w c s Q := by subst hk; exact y_step0 (fun l hl => ⟨l, hl, rfl⟩) k
theorem y_l2i {x : Int64} (hk : code = (p, len, .l2i, an) :: rest) (k : yW M rest ls (.int x.toInt32 :: r) w c s Q) : yW M code ls (.long x :: r) w c s Q := by subst hk; exact y_step0 (fun l hl => ⟨l, hl, rfl⟩) k
theorem y_ladd {x y : Int64} (hk : code = (p, len, .ladd, an) :: rest) (k : yW M rest ls (.long (x + y) :: r) w c s Q) : yW M code ls (.long y :: .long x :: r) w c s Q := by subst hk; exact y_step0 (fun l hl => ⟨l, hl, rfl⟩) k
theorem y_lmul {x y : Int64} (hk : code = (p, len, .lmul, an) :: rest) (k : yW M rest ls (.long (x * y) :: r) w c s Q) : yW M code ls (.long y :: .long x :: r) w c s Q := by subst hk; exact y_step0 (fun l hl => ⟨l, hl, rfl⟩) k
theorem y_lcmp {x y : Int64} (hk : code = (p, len, .lcmp, an) :: rest) (k : yW M rest ls (.int (lg_cmp x y) :: r) w c s Q) : yW M code ls (.long y :: .long x :: r) w c s Q := by subst hk; exact y_step0 (fun l hl => ⟨l, hl, rfl⟩) k
theorem y_ldiv {x y : Int64} (hk : code = (p, len, .ldiv, an) :: rest) (hy : ¬ y = 0) (k : yW M rest ls (.long (x / y) :: r) w c s Q) : yW M code ls (.long y :: .long x :: r) w c s Q := by subst hk; exact y_step0 (fun l hl => ⟨l, hl, by show xstk (if y = 0 then none else some (.long (x / y) :: r)) rest l (yH w) = _; rw [if_neg hy]; rfl⟩) k
theorem y_dup {v : Value} (hk : code = (p, len, .dup, an) :: rest) (hv : Nat.beq v.category 1 = true) (k : yW M rest ls (v :: v :: r) w c s Q) : yW M code ls (v :: r) w c s Q := by subst hk; exact y_step0 (fun l hl => ⟨l, hl, by show xstk (if v.category = 1 then some (v :: v :: r) else none) rest l (yH w) = _; rw [if_pos (Nat.eq_of_beq_eq_true hv)]; rfl⟩) k
theorem y_dup_x1 {v u : Value} (hk : code = (p, len, .dup_x1, an) :: rest) (hv : Nat.beq v.category 1 = true) (hu : Nat.beq u.category 1 = true) (k : yW M rest ls (v :: u :: v :: r) w c s Q) : yW M code ls (v :: u :: r) w c s Q := by subst hk; exact y_step0 (fun l hl => ⟨l, hl, by show xstk (if v.category = 1 ∧ u.category = 1 then some (v :: u :: v :: r) else none) rest l (yH w) = _; rw [if_pos ⟨Nat.eq_of_beq_eq_true hv, Nat.eq_of_beq_eq_true hu⟩]; rfl⟩) k
theorem y_dup2 {v u : Value} (hk : code = (p, len, .dup2, an) :: rest) (hv : Nat.beq v.category 1 = true) (hu : Nat.beq u.category 1 = true) (k : yW M rest ls (v :: u :: v :: u :: r) w c s Q) : yW M code ls (v :: u :: r) w c s Q := by subst hk; exact y_step0 (fun l hl => ⟨l, hl, by show xstk (if v.category = 1 ∧ u.category = 1 then some (v :: u :: v :: u :: r) else none) rest l (yH w) = _; rw [if_pos ⟨Nat.eq_of_beq_eq_true hv, Nat.eq_of_beq_eq_true hu⟩]; rfl⟩) k
theorem y_pop {v : Value} (hk : code = (p, len, .pop, an) :: rest) (hv : Nat.beq v.category 1 = true) (k : yW M rest ls (r) w c s Q) : yW M code ls (v :: r) w c s Q := by subst hk; exact y_step0 (fun l hl => ⟨l, hl, by show xstk (if v.category = 1 then some r else none) rest l (yH w) = _; rw [if_pos (Nat.eq_of_beq_eq_true hv)]; rfl⟩) k
theorem y_pop2 {v : Value} (hk : code = (p, len, .pop2, an) :: rest) (hv : Nat.beq v.category 2 = true) (k : yW M rest ls (r) w c s Q) : yW M code ls (v :: r) w c s Q := by subst hk; exact y_step0 (fun l hl => ⟨l, hl, by show xstk (if v.category = 2 then some r else none) rest l (yH w) = _; rw [if_pos (Nat.eq_of_beq_eq_true hv)]; rfl⟩) k
theorem y_ldc {i z : Nat} (hk : code = (p, len, .ldc i, [z]) :: rest) (h0 : Nat.beq z 300 = false) (h1 : Nat.beq z 301 = false) (k : yW M rest ls (.int (Int32.ofNat z) :: st) w c s Q) : yW M code ls st w c s Q := by
  subst hk
  refine y_step0 (fun l hl => ⟨l, hl, ?_⟩) k
  unfold xnext; dsimp only
  split
  · rename_i e; cases e; cases h0
  · rename_i e; cases e; cases h1
  · rfl
theorem y_ldc_w {i z : Nat} (hk : code = (p, len, .ldc_w i, [z]) :: rest) (h0 : Nat.beq z 300 = false) (h1 : Nat.beq z 301 = false) (k : yW M rest ls (.int (Int32.ofNat z) :: st) w c s Q) : yW M code ls st w c s Q := by
  subst hk
  refine y_step0 (fun l hl => ⟨l, hl, ?_⟩) k
  unfold xnext; dsimp only
  split
  · rename_i e; cases e; cases h0
  · rename_i e; cases e; cases h1
  · rfl
theorem y_ldc2 {i z : Nat} {an : List Nat} (hk : code = (p, len, .ldc2_w i, z :: an) :: rest) (k : yW M rest ls (.long (Int64.ofNat z) :: st) w c s Q) : yW M code ls st w c s Q := by subst hk; exact y_step0 (fun l hl => ⟨l, hl, rfl⟩) k
theorem y_ldcwS {i x : Nat} {an : List Nat} (hk : code = (p, len, .ldc_w i, 300 :: x :: an) :: rest) (h0 : Nat.blt x xN0 = true) (h1 : x < w.1) (k : yW M rest ls (.ref x :: st) w c s Q) : yW M code ls st w c s Q := by
  subst hk
  refine y_step0 (fun l hl => ⟨l, hl, ?_⟩) k
  show xhst (if x < xN0 ∧ x < w.1 then some (.ref x :: st, yH w, 0, 0) else none) rest l = _
  rw [if_pos ⟨blt_lt h0, h1⟩]; rfl
theorem y_ldcC {i : Nat} {an : List Nat} (hk : code = (p, len, .ldc i, 301 :: an) :: rest) (k : yW M rest ls (.retAddr 1 :: st) w c s Q) : yW M code ls st w c s Q := by subst hk; exact y_step0 (fun l hl => ⟨l, hl, rfl⟩) k
theorem y_iload {i : Nat} {x : Int32} (hk : code = (p, len, .iload i, an) :: rest) (hl0 : ls[i]? = some (some (.int x))) (k : yW M rest ls (.int x :: st) w c s Q) : yW M code ls st w c s Q := by
  subst hk
  refine y_step0 (fun l hl => ⟨l, hl, ?_⟩) k
  show xlst (xldi l i st) rest (yH w) = _
  unfold xldi; rw [hl i _ hl0]; rfl
theorem y_iload_n {i : Fin 4} {x : Int32} (hk : code = (p, len, .iload_n i, an) :: rest) (hl0 : ls[(i : Nat)]? = some (some (.int x))) (k : yW M rest ls (.int x :: st) w c s Q) : yW M code ls st w c s Q := by
  subst hk
  refine y_step0 (fun l hl => ⟨l, hl, ?_⟩) k
  show xlst (xldi l i st) rest (yH w) = _
  unfold xldi; rw [hl i _ hl0]; rfl
theorem y_lload {i : Nat} {x : Int64} (hk : code = (p, len, .lload i, an) :: rest) (hl0 : ls[i]? = some (some (.long x))) (k : yW M rest ls (.long x :: st) w c s Q) : yW M code ls st w c s Q := by
  subst hk
  refine y_step0 (fun l hl => ⟨l, hl, ?_⟩) k
  show xlst (xldl l i st) rest (yH w) = _
  unfold xldl; rw [hl i _ hl0]; rfl
theorem y_lload_n {i : Fin 4} {x : Int64} (hk : code = (p, len, .lload_n i, an) :: rest) (hl0 : ls[(i : Nat)]? = some (some (.long x))) (k : yW M rest ls (.long x :: st) w c s Q) : yW M code ls st w c s Q := by
  subst hk
  refine y_step0 (fun l hl => ⟨l, hl, ?_⟩) k
  show xlst (xldl l i st) rest (yH w) = _
  unfold xldl; rw [hl i _ hl0]; rfl
theorem y_aload {i : Nat} {a : Nat} (hk : code = (p, len, .aload i, an) :: rest) (hl0 : ls[i]? = some (some (.ref a))) (k : yW M rest ls (.ref a :: st) w c s Q) : yW M code ls st w c s Q := by
  subst hk
  refine y_step0 (fun l hl => ⟨l, hl, ?_⟩) k
  show xlst (xlda l i st) rest (yH w) = _
  unfold xlda; rw [hl i _ hl0]; rfl
theorem y_aload_n {i : Fin 4} {a : Nat} (hk : code = (p, len, .aload_n i, an) :: rest) (hl0 : ls[(i : Nat)]? = some (some (.ref a))) (k : yW M rest ls (.ref a :: st) w c s Q) : yW M code ls st w c s Q := by
  subst hk
  refine y_step0 (fun l hl => ⟨l, hl, ?_⟩) k
  show xlst (xlda l i st) rest (yH w) = _
  unfold xlda; rw [hl i _ hl0]; rfl
theorem y_aload_nR {i : Fin 4} {a : Nat} (hk : code = (p, len, .aload_n i, an) :: rest) (hl0 : ls[(i : Nat)]? = some (some (.retAddr a))) (k : yW M rest ls (.retAddr a :: st) w c s Q) : yW M code ls st w c s Q := by
  subst hk
  refine y_step0 (fun l hl => ⟨l, hl, ?_⟩) k
  show xlst (xlda l i st) rest (yH w) = _
  unfold xlda; rw [hl i _ hl0]; rfl
theorem y_istore {i : Nat} {x : Int32} (hk : code = (p, len, .istore i, an) :: rest) (hi : Nat.blt i M.2.2.1 = true) (hs : yst1 ls i (.int x) = ls') (k : yW M rest ls' r w c s Q) : yW M code ls (.int x :: r) w c s Q := by
  subst hk
  refine y_step0 (fun l hl => ⟨_, hs ▸ yL_st1 hl, ?_⟩) k
  show xlst (if i < M.2.2.1 then some (xst1 l i (.int x), r) else none) rest (yH w) = _
  rw [if_pos (blt_lt hi)]; rfl
theorem y_istore_n {i : Fin 4} {x : Int32} (hk : code = (p, len, .istore_n i, an) :: rest) (hi : Nat.blt (i : Nat) M.2.2.1 = true) (hs : yst1 ls (i : Nat) (.int x) = ls') (k : yW M rest ls' r w c s Q) : yW M code ls (.int x :: r) w c s Q := by
  subst hk
  refine y_step0 (fun l hl => ⟨_, hs ▸ yL_st1 hl, ?_⟩) k
  show xlst (if i < M.2.2.1 then some (xst1 l i (.int x), r) else none) rest (yH w) = _
  rw [if_pos (blt_lt hi)]; rfl
theorem y_lstore {i : Nat} {x : Int64} (hk : code = (p, len, .lstore i, an) :: rest) (hi : Nat.blt (i + 1) M.2.2.1 = true) (hs : yst2 ls i (.long x) = ls') (k : yW M rest ls' r w c s Q) : yW M code ls (.long x :: r) w c s Q := by
  subst hk
  refine y_step0 (fun l hl => ⟨_, hs ▸ yL_st2 hl, ?_⟩) k
  show xlst (if i + 1 < M.2.2.1 then some (xst2 l i (.long x), r) else none) rest (yH w) = _
  rw [if_pos (blt_lt hi)]; rfl
theorem y_lstore_n {i : Fin 4} {x : Int64} (hk : code = (p, len, .lstore_n i, an) :: rest) (hi : Nat.blt ((i : Nat) + 1) M.2.2.1 = true) (hs : yst2 ls (i : Nat) (.long x) = ls') (k : yW M rest ls' r w c s Q) : yW M code ls (.long x :: r) w c s Q := by
  subst hk
  refine y_step0 (fun l hl => ⟨_, hs ▸ yL_st2 hl, ?_⟩) k
  show xlst (if i + 1 < M.2.2.1 then some (xst2 l i (.long x), r) else none) rest (yH w) = _
  rw [if_pos (blt_lt hi)]; rfl
theorem y_astore {i : Nat} {a : Nat} (hk : code = (p, len, .astore i, an) :: rest) (hi : Nat.blt i M.2.2.1 = true) (hs : yst1 ls i (.ref a) = ls') (k : yW M rest ls' r w c s Q) : yW M code ls (.ref a :: r) w c s Q := by
  subst hk
  refine y_step0 (fun l hl => ⟨_, hs ▸ yL_st1 hl, ?_⟩) k
  show xlst (if i < M.2.2.1 then some (xst1 l i (.ref a), r) else none) rest (yH w) = _
  rw [if_pos (blt_lt hi)]; rfl
theorem y_astoreR {i : Nat} {a : Nat} (hk : code = (p, len, .astore i, an) :: rest) (hi : Nat.blt i M.2.2.1 = true) (hs : yst1 ls i (.retAddr a) = ls') (k : yW M rest ls' r w c s Q) : yW M code ls (.retAddr a :: r) w c s Q := by
  subst hk
  refine y_step0 (fun l hl => ⟨_, hs ▸ yL_st1 hl, ?_⟩) k
  show xlst (if i < M.2.2.1 then some (xst1 l i (.retAddr a), r) else none) rest (yH w) = _
  rw [if_pos (blt_lt hi)]; rfl
theorem y_astore_n {i : Fin 4} {a : Nat} (hk : code = (p, len, .astore_n i, an) :: rest) (hi : Nat.blt (i : Nat) M.2.2.1 = true) (hs : yst1 ls (i : Nat) (.ref a) = ls') (k : yW M rest ls' r w c s Q) : yW M code ls (.ref a :: r) w c s Q := by
  subst hk
  refine y_step0 (fun l hl => ⟨_, hs ▸ yL_st1 hl, ?_⟩) k
  show xlst (if i < M.2.2.1 then some (xst1 l i (.ref a), r) else none) rest (yH w) = _
  rw [if_pos (blt_lt hi)]; rfl
theorem y_astore_nR {i : Fin 4} {a : Nat} (hk : code = (p, len, .astore_n i, an) :: rest) (hi : Nat.blt (i : Nat) M.2.2.1 = true) (hs : yst1 ls (i : Nat) (.retAddr a) = ls') (k : yW M rest ls' r w c s Q) : yW M code ls (.retAddr a :: r) w c s Q := by
  subst hk
  refine y_step0 (fun l hl => ⟨_, hs ▸ yL_st1 hl, ?_⟩) k
  show xlst (if i < M.2.2.1 then some (xst1 l i (.retAddr a), r) else none) rest (yH w) = _
  rw [if_pos (blt_lt hi)]; rfl
theorem y_iinc {i : Nat} {z : Int} {x : Int32} (hk : code = (p, len, .iinc i z, an) :: rest) (hl0 : ls[i]? = some (some (.int x))) (hi : Nat.blt i M.2.2.1 = true) (hs : yst1 ls i (.int (x + Int32.ofInt z)) = ls') (k : yW M rest ls' st w c s Q) : yW M code ls st w c s Q := by
  subst hk
  refine y_step0 (fun l hl => ⟨_, hs ▸ yL_st1 hl, ?_⟩) k
  show xlst (match xld l i with
    | some (.int x) => if i < M.2.2.1 then some (xst1 l i (.int (x + Int32.ofInt z)), st) else none
    | _ => none) rest (yH w) = _
  rw [hl i _ hl0]
  show xlst (if i < M.2.2.1 then some (xst1 l i (.int (x + Int32.ofInt z)), st) else none) rest (yH w) = _
  rw [if_pos (blt_lt hi)]; rfl
theorem y_goto {off : Int} {t : Nat} {an : List Nat} (hk : code = (p, len, .goto off, t :: an) :: rest) (hj : xat M.2.2.2.2.1 t = code') (k : yW M code' ls st w c s Q) : yW M code ls st w c s Q := by subst hk; exact y_step0 (fun l hl => ⟨l, hl, rfl⟩) (hj ▸ k)
theorem xcmp_lt {x y : Int32} : (xcmp .lt x y = true → x.toInt < y.toInt) ∧ (xcmp .lt x y = false → y.toInt ≤ x.toInt) := by
  unfold xcmp; simp only [decide_eq_true_eq, decide_eq_false_iff_not, Int32.lt_iff_toInt_lt, Int32.le_iff_toInt_le, ← Int32.toInt_inj]
  constructor <;> intro h <;> omega
theorem y_icmp_lt {off : Int} {t : Nat} {an : List Nat} {x y : Int32} (hk : code = (p, len, .if_icmp .lt off, t :: an) :: rest) (hj : xat M.2.2.2.2.1 t = code') (k1 : x.toInt < y.toInt → yW M code' ls r w c s Q) (k2 : y.toInt ≤ x.toInt → yW M rest ls r w c s Q) : yW M code ls (.int y :: .int x :: r) w c s Q := by
  subst hk; subst hj
  cases hb : xcmp .lt x y with
  | true => exact y_step0 (fun l hl => ⟨l, hl, by show xfork M (xcmp .lt x y) t rest l r (yH w) = _; rw [hb]; rfl⟩) (k1 (xcmp_lt.1 hb))
  | false => exact y_step0 (fun l hl => ⟨l, hl, by show xfork M (xcmp .lt x y) t rest l r (yH w) = _; rw [hb]; rfl⟩) (k2 (xcmp_lt.2 hb))
theorem y_if_lt {off : Int} {t : Nat} {an : List Nat} {x : Int32} (hk : code = (p, len, .ifCond .lt off, t :: an) :: rest) (hj : xat M.2.2.2.2.1 t = code') (k1 : x.toInt < 0 → yW M code' ls r w c s Q) (k2 : 0 ≤ x.toInt → yW M rest ls r w c s Q) : yW M code ls (.int x :: r) w c s Q := by
  subst hk; subst hj
  cases hb : xcmp .lt x 0 with
  | true => exact y_step0 (fun l hl => ⟨l, hl, by show xfork M (xcmp .lt x 0) t rest l r (yH w) = _; rw [hb]; rfl⟩) (k1 (xcmp_lt.1 hb))
  | false => exact y_step0 (fun l hl => ⟨l, hl, by show xfork M (xcmp .lt x 0) t rest l r (yH w) = _; rw [hb]; rfl⟩) (k2 (xcmp_lt.2 hb))
theorem xcmp_ge {x y : Int32} : (xcmp .ge x y = true → y.toInt ≤ x.toInt) ∧ (xcmp .ge x y = false → x.toInt < y.toInt) := by
  unfold xcmp; simp only [decide_eq_true_eq, decide_eq_false_iff_not, Int32.lt_iff_toInt_lt, Int32.le_iff_toInt_le, ← Int32.toInt_inj]
  constructor <;> intro h <;> omega
theorem y_icmp_ge {off : Int} {t : Nat} {an : List Nat} {x y : Int32} (hk : code = (p, len, .if_icmp .ge off, t :: an) :: rest) (hj : xat M.2.2.2.2.1 t = code') (k1 : y.toInt ≤ x.toInt → yW M code' ls r w c s Q) (k2 : x.toInt < y.toInt → yW M rest ls r w c s Q) : yW M code ls (.int y :: .int x :: r) w c s Q := by
  subst hk; subst hj
  cases hb : xcmp .ge x y with
  | true => exact y_step0 (fun l hl => ⟨l, hl, by show xfork M (xcmp .ge x y) t rest l r (yH w) = _; rw [hb]; rfl⟩) (k1 (xcmp_ge.1 hb))
  | false => exact y_step0 (fun l hl => ⟨l, hl, by show xfork M (xcmp .ge x y) t rest l r (yH w) = _; rw [hb]; rfl⟩) (k2 (xcmp_ge.2 hb))
theorem y_if_ge {off : Int} {t : Nat} {an : List Nat} {x : Int32} (hk : code = (p, len, .ifCond .ge off, t :: an) :: rest) (hj : xat M.2.2.2.2.1 t = code') (k1 : 0 ≤ x.toInt → yW M code' ls r w c s Q) (k2 : x.toInt < 0 → yW M rest ls r w c s Q) : yW M code ls (.int x :: r) w c s Q := by
  subst hk; subst hj
  cases hb : xcmp .ge x 0 with
  | true => exact y_step0 (fun l hl => ⟨l, hl, by show xfork M (xcmp .ge x 0) t rest l r (yH w) = _; rw [hb]; rfl⟩) (k1 (xcmp_ge.1 hb))
  | false => exact y_step0 (fun l hl => ⟨l, hl, by show xfork M (xcmp .ge x 0) t rest l r (yH w) = _; rw [hb]; rfl⟩) (k2 (xcmp_ge.2 hb))
theorem xcmp_gt {x y : Int32} : (xcmp .gt x y = true → y.toInt < x.toInt) ∧ (xcmp .gt x y = false → x.toInt ≤ y.toInt) := by
  unfold xcmp; simp only [decide_eq_true_eq, decide_eq_false_iff_not, Int32.lt_iff_toInt_lt, Int32.le_iff_toInt_le, ← Int32.toInt_inj]
  constructor <;> intro h <;> omega
theorem y_icmp_gt {off : Int} {t : Nat} {an : List Nat} {x y : Int32} (hk : code = (p, len, .if_icmp .gt off, t :: an) :: rest) (hj : xat M.2.2.2.2.1 t = code') (k1 : y.toInt < x.toInt → yW M code' ls r w c s Q) (k2 : x.toInt ≤ y.toInt → yW M rest ls r w c s Q) : yW M code ls (.int y :: .int x :: r) w c s Q := by
  subst hk; subst hj
  cases hb : xcmp .gt x y with
  | true => exact y_step0 (fun l hl => ⟨l, hl, by show xfork M (xcmp .gt x y) t rest l r (yH w) = _; rw [hb]; rfl⟩) (k1 (xcmp_gt.1 hb))
  | false => exact y_step0 (fun l hl => ⟨l, hl, by show xfork M (xcmp .gt x y) t rest l r (yH w) = _; rw [hb]; rfl⟩) (k2 (xcmp_gt.2 hb))
theorem y_if_gt {off : Int} {t : Nat} {an : List Nat} {x : Int32} (hk : code = (p, len, .ifCond .gt off, t :: an) :: rest) (hj : xat M.2.2.2.2.1 t = code') (k1 : 0 < x.toInt → yW M code' ls r w c s Q) (k2 : x.toInt ≤ 0 → yW M rest ls r w c s Q) : yW M code ls (.int x :: r) w c s Q := by
  subst hk; subst hj
  cases hb : xcmp .gt x 0 with
  | true => exact y_step0 (fun l hl => ⟨l, hl, by show xfork M (xcmp .gt x 0) t rest l r (yH w) = _; rw [hb]; rfl⟩) (k1 (xcmp_gt.1 hb))
  | false => exact y_step0 (fun l hl => ⟨l, hl, by show xfork M (xcmp .gt x 0) t rest l r (yH w) = _; rw [hb]; rfl⟩) (k2 (xcmp_gt.2 hb))
theorem xcmp_le {x y : Int32} : (xcmp .le x y = true → x.toInt ≤ y.toInt) ∧ (xcmp .le x y = false → y.toInt < x.toInt) := by
  unfold xcmp; simp only [decide_eq_true_eq, decide_eq_false_iff_not, Int32.lt_iff_toInt_lt, Int32.le_iff_toInt_le, ← Int32.toInt_inj]
  constructor <;> intro h <;> omega
theorem y_icmp_le {off : Int} {t : Nat} {an : List Nat} {x y : Int32} (hk : code = (p, len, .if_icmp .le off, t :: an) :: rest) (hj : xat M.2.2.2.2.1 t = code') (k1 : x.toInt ≤ y.toInt → yW M code' ls r w c s Q) (k2 : y.toInt < x.toInt → yW M rest ls r w c s Q) : yW M code ls (.int y :: .int x :: r) w c s Q := by
  subst hk; subst hj
  cases hb : xcmp .le x y with
  | true => exact y_step0 (fun l hl => ⟨l, hl, by show xfork M (xcmp .le x y) t rest l r (yH w) = _; rw [hb]; rfl⟩) (k1 (xcmp_le.1 hb))
  | false => exact y_step0 (fun l hl => ⟨l, hl, by show xfork M (xcmp .le x y) t rest l r (yH w) = _; rw [hb]; rfl⟩) (k2 (xcmp_le.2 hb))
theorem y_if_le {off : Int} {t : Nat} {an : List Nat} {x : Int32} (hk : code = (p, len, .ifCond .le off, t :: an) :: rest) (hj : xat M.2.2.2.2.1 t = code') (k1 : x.toInt ≤ 0 → yW M code' ls r w c s Q) (k2 : 0 < x.toInt → yW M rest ls r w c s Q) : yW M code ls (.int x :: r) w c s Q := by
  subst hk; subst hj
  cases hb : xcmp .le x 0 with
  | true => exact y_step0 (fun l hl => ⟨l, hl, by show xfork M (xcmp .le x 0) t rest l r (yH w) = _; rw [hb]; rfl⟩) (k1 (xcmp_le.1 hb))
  | false => exact y_step0 (fun l hl => ⟨l, hl, by show xfork M (xcmp .le x 0) t rest l r (yH w) = _; rw [hb]; rfl⟩) (k2 (xcmp_le.2 hb))
theorem y_if_leT {off : Int} {t : Nat} {an : List Nat} {x : Int32} (hk : code = (p, len, .ifCond .le off, t :: an) :: rest) (hj : xat M.2.2.2.2.1 t = code') (hb : xcmp .le x 0 = true) (k : yW M code' ls r w c s Q) : yW M code ls (.int x :: r) w c s Q := by
  subst hk; subst hj
  exact y_step0 (fun l hl => ⟨l, hl, by show xfork M (xcmp .le x 0) t rest l r (yH w) = _; rw [hb]; rfl⟩) k
theorem y_if_leF {off : Int} {t : Nat} {an : List Nat} {x : Int32} (hk : code = (p, len, .ifCond .le off, t :: an) :: rest) (hb : xcmp .le x 0 = false) (k : yW M rest ls r w c s Q) : yW M code ls (.int x :: r) w c s Q := by
  subst hk
  exact y_step0 (fun l hl => ⟨l, hl, by show xfork M (xcmp .le x 0) t rest l r (yH w) = _; rw [hb]; rfl⟩) k
theorem xcmp_eq {x y : Int32} : (xcmp .eq x y = true → x.toInt = y.toInt) ∧ (xcmp .eq x y = false → ¬ x.toInt = y.toInt) := by
  unfold xcmp; simp only [decide_eq_true_eq, decide_eq_false_iff_not, Int32.lt_iff_toInt_lt, Int32.le_iff_toInt_le, ← Int32.toInt_inj]
  constructor <;> intro h <;> omega
theorem y_icmp_eq {off : Int} {t : Nat} {an : List Nat} {x y : Int32} (hk : code = (p, len, .if_icmp .eq off, t :: an) :: rest) (hj : xat M.2.2.2.2.1 t = code') (k1 : x.toInt = y.toInt → yW M code' ls r w c s Q) (k2 : ¬ x.toInt = y.toInt → yW M rest ls r w c s Q) : yW M code ls (.int y :: .int x :: r) w c s Q := by
  subst hk; subst hj
  cases hb : xcmp .eq x y with
  | true => exact y_step0 (fun l hl => ⟨l, hl, by show xfork M (xcmp .eq x y) t rest l r (yH w) = _; rw [hb]; rfl⟩) (k1 (xcmp_eq.1 hb))
  | false => exact y_step0 (fun l hl => ⟨l, hl, by show xfork M (xcmp .eq x y) t rest l r (yH w) = _; rw [hb]; rfl⟩) (k2 (xcmp_eq.2 hb))
theorem y_if_eq {off : Int} {t : Nat} {an : List Nat} {x : Int32} (hk : code = (p, len, .ifCond .eq off, t :: an) :: rest) (hj : xat M.2.2.2.2.1 t = code') (k1 : x.toInt = 0 → yW M code' ls r w c s Q) (k2 : ¬ x.toInt = 0 → yW M rest ls r w c s Q) : yW M code ls (.int x :: r) w c s Q := by
  subst hk; subst hj
  cases hb : xcmp .eq x 0 with
  | true => exact y_step0 (fun l hl => ⟨l, hl, by show xfork M (xcmp .eq x 0) t rest l r (yH w) = _; rw [hb]; rfl⟩) (k1 (xcmp_eq.1 hb))
  | false => exact y_step0 (fun l hl => ⟨l, hl, by show xfork M (xcmp .eq x 0) t rest l r (yH w) = _; rw [hb]; rfl⟩) (k2 (xcmp_eq.2 hb))
theorem y_if_eqT {off : Int} {t : Nat} {an : List Nat} {x : Int32} (hk : code = (p, len, .ifCond .eq off, t :: an) :: rest) (hj : xat M.2.2.2.2.1 t = code') (hb : xcmp .eq x 0 = true) (k : yW M code' ls r w c s Q) : yW M code ls (.int x :: r) w c s Q := by
  subst hk; subst hj
  exact y_step0 (fun l hl => ⟨l, hl, by show xfork M (xcmp .eq x 0) t rest l r (yH w) = _; rw [hb]; rfl⟩) k
theorem y_if_eqF {off : Int} {t : Nat} {an : List Nat} {x : Int32} (hk : code = (p, len, .ifCond .eq off, t :: an) :: rest) (hb : xcmp .eq x 0 = false) (k : yW M rest ls r w c s Q) : yW M code ls (.int x :: r) w c s Q := by
  subst hk
  exact y_step0 (fun l hl => ⟨l, hl, by show xfork M (xcmp .eq x 0) t rest l r (yH w) = _; rw [hb]; rfl⟩) k
theorem xcmp_ne {x y : Int32} : (xcmp .ne x y = true → ¬ x.toInt = y.toInt) ∧ (xcmp .ne x y = false → x.toInt = y.toInt) := by
  unfold xcmp; simp only [decide_eq_true_eq, decide_eq_false_iff_not, Int32.lt_iff_toInt_lt, Int32.le_iff_toInt_le, ← Int32.toInt_inj]
  constructor <;> intro h <;> omega
theorem y_icmp_ne {off : Int} {t : Nat} {an : List Nat} {x y : Int32} (hk : code = (p, len, .if_icmp .ne off, t :: an) :: rest) (hj : xat M.2.2.2.2.1 t = code') (k1 : ¬ x.toInt = y.toInt → yW M code' ls r w c s Q) (k2 : x.toInt = y.toInt → yW M rest ls r w c s Q) : yW M code ls (.int y :: .int x :: r) w c s Q := by
  subst hk; subst hj
  cases hb : xcmp .ne x y with
  | true => exact y_step0 (fun l hl => ⟨l, hl, by show xfork M (xcmp .ne x y) t rest l r (yH w) = _; rw [hb]; rfl⟩) (k1 (xcmp_ne.1 hb))
  | false => exact y_step0 (fun l hl => ⟨l, hl, by show xfork M (xcmp .ne x y) t rest l r (yH w) = _; rw [hb]; rfl⟩) (k2 (xcmp_ne.2 hb))
theorem y_if_ne {off : Int} {t : Nat} {an : List Nat} {x : Int32} (hk : code = (p, len, .ifCond .ne off, t :: an) :: rest) (hj : xat M.2.2.2.2.1 t = code') (k1 : ¬ x.toInt = 0 → yW M code' ls r w c s Q) (k2 : x.toInt = 0 → yW M rest ls r w c s Q) : yW M code ls (.int x :: r) w c s Q := by
  subst hk; subst hj
  cases hb : xcmp .ne x 0 with
  | true => exact y_step0 (fun l hl => ⟨l, hl, by show xfork M (xcmp .ne x 0) t rest l r (yH w) = _; rw [hb]; rfl⟩) (k1 (xcmp_ne.1 hb))
  | false => exact y_step0 (fun l hl => ⟨l, hl, by show xfork M (xcmp .ne x 0) t rest l r (yH w) = _; rw [hb]; rfl⟩) (k2 (xcmp_ne.2 hb))
theorem y_if_neT {off : Int} {t : Nat} {an : List Nat} {x : Int32} (hk : code = (p, len, .ifCond .ne off, t :: an) :: rest) (hj : xat M.2.2.2.2.1 t = code') (hb : xcmp .ne x 0 = true) (k : yW M code' ls r w c s Q) : yW M code ls (.int x :: r) w c s Q := by
  subst hk; subst hj
  exact y_step0 (fun l hl => ⟨l, hl, by show xfork M (xcmp .ne x 0) t rest l r (yH w) = _; rw [hb]; rfl⟩) k
theorem y_if_neF {off : Int} {t : Nat} {an : List Nat} {x : Int32} (hk : code = (p, len, .ifCond .ne off, t :: an) :: rest) (hb : xcmp .ne x 0 = false) (k : yW M rest ls r w c s Q) : yW M code ls (.int x :: r) w c s Q := by
  subst hk
  exact y_step0 (fun l hl => ⟨l, hl, by show xfork M (xcmp .ne x 0) t rest l r (yH w) = _; rw [hb]; rfl⟩) k
theorem y_nonR {a : Nat} {off : Int} {t : Nat} {an : List Nat} (hk : code = (p, len, .ifnonnull off, t :: an) :: rest) (hj : xat M.2.2.2.2.1 t = code') (k : yW M code' ls r w c s Q) : yW M code ls (.ref a :: r) w c s Q := by subst hk; subst hj; exact y_step0 (fun l hl => ⟨l, hl, rfl⟩) k
theorem y_acmp_eq {off : Int} {t : Nat} {an : List Nat} {u v : Value} (hk : code = (p, len, .if_acmp .eq off, t :: an) :: rest) (hj : xat M.2.2.2.2.1 t = code') (ha : xapart u v = true) (k1 : u = v → yW M code' ls r w c s Q) (k2 : ¬ u = v → yW M rest ls r w c s Q) : yW M code ls (v :: u :: r) w c s Q := by
  subst hk; subst hj
  have e : ∀ l, xnext M ((p, len, .if_acmp .eq off, t :: an) :: rest) l (v :: u :: r) (yH w) = xfork M (decide (u = v)) t rest l r (yH w) := fun l => if_pos ha
  by_cases hb : u = v
  · exact y_step0 (fun l hl => ⟨l, hl, by rw [e, decide_eq_true hb]; rfl⟩) (k1 hb)
  · exact y_step0 (fun l hl => ⟨l, hl, by rw [e, decide_eq_false hb]; rfl⟩) (k2 hb)
theorem y_acmp_ne {off : Int} {t : Nat} {an : List Nat} {u v : Value} (hk : code = (p, len, .if_acmp .ne off, t :: an) :: rest) (hj : xat M.2.2.2.2.1 t = code') (ha : xapart u v = true) (k1 : ¬ u = v → yW M code' ls r w c s Q) (k2 : u = v → yW M rest ls r w c s Q) : yW M code ls (v :: u :: r) w c s Q := by
  subst hk; subst hj
  have e : ∀ l, xnext M ((p, len, .if_acmp .ne off, t :: an) :: rest) l (v :: u :: r) (yH w) = xfork M (decide (¬ u = v)) t rest l r (yH w) := fun l => if_pos ha
  by_cases hb : ¬ u = v
  · exact y_step0 (fun l hl => ⟨l, hl, by rw [e, decide_eq_true hb]; rfl⟩) (k1 hb)
  · exact y_step0 (fun l hl => ⟨l, hl, by rw [e, decide_eq_false hb]; rfl⟩) (k2 (Decidable.of_not_not hb))
theorem y_swOut {dflt lo hi : Int} {offs : Array Int} {t : Nat} {an : List Nat} {x : Int32} (hk : code = (p, len, .tableswitch dflt lo hi offs, t :: an) :: rest) (hj : xat M.2.2.2.2.1 t = code') (hb : x.toInt < lo ∨ hi < x.toInt) (k : yW M code' ls r w c s Q) : yW M code ls (.int x :: r) w c s Q := by
  subst hk; subst hj
  exact y_step0 (fun l hl => ⟨l, hl, if_pos hb⟩) k
theorem y_swIn {dflt lo hi : Int} {offs : Array Int} {j : Nat} {an : List Nat} {x : Int32} (hk : code = (p, len, .tableswitch dflt lo hi offs, an) :: rest) (hb : x.toInt = lo + (j : Int)) (hh : lo + (j : Int) ≤ hi) (hj : xat M.2.2.2.2.1 (an.getD (1 + j) 0) = code') (k : yW M code' ls r w c s Q) : yW M code ls (.int x :: r) w c s Q := by
  subst hk; subst hj
  refine y_step0 (fun l hl => ⟨l, hl, (if_neg (by omega)).trans ?_⟩) k
  rw [hb, show (lo + (j : Int) - lo).toNat = j by omega]; rfl
theorem y_ireturn {x : Int32} {ty : FieldType} (hk : code = (p, len, .ireturn, an) :: rest) (hr : M.2.2.2.1 = some ty) (hf : xfit ty (.int x) = true) (q : Q (.inl (some (.int x))) w c s) : yW M code ls [.int x] w c s Q := by
  subst hk
  refine y_stop (dc := 0) (ds := 0) (fun l hl => ?_) q
  show (match M.2.2.2.1 with
        | some ty => if xfit ty (.int x) = true then some (Sum.inl (Sum.inl (some (Value.int x)), yH w, 0, 0)) else none
        | none => none) = _
  rw [hr]; exact if_pos hf
theorem y_lreturn {x : Int64} (hk : code = (p, len, .lreturn, an) :: rest) (q : Q (.inl (some (.long x))) w c s) : yW M code ls [.long x] w c s Q := by subst hk; exact y_stop (fun l hl => rfl) q
theorem y_areturn {x : Nat} (hk : code = (p, len, .areturn, an) :: rest) (q : Q (.inl (some (.ref x))) w c s) : yW M code ls [.ref x] w c s Q := by subst hk; exact y_stop (fun l hl => rfl) q
theorem y_return (hk : code = (p, len, .return_, an) :: rest) (q : Q (.inl none) w c s) : yW M code ls [] w c s Q := by subst hk; exact y_stop (fun l hl => rfl) q
theorem y_throw {i e : Nat} {an : List Nat} {E : String} (hk : code = (p, len, .new i, 200 :: e :: an) :: rest) (hs : Nat.ble (st.map fun v => v.category).sum 8 = true) (he : xEx.getD e "" = E) (q : Q (.inr E) w (c + 1) (s + 6)) : yW M code ls st w c s Q := by
  subst hk; subst he
  exact y_stop (fun l hl => if_pos (Nat.le_of_ble_eq_true hs)) q
end YSTEP
section YHEAP
variable {M : xM} {code code' rest : List xI} {ls ls' : yLs} {st st' r : List Value} {w w' : yS} {c s : Nat} {Q Q' : yQ} {p len : Nat} {an : List Nat} {n a : Nat} {tg : Nat → yT} {I : Nat → Nat → Int32} {R : Nat → Nat → Value}
theorem y_heap {i : Instr} {dc ds : Nat} (hn : ∀ l, xnext M code l st (yH w) = xhst (xheap i an st (yH w)) rest l) (he : xheap i an st (yH w) = some (st', yH w', dc, ds)) (k : yW M rest ls st' w' (c + dc) (s + ds) Q) : yW M code ls st w c s Q :=
  y_step (fun l hl => ⟨l, hl, by rw [hn, he]; rfl⟩) k
theorem xwant_of {i : Int32} {len : Nat} (h0 : 0 ≤ i.toInt) (h1 : i.toInt < (len : Int)) : xwant i len = true := by
  unfold xwant
  refine decide_eq_true ?_
  rintro (h | h)
  · have := Int32.lt_iff_toInt_lt.mp h
    simp at this
    omega
  · have : len ≤ i.toInt.toNat := h
    omega
theorem y_getI {i ci k z : Nat} {an : List Nat} (hk : code = (p, len, .getfield i, ci :: k :: an) :: rest) (ht : tg a = (ci + 4, z)) (ha : a < n) (hN : Nat.blt k (yN ci) = true) (hf : yI ci k = true) (kk : yW M rest ls (.int (I a k) :: r) (n, tg, I, R) c s Q) (hc : (Nat.beq ci 0 && Nat.ble 2 k) = false := by rfl) : yW M code ls (.ref a :: r) (n, tg, I, R) c s Q := by
  subst hk
  refine y_heap (fun l => rfl) (dc := 0) (ds := 0) ?_ kk
  unfold xheap; dsimp only
  rw [if_pos ⟨show a < (yH (n, tg, I, R)).1 from ha, hc⟩, yH_obj ht]
  try dsimp only
  rw [if_pos rfl, yFs_get (blt_lt hN), if_pos hf]
theorem y_getR {i ci k z : Nat} {an : List Nat} {v : Value} (hk : code = (p, len, .getfield i, ci :: k :: an) :: rest) (ht : tg a = (ci + 4, z)) (ha : a < n) (hN : Nat.blt k (yN ci) = true) (hf : yI ci k = false) (hv : R a k = v) (kk : yW M rest ls (v :: r) (n, tg, I, R) c s Q) (hc : (Nat.beq ci 0 && Nat.ble 2 k) = false := by rfl) : yW M code ls (.ref a :: r) (n, tg, I, R) c s Q := by
  subst hk; subst hv
  refine y_heap (fun l => rfl) (dc := 0) (ds := 0) ?_ kk
  unfold xheap; dsimp only
  rw [if_pos ⟨show a < (yH (n, tg, I, R)).1 from ha, hc⟩, yH_obj ht]
  try dsimp only
  rw [if_pos rfl, yFs_get (blt_lt hN), if_neg (by rw [hf]; decide)]
theorem y_put {i ci k z : Nat} {an : List Nat} {v : Value} {I' : Nat → Nat → Int32} {R' : Nat → Nat → Value} (hk : code = (p, len, .putfield i, ci :: k :: an) :: rest) (ht : tg a = (ci + 4, z)) (ha : a < n) (hN : Nat.blt k (yN ci) = true) (h0 : xN0 ≤ a) (hx : xfit (xty ci k) v = true)
    (hv : (if yI ci k = true then .int (I' a k) else R' a k) = v) (hI : ∀ j, j ≠ k → I' a j = I a j) (hR : ∀ j, j ≠ k → R' a j = R a j) (hI2 : ∀ b, b ≠ a → I' b = I b) (hR2 : ∀ b, b ≠ a → R' b = R b) (kk : yW M rest ls r (n, tg, I', R') c s Q) : yW M code ls (v :: .ref a :: r) (n, tg, I, R) c s Q := by
  subst hk
  refine y_heap (fun l => rfl) (dc := 0) (ds := 0) ?_ kk
  unfold xheap; dsimp only
  rw [if_pos ⟨show a < (yH (n, tg, I, R)).1 from ha, h0, hx⟩, yH_obj ht]
  try dsimp only
  rw [if_pos ⟨rfl, by unfold yFs; simpa using blt_lt hN⟩]
  rw [yH_set (I' := I') (R' := R') ?_ hI2 hR2]
  rw [yFs_set hv hI hR, ht]
  unfold yCell
  rw [if_neg (show ¬ (ci + 4, z).1 < 3 by show ¬ ci + 4 < 3; omega), if_neg (show ¬ (ci + 4, z).1 = 3 by show ¬ ci + 4 = 3; omega)]
  rfl
theorem y_putI {i ci k z : Nat} {an : List Nat} {x : Int32} (hk : code = (p, len, .putfield i, ci :: k :: an) :: rest) (ht : tg a = (ci + 4, z)) (ha : a < n) (hN : Nat.blt k (yN ci) = true) (h0 : xN0 ≤ a) (hf : yI ci k = true) (hx : xfit (xty ci k) (.int x) = true) (kk : yW M rest ls r (n, tg, upd2 I a k x, R) c s Q) : yW M code ls (.int x :: .ref a :: r) (n, tg, I, R) c s Q :=
  y_put (R' := R) hk ht ha hN h0 hx (by rw [if_pos hf, upd2_self]) (fun j hj => upd2_ne (.inr hj)) (fun _ _ => rfl) (fun b hb => upd2_row hb) (fun _ _ => rfl) kk
theorem y_putR {i ci k z : Nat} {an : List Nat} {v : Value} (hk : code = (p, len, .putfield i, ci :: k :: an) :: rest) (ht : tg a = (ci + 4, z)) (ha : a < n) (hN : Nat.blt k (yN ci) = true) (h0 : xN0 ≤ a) (hf : yI ci k = false) (hx : xfit (xty ci k) v = true) (kk : yW M rest ls r (n, tg, I, upd2 R a k v) c s Q) : yW M code ls (v :: .ref a :: r) (n, tg, I, R) c s Q :=
  y_put (I' := I) hk ht ha hN h0 hx (by rw [if_neg (by rw [hf]; decide), upd2_self]) (fun _ _ => rfl) (fun j hj => upd2_ne (.inr hj)) (fun _ _ => rfl) (fun b hb => upd2_row hb) kk
theorem y_iaload {i : Int32} {m : Nat} (hk : code = (p, len, .iaload, an) :: rest) (ht : tg a = (0, m)) (ha : a < n) (h0 : 0 ≤ i.toInt) (h1 : i.toInt < (m : Int)) (kk : yW M rest ls (.int (I a i.toInt.toNat) :: r) (n, tg, I, R) c s Q) : yW M code ls (.int i :: .ref a :: r) (n, tg, I, R) c s Q := by
  subst hk
  refine y_heap (i := .iaload) (an := an) (fun l => rfl) (dc := 0) (ds := 0) ?_ kk
  unfold xheap; dsimp only
  rw [if_pos (show a < (yH (n, tg, I, R)).1 from ha), yH_arr ht (by decide)]
  try dsimp only
  exact if_pos (xwant_of h0 h1)
theorem y_baload {i : Int32} {m kd : Nat} (hk : code = (p, len, .baload, an) :: rest) (ht : tg a = (kd + 1, m)) (hd : Nat.ble kd 1 = true) (ha : a < n) (h0 : 0 ≤ i.toInt) (h1 : i.toInt < (m : Int)) (kk : yW M rest ls (.int (I a i.toInt.toNat) :: r) (n, tg, I, R) c s Q) : yW M code ls (.int i :: .ref a :: r) (n, tg, I, R) c s Q := by
  subst hk
  refine y_heap (i := .baload) (an := an) (fun l => rfl) (dc := 0) (ds := 0) ?_ kk
  unfold xheap; dsimp only
  match kd, hd with
  | 0, _ =>
    rw [if_pos (show a < (yH (n, tg, I, R)).1 from ha), yH_arr ht (by decide)]
    try dsimp only
    exact if_pos (xwant_of h0 h1)
  | 1, _ =>
    rw [if_pos (show a < (yH (n, tg, I, R)).1 from ha), yH_arr ht (by decide)]
    try dsimp only
    exact if_pos (xwant_of h0 h1)
theorem y_aaload {i : Int32} {m b : Nat} (hk : code = (p, len, .aaload, an) :: rest) (ht : tg a = (3, m)) (ha : a < n) (h0 : 0 ≤ i.toInt) (h1 : i.toInt < (m : Int)) (hb : R a i.toInt.toNat = .ref b) (kk : yW M rest ls (.ref b :: r) (n, tg, I, R) c s Q) : yW M code ls (.int i :: .ref a :: r) (n, tg, I, R) c s Q := by
  subst hk
  refine y_heap (i := .aaload) (an := an) (fun l => rfl) (dc := 0) (ds := 0) ?_ kk
  unfold xheap; dsimp only
  rw [if_pos (show a < (yH (n, tg, I, R)).1 from ha), yH_ref ht]
  try dsimp only
  exact (if_pos (xwant_of h0 h1)).trans (by show some (va_rf (yO (R a i.toInt.toNat)) :: r, yH (n, tg, I, R), 0, 0) = _; rw [hb]; rfl)
theorem yH_setA {kd m k : Nat} {x : Int32} (ht : tg a = (kd, m)) (hd : kd < 3) : xset (yH (n, tg, I, R)) a (.inl (kd, m, .inl (upd (I a) k x))) = yH (n, tg, upd2 I a k x, R) := by
  refine yH_set ?_ (fun b hb => upd2_row hb) (fun _ _ => rfl)
  rw [ht]; unfold yCell
  rw [if_pos hd]
  refine congrArg (fun f => Sum.inl (kd, m, Sum.inl f)) (funext fun j => ?_)
  unfold upd upd2
  by_cases hj : j = k
  · simp [hj]
  · simp [hj]
theorem y_iastore {i x : Int32} {m : Nat} (hk : code = (p, len, .iastore, an) :: rest) (ht : tg a = (0, m)) (ha : a < n) (hx : xN0 ≤ a) (h0 : 0 ≤ i.toInt) (h1 : i.toInt < (m : Int)) (kk : yW M rest ls r (n, tg, upd2 I a i.toInt.toNat x, R) c s Q) : yW M code ls (.int x :: .int i :: .ref a :: r) (n, tg, I, R) c s Q := by
  subst hk
  refine y_heap (i := .iastore) (an := an) (fun l => rfl) (dc := 0) (ds := 0) ?_ kk
  unfold xheap; dsimp only
  rw [if_pos ⟨show a < (yH (n, tg, I, R)).1 from ha, hx⟩, yH_arr ht (by decide)]
  try dsimp only
  exact (if_pos (xwant_of h0 h1)).trans (by rw [yH_setA ht (by decide)]; rfl)
theorem y_zastore {i x : Int32} {m : Nat} (hk : code = (p, len, .bastore, an) :: rest) (ht : tg a = (1, m)) (ha : a < n) (hx : xN0 ≤ a) (h0 : 0 ≤ i.toInt) (h1 : i.toInt < (m : Int)) (hf : vp_nar .boolean x = x) (kk : yW M rest ls r (n, tg, upd2 I a i.toInt.toNat x, R) c s Q) : yW M code ls (.int x :: .int i :: .ref a :: r) (n, tg, I, R) c s Q := by
  subst hk
  refine y_heap (i := .bastore) (an := an) (fun l => rfl) (dc := 0) (ds := 0) ?_ kk
  unfold xheap; dsimp only
  rw [if_pos ⟨show a < (yH (n, tg, I, R)).1 from ha, hx⟩, yH_arr ht (by decide)]
  try dsimp only
  exact (if_pos ⟨xwant_of h0 h1, hf⟩).trans (by rw [yH_setA ht (by decide)]; rfl)
theorem y_bastore {i x : Int32} {m : Nat} (hk : code = (p, len, .bastore, an) :: rest) (ht : tg a = (2, m)) (ha : a < n) (hx : xN0 ≤ a) (h0 : 0 ≤ i.toInt) (h1 : i.toInt < (m : Int)) (hf : vp_nar .byte x = x) (kk : yW M rest ls r (n, tg, upd2 I a i.toInt.toNat x, R) c s Q) : yW M code ls (.int x :: .int i :: .ref a :: r) (n, tg, I, R) c s Q := by
  subst hk
  refine y_heap (i := .bastore) (an := an) (fun l => rfl) (dc := 0) (ds := 0) ?_ kk
  unfold xheap; dsimp only
  rw [if_pos ⟨show a < (yH (n, tg, I, R)).1 from ha, hx⟩, yH_arr ht (by decide)]
  try dsimp only
  exact (if_pos ⟨xwant_of h0 h1, hf⟩).trans (by rw [yH_setA ht (by decide)]; rfl)
theorem y_aastore {i : Int32} {m x : Nat} (hk : code = (p, len, .aastore, an) :: rest) (ht : tg a = (3, m)) (ha : a < n) (hx : xN0 ≤ a) (hx2 : x < n) (hx3 : xN0 ≤ x) (h0 : 0 ≤ i.toInt) (h1 : i.toInt < (m : Int)) (kk : yW M rest ls r (n, tg, I, upd2 R a i.toInt.toNat (.ref x)) c s Q) : yW M code ls (.ref x :: .int i :: .ref a :: r) (n, tg, I, R) c s Q := by
  subst hk
  refine y_heap (i := .aastore) (an := an) (fun l => rfl) (dc := 0) (ds := 0) ?_ kk
  unfold xheap; dsimp only
  rw [if_pos ⟨show a < (yH (n, tg, I, R)).1 from ha, hx, show x < (yH (n, tg, I, R)).1 from hx2, hx3⟩, yH_ref ht]
  try dsimp only
  refine (if_pos (xwant_of h0 h1)).trans ?_
  rw [yH_set (I' := I) (R' := upd2 R a i.toInt.toNat (.ref x)) ?_ (fun _ _ => rfl) (fun b hb => upd2_row hb)]
  rw [ht]; unfold yCell
  rw [if_neg (show ¬ (3 : Nat) < 3 by decide), if_pos rfl]
  refine congrArg (fun f => Sum.inl (3, m, Sum.inr (Sum.inr (Sum.inr (Sum.inr f))))) (funext fun j => ?_)
  show va_up (fun j => yO (R a j)) i.toInt.toNat (some x) j = yO (upd2 R a i.toInt.toNat (.ref x) a j)
  unfold va_up upd2
  by_cases hj : j = i.toInt.toNat
  · rw [if_pos hj, if_pos ⟨rfl, hj⟩]; rfl
  · rw [if_neg hj, if_neg (fun h => hj h.2)]
theorem y_alen {m kd : Nat} (hk : code = (p, len, .arraylength, an) :: rest) (ht : tg a = (kd, m)) (hd : Nat.ble kd 3 = true) (ha : a < n) (kk : yW M rest ls (.int (Int32.ofNat m) :: r) (n, tg, I, R) c s Q) : yW M code ls (.ref a :: r) (n, tg, I, R) c s Q := by
  subst hk
  refine y_heap (i := .arraylength) (an := an) (fun l => rfl) (dc := 0) (ds := 0) ?_ kk
  unfold xheap; dsimp only
  rw [if_pos (show a < (yH (n, tg, I, R)).1 from ha)]
  by_cases h3 : kd < 3
  · rw [yH_arr ht h3]
  · have : kd = 3 := by have := Nat.le_of_ble_eq_true hd; omega
    subst this
    rw [yH_ref ht]
theorem y_newarray {t : Jvm.ClassFile.ArrayType} {z : Int32} {tc : Nat} {an : List Nat} (hk : code = (p, len, .newarray t, tc :: an) :: rest) (hd : Nat.blt tc 3 = true) (h0 : 0 ≤ z.toInt) (h1 : z.toInt ≤ 100000) (kk : yW M rest ls (.ref w.1 :: r) (yNew w (tc, z.toInt.toNat)) (c + 1) (s + z.toInt.toNat) Q) : yW M code ls (.int z :: r) w c s Q := by
  subst hk
  refine y_heap (i := .newarray t) (an := tc :: an) (fun l => rfl) ?_ kk
  unfold xheap; dsimp only
  rw [if_neg, ← yH_push]
  · rfl
  · unfold yCell; rw [if_pos (blt_lt hd)]; rfl
  · rintro (h | h)
    · have := Int32.lt_iff_toInt_lt.mp h
      simp at this; omega
    · have := Int32.lt_iff_toInt_lt.mp h
      simp at this; omega
theorem y_anewarray {i : Nat} {z : Int32} (hk : code = (p, len, .anewarray i, an) :: rest) (h0 : 0 ≤ z.toInt) (h1 : z.toInt ≤ 100000) (kk : yW M rest ls (.ref w.1 :: r) (yNew w (3, z.toInt.toNat)) (c + 1) (s + z.toInt.toNat) Q) : yW M code ls (.int z :: r) w c s Q := by
  subst hk
  refine y_heap (i := .anewarray i) (an := an) (fun l => rfl) ?_ kk
  unfold xheap; dsimp only
  rw [if_neg, ← yH_push]
  · rfl
  · unfold yCell yD; simp [yO]
  · rintro (h | h)
    · have := Int32.lt_iff_toInt_lt.mp h
      simp at this; omega
    · have := Int32.lt_iff_toInt_lt.mp h
      simp at this; omega
theorem y_new {i ci m : Nat} {an : List Nat} (hk : code = (p, len, .new i, ci :: m :: an) :: rest) (h2 : Nat.blt ci 100 = true) (hm : yN ci = m) (kk : yW M rest ls (.ref w.1 :: st) (yNew w (ci + 4, 0)) (c + 1) (s + m) Q) : yW M code ls st w c s Q := by
  subst hk; subst hm
  refine y_heap (i := .new i) (an := ci :: yN ci :: an) (fun l => ?_) ?_ kk
  · unfold xnext; dsimp only
    split
    · rename_i e; cases e; exact absurd h2 (by decide)
    · rfl
  · unfold xheap; dsimp only
    rw [yH_push (t := (ci + 4, 0))]
    · rfl
    unfold yCell
    rw [if_neg (show ¬ (ci + 4, 0).1 < 3 by show ¬ ci + 4 < 3; omega), if_neg (show ¬ (ci + 4, 0).1 = 3 by show ¬ ci + 4 = 3; omega)]
    unfold xfresh yFs
    refine congrArg Sum.inr (Prod.ext rfl (List.map_congr_left fun k hk => ?_))
    show defaultValue (xty ci k) = if yI ci k = true then .int 0 else yD (ci + 4, 0) k
    unfold yI
    split
    · rename_i h
      cases hty : xty ci k <;> rw [hty] at h <;> first | rfl | cases h
    · show _ = yD (ci + 4, 0) k
      unfold yD
      rw [if_neg (show ¬ (ci + 4, 0).1 ≤ 3 by show ¬ ci + 4 ≤ 3; omega)]; rfl
theorem y_cast {i ci z : Nat} {an : List Nat} (hk : code = (p, len, .checkcast i, ci :: an) :: rest) (ht : tg a = (ci + 4, z)) (ha : a < n) (kk : yW M rest ls (.ref a :: r) (n, tg, I, R) c s Q) : yW M code ls (.ref a :: r) (n, tg, I, R) c s Q := by
  subst hk
  refine y_heap (i := .checkcast i) (an := ci :: an) (fun l => rfl) (dc := 0) (ds := 0) ?_ kk
  unfold xheap; dsimp only
  rw [if_pos (show a < (yH (n, tg, I, R)).1 from ha), yH_obj ht]
  try dsimp only
  rw [if_pos rfl]
theorem y_castA {i kd m cx : Nat} {an : List Nat} (hk : code = (p, len, .checkcast i, cx :: an) :: rest) (hx : kd + 100 = cx) (ht : tg a = (kd, m)) (hd : Nat.ble kd 3 = true) (ha : a < n) (kk : yW M rest ls (.ref a :: r) (n, tg, I, R) c s Q) (h34 : 34 ≤ a := by omega) : yW M code ls (.ref a :: r) (n, tg, I, R) c s Q := by
  subst hk
  refine y_heap (i := .checkcast i) (an := cx :: an) (fun l => rfl) (dc := 0) (ds := 0) ?_ kk
  unfold xheap; dsimp only
  rw [if_pos (show a < (yH (n, tg, I, R)).1 from ha)]
  by_cases h3 : kd < 3
  · rw [yH_arr ht h3]
    try dsimp only
    rw [if_pos ⟨hx, h34⟩]
  · have : kd = 3 := by have := Nat.le_of_ble_eq_true hd; omega
    subst this
    rw [yH_ref ht]
    try dsimp only
    rw [if_pos ⟨hx, h34⟩]
theorem y_gets0 {i x : Nat} {an : List Nat} (hk : code = (p, len, .getstatic i, 0 :: x :: an) :: rest) (kk : yW M rest ls (.int (Int32.ofNat x) :: st) w c s Q) : yW M code ls st w c s Q := by subst hk; exact y_step0 (fun l hl => ⟨l, hl, rfl⟩) kk
theorem y_gets1 {i x : Nat} {an : List Nat} (hk : code = (p, len, .getstatic i, 1 :: x :: an) :: rest) (h0 : Nat.blt x xN0 = true) (h1 : x < w.1) (kk : yW M rest ls (.ref x :: st) w c s Q) : yW M code ls st w c s Q := by
  subst hk
  refine y_heap (i := .getstatic i) (an := 1 :: x :: an) (fun l => rfl) (dc := 0) (ds := 0) ?_ kk
  show (if x < xN0 ∧ x < (yH w).1 then some (.ref x :: st, yH w, 0, 0) else none) = _
  rw [if_pos ⟨blt_lt h0, show x < (yH w).1 from h1⟩]
theorem y_getClass {i m : Nat} {an : List Nat} (hk : code = (p, len, .invokevirtual i, 2 :: an) :: rest) (ht : tg a = (3, m)) (ha : a < n) (hs : Nat.ble (r.map fun v => v.category).sum 8 = true) (kk : yW M rest ls (.retAddr 1 :: r) (n, tg, I, R) c s Q) (h34 : 34 ≤ a := by omega) : yW M code ls (.ref a :: r) (n, tg, I, R) c s Q := by
  subst hk
  refine y_heap (i := .invokevirtual i) (an := 2 :: an) (fun l => rfl) (dc := 0) (ds := 0) ?_ kk
  unfold xheap; dsimp only
  rw [if_pos ⟨rfl, show a < (yH (n, tg, I, R)).1 from ha, h34, Nat.le_of_ble_eq_true hs⟩, yH_ref ht]; rfl
theorem y_obj {i : Nat} {an : List Nat} (hk : code = (p, len, .invokespecial i, 1 :: an) :: rest) (ha : a < w.1) (hs : Nat.ble (r.map fun v => v.category).sum 8 = true) (kk : yW M rest ls r w c s Q) : yW M code ls (.ref a :: r) w c s Q := by
  subst hk
  refine y_step0 (fun l hl => ⟨l, hl, ?_⟩) kk
  show xobj rest l (.ref a :: r) (yH w) = _
  unfold xobj; dsimp only
  rw [if_pos ⟨show a < (yH w).1 from ha, Nat.le_of_ble_eq_true hs⟩]
theorem y_max {i : Nat} {an : List Nat} {x y : Int32} (hk : code = (p, len, .invokestatic i, 4 :: 0 :: an) :: rest) (hs : Nat.ble (r.map fun v => v.category).sum 8 = true) (kk : yW M rest ls (.int (if x < y then y else x) :: r) w c s Q) : yW M code ls (.int y :: .int x :: r) w c s Q := by
  subst hk
  exact y_step0 (fun l hl => ⟨l, hl, (if_pos (Nat.le_of_ble_eq_true hs)).trans rfl⟩) kk
theorem y_min {i : Nat} {an : List Nat} {x y : Int32} (hk : code = (p, len, .invokestatic i, 4 :: 1 :: an) :: rest) (hs : Nat.ble (r.map fun v => v.category).sum 8 = true) (kk : yW M rest ls (.int (if y < x then y else x) :: r) w c s Q) : yW M code ls (.int y :: .int x :: r) w c s Q := by
  subst hk
  exact y_step0 (fun l hl => ⟨l, hl, (if_pos (Nat.le_of_ble_eq_true hs)).trans rfl⟩) kk
/-! calls -/
theorem y_static {i mid k ci : Nat} {an : List Nat} {a : Value} {as : List Value} (hk : code = (p, len, .invokestatic i, 0 :: mid :: k :: ci :: an) :: rest) (ha : (st.take k).reverse = a :: as) (hl0 : Nat.beq (as.length + 1) k = true) (hd : st.drop k = r) (hs : Nat.ble (r.map fun v => v.category).sum 8 = true) (kk : yC mid (a :: as) w c s (yK M p rest ls r Q)) : yW M code ls st w c s Q := by
  subst hk; subst hd
  refine y_call (fun l hl => ?_) kk
  show xinv p (0 :: mid :: k :: ci :: an) rest l st (yH w) 0 = _
  rw [xinv_cons ha]; exact if_pos ⟨Nat.eq_of_beq_eq_true hl0, Nat.le_of_ble_eq_true hs, fun h => absurd h (by decide), fun h => absurd h (by decide)⟩
theorem xrecv_of {ci z b : Nat} (ht : tg b = (ci + 4, z)) (hb : b < n) : xrecv ci (.ref b) (yH (n, tg, I, R)) = true := by
  unfold xrecv; dsimp only
  rw [if_pos (show b < (yH (n, tg, I, R)).1 from hb), yH_obj ht]
  exact Nat.beq_refl ci
theorem y_virt {i mid k ci z b : Nat} {an : List Nat} {as : List Value} (hk : code = (p, len, .invokevirtual i, 0 :: mid :: k :: ci :: an) :: rest) (ha : (st.take k).reverse = .ref b :: as) (hl0 : Nat.beq (as.length + 1) k = true) (hd : st.drop k = r) (hs : Nat.ble (r.map fun v => v.category).sum 8 = true) (ht : tg b = (ci + 4, z)) (hb : b < n) (kk : yC mid (.ref b :: as) (n, tg, I, R) c s (yK M p rest ls r Q)) : yW M code ls st (n, tg, I, R) c s Q := by
  subst hk; subst hd
  refine y_call (fun l hl => ?_) kk
  show xinv p (0 :: mid :: k :: ci :: an) rest l st (yH (n, tg, I, R)) 1 = _
  rw [xinv_cons ha]; exact if_pos ⟨Nat.eq_of_beq_eq_true hl0, Nat.le_of_ble_eq_true hs, fun _ => xrecv_of ht hb, fun h => absurd h (by decide)⟩
theorem y_intf {i j mid k ci z b : Nat} {an : List Nat} {as : List Value} (hk : code = (p, len, .invokeinterface i j, 0 :: mid :: k :: ci :: an) :: rest) (ha : (st.take k).reverse = .ref b :: as) (hl0 : Nat.beq (as.length + 1) k = true) (hd : st.drop k = r) (hs : Nat.ble (r.map fun v => v.category).sum 8 = true) (ht : tg b = (ci + 4, z)) (hb : b < n) (kk : yC mid (.ref b :: as) (n, tg, I, R) c s (yK M p rest ls r Q)) : yW M code ls st (n, tg, I, R) c s Q := by
  subst hk; subst hd
  refine y_call (fun l hl => ?_) kk
  show xinv p (0 :: mid :: k :: ci :: an) rest l st (yH (n, tg, I, R)) 1 = _
  rw [xinv_cons ha]; exact if_pos ⟨Nat.eq_of_beq_eq_true hl0, Nat.le_of_ble_eq_true hs, fun _ => xrecv_of ht hb, fun h => absurd h (by decide)⟩
theorem y_super {i mid k ci z b : Nat} {an : List Nat} {as : List Value} (hk : code = (p, len, .invokespecial i, 5 :: mid :: k :: ci :: an) :: rest) (ha : (st.take k).reverse = .ref b :: as) (hl0 : Nat.beq (as.length + 1) k = true) (hd : st.drop k = r) (hs : Nat.ble (r.map fun v => v.category).sum 8 = true) (ht : tg b = (ci + 4, z)) (hb : b < n) (kk : yC mid (.ref b :: as) (n, tg, I, R) c s (yK M p rest ls r Q)) : yW M code ls st (n, tg, I, R) c s Q := by
  subst hk; subst hd
  refine y_call (fun l hl => ?_) kk
  show xinv p (0 :: mid :: k :: ci :: an) rest l st (yH (n, tg, I, R)) 1 = _
  rw [xinv_cons ha]; exact if_pos ⟨Nat.eq_of_beq_eq_true hl0, Nat.le_of_ble_eq_true hs, fun _ => xrecv_of ht hb, fun h => absurd h (by decide)⟩
theorem y_init {i mid k ci b : Nat} {an : List Nat} {as : List Value} (hk : code = (p, len, .invokespecial i, 0 :: mid :: k :: ci :: an) :: rest) (ha : (st.take k).reverse = .ref b :: as) (hl0 : Nat.beq (as.length + 1) k = true) (hd : st.drop k = r) (hs : Nat.ble (r.map fun v => v.category).sum 8 = true) (kk : yC mid (.ref b :: as) w c s (yK M p rest ls r Q)) : yW M code ls st w c s Q := by
  subst hk; subst hd
  refine y_call (fun l hl => ?_) kk
  show xinv p (0 :: mid :: k :: ci :: an) rest l st (yH w) 2 = _
  rw [xinv_cons ha]; exact if_pos ⟨Nat.eq_of_beq_eq_true hl0, Nat.le_of_ble_eq_true hs, fun h => absurd h (by decide), fun _ => rfl⟩
end YHEAP
