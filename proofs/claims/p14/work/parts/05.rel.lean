/-! HOW A STATE OF THE SMALL MACHINE STANDS IN THE MACHINE. G: classes and places of fields, classes of the four kinds of arrays, the cells that are only read, the first address that is ours, the address of Object[]'s class object -/
abbrev xG : Type := va_G × List (ClassId × FieldType) × va_W × Nat × Nat
def xAT : Nat → FieldType
  | 0 => .int
  | 1 => .boolean
  | 2 => .byte
  | _ => .object "java/lang/Object"
def xV (mi : Nat) (all : va_W) (v w : Value) : Prop := match v with
  | .ref k => ∃ q : Nat × va_E, all[k]? = some q ∧ w = .ref q.1
  | .retAddr 0 => w = .null ∨ ∃ q, w = .ref q
  | .retAddr _ => w = .ref mi
  | v => w = v
def xVs (mi : Nat) (all : va_W) : List Value → List Value → Prop
  | [], [] => True
  | v :: vs, w :: ws => xV mi all v w ∧ xVs mi all vs ws
  | _, _ => False
def xLs (mi : Nat) (all : va_W) : xL → xL → Prop
  | [], [] => True
  | v :: vs, w :: ws => w.1 = v.1 ∧ xV mi all v.2 w.2 ∧ xLs mi all vs ws
  | _, _ => False
def xO (all : va_W) (v w : Option Nat) : Prop := match v with
  | none => w = none
  | some k => xN0 ≤ k ∧ ∃ q : Nat × va_E, all[k]? = some q ∧ w = some q.1
def xCe (G : xG) (all : va_W) (e e' : va_E) : Prop := match e, e' with
  | .inr (c, fs), .inr (c', fs') => c' = c ∧ xVs G.2.2.2.2 all fs fs'
  | .inl (t, n, .inl f), .inl (cA, n', .inl f') => G.2.1[t]? = some (cA, xAT t) ∧ t < 3 ∧ n' = n ∧ f' = f
  | .inl (t, n, .inr (.inr (.inr (.inr f)))), .inl (cA, n', .inr (.inr (.inr (.inr f')))) => G.2.1[t]? = some (cA, xAT t) ∧ t = 3 ∧ n' = n ∧ ∀ j, xO all (f j) (f' j)
  | _, _ => False
def xHr (G : xG) (h : xH) (all : va_W) : Prop := all.length = h.1 ∧ ∀ (k : Nat) (q : Nat × va_E), all[k]? = some q → xCe G all (h.2 k) q.2
/-- the addresses of the one stay in the other -/
def xLe (all all' : va_W) : Prop := ∀ (k : Nat) (q : Nat × va_E), all[k]? = some q → ∃ q' : Nat × va_E, all'[k]? = some q' ∧ q'.1 = q.1
theorem xLe.rf {all : va_W} : xLe all all := fun _ q h => ⟨q, h, rfl⟩
theorem xLe.trans {a b c : va_W} (h1 : xLe a b) (h2 : xLe b c) : xLe a c := fun k q h => by
  obtain ⟨q1, e1, f1⟩ := h1 k q h
  obtain ⟨q2, e2, f2⟩ := h2 k q1 e1
  exact ⟨q2, e2, f2.trans f1⟩
theorem xLe.set {all : va_W} {k a : Nat} {e e' : va_E} (h : all[k]? = some (a, e)) : xLe all (all.set k (a, e')) := by
  intro j q hq
  by_cases hj : k = j
  · subst hj
    rw [h] at hq; cases hq
    exact ⟨(a, e'), by rw [List.getElem?_set_self (List.getElem?_eq_some_iff.mp h).1], rfl⟩
  · exact ⟨q, by rw [List.getElem?_set_ne hj]; exact hq, rfl⟩
theorem xLe.push {all : va_W} {q : Nat × va_E} : xLe all (all ++ [q]) := by
  intro j r hr
  exact ⟨r, by rw [List.getElem?_append_left (List.getElem?_eq_some_iff.mp hr).1]; exact hr, rfl⟩
theorem xV.mono {mi : Nat} {all all' : va_W} (h : xLe all all') {v w : Value} (k : xV mi all v w) : xV mi all' v w := by
  cases v with
  | ref a =>
    obtain ⟨q, e, f⟩ := k
    obtain ⟨q', e', f'⟩ := h a q e
    exact ⟨q', e', by rw [f']; exact f⟩
  | retAddr n => cases n <;> exact k
  | _ => exact k
theorem xVs.mono {mi : Nat} {all all' : va_W} (h : xLe all all') : ∀ {vs ws : List Value}, xVs mi all vs ws → xVs mi all' vs ws
  | [], [], _ => trivial
  | _ :: _, _ :: _, k => ⟨k.1.mono h, k.2.mono h⟩
theorem xLs.mono {mi : Nat} {all all' : va_W} (h : xLe all all') : ∀ {vs ws : xL}, xLs mi all vs ws → xLs mi all' vs ws
  | [], [], _ => trivial
  | _ :: _, _ :: _, k => ⟨k.1, k.2.1.mono h, k.2.2.mono h⟩
theorem xO.mono {all all' : va_W} (h : xLe all all') {v w : Option Nat} (k : xO all v w) : xO all' v w := by
  cases v with
  | none => exact k
  | some a =>
    obtain ⟨ha, q, e, f⟩ := k
    obtain ⟨q', e', f'⟩ := h a q e
    exact ⟨ha, q', e', by rw [f']; exact f⟩
theorem xCe.mono {G : xG} {all all' : va_W} (h : xLe all all') {e e' : va_E} (k : xCe G all e e') : xCe G all' e e' := by
  unfold xCe at k ⊢
  split at k
  · exact ⟨k.1, k.2.mono h⟩
  · exact k
  · exact ⟨k.1, k.2.1, k.2.2.1, fun j => (k.2.2.2 j).mono h⟩
  · exact k.elim
theorem xHr.set {G : xG} {h : xH} {all : va_W} (k : xHr G h all) {p a : Nat} {e0 e e' : va_E} (hp : all[p]? = some (a, e0)) (he : xCe G all e e') : xHr G (xset h p e) (all.set p (a, e')) := by
  refine ⟨by rw [List.length_set]; exact k.1, fun j q hq => ?_⟩
  have hl := (List.getElem?_eq_some_iff.mp hp).1
  show xCe G _ (if j = p then e else h.2 j) q.2
  by_cases hj : j = p
  · subst hj
    rw [if_pos rfl]
    rw [List.getElem?_set_self hl] at hq
    cases hq
    exact he.mono (xLe.set hp)
  · rw [if_neg hj]
    rw [List.getElem?_set_ne (Ne.symm hj)] at hq
    exact (k.2 j q hq).mono (xLe.set hp)
theorem xHr.push {G : xG} {h : xH} {all : va_W} (k : xHr G h all) {a : Nat} {e e' : va_E} (he : xCe G all e e') : xHr G (xpush h e) (all ++ [(a, e')]) := by
  refine ⟨by rw [List.length_append, k.1]; rfl, fun j q hq => ?_⟩
  show xCe G _ (if j = h.1 then e else h.2 j) q.2
  by_cases hj : j = h.1
  · subst hj
    rw [if_pos rfl]
    rw [← k.1, List.getElem?_append_right (Nat.le_refl _), Nat.sub_self] at hq
    cases hq
    exact he.mono xLe.push
  · rw [if_neg hj]
    have hl := (List.getElem?_eq_some_iff.mp hq).1
    rw [List.length_append, k.1] at hl
    have hl : j < all.length := by rw [k.1]; simp at hl; omega
    rw [List.getElem?_append_left hl] at hq
    exact (k.2 j q hq).mono xLe.push
theorem xV.cat {mi : Nat} {all : va_W} {v w : Value} (k : xV mi all v w) : w.category = v.category := by
  cases v with
  | ref a => obtain ⟨q, -, rfl⟩ := k; rfl
  | retAddr n => cases n with
    | zero => rcases k with rfl | ⟨q, rfl⟩ <;> rfl
    | succ n => rw [show w = .ref mi from k]; rfl
  | _ => rw [show w = _ from k]
theorem xVs.nil {mi : Nat} {all : va_W} {ws : List Value} (k : xVs mi all [] ws) : ws = [] := by
  cases ws with
  | nil => rfl
  | cons => exact k.elim
theorem xVs.cons {mi : Nat} {all : va_W} {v : Value} {vs ws : List Value} (k : xVs mi all (v :: vs) ws) : ∃ w ws', ws = w :: ws' ∧ xV mi all v w ∧ xVs mi all vs ws' := by
  cases ws with
  | nil => exact k.elim
  | cons w ws => exact ⟨w, ws, rfl, k.1, k.2⟩
theorem xVs.len {mi : Nat} {all : va_W} : ∀ {vs ws : List Value}, xVs mi all vs ws → ws.length = vs.length
  | [], [], _ => rfl
  | _ :: _, _ :: _, k => by rw [List.length_cons, List.length_cons, k.2.len]
theorem xVs.get {mi : Nat} {all : va_W} : ∀ {vs ws : List Value} {k : Nat} {v : Value}, xVs mi all vs ws → vs[k]? = some v → ∃ w, ws[k]? = some w ∧ xV mi all v w
  | v :: _, w :: _, 0, _, h, hk => by cases hk; exact ⟨w, rfl, h.1⟩
  | _ :: vs, _ :: ws, k + 1, _, h, hk => by
    rw [List.getElem?_cons_succ] at hk ⊢
    exact h.2.get hk
theorem xVs.set {mi : Nat} {all : va_W} : ∀ {vs ws : List Value} {k : Nat} {v w : Value}, xVs mi all vs ws → xV mi all v w → xVs mi all (vs.set k v) (ws.set k w)
  | [], [], _, _, _, _, _ => trivial
  | _ :: _, _ :: _, 0, _, _, h, hv => ⟨hv, h.2⟩
  | _ :: _, _ :: _, _ + 1, _, _, h, hv => ⟨h.1, h.2.set hv⟩
theorem xVs.app {mi : Nat} {all : va_W} : ∀ {vs ws vs' ws' : List Value}, xVs mi all vs ws → xVs mi all vs' ws' → xVs mi all (vs ++ vs') (ws ++ ws')
  | [], [], _, _, _, h => h
  | _ :: _, _ :: _, _, _, h, h' => ⟨h.1, h.2.app h'⟩
theorem xVs.rev {mi : Nat} {all : va_W} : ∀ {vs ws : List Value}, xVs mi all vs ws → xVs mi all vs.reverse ws.reverse
  | [], [], _ => trivial
  | _ :: _, _ :: _, h => by
    rw [List.reverse_cons, List.reverse_cons]
    exact h.2.rev.app ⟨h.1, trivial⟩
theorem xVs.take {mi : Nat} {all : va_W} : ∀ {vs ws : List Value} (n : Nat), xVs mi all vs ws → xVs mi all (vs.take n) (ws.take n)
  | [], [], n, _ => by cases n <;> exact trivial
  | _ :: _, _ :: _, 0, _ => trivial
  | _ :: _, _ :: _, n + 1, h => ⟨h.1, h.2.take n⟩
theorem xVs.drop {mi : Nat} {all : va_W} : ∀ {vs ws : List Value} (n : Nat), xVs mi all vs ws → xVs mi all (vs.drop n) (ws.drop n)
  | [], [], n, _ => by cases n <;> exact trivial
  | _ :: _, _ :: _, 0, h => h
  | _ :: _, _ :: _, n + 1, h => h.2.drop n
theorem xVs.sum {mi : Nat} {all : va_W} : ∀ {vs ws : List Value}, xVs mi all vs ws → (ws.map fun v => v.category).sum = (vs.map fun v => v.category).sum
  | [], [], _ => rfl
  | _ :: _, _ :: _, h => by simp [h.1.cat, h.2.sum]
theorem xLs.ld {mi : Nat} {all : va_W} : ∀ {l cl : xL} {i : Nat} {v : Value}, xLs mi all l cl → xld l i = some v → ∃ w, (i, w) ∈ cl ∧ xV mi all v w
  | q :: l, r :: cl, i, v, h, hl => by
    unfold xld at hl
    by_cases hq : q.1 = i
    · rw [if_pos hq] at hl
      cases hl
      exact ⟨r.2, by rw [← hq, ← h.1]; exact List.mem_cons_self, h.2.1⟩
    · rw [if_neg hq] at hl
      obtain ⟨w, h1, h2⟩ := h.2.2.ld hl
      exact ⟨w, List.mem_cons_of_mem _ h1, h2⟩
theorem xLs.filter {mi : Nat} {all : va_W} {f : Nat × Value → Bool} (hf : ∀ i v w, v.category = w.category → f (i, v) = f (i, w)) : ∀ {l cl : xL}, xLs mi all l cl → xLs mi all (l.filter f) (cl.filter f)
  | [], [], _ => trivial
  | q :: l, r :: cl, h => by
    have e : f r = f q := by
      have := hf q.1 r.2 q.2 h.2.1.cat
      rw [← h.1] at this
      rw [show r = (r.1, r.2) from rfl, this, h.1]
    cases hq : f q with
    | true => rw [List.filter_cons_of_pos hq, List.filter_cons_of_pos (e.trans hq)]; exact ⟨h.1, h.2.1, h.2.2.filter hf⟩
    | false => rw [List.filter_cons_of_neg (by rw [hq]; decide), List.filter_cons_of_neg (by rw [e, hq]; decide)]; exact h.2.2.filter hf
theorem xLs.st1 {mi : Nat} {all : va_W} {l cl : xL} {i : Nat} {v w : Value} (h : xLs mi all l cl) (hv : xV mi all v w) : xLs mi all (xst1 l i v) (xst1 cl i w) :=
  ⟨rfl, hv, h.filter (fun j a b e => by unfold xf1; rw [e])⟩
theorem xLs.st2 {mi : Nat} {all : va_W} {l cl : xL} {i : Nat} {v w : Value} (h : xLs mi all l cl) (hv : xV mi all v w) : xLs mi all (xst2 l i v) (xst2 cl i w) :=
  ⟨rfl, hv, h.filter (fun j a b e => by unfold xf2; rw [e])⟩
theorem xLs.args {mi : Nat} {all : va_W} : ∀ {vs ws : List Value} (i : Nat), xVs mi all vs ws → xLs mi all (lv_args i vs) (lv_args i ws)
  | [], [], _, _ => trivial
  | v :: vs, w :: ws, i, h => by
    unfold lv_args
    rw [h.1.cat]
    exact ⟨rfl, h.1, xLs.args _ h.2⟩
