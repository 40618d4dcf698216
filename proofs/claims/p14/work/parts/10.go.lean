/-! A METHOD'S RUN, IN THE MACHINE -/
def xpc : List xI → Nat
  | [] => 0
  | x :: _ => x.1
def xchain : List xI → Bool
  | x :: y :: r => decide (y.1 = x.1 + x.2.1) && xchain (y :: r)
  | _ => true
def xsuf (full code : List xI) : Prop := ∃ pre, full = pre ++ code
theorem xsuf.tail {full r : List xI} {x : xI} (h : xsuf full (x :: r)) : xsuf full r := by
  obtain ⟨pre, rfl⟩ := h
  exact ⟨pre ++ [x], by simp⟩
theorem xsuf.mem {full r : List xI} {x : xI} (h : xsuf full (x :: r)) : x ∈ full := by
  obtain ⟨pre, rfl⟩ := h
  simp
theorem xchain_app : ∀ {pre code : List xI}, xchain (pre ++ code) = true → xchain code = true
  | [], _, h => h
  | [x], [], _ => rfl
  | [x], y :: r, h => by
    have h : (decide (y.1 = x.1 + x.2.1) && xchain (y :: r)) = true := h
    exact (Bool.and_eq_true _ _ ▸ h).2
  | x :: y :: pre, code, h => by
    have h : (decide (y.1 = x.1 + x.2.1) && xchain (y :: pre ++ code)) = true := h
    exact xchain_app (pre := y :: pre) (Bool.and_eq_true _ _ ▸ h).2
theorem xat_suf {full : List xI} : ∀ {code : List xI} (t : Nat), xsuf full code → xat code t ≠ [] → xsuf full (xat code t) ∧ xpc (xat code t) = t
  | [], _, _, h => absurd rfl h
  | x :: r, t, hs, h => by
    unfold xat at h ⊢
    by_cases hx : x.1 = t
    · rw [if_pos hx]; exact ⟨hs, hx⟩
    · rw [if_neg hx] at h ⊢
      exact xat_suf t hs.tail h
/-- targets, return types -/
def xctl (ret : Option FieldType) (pc : Nat) (i : Instr) (an : List Nat) : Bool := match i with
  | .goto off => decide ((pc : Int) + off = ((an.getD 0 0 : Nat) : Int))
  | .ifCond _ off => decide ((pc : Int) + off = ((an.getD 0 0 : Nat) : Int))
  | .if_icmp _ off => decide ((pc : Int) + off = ((an.getD 0 0 : Nat) : Int))
  | .if_acmp _ off => decide ((pc : Int) + off = ((an.getD 0 0 : Nat) : Int))
  | .ifnull off => decide ((pc : Int) + off = ((an.getD 0 0 : Nat) : Int))
  | .ifnonnull off => decide ((pc : Int) + off = ((an.getD 0 0 : Nat) : Int))
  | .tableswitch dflt lo hi offs => decide ((pc : Int) + dflt = ((an.getD 0 0 : Nat) : Int)) && decide (hi - lo + 1 = (offs.size : Int)) && (List.range offs.size).all (fun j => match offs[j]? with
    | some off => decide ((pc : Int) + off = ((an.getD (1 + j) 0 : Nat) : Int))
    | none => false)
  | .lreturn => decide (ret = some .long)
  | .return_ => decide (ret = none)
  | .areturn => match ret with
    | some (.object _) => true
    | some (.array _) => true
    | _ => false
  | _ => true
def xlenok (i : Instr) (len : Nat) : Bool := match i with
  | .tableswitch _ _ _ _ => true
  | _ => decide (len = xlen i)
/-- a word that is at hand -/
def xhas (w : Cond) : Prop := w ∈ xTB ∨ (xNw w = true ∧ w ∈ xlw)
theorem xhas.use {G : xG} {s : State} {args : Array Value} {w : Cond} (h : xhas w) (hts : ∀ w ∈ xTB, w.before args s = true) (hSa : xSa G s s.heap) : w.before args s = true := by
  rcases h with h | ⟨h1, h2⟩
  · exact hts w h
  · exact (hSa.2.2.2.2.2.2.2.1 w h2 h1).use (xNw_tab h1)
def xNames : List String := ["java/lang/RuntimeException", "java/lang/Exception"]
/-- 'throw new E(text)', at its new -/
def xthrow (M : xM) (pc ik : Nat) (an : List Nat) : Prop := match an with
  | ei :: is :: ic :: w :: mi :: _ => ∃ tx, xMsgs[mi]? = some (M.1.cls, is, tx) ∧ ei < 3 ∧ M.2.2.2.2.2 = [] ∧ decode M.2.1 (pc + 3) = .ok (.dup, 1)
    ∧ (if w = 0 then decode M.2.1 (pc + 4) = .ok (.ldc is, 2) ∧ decode M.2.1 (pc + 6) = .ok (.invokespecial ic, 3) ∧ decode M.2.1 (pc + 9) = .ok (.athrow, 1) else decode M.2.1 (pc + 4) = .ok (.ldc_w is, 3) ∧ decode M.2.1 (pc + 7) = .ok (.invokespecial ic, 3) ∧ decode M.2.1 (pc + 10) = .ok (.athrow, 1))
    ∧ (∀ w ∈ Cond.classLink M.1.cls ik (xEx.getD ei "") :: Cond.initialized (xEx.getD ei "") :: vx_atS M.1.cls ic (xEx.getD ei "") xNames, xhas w ∧ vx_ot w = true)
  | _ => False
/-- what a call asks besides words -/
def xcok (P : Nat → xM) (i : Instr) (an : List Nat) : Bool := match an with
  | z :: mid :: k :: ci :: kind :: _ => match z with
    | 0 => match i with
      | .invokevirtual _ => match kind with
        | 0 => xnm (P mid).1 (k - 1) && decide ((P mid).1.cls = (vwCl.getD ci (RL, TX0, 0)).1) && (P mid).2.2.2.2.2.isEmpty
        | 1 => xnm (P mid).1 (k - 1) && (P mid).2.2.2.2.2.isEmpty
        | _ => xnm (P mid).1 (k - 1) && decide ((P mid).1.name = "length") && decide ((P mid).1.desc = "()I") && (P mid).2.2.2.2.2.isEmpty
      | .invokespecial _ => xnm (P mid).1 (k - 1) && decide ((P mid).1.name = "<init>") && decide ((P mid).2.2.2.1 = none) && (P mid).2.2.2.2.2.isEmpty
      | .invokestatic _ => xnm (P mid).1 k && (decide (kind = 0) || (P mid).2.2.2.2.2.isEmpty)
      | .invokeinterface _ _ => (match xFw[kind]? with
        | some (x, y) => xnm x (k - 1) && decide (y = (P mid).1)
        | none => false) && decide ((vwCl.getD ci (RL, TX0, 0)).1 = "java/util/ArrayList$Itr") && (P mid).2.2.2.2.2.isEmpty
      | _ => false
    | 5 => match i with
      | .invokespecial _ => xnm (P mid).1 (k - 1) && decide ((P mid).1.name ≠ "<init>") && (P mid).2.2.2.2.2.isEmpty
      | _ => false
    | 1 => false
    | _ => true
  | 0 :: _ => false
  | 5 :: _ => false
  | _ => true
def xiscall : Instr → Bool
  | .invokevirtual _ => true
  | .invokespecial _ => true
  | .invokestatic _ => true
  | .invokeinterface _ _ => true
  | _ => false
/-- nop stands for what no run comes to -/
def xIok (P : Nat → xM) (M : xM) (x : xI) : Prop := x.2.2.1 = .nop ∨ decode M.2.1 x.1 = .ok (x.2.2.1, x.2.1) ∧ xlenok x.2.2.1 x.2.1 = true ∧ xctl M.2.2.2.1 x.1 x.2.2.1 x.2.2.2 = true ∧ (xiscall x.2.2.1 = true → xcok P x.2.2.1 x.2.2.2 = true ∧ ∀ w ∈ xcneed P M.1.cls x.2.2.1 x.2.2.2, xhas w) ∧
  match x.2.2.1, x.2.2.2 with
  | .new ik, 200 :: an => xthrow M x.1 ik an
  | i, an => xok M.1.cls M.1.name i an = true ∧ ∀ w ∈ xneed M.1.cls i an, xhas w
def xMok (P : Nat → xM) (M : xM) : Prop := xchain M.2.2.2.2.1 = true ∧ xpc M.2.2.2.2.1 = 0 ∧ ∀ x ∈ M.2.2.2.2.1, xIok P M x
def xPok (M : xM) : Prop := xword M ∈ xTB ∧ M.2.2.1 ≤ 40
def xret (i : Instr) (ret : Option FieldType) (v : Option Value) : Prop := match i with
  | .ireturn => ∃ x ty, v = some (.int x) ∧ ret = some ty ∧ xfit ty (.int x) = true
  | .lreturn => ∃ x, v = some (.long x)
  | .areturn => v = some .null ∨ ∃ x, v = some (.ref x)
  | .return_ => v = none
  | _ => False
