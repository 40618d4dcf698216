/-! THE LAW'S RUN FROM ITS FIRST WORLD (by gen47.py): 33 cells that are only read, the script at 33 -/
def sBy : List (List Int32) := [[], [Int32.ofInt 48, Int32.ofInt 49, Int32.ofInt 50, Int32.ofInt 51, Int32.ofInt 52, Int32.ofInt 53, Int32.ofInt 54, Int32.ofInt 55, Int32.ofInt 56, Int32.ofInt 57, Int32.ofInt 48, Int32.ofInt 49, Int32.ofInt 50, Int32.ofInt 51, Int32.ofInt 52, Int32.ofInt 53, Int32.ofInt 54, Int32.ofInt 55, Int32.ofInt 56, Int32.ofInt 57, Int32.ofInt 48, Int32.ofInt 49, Int32.ofInt 50, Int32.ofInt 51, Int32.ofInt 52, Int32.ofInt 53, Int32.ofInt 54, Int32.ofInt 55, Int32.ofInt 56, Int32.ofInt 57, Int32.ofInt 48, Int32.ofInt 49, Int32.ofInt 50, Int32.ofInt 51, Int32.ofInt 52, Int32.ofInt 53, Int32.ofInt 54, Int32.ofInt 55, Int32.ofInt 56, Int32.ofInt 57, Int32.ofInt 48, Int32.ofInt 49, Int32.ofInt 50, Int32.ofInt 51, Int32.ofInt 52, Int32.ofInt 53, Int32.ofInt 54, Int32.ofInt 55, Int32.ofInt 56, Int32.ofInt 57, Int32.ofInt 48, Int32.ofInt 49, Int32.ofInt 50, Int32.ofInt 51, Int32.ofInt 52, Int32.ofInt 53, Int32.ofInt 54, Int32.ofInt 55, Int32.ofInt 56, Int32.ofInt 57, Int32.ofInt 48, Int32.ofInt 49, Int32.ofInt 50, Int32.ofInt 51, Int32.ofInt 52, Int32.ofInt 53, Int32.ofInt 54, Int32.ofInt 55, Int32.ofInt 56, Int32.ofInt 57, Int32.ofInt 48, Int32.ofInt 49, Int32.ofInt 50, Int32.ofInt 51, Int32.ofInt 52, Int32.ofInt 53, Int32.ofInt 54, Int32.ofInt 55, Int32.ofInt 56, Int32.ofInt 57, Int32.ofInt 48, Int32.ofInt 49, Int32.ofInt 50, Int32.ofInt 51, Int32.ofInt 52, Int32.ofInt 53, Int32.ofInt 54, Int32.ofInt 55, Int32.ofInt 56, Int32.ofInt 57, Int32.ofInt 48, Int32.ofInt 49, Int32.ofInt 50, Int32.ofInt 51, Int32.ofInt 52, Int32.ofInt 53, Int32.ofInt 54, Int32.ofInt 55, Int32.ofInt 56, Int32.ofInt 57], [Int32.ofInt 48, Int32.ofInt 48, Int32.ofInt 48, Int32.ofInt 48, Int32.ofInt 48, Int32.ofInt 48, Int32.ofInt 48, Int32.ofInt 48, Int32.ofInt 48, Int32.ofInt 48, Int32.ofInt 49, Int32.ofInt 49, Int32.ofInt 49, Int32.ofInt 49, Int32.ofInt 49, Int32.ofInt 49, Int32.ofInt 49, Int32.ofInt 49, Int32.ofInt 49, Int32.ofInt 49, Int32.ofInt 50, Int32.ofInt 50, Int32.ofInt 50, Int32.ofInt 50, Int32.ofInt 50, Int32.ofInt 50, Int32.ofInt 50, Int32.ofInt 50, Int32.ofInt 50, Int32.ofInt 50, Int32.ofInt 51, Int32.ofInt 51, Int32.ofInt 51, Int32.ofInt 51, Int32.ofInt 51, Int32.ofInt 51, Int32.ofInt 51, Int32.ofInt 51, Int32.ofInt 51, Int32.ofInt 51, Int32.ofInt 52, Int32.ofInt 52, Int32.ofInt 52, Int32.ofInt 52, Int32.ofInt 52, Int32.ofInt 52, Int32.ofInt 52, Int32.ofInt 52, Int32.ofInt 52, Int32.ofInt 52, Int32.ofInt 53, Int32.ofInt 53, Int32.ofInt 53, Int32.ofInt 53, Int32.ofInt 53, Int32.ofInt 53, Int32.ofInt 53, Int32.ofInt 53, Int32.ofInt 53, Int32.ofInt 53, Int32.ofInt 54, Int32.ofInt 54, Int32.ofInt 54, Int32.ofInt 54, Int32.ofInt 54, Int32.ofInt 54, Int32.ofInt 54, Int32.ofInt 54, Int32.ofInt 54, Int32.ofInt 54, Int32.ofInt 55, Int32.ofInt 55, Int32.ofInt 55, Int32.ofInt 55, Int32.ofInt 55, Int32.ofInt 55, Int32.ofInt 55, Int32.ofInt 55, Int32.ofInt 55, Int32.ofInt 55, Int32.ofInt 56, Int32.ofInt 56, Int32.ofInt 56, Int32.ofInt 56, Int32.ofInt 56, Int32.ofInt 56, Int32.ofInt 56, Int32.ofInt 56, Int32.ofInt 56, Int32.ofInt 56, Int32.ofInt 57, Int32.ofInt 57, Int32.ofInt 57, Int32.ofInt 57, Int32.ofInt 57, Int32.ofInt 57, Int32.ofInt 57, Int32.ofInt 57, Int32.ofInt 57, Int32.ofInt 57], [], [Int32.ofInt 115, Int32.ofInt 97, Int32.ofInt 108, Int32.ofInt 101, Int32.ofInt 32], [], [Int32.ofInt 58, Int32.ofInt 32], [], [Int32.ofInt 32, Int32.ofInt 105, Int32.ofInt 110, Int32.ofInt 32], [], [Int32.ofInt 44, Int32.ofInt 32, Int32.ofInt 118, Int32.ofInt 111, Int32.ofInt 105, Int32.ofInt 100], [], [Int32.ofInt 44, Int32.ofInt 32, Int32.ofInt 100, Int32.ofInt 111, Int32.ofInt 110, Int32.ofInt 101], [], [Int32.ofInt 44, Int32.ofInt 32], [], [Int32.ofInt 32, Int32.ofInt 108, Int32.ofInt 101, Int32.ofInt 102, Int32.ofInt 116], [], [], [], [Int32.ofInt 118, Int32.ofInt 111, Int32.ofInt 105, Int32.ofInt 100], [], [Int32.ofInt 100, Int32.ofInt 111, Int32.ofInt 110, Int32.ofInt 101], [], [Int32.ofInt 32, Int32.ofInt 108, Int32.ofInt 101, Int32.ofInt 102, Int32.ofInt 116], [], [Int32.ofInt 115, Int32.ofInt 97, Int32.ofInt 108, Int32.ofInt 101, Int32.ofInt 32], [], [Int32.ofInt 58, Int32.ofInt 32], [], [Int32.ofInt 32, Int32.ofInt 105, Int32.ofInt 110, Int32.ofInt 32], [], [Int32.ofInt 44, Int32.ofInt 32]]
def sTg (ln : Nat) : Nat → yT := fun a => if a = 33 then (0, ln) else (yt0 a).getD (0, 0)
def sI (xs : Nat → Int32) : Nat → Nat → Int32 := fun a k => if a = 33 then xs k else (sBy.getD a []).getD k 0
def sR : Nat → Nat → Value := fun a k => match yr0 a k with
  | some b => .ref b
  | none => .null
theorem sBy_fit : ((List.range 33).all fun a => match yt0 a with
  | some (2, m) => (List.range m).all fun k => fits .byte (.int ((sBy.getD a []).getD k 0))
  | _ => true) = true := by decide +kernel
theorem sBy_odd : ((List.range 33).all fun a => decide (a % 2 = 0) || decide ((sBy.getD a []).getD 1 0 = Int32.ofInt 0) || decide (a < 3)) = true := by decide +kernel
theorem sCo (xs : Nat → Int32) : yCo (sI xs) := by
  constructor
  · intro a h1 h3 h2
    show (if a = 33 then xs 1 else (sBy.getD a []).getD 1 0) = _
    rw [if_neg (by omega)]
    have := List.all_eq_true.mp sBy_odd a (List.mem_range.mpr h1)
    simp only [Bool.or_eq_true, decide_eq_true_eq] at this
    rcases this with (h | h) | h
    · omega
    · exact h
    · omega
  · intro a m h1 h2 k hk
    show fits .byte (.int (if a = 33 then xs k else (sBy.getD a []).getD k 0)) = true
    rw [if_neg (by omega)]
    have := List.all_eq_true.mp sBy_fit a (List.mem_range.mpr h1)
    rw [h2] at this
    exact List.all_eq_true.mp this k (List.mem_range.mpr hk)
theorem sTg_at (ln : Nat) : ∀ a t, a < 33 → yt0 a = some t → sTg ln a = t := fun a t h1 h2 => by
  unfold sTg
  rw [if_neg (by omega), h2]; rfl
theorem sR_at : ∀ a k b, a < 33 → yr0 a k = some b → sR a k = .ref b := fun a k b _ h => by
  unfold sR
  rw [h]
theorem sL0 : yL [some (.ref 33), none, none, none, none, none, none] (lv_args 0 [.ref 33]) := fun i v h => by
  match i, h with
  | 0, h => cases h; rfl
  | 1, h | 2, h | 3, h | 4, h | 5, h | 6, h => cases h
  | i + 7, h => cases h
/-- the law's run, at the depth that its calls have -/
theorem law_run {ln : Nat} (hl : ln ≤ 3584) (xs : Nat → Int32) : ∃ (n : Nat) (h' : xH) (c s : Nat), xgo (xcall xP 12) xm_L_law n xm_L_law.2.2.2.2.1 (lv_args 0 [.ref 33]) [] (yH (34, sTg ln, sI xs, sR)) = some (.inl (some (.int (Int32.ofInt 1))), h', c, s) ∧ c ≤ 413910 ∧ s ≤ 7854376 := by
  have h : yW xm_L_law xm_L_law.2.2.2.2.1 [some (.ref 33), none, none, none, none, none, none] [] (34, sTg ln, sI xs, sR) 0 0 yEnd := by
    refine k_law (fun c1 s1 h1 h2 => ?_)
    have hi : yInv 0 94 (aT (34, sTg ln, sI xs, sR) aFin) (aN (34, sTg ln, sI xs, sR) aFin) (aV (34, sTg ln, sI xs, sR) aFin) ln := fin_inv (sTg_at ln) sR_at (sCo xs) rfl
    exact law_loop hl 513 0 94 _ _ _ (Int32.ofInt 0) c1 s1 hi (by decide) (by decide) (by omega) (by omega) (by decide)
  obtain ⟨n, o, w', c, s, e, ho, hc, hs⟩ := h _ sL0
  subst ho
  exact ⟨n, yH w', c, s, law_depth (fun x hx => hx) e, by omega, by omega⟩
