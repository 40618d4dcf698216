/-! THE CHECKER OF A METHOD -/
def xw1 (P : Nat → xM) (M : xM) (i : Instr) (an : List Nat) : List Cond := match i, an with
  | .new ik, 200 :: an => [.classLink M.1.cls ik (xEx.getD (an.getD 0 0) ""), .initialized (xEx.getD (an.getD 0 0) ""), .methodLink M.1.cls (an.getD 2 0) (Bundle.initS (xEx.getD (an.getD 0 0) ""))]
  | i, an => if xiscall i = true then xcneed P M.1.cls i an ++ xneed M.1.cls i an else xneed M.1.cls i an
def xwn (P : Nat → xM) (M : xM) : List xI → List (List (Option Cond))
  | [] => []
  | x :: r => xsm (if x.2.2.1 = .nop then [] else xw1 P M x.2.2.1 x.2.2.2) :: xwn P M r
def xhw (M : xM) : List Cond := xword M :: M.2.2.2.2.2.map fun x => .classLink M.1.cls x.2.2.2.1 x.2.2.2.2
theorem xwn_mem {P : Nat → xM} {M : xM} : ∀ {ps : List (List Nat)} {code : List xI}, xlk ps = xwn P M code → ∀ x ∈ code, x.2.2.1 = .nop ∨ ∀ w ∈ xw1 P M x.2.2.1 x.2.2.2, w ∈ xlw
  | _, [], _, x, hx => by cases hx
  | [], y :: r, h, x, hx => by cases h
  | p :: ps, y :: r, h, x, hx => by
    have h : xlook p :: xlk ps = xsm (if y.2.2.1 = .nop then [] else xw1 P M y.2.2.1 y.2.2.2) :: xwn P M r := h
    injection h with h1 h2
    rcases List.mem_cons.mp hx with rfl | hx
    · by_cases hn : x.2.2.1 = .nop
      · exact .inl hn
      · rw [if_neg hn] at h1
        exact .inr (xlook_mem h1)
    · exact xwn_mem h2 x hx
def xgd (w : Cond) : Bool := goodWord w || xNw w
theorem xgd_has {w : Cond} (h : xgd w = true) (hw : w ∈ xlw) : xhas w := by
  by_cases g : goodWord w = true
  · exact .inl (List.mem_filter.mpr ⟨hw, g⟩)
  · unfold xgd at h
    simp only [Bool.or_eq_true] at h
    exact .inr ⟨h.resolve_left g, hw⟩
theorem xgd_ot {w : Cond} (h : xgd w = true) : vx_ot w = true := by
  unfold xgd at h
  unfold vx_ot
  simp only [Bool.or_eq_true] at h ⊢
  exact h.elim .inr fun h => .inl (xNw_tab h)
def xdq (b : ByteArray) (pc : Nat) (i : Instr) (len : Nat) : Bool := match decode b pc with
  | .ok (j, l) => decide (j = i) && decide (l = len)
  | .error _ => false
theorem xdq_ok {b : ByteArray} {pc : Nat} {i : Instr} {len : Nat} (h : xdq b pc i len = true) : decode b pc = .ok (i, len) := by
  unfold xdq at h
  split at h
  · rename_i j l hd
    simp only [Bool.and_eq_true, decide_eq_true_eq] at h
    rw [hd, h.1, h.2]
  · cases h
/-- every row is decoded, or dead -/
def xD (b : ByteArray) (l : List xI) : Prop := ∀ x ∈ l, x.2.2.1 = .nop ∨ decode b x.1 = .ok (x.2.2.1, x.2.1)
theorem xD_n {b : ByteArray} : xD b [] := fun x hx => by cases hx
theorem xD_c {b : ByteArray} {pc len : Nat} {i : Instr} {an : List Nat} {r : List xI} (h : decode b pc = .ok (i, len)) (hr : xD b r) : xD b ((pc, len, i, an) :: r) := fun x hx => by
  rcases List.mem_cons.mp hx with rfl | hx
  · exact .inr h
  · exact hr x hx
theorem xD_z {b : ByteArray} {pc len : Nat} {an : List Nat} {r : List xI} (hr : xD b r) : xD b ((pc, len, .nop, an) :: r) := fun x hx => by
  rcases List.mem_cons.mp hx with rfl | hx
  · exact .inl rfl
  · exact hr x hx
theorem wq {code : ByteArray} {p : Nat} {b : UInt8} {r : List UInt8} (h : code.data.toList.drop p = b :: r) : ∃ hp : p < code.size, code[p]'hp = b := by
  have hl : p < code.data.toList.length := by
    by_cases q : p < code.data.toList.length
    · exact q
    · rw [List.drop_eq_nil_of_le (by omega)] at h
      cases h
  rw [List.drop_eq_getElem_cons hl] at h
  injection h with h1 h2
  exact ⟨hl, h1⟩
theorem wq_nx {L : List UInt8} {pc q n : Nat} {s r : List UInt8} (h : L.drop pc = s) (hs : s.drop n = r) (e : q = pc + n) : L.drop q = r := by
  have e2 : L.drop (pc + n) = (L.drop pc).drop n := by
    rw [List.drop_drop]
    try rw [Nat.add_comm]
  rw [e, e2, h, hs]
theorem wq_u1 {code : ByteArray} {p : Nat} {b : UInt8} {r : List UInt8} (h : code.data.toList.drop p = b :: r) : (Reader.u1 : Decoder Nat) code p = .ok (b.toNat, p + 1) := by
  obtain ⟨hp, hb⟩ := wq h
  have e : (Reader.u1 : Decoder Nat) code p = (dite (p < code.size) (fun h => (do set (p + 1); pure (code[p]'h).toNat : Decoder Nat)) (fun _ => throw (HasTruncated.truncated p))) code p := rfl
  rw [e, dif_pos hp, ← hb]
  rfl
theorem wq_b {α β : Type} {r : Decoder α} {f : α → Decoder β} {code : ByteArray} {p q : Nat} {a : α} (h : r code p = .ok (a, q)) : (r >>= f) code p = f a code q := by
  have e : (r >>= f) code p = (r code p >>= fun x => f x.1 code x.2) := rfl
  rw [e, h]
  rfl
theorem wq_m {α β : Type} {r : Decoder α} {g : α → β} {code : ByteArray} {p q : Nat} {a : α} (h : r code p = .ok (a, q)) : (g <$> r) code p = .ok (g a, q) := by
  have e : (g <$> r) code p = (r code p >>= fun x => pure (g x.1, x.2)) := rfl
  rw [e, h]
  rfl
theorem wq_u2 {code : ByteArray} {p : Nat} {a b : UInt8} {r : List UInt8} (h : code.data.toList.drop p = a :: b :: r) : (Reader.u2 : Decoder Nat) code p = .ok (a.toNat * 256 + b.toNat, p + 2) := by
  have e : (Reader.u2 : Decoder Nat) = (Reader.u1 >>= fun hi => Reader.u1 >>= fun lo => pure (hi * 256 + lo)) := rfl
  rw [e, wq_b (wq_u1 h), wq_b (wq_u1 (wq_nx h (n := 1) rfl rfl))]
  rfl
theorem wq_s1 {code : ByteArray} {p : Nat} {b : UInt8} {r : List UInt8} (h : code.data.toList.drop p = b :: r) : (Reader.s1 : Decoder Int) code p = .ok (Reader.signed 8 b.toNat, p + 1) := wq_m (wq_u1 h)
theorem wq_s2 {code : ByteArray} {p : Nat} {a b : UInt8} {r : List UInt8} (h : code.data.toList.drop p = a :: b :: r) : (Reader.s2 : Decoder Int) code p = .ok (Reader.signed 16 (a.toNat * 256 + b.toNat), p + 2) := wq_m (wq_u2 h)
theorem wq_k {f : Nat → Decoder Instr} {code : ByteArray} {pc q : Nat} {b : UInt8} {r : List UInt8} {i : Instr} (hf : Decoder.instr pc = (Reader.u1 >>= f)) (h : code.data.toList.drop pc = b :: r) (h2 : f b.toNat code (pc + 1) = .ok (i, q)) : decode code pc = .ok (i, q - pc) := by
  have e : Decoder.instr pc code pc = .ok (i, q) := by rw [hf, wq_b (wq_u1 h), h2]
  have e2 : decode code pc = (Decoder.instr pc code pc >>= fun x => pure (x.1, x.2 - pc)) := rfl
  rw [e2, e]
  rfl
/-- rows from a place on, where the bytes are s -/
def XD (code : ByteArray) (pc : Nat) (s : List UInt8) (l : List xI) : Prop := code.data.toList.drop pc = s → xD code l
theorem xo_Z {code : ByteArray} {pc : Nat} {s : List UInt8} : XD code pc s [] := fun _ => xD_n
theorem xo_X {code : ByteArray} {pc len : Nat} {s r : List UInt8} {i : Instr} {an : List Nat} {l : List xI} (q : Nat) (hd : decode code pc = .ok (i, len)) (hs : s.drop len = r) (e : q = pc + len) (h : XD code q r l) : XD code pc s ((pc, len, i, an) :: l) := fun hk => xD_c hd (h (wq_nx hk hs e))
theorem xo_N {code : ByteArray} {pc len : Nat} {s r : List UInt8} {an : List Nat} {l : List xI} (q : Nat) (hs : s.drop len = r) (e : q = pc + len) (h : XD code q r l) : XD code pc s ((pc, len, .nop, an) :: l) := fun hk => xD_z (h (wq_nx hk hs e))
theorem wq_l {code : ByteArray} {pc n : Nat} {i : Instr} (h : decode code pc = .ok (i, pc + n - pc)) : decode code pc = .ok (i, n) := by rw [h, Nat.add_sub_cancel_left]
theorem xo_1 {code : ByteArray} {pc : Nat} {an : List Nat} {r : List UInt8} {l : List xI} (q : Nat) (e : q = pc + 1) (h : XD code q r l) : XD code pc (0x01 :: r) ((pc, 1, .aconst_null, an) :: l) := fun hk => xD_c (wq_l (wq_k (i := .aconst_null) (q := pc + 1) rfl hk rfl)) (h (wq_nx hk (n := 1) rfl e))
theorem xo_2 {code : ByteArray} {pc : Nat} {an : List Nat} {r : List UInt8} {l : List xI} (q : Nat) (e : q = pc + 1) (h : XD code q r l) : XD code pc (0x02 :: r) ((pc, 1, .iconst (-1), an) :: l) := fun hk => xD_c (wq_l (wq_k (i := .iconst (-1)) (q := pc + 1) rfl hk rfl)) (h (wq_nx hk (n := 1) rfl e))
theorem xo_3 {code : ByteArray} {pc : Nat} {an : List Nat} {r : List UInt8} {l : List xI} (q : Nat) (e : q = pc + 1) (h : XD code q r l) : XD code pc (0x03 :: r) ((pc, 1, .iconst 0, an) :: l) := fun hk => xD_c (wq_l (wq_k (i := .iconst 0) (q := pc + 1) rfl hk rfl)) (h (wq_nx hk (n := 1) rfl e))
theorem xo_4 {code : ByteArray} {pc : Nat} {an : List Nat} {r : List UInt8} {l : List xI} (q : Nat) (e : q = pc + 1) (h : XD code q r l) : XD code pc (0x04 :: r) ((pc, 1, .iconst 1, an) :: l) := fun hk => xD_c (wq_l (wq_k (i := .iconst 1) (q := pc + 1) rfl hk rfl)) (h (wq_nx hk (n := 1) rfl e))
theorem xo_5 {code : ByteArray} {pc : Nat} {an : List Nat} {r : List UInt8} {l : List xI} (q : Nat) (e : q = pc + 1) (h : XD code q r l) : XD code pc (0x05 :: r) ((pc, 1, .iconst 2, an) :: l) := fun hk => xD_c (wq_l (wq_k (i := .iconst 2) (q := pc + 1) rfl hk rfl)) (h (wq_nx hk (n := 1) rfl e))
theorem xo_6 {code : ByteArray} {pc : Nat} {an : List Nat} {r : List UInt8} {l : List xI} (q : Nat) (e : q = pc + 1) (h : XD code q r l) : XD code pc (0x06 :: r) ((pc, 1, .iconst 3, an) :: l) := fun hk => xD_c (wq_l (wq_k (i := .iconst 3) (q := pc + 1) rfl hk rfl)) (h (wq_nx hk (n := 1) rfl e))
theorem xo_7 {code : ByteArray} {pc : Nat} {an : List Nat} {r : List UInt8} {l : List xI} (q : Nat) (e : q = pc + 1) (h : XD code q r l) : XD code pc (0x07 :: r) ((pc, 1, .iconst 4, an) :: l) := fun hk => xD_c (wq_l (wq_k (i := .iconst 4) (q := pc + 1) rfl hk rfl)) (h (wq_nx hk (n := 1) rfl e))
theorem xo_8 {code : ByteArray} {pc : Nat} {an : List Nat} {r : List UInt8} {l : List xI} (q : Nat) (e : q = pc + 1) (h : XD code q r l) : XD code pc (0x08 :: r) ((pc, 1, .iconst 5, an) :: l) := fun hk => xD_c (wq_l (wq_k (i := .iconst 5) (q := pc + 1) rfl hk rfl)) (h (wq_nx hk (n := 1) rfl e))
theorem xo_9 {code : ByteArray} {pc : Nat} {an : List Nat} {r : List UInt8} {l : List xI} (q : Nat) (e : q = pc + 1) (h : XD code q r l) : XD code pc (0x09 :: r) ((pc, 1, .lconst 0, an) :: l) := fun hk => xD_c (wq_l (wq_k (i := .lconst 0) (q := pc + 1) rfl hk rfl)) (h (wq_nx hk (n := 1) rfl e))
theorem xo_10 {code : ByteArray} {pc : Nat} {an : List Nat} {r : List UInt8} {l : List xI} (q : Nat) (e : q = pc + 1) (h : XD code q r l) : XD code pc (0x0a :: r) ((pc, 1, .lconst 1, an) :: l) := fun hk => xD_c (wq_l (wq_k (i := .lconst 1) (q := pc + 1) rfl hk rfl)) (h (wq_nx hk (n := 1) rfl e))
theorem xo_16 {code : ByteArray} {pc : Nat} {x : UInt8} {an : List Nat} {r : List UInt8} {l : List xI} (q : Nat) (e : q = pc + 2) (h : XD code q r l) : XD code pc (0x10 :: x :: r) ((pc, 2, .bipush (Reader.signed 8 x.toNat), an) :: l) := fun hk => xD_c (wq_l (wq_k (i := .bipush (Reader.signed 8 x.toNat)) (q := pc + 2) rfl hk (wq_b (wq_s1 (wq_nx hk (n := 1) rfl rfl))))) (h (wq_nx hk (n := 2) rfl e))
theorem xo_17 {code : ByteArray} {pc : Nat} {x y : UInt8} {an : List Nat} {r : List UInt8} {l : List xI} (q : Nat) (e : q = pc + 3) (h : XD code q r l) : XD code pc (0x11 :: x :: y :: r) ((pc, 3, .sipush (Reader.signed 16 (x.toNat * 256 + y.toNat)), an) :: l) := fun hk => xD_c (wq_l (wq_k (i := .sipush (Reader.signed 16 (x.toNat * 256 + y.toNat))) (q := pc + 3) rfl hk (wq_b (wq_s2 (wq_nx hk (n := 1) rfl rfl))))) (h (wq_nx hk (n := 3) rfl e))
theorem xo_18 {code : ByteArray} {pc : Nat} {x : UInt8} {an : List Nat} {r : List UInt8} {l : List xI} (q : Nat) (e : q = pc + 2) (h : XD code q r l) : XD code pc (0x12 :: x :: r) ((pc, 2, .ldc x.toNat, an) :: l) := fun hk => xD_c (wq_l (wq_k (i := .ldc x.toNat) (q := pc + 2) rfl hk (wq_b (wq_u1 (wq_nx hk (n := 1) rfl rfl))))) (h (wq_nx hk (n := 2) rfl e))
theorem xo_19 {code : ByteArray} {pc : Nat} {x y : UInt8} {an : List Nat} {r : List UInt8} {l : List xI} (q : Nat) (e : q = pc + 3) (h : XD code q r l) : XD code pc (0x13 :: x :: y :: r) ((pc, 3, .ldc_w (x.toNat * 256 + y.toNat), an) :: l) := fun hk => xD_c (wq_l (wq_k (i := .ldc_w (x.toNat * 256 + y.toNat)) (q := pc + 3) rfl hk (wq_b (wq_u2 (wq_nx hk (n := 1) rfl rfl))))) (h (wq_nx hk (n := 3) rfl e))
theorem xo_20 {code : ByteArray} {pc : Nat} {x y : UInt8} {an : List Nat} {r : List UInt8} {l : List xI} (q : Nat) (e : q = pc + 3) (h : XD code q r l) : XD code pc (0x14 :: x :: y :: r) ((pc, 3, .ldc2_w (x.toNat * 256 + y.toNat), an) :: l) := fun hk => xD_c (wq_l (wq_k (i := .ldc2_w (x.toNat * 256 + y.toNat)) (q := pc + 3) rfl hk (wq_b (wq_u2 (wq_nx hk (n := 1) rfl rfl))))) (h (wq_nx hk (n := 3) rfl e))
theorem xo_21 {code : ByteArray} {pc : Nat} {x : UInt8} {an : List Nat} {r : List UInt8} {l : List xI} (q : Nat) (e : q = pc + 2) (h : XD code q r l) : XD code pc (0x15 :: x :: r) ((pc, 2, .iload x.toNat, an) :: l) := fun hk => xD_c (wq_l (wq_k (i := .iload x.toNat) (q := pc + 2) rfl hk (wq_b (wq_u1 (wq_nx hk (n := 1) rfl rfl))))) (h (wq_nx hk (n := 2) rfl e))
theorem xo_22 {code : ByteArray} {pc : Nat} {x : UInt8} {an : List Nat} {r : List UInt8} {l : List xI} (q : Nat) (e : q = pc + 2) (h : XD code q r l) : XD code pc (0x16 :: x :: r) ((pc, 2, .lload x.toNat, an) :: l) := fun hk => xD_c (wq_l (wq_k (i := .lload x.toNat) (q := pc + 2) rfl hk (wq_b (wq_u1 (wq_nx hk (n := 1) rfl rfl))))) (h (wq_nx hk (n := 2) rfl e))
theorem xo_25 {code : ByteArray} {pc : Nat} {x : UInt8} {an : List Nat} {r : List UInt8} {l : List xI} (q : Nat) (e : q = pc + 2) (h : XD code q r l) : XD code pc (0x19 :: x :: r) ((pc, 2, .aload x.toNat, an) :: l) := fun hk => xD_c (wq_l (wq_k (i := .aload x.toNat) (q := pc + 2) rfl hk (wq_b (wq_u1 (wq_nx hk (n := 1) rfl rfl))))) (h (wq_nx hk (n := 2) rfl e))
theorem xo_26 {code : ByteArray} {pc : Nat} {an : List Nat} {r : List UInt8} {l : List xI} (q : Nat) (e : q = pc + 1) (h : XD code q r l) : XD code pc (0x1a :: r) ((pc, 1, .iload_n 0, an) :: l) := fun hk => xD_c (wq_l (wq_k (i := .iload_n 0) (q := pc + 1) rfl hk rfl)) (h (wq_nx hk (n := 1) rfl e))
theorem xo_27 {code : ByteArray} {pc : Nat} {an : List Nat} {r : List UInt8} {l : List xI} (q : Nat) (e : q = pc + 1) (h : XD code q r l) : XD code pc (0x1b :: r) ((pc, 1, .iload_n 1, an) :: l) := fun hk => xD_c (wq_l (wq_k (i := .iload_n 1) (q := pc + 1) rfl hk rfl)) (h (wq_nx hk (n := 1) rfl e))
theorem xo_28 {code : ByteArray} {pc : Nat} {an : List Nat} {r : List UInt8} {l : List xI} (q : Nat) (e : q = pc + 1) (h : XD code q r l) : XD code pc (0x1c :: r) ((pc, 1, .iload_n 2, an) :: l) := fun hk => xD_c (wq_l (wq_k (i := .iload_n 2) (q := pc + 1) rfl hk rfl)) (h (wq_nx hk (n := 1) rfl e))
theorem xo_29 {code : ByteArray} {pc : Nat} {an : List Nat} {r : List UInt8} {l : List xI} (q : Nat) (e : q = pc + 1) (h : XD code q r l) : XD code pc (0x1d :: r) ((pc, 1, .iload_n 3, an) :: l) := fun hk => xD_c (wq_l (wq_k (i := .iload_n 3) (q := pc + 1) rfl hk rfl)) (h (wq_nx hk (n := 1) rfl e))
theorem xo_30 {code : ByteArray} {pc : Nat} {an : List Nat} {r : List UInt8} {l : List xI} (q : Nat) (e : q = pc + 1) (h : XD code q r l) : XD code pc (0x1e :: r) ((pc, 1, .lload_n 0, an) :: l) := fun hk => xD_c (wq_l (wq_k (i := .lload_n 0) (q := pc + 1) rfl hk rfl)) (h (wq_nx hk (n := 1) rfl e))
theorem xo_31 {code : ByteArray} {pc : Nat} {an : List Nat} {r : List UInt8} {l : List xI} (q : Nat) (e : q = pc + 1) (h : XD code q r l) : XD code pc (0x1f :: r) ((pc, 1, .lload_n 1, an) :: l) := fun hk => xD_c (wq_l (wq_k (i := .lload_n 1) (q := pc + 1) rfl hk rfl)) (h (wq_nx hk (n := 1) rfl e))
theorem xo_32 {code : ByteArray} {pc : Nat} {an : List Nat} {r : List UInt8} {l : List xI} (q : Nat) (e : q = pc + 1) (h : XD code q r l) : XD code pc (0x20 :: r) ((pc, 1, .lload_n 2, an) :: l) := fun hk => xD_c (wq_l (wq_k (i := .lload_n 2) (q := pc + 1) rfl hk rfl)) (h (wq_nx hk (n := 1) rfl e))
theorem xo_33 {code : ByteArray} {pc : Nat} {an : List Nat} {r : List UInt8} {l : List xI} (q : Nat) (e : q = pc + 1) (h : XD code q r l) : XD code pc (0x21 :: r) ((pc, 1, .lload_n 3, an) :: l) := fun hk => xD_c (wq_l (wq_k (i := .lload_n 3) (q := pc + 1) rfl hk rfl)) (h (wq_nx hk (n := 1) rfl e))
theorem xo_42 {code : ByteArray} {pc : Nat} {an : List Nat} {r : List UInt8} {l : List xI} (q : Nat) (e : q = pc + 1) (h : XD code q r l) : XD code pc (0x2a :: r) ((pc, 1, .aload_n 0, an) :: l) := fun hk => xD_c (wq_l (wq_k (i := .aload_n 0) (q := pc + 1) rfl hk rfl)) (h (wq_nx hk (n := 1) rfl e))
theorem xo_43 {code : ByteArray} {pc : Nat} {an : List Nat} {r : List UInt8} {l : List xI} (q : Nat) (e : q = pc + 1) (h : XD code q r l) : XD code pc (0x2b :: r) ((pc, 1, .aload_n 1, an) :: l) := fun hk => xD_c (wq_l (wq_k (i := .aload_n 1) (q := pc + 1) rfl hk rfl)) (h (wq_nx hk (n := 1) rfl e))
theorem xo_44 {code : ByteArray} {pc : Nat} {an : List Nat} {r : List UInt8} {l : List xI} (q : Nat) (e : q = pc + 1) (h : XD code q r l) : XD code pc (0x2c :: r) ((pc, 1, .aload_n 2, an) :: l) := fun hk => xD_c (wq_l (wq_k (i := .aload_n 2) (q := pc + 1) rfl hk rfl)) (h (wq_nx hk (n := 1) rfl e))
theorem xo_45 {code : ByteArray} {pc : Nat} {an : List Nat} {r : List UInt8} {l : List xI} (q : Nat) (e : q = pc + 1) (h : XD code q r l) : XD code pc (0x2d :: r) ((pc, 1, .aload_n 3, an) :: l) := fun hk => xD_c (wq_l (wq_k (i := .aload_n 3) (q := pc + 1) rfl hk rfl)) (h (wq_nx hk (n := 1) rfl e))
theorem xo_46 {code : ByteArray} {pc : Nat} {an : List Nat} {r : List UInt8} {l : List xI} (q : Nat) (e : q = pc + 1) (h : XD code q r l) : XD code pc (0x2e :: r) ((pc, 1, .iaload, an) :: l) := fun hk => xD_c (wq_l (wq_k (i := .iaload) (q := pc + 1) rfl hk rfl)) (h (wq_nx hk (n := 1) rfl e))
theorem xo_50 {code : ByteArray} {pc : Nat} {an : List Nat} {r : List UInt8} {l : List xI} (q : Nat) (e : q = pc + 1) (h : XD code q r l) : XD code pc (0x32 :: r) ((pc, 1, .aaload, an) :: l) := fun hk => xD_c (wq_l (wq_k (i := .aaload) (q := pc + 1) rfl hk rfl)) (h (wq_nx hk (n := 1) rfl e))
theorem xo_51 {code : ByteArray} {pc : Nat} {an : List Nat} {r : List UInt8} {l : List xI} (q : Nat) (e : q = pc + 1) (h : XD code q r l) : XD code pc (0x33 :: r) ((pc, 1, .baload, an) :: l) := fun hk => xD_c (wq_l (wq_k (i := .baload) (q := pc + 1) rfl hk rfl)) (h (wq_nx hk (n := 1) rfl e))
theorem xo_54 {code : ByteArray} {pc : Nat} {x : UInt8} {an : List Nat} {r : List UInt8} {l : List xI} (q : Nat) (e : q = pc + 2) (h : XD code q r l) : XD code pc (0x36 :: x :: r) ((pc, 2, .istore x.toNat, an) :: l) := fun hk => xD_c (wq_l (wq_k (i := .istore x.toNat) (q := pc + 2) rfl hk (wq_b (wq_u1 (wq_nx hk (n := 1) rfl rfl))))) (h (wq_nx hk (n := 2) rfl e))
theorem xo_55 {code : ByteArray} {pc : Nat} {x : UInt8} {an : List Nat} {r : List UInt8} {l : List xI} (q : Nat) (e : q = pc + 2) (h : XD code q r l) : XD code pc (0x37 :: x :: r) ((pc, 2, .lstore x.toNat, an) :: l) := fun hk => xD_c (wq_l (wq_k (i := .lstore x.toNat) (q := pc + 2) rfl hk (wq_b (wq_u1 (wq_nx hk (n := 1) rfl rfl))))) (h (wq_nx hk (n := 2) rfl e))
theorem xo_58 {code : ByteArray} {pc : Nat} {x : UInt8} {an : List Nat} {r : List UInt8} {l : List xI} (q : Nat) (e : q = pc + 2) (h : XD code q r l) : XD code pc (0x3a :: x :: r) ((pc, 2, .astore x.toNat, an) :: l) := fun hk => xD_c (wq_l (wq_k (i := .astore x.toNat) (q := pc + 2) rfl hk (wq_b (wq_u1 (wq_nx hk (n := 1) rfl rfl))))) (h (wq_nx hk (n := 2) rfl e))
theorem xo_59 {code : ByteArray} {pc : Nat} {an : List Nat} {r : List UInt8} {l : List xI} (q : Nat) (e : q = pc + 1) (h : XD code q r l) : XD code pc (0x3b :: r) ((pc, 1, .istore_n 0, an) :: l) := fun hk => xD_c (wq_l (wq_k (i := .istore_n 0) (q := pc + 1) rfl hk rfl)) (h (wq_nx hk (n := 1) rfl e))
theorem xo_60 {code : ByteArray} {pc : Nat} {an : List Nat} {r : List UInt8} {l : List xI} (q : Nat) (e : q = pc + 1) (h : XD code q r l) : XD code pc (0x3c :: r) ((pc, 1, .istore_n 1, an) :: l) := fun hk => xD_c (wq_l (wq_k (i := .istore_n 1) (q := pc + 1) rfl hk rfl)) (h (wq_nx hk (n := 1) rfl e))
theorem xo_61 {code : ByteArray} {pc : Nat} {an : List Nat} {r : List UInt8} {l : List xI} (q : Nat) (e : q = pc + 1) (h : XD code q r l) : XD code pc (0x3d :: r) ((pc, 1, .istore_n 2, an) :: l) := fun hk => xD_c (wq_l (wq_k (i := .istore_n 2) (q := pc + 1) rfl hk rfl)) (h (wq_nx hk (n := 1) rfl e))
theorem xo_62 {code : ByteArray} {pc : Nat} {an : List Nat} {r : List UInt8} {l : List xI} (q : Nat) (e : q = pc + 1) (h : XD code q r l) : XD code pc (0x3e :: r) ((pc, 1, .istore_n 3, an) :: l) := fun hk => xD_c (wq_l (wq_k (i := .istore_n 3) (q := pc + 1) rfl hk rfl)) (h (wq_nx hk (n := 1) rfl e))
theorem xo_64 {code : ByteArray} {pc : Nat} {an : List Nat} {r : List UInt8} {l : List xI} (q : Nat) (e : q = pc + 1) (h : XD code q r l) : XD code pc (0x40 :: r) ((pc, 1, .lstore_n 1, an) :: l) := fun hk => xD_c (wq_l (wq_k (i := .lstore_n 1) (q := pc + 1) rfl hk rfl)) (h (wq_nx hk (n := 1) rfl e))
theorem xo_65 {code : ByteArray} {pc : Nat} {an : List Nat} {r : List UInt8} {l : List xI} (q : Nat) (e : q = pc + 1) (h : XD code q r l) : XD code pc (0x41 :: r) ((pc, 1, .lstore_n 2, an) :: l) := fun hk => xD_c (wq_l (wq_k (i := .lstore_n 2) (q := pc + 1) rfl hk rfl)) (h (wq_nx hk (n := 1) rfl e))
theorem xo_66 {code : ByteArray} {pc : Nat} {an : List Nat} {r : List UInt8} {l : List xI} (q : Nat) (e : q = pc + 1) (h : XD code q r l) : XD code pc (0x42 :: r) ((pc, 1, .lstore_n 3, an) :: l) := fun hk => xD_c (wq_l (wq_k (i := .lstore_n 3) (q := pc + 1) rfl hk rfl)) (h (wq_nx hk (n := 1) rfl e))
theorem xo_76 {code : ByteArray} {pc : Nat} {an : List Nat} {r : List UInt8} {l : List xI} (q : Nat) (e : q = pc + 1) (h : XD code q r l) : XD code pc (0x4c :: r) ((pc, 1, .astore_n 1, an) :: l) := fun hk => xD_c (wq_l (wq_k (i := .astore_n 1) (q := pc + 1) rfl hk rfl)) (h (wq_nx hk (n := 1) rfl e))
theorem xo_77 {code : ByteArray} {pc : Nat} {an : List Nat} {r : List UInt8} {l : List xI} (q : Nat) (e : q = pc + 1) (h : XD code q r l) : XD code pc (0x4d :: r) ((pc, 1, .astore_n 2, an) :: l) := fun hk => xD_c (wq_l (wq_k (i := .astore_n 2) (q := pc + 1) rfl hk rfl)) (h (wq_nx hk (n := 1) rfl e))
theorem xo_78 {code : ByteArray} {pc : Nat} {an : List Nat} {r : List UInt8} {l : List xI} (q : Nat) (e : q = pc + 1) (h : XD code q r l) : XD code pc (0x4e :: r) ((pc, 1, .astore_n 3, an) :: l) := fun hk => xD_c (wq_l (wq_k (i := .astore_n 3) (q := pc + 1) rfl hk rfl)) (h (wq_nx hk (n := 1) rfl e))
theorem xo_79 {code : ByteArray} {pc : Nat} {an : List Nat} {r : List UInt8} {l : List xI} (q : Nat) (e : q = pc + 1) (h : XD code q r l) : XD code pc (0x4f :: r) ((pc, 1, .iastore, an) :: l) := fun hk => xD_c (wq_l (wq_k (i := .iastore) (q := pc + 1) rfl hk rfl)) (h (wq_nx hk (n := 1) rfl e))
theorem xo_83 {code : ByteArray} {pc : Nat} {an : List Nat} {r : List UInt8} {l : List xI} (q : Nat) (e : q = pc + 1) (h : XD code q r l) : XD code pc (0x53 :: r) ((pc, 1, .aastore, an) :: l) := fun hk => xD_c (wq_l (wq_k (i := .aastore) (q := pc + 1) rfl hk rfl)) (h (wq_nx hk (n := 1) rfl e))
theorem xo_84 {code : ByteArray} {pc : Nat} {an : List Nat} {r : List UInt8} {l : List xI} (q : Nat) (e : q = pc + 1) (h : XD code q r l) : XD code pc (0x54 :: r) ((pc, 1, .bastore, an) :: l) := fun hk => xD_c (wq_l (wq_k (i := .bastore) (q := pc + 1) rfl hk rfl)) (h (wq_nx hk (n := 1) rfl e))
theorem xo_87 {code : ByteArray} {pc : Nat} {an : List Nat} {r : List UInt8} {l : List xI} (q : Nat) (e : q = pc + 1) (h : XD code q r l) : XD code pc (0x57 :: r) ((pc, 1, .pop, an) :: l) := fun hk => xD_c (wq_l (wq_k (i := .pop) (q := pc + 1) rfl hk rfl)) (h (wq_nx hk (n := 1) rfl e))
theorem xo_88 {code : ByteArray} {pc : Nat} {an : List Nat} {r : List UInt8} {l : List xI} (q : Nat) (e : q = pc + 1) (h : XD code q r l) : XD code pc (0x58 :: r) ((pc, 1, .pop2, an) :: l) := fun hk => xD_c (wq_l (wq_k (i := .pop2) (q := pc + 1) rfl hk rfl)) (h (wq_nx hk (n := 1) rfl e))
theorem xo_89 {code : ByteArray} {pc : Nat} {an : List Nat} {r : List UInt8} {l : List xI} (q : Nat) (e : q = pc + 1) (h : XD code q r l) : XD code pc (0x59 :: r) ((pc, 1, .dup, an) :: l) := fun hk => xD_c (wq_l (wq_k (i := .dup) (q := pc + 1) rfl hk rfl)) (h (wq_nx hk (n := 1) rfl e))
theorem xo_90 {code : ByteArray} {pc : Nat} {an : List Nat} {r : List UInt8} {l : List xI} (q : Nat) (e : q = pc + 1) (h : XD code q r l) : XD code pc (0x5a :: r) ((pc, 1, .dup_x1, an) :: l) := fun hk => xD_c (wq_l (wq_k (i := .dup_x1) (q := pc + 1) rfl hk rfl)) (h (wq_nx hk (n := 1) rfl e))
theorem xo_92 {code : ByteArray} {pc : Nat} {an : List Nat} {r : List UInt8} {l : List xI} (q : Nat) (e : q = pc + 1) (h : XD code q r l) : XD code pc (0x5c :: r) ((pc, 1, .dup2, an) :: l) := fun hk => xD_c (wq_l (wq_k (i := .dup2) (q := pc + 1) rfl hk rfl)) (h (wq_nx hk (n := 1) rfl e))
theorem xo_96 {code : ByteArray} {pc : Nat} {an : List Nat} {r : List UInt8} {l : List xI} (q : Nat) (e : q = pc + 1) (h : XD code q r l) : XD code pc (0x60 :: r) ((pc, 1, .iadd, an) :: l) := fun hk => xD_c (wq_l (wq_k (i := .iadd) (q := pc + 1) rfl hk rfl)) (h (wq_nx hk (n := 1) rfl e))
theorem xo_97 {code : ByteArray} {pc : Nat} {an : List Nat} {r : List UInt8} {l : List xI} (q : Nat) (e : q = pc + 1) (h : XD code q r l) : XD code pc (0x61 :: r) ((pc, 1, .ladd, an) :: l) := fun hk => xD_c (wq_l (wq_k (i := .ladd) (q := pc + 1) rfl hk rfl)) (h (wq_nx hk (n := 1) rfl e))
theorem xo_100 {code : ByteArray} {pc : Nat} {an : List Nat} {r : List UInt8} {l : List xI} (q : Nat) (e : q = pc + 1) (h : XD code q r l) : XD code pc (0x64 :: r) ((pc, 1, .isub, an) :: l) := fun hk => xD_c (wq_l (wq_k (i := .isub) (q := pc + 1) rfl hk rfl)) (h (wq_nx hk (n := 1) rfl e))
theorem xo_104 {code : ByteArray} {pc : Nat} {an : List Nat} {r : List UInt8} {l : List xI} (q : Nat) (e : q = pc + 1) (h : XD code q r l) : XD code pc (0x68 :: r) ((pc, 1, .imul, an) :: l) := fun hk => xD_c (wq_l (wq_k (i := .imul) (q := pc + 1) rfl hk rfl)) (h (wq_nx hk (n := 1) rfl e))
theorem xo_105 {code : ByteArray} {pc : Nat} {an : List Nat} {r : List UInt8} {l : List xI} (q : Nat) (e : q = pc + 1) (h : XD code q r l) : XD code pc (0x69 :: r) ((pc, 1, .lmul, an) :: l) := fun hk => xD_c (wq_l (wq_k (i := .lmul) (q := pc + 1) rfl hk rfl)) (h (wq_nx hk (n := 1) rfl e))
theorem xo_108 {code : ByteArray} {pc : Nat} {an : List Nat} {r : List UInt8} {l : List xI} (q : Nat) (e : q = pc + 1) (h : XD code q r l) : XD code pc (0x6c :: r) ((pc, 1, .idiv, an) :: l) := fun hk => xD_c (wq_l (wq_k (i := .idiv) (q := pc + 1) rfl hk rfl)) (h (wq_nx hk (n := 1) rfl e))
theorem xo_109 {code : ByteArray} {pc : Nat} {an : List Nat} {r : List UInt8} {l : List xI} (q : Nat) (e : q = pc + 1) (h : XD code q r l) : XD code pc (0x6d :: r) ((pc, 1, .ldiv, an) :: l) := fun hk => xD_c (wq_l (wq_k (i := .ldiv) (q := pc + 1) rfl hk rfl)) (h (wq_nx hk (n := 1) rfl e))
theorem xo_112 {code : ByteArray} {pc : Nat} {an : List Nat} {r : List UInt8} {l : List xI} (q : Nat) (e : q = pc + 1) (h : XD code q r l) : XD code pc (0x70 :: r) ((pc, 1, .irem, an) :: l) := fun hk => xD_c (wq_l (wq_k (i := .irem) (q := pc + 1) rfl hk rfl)) (h (wq_nx hk (n := 1) rfl e))
theorem xo_116 {code : ByteArray} {pc : Nat} {an : List Nat} {r : List UInt8} {l : List xI} (q : Nat) (e : q = pc + 1) (h : XD code q r l) : XD code pc (0x74 :: r) ((pc, 1, .ineg, an) :: l) := fun hk => xD_c (wq_l (wq_k (i := .ineg) (q := pc + 1) rfl hk rfl)) (h (wq_nx hk (n := 1) rfl e))
theorem xo_120 {code : ByteArray} {pc : Nat} {an : List Nat} {r : List UInt8} {l : List xI} (q : Nat) (e : q = pc + 1) (h : XD code q r l) : XD code pc (0x78 :: r) ((pc, 1, .ishl, an) :: l) := fun hk => xD_c (wq_l (wq_k (i := .ishl) (q := pc + 1) rfl hk rfl)) (h (wq_nx hk (n := 1) rfl e))
theorem xo_122 {code : ByteArray} {pc : Nat} {an : List Nat} {r : List UInt8} {l : List xI} (q : Nat) (e : q = pc + 1) (h : XD code q r l) : XD code pc (0x7a :: r) ((pc, 1, .ishr, an) :: l) := fun hk => xD_c (wq_l (wq_k (i := .ishr) (q := pc + 1) rfl hk rfl)) (h (wq_nx hk (n := 1) rfl e))
theorem xo_124 {code : ByteArray} {pc : Nat} {an : List Nat} {r : List UInt8} {l : List xI} (q : Nat) (e : q = pc + 1) (h : XD code q r l) : XD code pc (0x7c :: r) ((pc, 1, .iushr, an) :: l) := fun hk => xD_c (wq_l (wq_k (i := .iushr) (q := pc + 1) rfl hk rfl)) (h (wq_nx hk (n := 1) rfl e))
theorem xo_126 {code : ByteArray} {pc : Nat} {an : List Nat} {r : List UInt8} {l : List xI} (q : Nat) (e : q = pc + 1) (h : XD code q r l) : XD code pc (0x7e :: r) ((pc, 1, .iand, an) :: l) := fun hk => xD_c (wq_l (wq_k (i := .iand) (q := pc + 1) rfl hk rfl)) (h (wq_nx hk (n := 1) rfl e))
theorem xo_128 {code : ByteArray} {pc : Nat} {an : List Nat} {r : List UInt8} {l : List xI} (q : Nat) (e : q = pc + 1) (h : XD code q r l) : XD code pc (0x80 :: r) ((pc, 1, .ior, an) :: l) := fun hk => xD_c (wq_l (wq_k (i := .ior) (q := pc + 1) rfl hk rfl)) (h (wq_nx hk (n := 1) rfl e))
theorem xo_130 {code : ByteArray} {pc : Nat} {an : List Nat} {r : List UInt8} {l : List xI} (q : Nat) (e : q = pc + 1) (h : XD code q r l) : XD code pc (0x82 :: r) ((pc, 1, .ixor, an) :: l) := fun hk => xD_c (wq_l (wq_k (i := .ixor) (q := pc + 1) rfl hk rfl)) (h (wq_nx hk (n := 1) rfl e))
theorem xo_132 {code : ByteArray} {pc : Nat} {x y : UInt8} {an : List Nat} {r : List UInt8} {l : List xI} (q : Nat) (e : q = pc + 3) (h : XD code q r l) : XD code pc (0x84 :: x :: y :: r) ((pc, 3, .iinc x.toNat (Reader.signed 8 y.toNat), an) :: l) := fun hk => xD_c (wq_l (wq_k (i := .iinc x.toNat (Reader.signed 8 y.toNat)) (q := pc + 3) rfl hk ((wq_b (wq_u1 (wq_nx hk (n := 1) rfl rfl))).trans (wq_b (wq_s1 (wq_nx hk (n := 2) rfl rfl)))))) (h (wq_nx hk (n := 3) rfl e))
theorem xo_133 {code : ByteArray} {pc : Nat} {an : List Nat} {r : List UInt8} {l : List xI} (q : Nat) (e : q = pc + 1) (h : XD code q r l) : XD code pc (0x85 :: r) ((pc, 1, .i2l, an) :: l) := fun hk => xD_c (wq_l (wq_k (i := .i2l) (q := pc + 1) rfl hk rfl)) (h (wq_nx hk (n := 1) rfl e))
theorem xo_136 {code : ByteArray} {pc : Nat} {an : List Nat} {r : List UInt8} {l : List xI} (q : Nat) (e : q = pc + 1) (h : XD code q r l) : XD code pc (0x88 :: r) ((pc, 1, .l2i, an) :: l) := fun hk => xD_c (wq_l (wq_k (i := .l2i) (q := pc + 1) rfl hk rfl)) (h (wq_nx hk (n := 1) rfl e))
theorem xo_145 {code : ByteArray} {pc : Nat} {an : List Nat} {r : List UInt8} {l : List xI} (q : Nat) (e : q = pc + 1) (h : XD code q r l) : XD code pc (0x91 :: r) ((pc, 1, .i2b, an) :: l) := fun hk => xD_c (wq_l (wq_k (i := .i2b) (q := pc + 1) rfl hk rfl)) (h (wq_nx hk (n := 1) rfl e))
theorem xo_146 {code : ByteArray} {pc : Nat} {an : List Nat} {r : List UInt8} {l : List xI} (q : Nat) (e : q = pc + 1) (h : XD code q r l) : XD code pc (0x92 :: r) ((pc, 1, .i2c, an) :: l) := fun hk => xD_c (wq_l (wq_k (i := .i2c) (q := pc + 1) rfl hk rfl)) (h (wq_nx hk (n := 1) rfl e))
theorem xo_148 {code : ByteArray} {pc : Nat} {an : List Nat} {r : List UInt8} {l : List xI} (q : Nat) (e : q = pc + 1) (h : XD code q r l) : XD code pc (0x94 :: r) ((pc, 1, .lcmp, an) :: l) := fun hk => xD_c (wq_l (wq_k (i := .lcmp) (q := pc + 1) rfl hk rfl)) (h (wq_nx hk (n := 1) rfl e))
theorem xo_153 {code : ByteArray} {pc : Nat} {x y : UInt8} {an : List Nat} {r : List UInt8} {l : List xI} (q : Nat) (e : q = pc + 3) (h : XD code q r l) : XD code pc (0x99 :: x :: y :: r) ((pc, 3, .ifCond .eq (Reader.signed 16 (x.toNat * 256 + y.toNat)), an) :: l) := fun hk => xD_c (wq_l (wq_k (i := .ifCond .eq (Reader.signed 16 (x.toNat * 256 + y.toNat))) (q := pc + 3) rfl hk (wq_b (wq_s2 (wq_nx hk (n := 1) rfl rfl))))) (h (wq_nx hk (n := 3) rfl e))
theorem xo_154 {code : ByteArray} {pc : Nat} {x y : UInt8} {an : List Nat} {r : List UInt8} {l : List xI} (q : Nat) (e : q = pc + 3) (h : XD code q r l) : XD code pc (0x9a :: x :: y :: r) ((pc, 3, .ifCond .ne (Reader.signed 16 (x.toNat * 256 + y.toNat)), an) :: l) := fun hk => xD_c (wq_l (wq_k (i := .ifCond .ne (Reader.signed 16 (x.toNat * 256 + y.toNat))) (q := pc + 3) rfl hk (wq_b (wq_s2 (wq_nx hk (n := 1) rfl rfl))))) (h (wq_nx hk (n := 3) rfl e))
theorem xo_155 {code : ByteArray} {pc : Nat} {x y : UInt8} {an : List Nat} {r : List UInt8} {l : List xI} (q : Nat) (e : q = pc + 3) (h : XD code q r l) : XD code pc (0x9b :: x :: y :: r) ((pc, 3, .ifCond .lt (Reader.signed 16 (x.toNat * 256 + y.toNat)), an) :: l) := fun hk => xD_c (wq_l (wq_k (i := .ifCond .lt (Reader.signed 16 (x.toNat * 256 + y.toNat))) (q := pc + 3) rfl hk (wq_b (wq_s2 (wq_nx hk (n := 1) rfl rfl))))) (h (wq_nx hk (n := 3) rfl e))
theorem xo_156 {code : ByteArray} {pc : Nat} {x y : UInt8} {an : List Nat} {r : List UInt8} {l : List xI} (q : Nat) (e : q = pc + 3) (h : XD code q r l) : XD code pc (0x9c :: x :: y :: r) ((pc, 3, .ifCond .ge (Reader.signed 16 (x.toNat * 256 + y.toNat)), an) :: l) := fun hk => xD_c (wq_l (wq_k (i := .ifCond .ge (Reader.signed 16 (x.toNat * 256 + y.toNat))) (q := pc + 3) rfl hk (wq_b (wq_s2 (wq_nx hk (n := 1) rfl rfl))))) (h (wq_nx hk (n := 3) rfl e))
theorem xo_157 {code : ByteArray} {pc : Nat} {x y : UInt8} {an : List Nat} {r : List UInt8} {l : List xI} (q : Nat) (e : q = pc + 3) (h : XD code q r l) : XD code pc (0x9d :: x :: y :: r) ((pc, 3, .ifCond .gt (Reader.signed 16 (x.toNat * 256 + y.toNat)), an) :: l) := fun hk => xD_c (wq_l (wq_k (i := .ifCond .gt (Reader.signed 16 (x.toNat * 256 + y.toNat))) (q := pc + 3) rfl hk (wq_b (wq_s2 (wq_nx hk (n := 1) rfl rfl))))) (h (wq_nx hk (n := 3) rfl e))
theorem xo_158 {code : ByteArray} {pc : Nat} {x y : UInt8} {an : List Nat} {r : List UInt8} {l : List xI} (q : Nat) (e : q = pc + 3) (h : XD code q r l) : XD code pc (0x9e :: x :: y :: r) ((pc, 3, .ifCond .le (Reader.signed 16 (x.toNat * 256 + y.toNat)), an) :: l) := fun hk => xD_c (wq_l (wq_k (i := .ifCond .le (Reader.signed 16 (x.toNat * 256 + y.toNat))) (q := pc + 3) rfl hk (wq_b (wq_s2 (wq_nx hk (n := 1) rfl rfl))))) (h (wq_nx hk (n := 3) rfl e))
theorem xo_159 {code : ByteArray} {pc : Nat} {x y : UInt8} {an : List Nat} {r : List UInt8} {l : List xI} (q : Nat) (e : q = pc + 3) (h : XD code q r l) : XD code pc (0x9f :: x :: y :: r) ((pc, 3, .if_icmp .eq (Reader.signed 16 (x.toNat * 256 + y.toNat)), an) :: l) := fun hk => xD_c (wq_l (wq_k (i := .if_icmp .eq (Reader.signed 16 (x.toNat * 256 + y.toNat))) (q := pc + 3) rfl hk (wq_b (wq_s2 (wq_nx hk (n := 1) rfl rfl))))) (h (wq_nx hk (n := 3) rfl e))
theorem xo_160 {code : ByteArray} {pc : Nat} {x y : UInt8} {an : List Nat} {r : List UInt8} {l : List xI} (q : Nat) (e : q = pc + 3) (h : XD code q r l) : XD code pc (0xa0 :: x :: y :: r) ((pc, 3, .if_icmp .ne (Reader.signed 16 (x.toNat * 256 + y.toNat)), an) :: l) := fun hk => xD_c (wq_l (wq_k (i := .if_icmp .ne (Reader.signed 16 (x.toNat * 256 + y.toNat))) (q := pc + 3) rfl hk (wq_b (wq_s2 (wq_nx hk (n := 1) rfl rfl))))) (h (wq_nx hk (n := 3) rfl e))
theorem xo_161 {code : ByteArray} {pc : Nat} {x y : UInt8} {an : List Nat} {r : List UInt8} {l : List xI} (q : Nat) (e : q = pc + 3) (h : XD code q r l) : XD code pc (0xa1 :: x :: y :: r) ((pc, 3, .if_icmp .lt (Reader.signed 16 (x.toNat * 256 + y.toNat)), an) :: l) := fun hk => xD_c (wq_l (wq_k (i := .if_icmp .lt (Reader.signed 16 (x.toNat * 256 + y.toNat))) (q := pc + 3) rfl hk (wq_b (wq_s2 (wq_nx hk (n := 1) rfl rfl))))) (h (wq_nx hk (n := 3) rfl e))
theorem xo_162 {code : ByteArray} {pc : Nat} {x y : UInt8} {an : List Nat} {r : List UInt8} {l : List xI} (q : Nat) (e : q = pc + 3) (h : XD code q r l) : XD code pc (0xa2 :: x :: y :: r) ((pc, 3, .if_icmp .ge (Reader.signed 16 (x.toNat * 256 + y.toNat)), an) :: l) := fun hk => xD_c (wq_l (wq_k (i := .if_icmp .ge (Reader.signed 16 (x.toNat * 256 + y.toNat))) (q := pc + 3) rfl hk (wq_b (wq_s2 (wq_nx hk (n := 1) rfl rfl))))) (h (wq_nx hk (n := 3) rfl e))
theorem xo_163 {code : ByteArray} {pc : Nat} {x y : UInt8} {an : List Nat} {r : List UInt8} {l : List xI} (q : Nat) (e : q = pc + 3) (h : XD code q r l) : XD code pc (0xa3 :: x :: y :: r) ((pc, 3, .if_icmp .gt (Reader.signed 16 (x.toNat * 256 + y.toNat)), an) :: l) := fun hk => xD_c (wq_l (wq_k (i := .if_icmp .gt (Reader.signed 16 (x.toNat * 256 + y.toNat))) (q := pc + 3) rfl hk (wq_b (wq_s2 (wq_nx hk (n := 1) rfl rfl))))) (h (wq_nx hk (n := 3) rfl e))
theorem xo_164 {code : ByteArray} {pc : Nat} {x y : UInt8} {an : List Nat} {r : List UInt8} {l : List xI} (q : Nat) (e : q = pc + 3) (h : XD code q r l) : XD code pc (0xa4 :: x :: y :: r) ((pc, 3, .if_icmp .le (Reader.signed 16 (x.toNat * 256 + y.toNat)), an) :: l) := fun hk => xD_c (wq_l (wq_k (i := .if_icmp .le (Reader.signed 16 (x.toNat * 256 + y.toNat))) (q := pc + 3) rfl hk (wq_b (wq_s2 (wq_nx hk (n := 1) rfl rfl))))) (h (wq_nx hk (n := 3) rfl e))
theorem xo_165 {code : ByteArray} {pc : Nat} {x y : UInt8} {an : List Nat} {r : List UInt8} {l : List xI} (q : Nat) (e : q = pc + 3) (h : XD code q r l) : XD code pc (0xa5 :: x :: y :: r) ((pc, 3, .if_acmp .eq (Reader.signed 16 (x.toNat * 256 + y.toNat)), an) :: l) := fun hk => xD_c (wq_l (wq_k (i := .if_acmp .eq (Reader.signed 16 (x.toNat * 256 + y.toNat))) (q := pc + 3) rfl hk (wq_b (wq_s2 (wq_nx hk (n := 1) rfl rfl))))) (h (wq_nx hk (n := 3) rfl e))
theorem xo_166 {code : ByteArray} {pc : Nat} {x y : UInt8} {an : List Nat} {r : List UInt8} {l : List xI} (q : Nat) (e : q = pc + 3) (h : XD code q r l) : XD code pc (0xa6 :: x :: y :: r) ((pc, 3, .if_acmp .ne (Reader.signed 16 (x.toNat * 256 + y.toNat)), an) :: l) := fun hk => xD_c (wq_l (wq_k (i := .if_acmp .ne (Reader.signed 16 (x.toNat * 256 + y.toNat))) (q := pc + 3) rfl hk (wq_b (wq_s2 (wq_nx hk (n := 1) rfl rfl))))) (h (wq_nx hk (n := 3) rfl e))
theorem xo_167 {code : ByteArray} {pc : Nat} {x y : UInt8} {an : List Nat} {r : List UInt8} {l : List xI} (q : Nat) (e : q = pc + 3) (h : XD code q r l) : XD code pc (0xa7 :: x :: y :: r) ((pc, 3, .goto (Reader.signed 16 (x.toNat * 256 + y.toNat)), an) :: l) := fun hk => xD_c (wq_l (wq_k (i := .goto (Reader.signed 16 (x.toNat * 256 + y.toNat))) (q := pc + 3) rfl hk (wq_b (wq_s2 (wq_nx hk (n := 1) rfl rfl))))) (h (wq_nx hk (n := 3) rfl e))
theorem xo_172 {code : ByteArray} {pc : Nat} {an : List Nat} {r : List UInt8} {l : List xI} (q : Nat) (e : q = pc + 1) (h : XD code q r l) : XD code pc (0xac :: r) ((pc, 1, .ireturn, an) :: l) := fun hk => xD_c (wq_l (wq_k (i := .ireturn) (q := pc + 1) rfl hk rfl)) (h (wq_nx hk (n := 1) rfl e))
theorem xo_173 {code : ByteArray} {pc : Nat} {an : List Nat} {r : List UInt8} {l : List xI} (q : Nat) (e : q = pc + 1) (h : XD code q r l) : XD code pc (0xad :: r) ((pc, 1, .lreturn, an) :: l) := fun hk => xD_c (wq_l (wq_k (i := .lreturn) (q := pc + 1) rfl hk rfl)) (h (wq_nx hk (n := 1) rfl e))
theorem xo_176 {code : ByteArray} {pc : Nat} {an : List Nat} {r : List UInt8} {l : List xI} (q : Nat) (e : q = pc + 1) (h : XD code q r l) : XD code pc (0xb0 :: r) ((pc, 1, .areturn, an) :: l) := fun hk => xD_c (wq_l (wq_k (i := .areturn) (q := pc + 1) rfl hk rfl)) (h (wq_nx hk (n := 1) rfl e))
theorem xo_177 {code : ByteArray} {pc : Nat} {an : List Nat} {r : List UInt8} {l : List xI} (q : Nat) (e : q = pc + 1) (h : XD code q r l) : XD code pc (0xb1 :: r) ((pc, 1, .return_, an) :: l) := fun hk => xD_c (wq_l (wq_k (i := .return_) (q := pc + 1) rfl hk rfl)) (h (wq_nx hk (n := 1) rfl e))
theorem xo_178 {code : ByteArray} {pc : Nat} {x y : UInt8} {an : List Nat} {r : List UInt8} {l : List xI} (q : Nat) (e : q = pc + 3) (h : XD code q r l) : XD code pc (0xb2 :: x :: y :: r) ((pc, 3, .getstatic (x.toNat * 256 + y.toNat), an) :: l) := fun hk => xD_c (wq_l (wq_k (i := .getstatic (x.toNat * 256 + y.toNat)) (q := pc + 3) rfl hk (wq_b (wq_u2 (wq_nx hk (n := 1) rfl rfl))))) (h (wq_nx hk (n := 3) rfl e))
theorem xo_180 {code : ByteArray} {pc : Nat} {x y : UInt8} {an : List Nat} {r : List UInt8} {l : List xI} (q : Nat) (e : q = pc + 3) (h : XD code q r l) : XD code pc (0xb4 :: x :: y :: r) ((pc, 3, .getfield (x.toNat * 256 + y.toNat), an) :: l) := fun hk => xD_c (wq_l (wq_k (i := .getfield (x.toNat * 256 + y.toNat)) (q := pc + 3) rfl hk (wq_b (wq_u2 (wq_nx hk (n := 1) rfl rfl))))) (h (wq_nx hk (n := 3) rfl e))
theorem xo_181 {code : ByteArray} {pc : Nat} {x y : UInt8} {an : List Nat} {r : List UInt8} {l : List xI} (q : Nat) (e : q = pc + 3) (h : XD code q r l) : XD code pc (0xb5 :: x :: y :: r) ((pc, 3, .putfield (x.toNat * 256 + y.toNat), an) :: l) := fun hk => xD_c (wq_l (wq_k (i := .putfield (x.toNat * 256 + y.toNat)) (q := pc + 3) rfl hk (wq_b (wq_u2 (wq_nx hk (n := 1) rfl rfl))))) (h (wq_nx hk (n := 3) rfl e))
theorem xo_182 {code : ByteArray} {pc : Nat} {x y : UInt8} {an : List Nat} {r : List UInt8} {l : List xI} (q : Nat) (e : q = pc + 3) (h : XD code q r l) : XD code pc (0xb6 :: x :: y :: r) ((pc, 3, .invokevirtual (x.toNat * 256 + y.toNat), an) :: l) := fun hk => xD_c (wq_l (wq_k (i := .invokevirtual (x.toNat * 256 + y.toNat)) (q := pc + 3) rfl hk (wq_b (wq_u2 (wq_nx hk (n := 1) rfl rfl))))) (h (wq_nx hk (n := 3) rfl e))
theorem xo_183 {code : ByteArray} {pc : Nat} {x y : UInt8} {an : List Nat} {r : List UInt8} {l : List xI} (q : Nat) (e : q = pc + 3) (h : XD code q r l) : XD code pc (0xb7 :: x :: y :: r) ((pc, 3, .invokespecial (x.toNat * 256 + y.toNat), an) :: l) := fun hk => xD_c (wq_l (wq_k (i := .invokespecial (x.toNat * 256 + y.toNat)) (q := pc + 3) rfl hk (wq_b (wq_u2 (wq_nx hk (n := 1) rfl rfl))))) (h (wq_nx hk (n := 3) rfl e))
theorem xo_184 {code : ByteArray} {pc : Nat} {x y : UInt8} {an : List Nat} {r : List UInt8} {l : List xI} (q : Nat) (e : q = pc + 3) (h : XD code q r l) : XD code pc (0xb8 :: x :: y :: r) ((pc, 3, .invokestatic (x.toNat * 256 + y.toNat), an) :: l) := fun hk => xD_c (wq_l (wq_k (i := .invokestatic (x.toNat * 256 + y.toNat)) (q := pc + 3) rfl hk (wq_b (wq_u2 (wq_nx hk (n := 1) rfl rfl))))) (h (wq_nx hk (n := 3) rfl e))
theorem xo_187 {code : ByteArray} {pc : Nat} {x y : UInt8} {an : List Nat} {r : List UInt8} {l : List xI} (q : Nat) (e : q = pc + 3) (h : XD code q r l) : XD code pc (0xbb :: x :: y :: r) ((pc, 3, .new (x.toNat * 256 + y.toNat), an) :: l) := fun hk => xD_c (wq_l (wq_k (i := .new (x.toNat * 256 + y.toNat)) (q := pc + 3) rfl hk (wq_b (wq_u2 (wq_nx hk (n := 1) rfl rfl))))) (h (wq_nx hk (n := 3) rfl e))
theorem xo_189 {code : ByteArray} {pc : Nat} {x y : UInt8} {an : List Nat} {r : List UInt8} {l : List xI} (q : Nat) (e : q = pc + 3) (h : XD code q r l) : XD code pc (0xbd :: x :: y :: r) ((pc, 3, .anewarray (x.toNat * 256 + y.toNat), an) :: l) := fun hk => xD_c (wq_l (wq_k (i := .anewarray (x.toNat * 256 + y.toNat)) (q := pc + 3) rfl hk (wq_b (wq_u2 (wq_nx hk (n := 1) rfl rfl))))) (h (wq_nx hk (n := 3) rfl e))
theorem xo_190 {code : ByteArray} {pc : Nat} {an : List Nat} {r : List UInt8} {l : List xI} (q : Nat) (e : q = pc + 1) (h : XD code q r l) : XD code pc (0xbe :: r) ((pc, 1, .arraylength, an) :: l) := fun hk => xD_c (wq_l (wq_k (i := .arraylength) (q := pc + 1) rfl hk rfl)) (h (wq_nx hk (n := 1) rfl e))
theorem xo_192 {code : ByteArray} {pc : Nat} {x y : UInt8} {an : List Nat} {r : List UInt8} {l : List xI} (q : Nat) (e : q = pc + 3) (h : XD code q r l) : XD code pc (0xc0 :: x :: y :: r) ((pc, 3, .checkcast (x.toNat * 256 + y.toNat), an) :: l) := fun hk => xD_c (wq_l (wq_k (i := .checkcast (x.toNat * 256 + y.toNat)) (q := pc + 3) rfl hk (wq_b (wq_u2 (wq_nx hk (n := 1) rfl rfl))))) (h (wq_nx hk (n := 3) rfl e))
theorem xo_199 {code : ByteArray} {pc : Nat} {x y : UInt8} {an : List Nat} {r : List UInt8} {l : List xI} (q : Nat) (e : q = pc + 3) (h : XD code q r l) : XD code pc (0xc7 :: x :: y :: r) ((pc, 3, .ifnonnull (Reader.signed 16 (x.toNat * 256 + y.toNat)), an) :: l) := fun hk => xD_c (wq_l (wq_k (i := .ifnonnull (Reader.signed 16 (x.toNat * 256 + y.toNat))) (q := pc + 3) rfl hk (wq_b (wq_s2 (wq_nx hk (n := 1) rfl rfl))))) (h (wq_nx hk (n := 3) rfl e))
def xthB (M : xM) (pc : Nat) (an : List Nat) : Bool := match an with
  | ei :: is :: ic :: w :: mi :: _ => (match xMsgs[mi]? with
    | some (c, k, _) => decide (c = M.1.cls) && decide (k = is)
    | none => false) && (decide (ei < 3) && (M.2.2.2.2.2.isEmpty && (xdq M.2.1 (pc + 3) .dup 1 && (if w = 0 then xdq M.2.1 (pc + 4) (.ldc is) 2 && (xdq M.2.1 (pc + 6) (.invokespecial ic) 3 && xdq M.2.1 (pc + 9) .athrow 1) else xdq M.2.1 (pc + 4) (.ldc_w is) 3 && (xdq M.2.1 (pc + 7) (.invokespecial ic) 3 && xdq M.2.1 (pc + 10) .athrow 1)))))
  | _ => false
def xlast (M : xM) (pc : Nat) (i : Instr) (an : List Nat) : Bool := match i, an with
  | .new _, 200 :: an => xthB M pc an
  | i, an => xok M.1.cls M.1.name i an
def xi1 (P : Nat → xM) (M : xM) (x : xI) : Bool := decide (x.2.2.1 = .nop) || (xlenok x.2.2.1 x.2.1 && (xctl M.2.2.2.1 x.1 x.2.2.1 x.2.2.2 && ((!xiscall x.2.2.1 || xcok P x.2.2.1 x.2.2.2) && ((xw1 P M x.2.2.1 x.2.2.2).all xgd && xlast M x.1 x.2.2.1 x.2.2.2))))
def xchkB (P : Nat → xM) (M : xM) : Bool := xchain M.2.2.2.2.1 && (decide (xpc M.2.2.2.2.1 = 0) && (M.2.2.2.2.1.all (xi1 P M) && (goodWord (xword M) && (decide (M.2.2.1 ≤ 40) && (plainName M.1.cls && M.2.2.2.2.2.all (fun x => decide (x.2.2.2.2 ∈ xEx) && decide (x.2.2.2.1 ≠ 0)))))))
def xThA (X : String) : List Cond := Bundle.throwableAtoms ++ Bundle.throwableSAtoms ++ Bundle.chainSAtoms X xNames
def xThT (X : String) : List Cond := (Bundle.ownAtoms "" 0 X xNames).drop ((xThA X).length + 1)
/-- the words of a throw, but the call's own -/
def xEw (E : String) : Bool := (xThA E ++ xThT E).all fun w => !vx_no w || (decide (w ∈ xlw) && xgd w)
theorem xE_at : xEx.all xEw = true := by decide +kernel
theorem xown {own : String} {ic : Nat} {X : String} {w : Cond} (h : w ∈ Bundle.ownAtoms own ic X xNames) : w = .methodLink own ic (Bundle.initS X) ∨ w ∈ xThA X ++ xThT X := by
  have hT : ∀ m T, Bundle.ownAtoms "" 0 X xNames = xThA X ++ m :: T → xThT X = T := by
    intro m T hh
    unfold xThT
    rw [hh, List.drop_length_add_append]
    rfl
  have h0 := hT _ _ rfl
  unfold Bundle.ownAtoms at h
  rcases List.mem_append.mp h with h | h
  · exact .inr (List.mem_append.mpr (.inl h))
  · rcases List.mem_cons.mp h with h | h
    · exact .inl h
    · exact .inr (List.mem_append.mpr (.inr (h0 ▸ h)))
theorem xEx_get {ei : Nat} (h : ei < 3) : xEx.getD ei "" ∈ xEx := by
  match ei, h with
  | 0, _ => exact .head _
  | 1, _ => exact .tail _ (.head _)
  | 2, _ => exact .tail _ (.tail _ (.head _))
theorem xth_words {own : String} {ik ic : Nat} {E : String} (hE : E ∈ xEx) (h1 : xhas (.classLink own ik E) ∧ vx_ot (.classLink own ik E) = true) (h2 : xhas (.initialized E) ∧ vx_ot (.initialized E) = true) (h3 : xhas (.methodLink own ic (Bundle.initS E)) ∧ vx_ot (.methodLink own ic (Bundle.initS E)) = true) :
    ∀ w ∈ Cond.classLink own ik E :: Cond.initialized E :: vx_atS own ic E xNames, xhas w ∧ vx_ot w = true := by
  intro w hw
  rcases List.mem_cons.mp hw with rfl | hw
  · exact h1
  rcases List.mem_cons.mp hw with rfl | hw
  · exact h2
  have hw' := List.mem_filter.mp hw
  rcases xown hw'.1 with rfl | hm
  · exact h3
  · have hq : xEw E = true := List.all_eq_true.mp xE_at E hE
    have hq := List.all_eq_true.mp hq w hm
    simp only [Bool.or_eq_true, Bool.and_eq_true, decide_eq_true_eq, hw'.2, Bool.not_true, Bool.false_eq_true, false_or] at hq
    exact ⟨xgd_has hq.2 hq.1, xgd_ot hq.2⟩
theorem xlast_ok {P : Nat → xM} {M : xM} {pc : Nat} {i : Instr} {an : List Nat} (h : xlast M pc i an = true) (hw : ∀ w ∈ xw1 P M i an, w ∈ xlw) (hg : (xw1 P M i an).all xgd = true) (hc : xiscall i = true → xcok P i an = true) :
    (xiscall i = true → xcok P i an = true ∧ ∀ w ∈ xcneed P M.1.cls i an, xhas w) ∧
    match (generalizing := false) i, an with
    | .new ik, 200 :: an => xthrow M pc ik an
    | i, an => xok M.1.cls M.1.name i an = true ∧ ∀ w ∈ xneed M.1.cls i an, xhas w := by
  have hh : ∀ w ∈ xw1 P M i an, xhas w ∧ vx_ot w = true := fun w hm => ⟨xgd_has (List.all_eq_true.mp hg w hm) (hw w hm), xgd_ot (List.all_eq_true.mp hg w hm)⟩
  by_cases hn : ∃ ik a, i = .new ik ∧ an = 200 :: a
  · obtain ⟨ik, a, rfl, rfl⟩ := hn
    refine ⟨fun h => (by cases h), ?_⟩
    have h : xthB M pc a = true := h
    show xthrow M pc ik a
    match a, h, hh with
    | ei :: is :: ic :: w :: mi :: r, h, hh =>
      unfold xthB at h
      simp only [Bool.and_eq_true, decide_eq_true_eq, List.isEmpty_iff] at h
      obtain ⟨h1, h2, h3, h4, h5⟩ := h
      split at h1
      · rename_i c k tx hm
        simp only [Bool.and_eq_true, decide_eq_true_eq] at h1
        refine ⟨tx, by rw [hm, h1.1, h1.2], h2, h3, xdq_ok h4, ?_, ?_⟩
        · by_cases hw0 : w = 0
          · rw [if_pos hw0] at h5 ⊢
            simp only [Bool.and_eq_true] at h5
            exact ⟨xdq_ok h5.1, xdq_ok h5.2.1, xdq_ok h5.2.2⟩
          · rw [if_neg hw0] at h5 ⊢
            simp only [Bool.and_eq_true] at h5
            exact ⟨xdq_ok h5.1, xdq_ok h5.2.1, xdq_ok h5.2.2⟩
        · exact xth_words (xEx_get h2) (hh _ (.head _)) (hh _ (.tail _ (.head _))) (hh _ (.tail _ (.tail _ (.head _))))
      · cases h1
    | [], h, _ => cases h
    | [_], h, _ => cases h
    | [_, _], h, _ => cases h
    | [_, _, _], h, _ => cases h
    | [_, _, _, _], h, _ => cases h
  · have e1 : xlast M pc i an = xok M.1.cls M.1.name i an := by
      unfold xlast
      split
      · exact absurd ⟨_, _, rfl, rfl⟩ hn
      · rfl
    have e2 : xw1 P M i an = if xiscall i = true then xcneed P M.1.cls i an ++ xneed M.1.cls i an else xneed M.1.cls i an := by
      unfold xw1
      split
      · exact absurd ⟨_, _, rfl, rfl⟩ hn
      · rfl
    rw [e1] at h
    rw [e2] at hh
    refine ⟨fun hcl => ⟨hc hcl, fun w hm => ?_⟩, ?_⟩
    · rw [if_pos hcl] at hh
      exact (hh w (List.mem_append.mpr (.inl hm))).1
    · have hx : ∀ w ∈ xneed M.1.cls i an, xhas w := by
        intro w hm
        by_cases hcl : xiscall i = true
        · rw [if_pos hcl] at hh
          exact (hh w (List.mem_append.mpr (.inr hm))).1
        · rw [if_neg hcl] at hh
          exact (hh w hm).1
      split
      · exact absurd ⟨_, _, rfl, rfl⟩ hn
      · exact ⟨h, hx⟩
def xTat (P : Nat → xM) (M : xM) : Prop := xMok P M ∧ xPok M ∧ plainName M.1.cls = true ∧ ∀ x ∈ M.2.2.2.2.2, x.2.2.2.2 ∈ xEx ∧ x.2.2.2.1 ≠ 0 ∧ (Cond.classLink M.1.cls x.2.2.2.1 x.2.2.2.2) ∈ xTB
theorem xchk_ok {P : Nat → xM} {M : xM} {ps : List (List Nat)} (h0 : xD M.2.1 M.2.2.2.2.1) (h1 : xchkB P M = true) (h2 : xlk ps = xsm (xhw M) :: xwn P M M.2.2.2.2.1) : xTat P M := by
  unfold xchkB at h1
  simp only [Bool.and_eq_true, decide_eq_true_eq] at h1
  obtain ⟨a1, a2, a3, a4, a5, a6, a7⟩ := h1
  match ps, h2 with
  | p :: ps, h2 =>
    have h2 : xlook p :: xlk ps = xsm (xhw M) :: xwn P M M.2.2.2.2.1 := h2
    injection h2 with b1 b2
    have b1 := xlook_mem b1
    refine ⟨⟨a1, a2, fun x hx => ?_⟩, ⟨List.mem_filter.mpr ⟨b1 _ (.head _), a4⟩, a5⟩, a6, fun x hx => ?_⟩
    · have c1 := List.all_eq_true.mp a3 x hx
      unfold xi1 at c1
      by_cases hn : x.2.2.1 = .nop
      · exact .inl hn
      · simp only [Bool.or_eq_true, Bool.and_eq_true, decide_eq_true_eq, hn, false_or] at c1
        obtain ⟨d2, d3, d4, d5, d6⟩ := c1
        have hw := (xwn_mem b2 x hx).resolve_left hn
        have hl := xlast_ok d6 hw d5 (fun hc => by simpa [hc] using d4)
        exact .inr ⟨(h0 x hx).resolve_left hn, d2, d3, hl.1, hl.2⟩
    · have c1 := List.all_eq_true.mp a7 x hx
      simp only [Bool.and_eq_true, decide_eq_true_eq] at c1
      exact ⟨c1.1, c1.2, List.mem_filter.mpr ⟨b1 _ (List.mem_cons_of_mem _ (List.mem_map.mpr ⟨x, hx, rfl⟩)), rfl⟩⟩
theorem xite {Q : xM → Prop} {c : Prop} [Decidable c] {a b : xM} (ha : Q a) (hb : Q b) : Q (if c then a else b) := by
  split
  · exact ha
  · exact hb
