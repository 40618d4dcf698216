/-! WHAT ONLY STACK AND LOCALS SEE, IN THE MACHINE -/
def xlen : Instr → Nat
  | .bipush _ | .ldc _ | .iload _ | .istore _ | .aload _ | .astore _ | .lload _ | .lstore _ | .newarray _ => 2
  | .sipush _ | .ldc2_w _ | .ldc_w _ | .iinc _ _ | .getfield _ | .putfield _ | .getstatic _ | .ifCond _ _ | .if_icmp _ _ | .if_acmp _ _ | .ifnull _ | .ifnonnull _ | .goto _ | .invokevirtual _ | .invokespecial _ | .invokestatic _ | .new _ | .anewarray _ | .checkcast _ => 3
  | .invokeinterface _ _ => 5
  | _ => 1
theorem x1i_some {f : Int32 → Value} {st st' : List Value} (h : x1i f st = some st') : ∃ x r, st = .int x :: r ∧ st' = f x :: r := by
  unfold x1i at h; split at h
  · cases h; exact ⟨_, _, rfl, rfl⟩
  · cases h
theorem x2i_some {f : Int32 → Int32 → Value} {st st' : List Value} (h : x2i f st = some st') : ∃ x y r, st = .int y :: .int x :: r ∧ st' = f x y :: r := by
  unfold x2i at h; split at h
  · cases h; exact ⟨_, _, _, rfl, rfl⟩
  · cases h
theorem x2d_some {f : Int32 → Int32 → Value} {st st' : List Value} (h : x2d f st = some st') : ∃ x y r, st = .int y :: .int x :: r ∧ st' = f x y :: r ∧ ¬ y = 0 := by
  unfold x2d at h; split at h
  · split at h
    · cases h
    · rename_i hy; cases h; exact ⟨_, _, _, rfl, rfl, hy⟩
  · cases h
theorem x1l_some {f : Int64 → Value} {st st' : List Value} (h : x1l f st = some st') : ∃ x r, st = .long x :: r ∧ st' = f x :: r := by
  unfold x1l at h; split at h
  · cases h; exact ⟨_, _, rfl, rfl⟩
  · cases h
theorem x2l_some {f : Int64 → Int64 → Value} {st st' : List Value} (h : x2l f st = some st') : ∃ x y r, st = .long y :: .long x :: r ∧ st' = f x y :: r := by
  unfold x2l at h; split at h
  · cases h; exact ⟨_, _, _, rfl, rfl⟩
  · cases h
theorem x2m_some {f : Int64 → Int64 → Value} {st st' : List Value} (h : x2m f st = some st') : ∃ x y r, st = .long y :: .long x :: r ∧ st' = f x y :: r ∧ ¬ y = 0 := by
  unfold x2m at h; split at h
  · split at h
    · cases h
    · rename_i hy; cases h; exact ⟨_, _, _, rfl, rfl, hy⟩
  · cases h
theorem xVs.ints {mi : Nat} {all : va_W} {x : Int32} {r cs : List Value} (h : xVs mi all (.int x :: r) cs) : ∃ cr, cs = .int x :: cr ∧ xVs mi all r cr := by
  obtain ⟨w, cr, rfl, hw, hr⟩ := h.cons
  cases (show w = .int x from hw)
  exact ⟨cr, rfl, hr⟩
theorem xVs.longs {mi : Nat} {all : va_W} {x : Int64} {r cs : List Value} (h : xVs mi all (.long x :: r) cs) : ∃ cr, cs = .long x :: cr ∧ xVs mi all r cr := by
  obtain ⟨w, cr, rfl, hw, hr⟩ := h.cons
  cases (show w = .long x from hw)
  exact ⟨cr, rfl, hr⟩
theorem xVs.nulls {mi : Nat} {all : va_W} {r cs : List Value} (h : xVs mi all (.null :: r) cs) : ∃ cr, cs = .null :: cr ∧ xVs mi all r cr := by
  obtain ⟨w, cr, rfl, hw, hr⟩ := h.cons
  cases (show w = .null from hw)
  exact ⟨cr, rfl, hr⟩
theorem xVs.refs {mi : Nat} {all : va_W} {a : Nat} {r cs : List Value} (h : xVs mi all (.ref a :: r) cs) : ∃ (q : Nat × va_E) (cr : List Value), cs = .ref q.1 :: cr ∧ all[a]? = some q ∧ xVs mi all r cr := by
  obtain ⟨w, cr, rfl, hw, hr⟩ := h.cons
  obtain ⟨q, hq, rfl⟩ := hw
  exact ⟨q, cr, rfl, hq, hr⟩
section XSP
variable {p : Program} {l : Launch} {e : Env} {R : Room} {s : State} {m : MethodId} {args : Array Value} {below : List Frame} {meth : Method} {c : Code} {H : Heap} {locs : List Loc} {cells slots : Nat} {Q : State → Prop}
  {cc : ByteArray} {pc : Nat} {ls : Array Slot} {mi : Nat} {all : va_W} {st st' cst : List Value} {own : String}
theorem snd_pure (hexec : p.tables.exec = Jvm.exec) (hb : c.code = cc) (hown : s.vm.findClass own = some m.cls) {i : Instr} {an : List Nat} (hx : xpure i an st = some st') (hd : decode cc pc = .ok (i, xlen i))
    (hk : ∀ k, i = .ldc2_w k → (Jvm.Cond.constantLong own k (Int64.ofNat (an.getD 0 0))).before args s = true) (hk2 : ∀ k, i = .ldc k ∨ i = .ldc_w k → (Jvm.Cond.constant own k (Int32.ofNat (an.getD 0 0))).before args s = true)
    (hV : xVs mi all st cst) (kk : ∀ cst', xVs mi all st' cst' → W p l e R s m args below meth c H locs cells slots Q (F0 m (pc + xlen i) ls cst')) : W p l e R s m args below meth c H locs cells slots Q (F0 m pc ls cst) := by
  cases i with
  | iconst n => cases hx; exact lv_iconst hexec hb hd rfl (kk _ ⟨rfl, hV⟩)
  | bipush n => cases hx; exact lv_bipush hexec hb hd rfl (kk _ ⟨rfl, hV⟩)
  | sipush n => cases hx; exact lv_sipush hexec hb hd rfl (kk _ ⟨rfl, hV⟩)
  | lconst n => cases hx; exact lv_lconst hexec hb hd rfl (kk _ ⟨rfl, hV⟩)
  | ldc k => cases hx; exact lv_ldc hexec hb hown (hk2 k (Or.inl rfl)) hd (kk _ ⟨rfl, hV⟩)
  | ldc_w k => cases hx; exact lv_ldcw hexec hb hown (hk2 k (Or.inr rfl)) hd (kk _ ⟨rfl, hV⟩)
  | ldc2_w k => cases hx; exact lv_ldc2 hexec hb hown (hk k rfl) hd (kk _ ⟨rfl, hV⟩)
  | aconst_null => cases hx; exact lv_null hexec hb hd (kk _ ⟨rfl, hV⟩)
  | iadd => obtain ⟨x, y, r, rfl, rfl⟩ := x2i_some hx; obtain ⟨_, rfl, h1⟩ := hV.ints; obtain ⟨_, rfl, h2⟩ := h1.ints; exact lv_iadd hexec hb hd (kk _ ⟨rfl, h2⟩)
  | isub => obtain ⟨x, y, r, rfl, rfl⟩ := x2i_some hx; obtain ⟨_, rfl, h1⟩ := hV.ints; obtain ⟨_, rfl, h2⟩ := h1.ints; exact lv_isub hexec hb hd (kk _ ⟨rfl, h2⟩)
  | imul => obtain ⟨x, y, r, rfl, rfl⟩ := x2i_some hx; obtain ⟨_, rfl, h1⟩ := hV.ints; obtain ⟨_, rfl, h2⟩ := h1.ints; exact lv_imul hexec hb hd (kk _ ⟨rfl, h2⟩)
  | idiv => obtain ⟨x, y, r, rfl, rfl, hy⟩ := x2d_some hx; obtain ⟨_, rfl, h1⟩ := hV.ints; obtain ⟨_, rfl, h2⟩ := h1.ints; exact lv_idiv hexec hb hd hy (kk _ ⟨rfl, h2⟩)
  | irem => obtain ⟨x, y, r, rfl, rfl, hy⟩ := x2d_some hx; obtain ⟨_, rfl, h1⟩ := hV.ints; obtain ⟨_, rfl, h2⟩ := h1.ints; exact lv_irem hexec hb hd hy (kk _ ⟨rfl, h2⟩)
  | ineg => obtain ⟨x, r, rfl, rfl⟩ := x1i_some hx; obtain ⟨_, rfl, h1⟩ := hV.ints; exact lv_ineg hexec hb hd (kk _ ⟨rfl, h1⟩)
  | ishl => obtain ⟨x, y, r, rfl, rfl⟩ := x2i_some hx; obtain ⟨_, rfl, h1⟩ := hV.ints; obtain ⟨_, rfl, h2⟩ := h1.ints; exact lv_ishl hexec hb hd (kk _ ⟨rfl, h2⟩)
  | ishr => obtain ⟨x, y, r, rfl, rfl⟩ := x2i_some hx; obtain ⟨_, rfl, h1⟩ := hV.ints; obtain ⟨_, rfl, h2⟩ := h1.ints; exact lv_ishr hexec hb hd (kk _ ⟨rfl, h2⟩)
  | iushr => obtain ⟨x, y, r, rfl, rfl⟩ := x2i_some hx; obtain ⟨_, rfl, h1⟩ := hV.ints; obtain ⟨_, rfl, h2⟩ := h1.ints; exact lv_iushr hexec hb hd rfl (kk _ ⟨rfl, h2⟩)
  | iand => obtain ⟨x, y, r, rfl, rfl⟩ := x2i_some hx; obtain ⟨_, rfl, h1⟩ := hV.ints; obtain ⟨_, rfl, h2⟩ := h1.ints; exact lv_iand hexec hb hd (kk _ ⟨rfl, h2⟩)
  | ior => obtain ⟨x, y, r, rfl, rfl⟩ := x2i_some hx; obtain ⟨_, rfl, h1⟩ := hV.ints; obtain ⟨_, rfl, h2⟩ := h1.ints; exact lv_ior hexec hb hd (kk _ ⟨rfl, h2⟩)
  | ixor => obtain ⟨x, y, r, rfl, rfl⟩ := x2i_some hx; obtain ⟨_, rfl, h1⟩ := hV.ints; obtain ⟨_, rfl, h2⟩ := h1.ints; exact lv_ixor hexec hb hd (kk _ ⟨rfl, h2⟩)
  | i2l => obtain ⟨x, r, rfl, rfl⟩ := x1i_some hx; obtain ⟨_, rfl, h1⟩ := hV.ints; exact lv_i2l hexec hb hd rfl (kk _ ⟨rfl, h1⟩)
  | i2b => obtain ⟨x, r, rfl, rfl⟩ := x1i_some hx; obtain ⟨_, rfl, h1⟩ := hV.ints; exact lv_i2b hexec hb hd rfl (kk _ ⟨rfl, h1⟩)
  | i2c => obtain ⟨x, r, rfl, rfl⟩ := x1i_some hx; obtain ⟨_, rfl, h1⟩ := hV.ints; exact lv_i2c hexec hb hd rfl (kk _ ⟨rfl, h1⟩)
  | l2i => obtain ⟨x, r, rfl, rfl⟩ := x1l_some hx; obtain ⟨_, rfl, h1⟩ := hV.longs; exact lv_l2i hexec hb hd rfl (kk _ ⟨rfl, h1⟩)
  | ladd => obtain ⟨x, y, r, rfl, rfl⟩ := x2l_some hx; obtain ⟨_, rfl, h1⟩ := hV.longs; obtain ⟨_, rfl, h2⟩ := h1.longs; exact lv_ladd hexec hb hd (kk _ ⟨rfl, h2⟩)
  | lsub => obtain ⟨x, y, r, rfl, rfl⟩ := x2l_some hx; obtain ⟨_, rfl, h1⟩ := hV.longs; obtain ⟨_, rfl, h2⟩ := h1.longs; exact lv_lsub hexec hb hd (kk _ ⟨rfl, h2⟩)
  | lmul => obtain ⟨x, y, r, rfl, rfl⟩ := x2l_some hx; obtain ⟨_, rfl, h1⟩ := hV.longs; obtain ⟨_, rfl, h2⟩ := h1.longs; exact lv_lmul hexec hb hd (kk _ ⟨rfl, h2⟩)
  | ldiv => obtain ⟨x, y, r, rfl, rfl, hy⟩ := x2m_some hx; obtain ⟨_, rfl, h1⟩ := hV.longs; obtain ⟨_, rfl, h2⟩ := h1.longs; exact lv_ldiv hexec hb hd hy (kk _ ⟨rfl, h2⟩)
  | lcmp => obtain ⟨x, y, r, rfl, rfl⟩ := x2l_some hx; obtain ⟨_, rfl, h1⟩ := hV.longs; obtain ⟨_, rfl, h2⟩ := h1.longs; exact W.lcmp hexec hb hd (kk _ ⟨rfl, h2⟩)
  | dup =>
    unfold xpure at hx; dsimp only at hx; split at hx
    · split at hx
      · rename_i v r hv; cases hx; obtain ⟨w, cr, rfl, hw, h1⟩ := hV.cons; exact lv_dup hexec hb hd (hw.cat.trans hv) (kk _ ⟨hw, hw, h1⟩)
      · cases hx
    · cases hx
  | dup_x1 =>
    unfold xpure at hx; dsimp only at hx; split at hx
    · split at hx
      · rename_i v u r hv; cases hx; obtain ⟨w, _, rfl, hw, h0⟩ := hV.cons; obtain ⟨w2, cr, rfl, hw2, h1⟩ := h0.cons; exact lv_dup_x1 hexec hb hd (hw.cat.trans hv.1) (hw2.cat.trans hv.2) (kk _ ⟨hw, hw2, hw, h1⟩)
      · cases hx
    · cases hx
  | dup2 =>
    unfold xpure at hx; dsimp only at hx; split at hx
    · split at hx
      · rename_i v u r hv; cases hx; obtain ⟨w, _, rfl, hw, h0⟩ := hV.cons; obtain ⟨w2, cr, rfl, hw2, h1⟩ := h0.cons; exact lv_dup2_11 hexec hb hd (hw.cat.trans hv.1) (hw2.cat.trans hv.2) (kk _ ⟨hw, hw2, hw, hw2, h1⟩)
      · cases hx
    · cases hx
  | pop =>
    unfold xpure at hx; dsimp only at hx; split at hx
    · split at hx
      · rename_i v r hv; cases hx; obtain ⟨w, cr, rfl, hw, h1⟩ := hV.cons; exact lv_pop hexec hb hd (hw.cat.trans hv) (kk _ h1)
      · cases hx
    · cases hx
  | pop2 =>
    unfold xpure at hx; dsimp only at hx; split at hx
    · split at hx
      · rename_i v r hv; cases hx; obtain ⟨w, cr, rfl, hw, h1⟩ := hV.cons; exact lv_pop2_2 hexec hb hd (hw.cat.trans hv) (kk _ h1)
      · cases hx
    · cases hx
  | _ => exact absurd (show (none : Option (List Value)) = some st' from hx) nofun
end XSP
