/-! WHAT LOCALS SEE, IN THE MACHINE -/
theorem xldi_some {l l' : xL} {i : Nat} {st st' : List Value} (h : xldi l i st = some (l', st')) : ∃ x, xld l i = some (.int x) ∧ l' = l ∧ st' = .int x :: st := by
  unfold xldi at h; split at h
  · rename_i x hx; cases h; exact ⟨x, hx, rfl, rfl⟩
  · cases h
theorem xldl_some {l l' : xL} {i : Nat} {st st' : List Value} (h : xldl l i st = some (l', st')) : ∃ x, xld l i = some (.long x) ∧ l' = l ∧ st' = .long x :: st := by
  unfold xldl at h; split at h
  · rename_i x hx; cases h; exact ⟨x, hx, rfl, rfl⟩
  · cases h
theorem xlda_some {mi : Nat} {all : va_W} {l l' : xL} {i : Nat} {st st' : List Value} (h : xlda l i st = some (l', st')) : ∃ v, xld l i = some v ∧ l' = l ∧ st' = v :: st ∧ ∀ w, xV mi all v w → w = .null ∨ ∃ q, w = .ref q := by
  unfold xlda at h; split at h
  · rename_i x hx; cases h; exact ⟨_, hx, rfl, rfl, fun w hw => by obtain ⟨q, -, rfl⟩ := hw; exact Or.inr ⟨_, rfl⟩⟩
  · rename_i hx; cases h; exact ⟨_, hx, rfl, rfl, fun w hw => Or.inl hw⟩
  · rename_i x hx; cases h; exact ⟨_, hx, rfl, rfl, fun w hw => by cases x with
      | zero => exact hw
      | succ n => exact Or.inr ⟨_, hw⟩⟩
  · cases h
theorem xsti_some {nL : Nat} {l l' : xL} {i : Nat} {st st' : List Value} (h : xsti nL l i st = some (l', st')) : ∃ x, st = .int x :: st' ∧ i < nL ∧ l' = xst1 l i (.int x) := by
  unfold xsti at h; split at h
  · split at h
    · rename_i hi; cases h; exact ⟨_, rfl, hi, rfl⟩
    · cases h
  · cases h
theorem xstl_some {nL : Nat} {l l' : xL} {i : Nat} {st st' : List Value} (h : xstl nL l i st = some (l', st')) : ∃ x, st = .long x :: st' ∧ i + 1 < nL ∧ l' = xst2 l i (.long x) := by
  unfold xstl at h; split at h
  · split at h
    · rename_i hi; cases h; exact ⟨_, rfl, hi, rfl⟩
    · cases h
  · cases h
theorem xsta_some {mi : Nat} {all : va_W} {nL : Nat} {l l' : xL} {i : Nat} {st st' : List Value} (h : xsta nL l i st = some (l', st')) : ∃ v, st = v :: st' ∧ i < nL ∧ l' = xst1 l i v ∧ ∀ w, xV mi all v w → w = .null ∨ ∃ q, w = .ref q := by
  unfold xsta at h; split at h
  · split at h
    · rename_i hi; cases h; exact ⟨_, rfl, hi, rfl, fun w hw => by obtain ⟨q, -, rfl⟩ := hw; exact Or.inr ⟨_, rfl⟩⟩
    · cases h
  · split at h
    · rename_i hi; cases h; exact ⟨_, rfl, hi, rfl, fun w hw => Or.inl hw⟩
    · cases h
  · split at h
    · rename_i x r hi; cases h; exact ⟨_, rfl, hi, rfl, fun w hw => by cases x with
        | zero => exact hw
        | succ n => exact Or.inr ⟨_, hw⟩⟩
    · cases h
  · cases h
section XSL
variable {p : Program} {l : Launch} {e : Env} {R : Room} {s : State} {m : MethodId} {args : Array Value} {below : List Frame} {meth : Method} {c : Code} {H : Heap} {locs : List Loc} {cells slots : Nat} {Q : State → Prop}
  {cc : ByteArray} {pc nL : Nat} {ls : Array Slot} {mi : Nat} {all : va_W} {st st' cst : List Value} {al al' cl : xL}
theorem snd_loc (hexec : p.tables.exec = Jvm.exec) (hb : c.code = cc) {i : Instr} (hx : xloc nL i al st = some (al', st')) (hd : decode cc pc = .ok (i, xlen i))
    (hL : xLs mi all al cl) (hl : lv_has ls nL cl) (hV : xVs mi all st cst)
    (kk : ∀ cl' ls' cst', xLs mi all al' cl' → lv_has ls' nL cl' → xVs mi all st' cst' → W p l e R s m args below meth c H locs cells slots Q (F0 m (pc + xlen i) ls' cst')) : W p l e R s m args below meth c H locs cells slots Q (F0 m pc ls cst) := by
  cases i with
  | iload k =>
    obtain ⟨x, hxx, rfl, rfl⟩ := xldi_some (show _ = some (al', st') from hx)
    obtain ⟨w, hw, hv⟩ := hL.ld hxx
    cases (show w = .int x from hv)
    exact lv_iload hexec hb hd (hl.2.2 _ hw) (kk cl ls _ hL hl ⟨rfl, hV⟩)
  | iload_n k =>
    obtain ⟨x, hxx, rfl, rfl⟩ := xldi_some (show _ = some (al', st') from hx)
    obtain ⟨w, hw, hv⟩ := hL.ld hxx
    cases (show w = .int x from hv)
    exact lv_iload_n hexec hb hd rfl (hl.2.2 _ hw) (kk cl ls _ hL hl ⟨rfl, hV⟩)
  | lload k =>
    obtain ⟨x, hxx, rfl, rfl⟩ := xldl_some (show _ = some (al', st') from hx)
    obtain ⟨w, hw, hv⟩ := hL.ld hxx
    cases (show w = .long x from hv)
    exact lv_lload hexec hb hd (hl.2.2 _ hw) (kk cl ls _ hL hl ⟨rfl, hV⟩)
  | lload_n k =>
    obtain ⟨x, hxx, rfl, rfl⟩ := xldl_some (show _ = some (al', st') from hx)
    obtain ⟨w, hw, hv⟩ := hL.ld hxx
    cases (show w = .long x from hv)
    exact lv_lload_n hexec hb hd rfl (hl.2.2 _ hw) (kk cl ls _ hL hl ⟨rfl, hV⟩)
  | aload k =>
    obtain ⟨v, hxx, rfl, rfl, hr⟩ := xlda_some (mi := mi) (all := all) (show _ = some (al', st') from hx)
    obtain ⟨w, hw, hv⟩ := hL.ld hxx
    have hkk := kk cl ls (w :: cst) hL hl ⟨hv, hV⟩
    rcases hr w hv with rfl | ⟨q, rfl⟩
    · exact lv_aloadN hexec hb hd (hl.2.2 _ hw) hkk
    · exact lv_aload hexec hb hd (hl.2.2 _ hw) hkk
  | aload_n k =>
    obtain ⟨v, hxx, rfl, rfl, hr⟩ := xlda_some (mi := mi) (all := all) (show _ = some (al', st') from hx)
    obtain ⟨w, hw, hv⟩ := hL.ld hxx
    have hkk := kk cl ls (w :: cst) hL hl ⟨hv, hV⟩
    rcases hr w hv with rfl | ⟨q, rfl⟩
    · exact lv_aload_nN hexec hb hd rfl (hl.2.2 _ hw) hkk
    · exact lv_aload_n hexec hb hd rfl (hl.2.2 _ hw) hkk
  | istore k =>
    obtain ⟨x, rfl, hi, rfl⟩ := xsti_some (show _ = some (al', st') from hx)
    obtain ⟨cr, rfl, hr⟩ := hV.ints
    exact lv_istore hexec hb hd hl hi rfl (fun ls' hl' => kk _ ls' cr (hL.st1 (v := .int x) (w := .int x) rfl) hl' hr)
  | istore_n k =>
    obtain ⟨x, rfl, hi, rfl⟩ := xsti_some (show _ = some (al', st') from hx)
    obtain ⟨cr, rfl, hr⟩ := hV.ints
    exact lv_istore_n hexec hb hd rfl hl hi rfl (fun ls' hl' => kk _ ls' cr (hL.st1 (v := .int x) (w := .int x) rfl) hl' hr)
  | lstore k =>
    obtain ⟨x, rfl, hi, rfl⟩ := xstl_some (show _ = some (al', st') from hx)
    obtain ⟨cr, rfl, hr⟩ := hV.longs
    exact lv_lstore hexec hb hd hl hi rfl (fun ls' hl' => kk _ ls' cr (hL.st2 (v := .long x) (w := .long x) rfl) hl' hr)
  | lstore_n k =>
    obtain ⟨x, rfl, hi, rfl⟩ := xstl_some (show _ = some (al', st') from hx)
    obtain ⟨cr, rfl, hr⟩ := hV.longs
    exact lv_lstore_n hexec hb hd rfl hl hi rfl (fun ls' hl' => kk _ ls' cr (hL.st2 (v := .long x) (w := .long x) rfl) hl' hr)
  | astore k =>
    obtain ⟨v, rfl, hi, rfl, hr⟩ := xsta_some (mi := mi) (all := all) (show _ = some (al', st') from hx)
    obtain ⟨w, cr, rfl, hw, hr2⟩ := hV.cons
    rcases hr w hw with rfl | ⟨q, rfl⟩
    · exact lv_astoreN hexec hb hd hl hi rfl (fun ls' hl' => kk _ ls' cr (hL.st1 hw) hl' hr2)
    · exact lv_astore hexec hb hd hl hi rfl (fun ls' hl' => kk _ ls' cr (hL.st1 hw) hl' hr2)
  | astore_n k =>
    obtain ⟨v, rfl, hi, rfl, hr⟩ := xsta_some (mi := mi) (all := all) (show _ = some (al', st') from hx)
    obtain ⟨w, cr, rfl, hw, hr2⟩ := hV.cons
    rcases hr w hw with rfl | ⟨q, rfl⟩
    · exact lv_astore_nN hexec hb hd rfl hl hi rfl (fun ls' hl' => kk _ ls' cr (hL.st1 hw) hl' hr2)
    · exact lv_astore_n hexec hb hd rfl hl hi rfl (fun ls' hl' => kk _ ls' cr (hL.st1 hw) hl' hr2)
  | iinc k n =>
    unfold xloc at hx; dsimp only at hx
    split at hx
    · rename_i x hk
      split at hx
      · rename_i hi
        cases hx
        obtain ⟨w, hw, hv⟩ := hL.ld hk
        cases (show w = .int x from hv)
        obtain ⟨j, hj⟩ := List.getElem?_of_mem hw
        exact lv_iinc hexec hb hd hl hj rfl hi rfl (fun ls' hl' => kk _ ls' cst (hL.st1 (v := .int (x + Int32.ofInt n)) (w := .int (x + Int32.ofInt n)) rfl) hl' hV)
      · cases hx
    · cases hx
  | _ => exact absurd (show (none : Option (xL × List Value)) = some _ from hx) nofun
end XSL
