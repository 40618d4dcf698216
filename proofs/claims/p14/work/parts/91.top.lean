/-! THE LAW, WALKED -/
theorem law_W {p : Program} {e : Env} {s : State} {m : MethodId} {below : List Frame} {meth : Method} {c : Code} {l : Launch} {b L : Nat} {xs : Nat → Int32} {Q : State → Prop} (hexec : p.tables.exec = Jvm.exec) (hb : c.code = code) (hml : c.maxLocals = 7) (hown : s.vm.findClass "RibafreeHouseLaw" = some m.cls) (hts : ∀ w ∈ lw_tbl, w.before #[Value.ref b] s = true) (hX : va_X b L xs s s.heap) (hgv : (Jvm.Cond.and given_1 narrow_1).before #[Value.ref b] s = true) (hname : meth.name = "law") (hst : l.stackTraces = false) (hL : L ≤ 3584)
    (hend : ∀ (pc : Nat) (H : Heap) (ls : Array Slot), decode code pc = .ok (.ireturn, 1) → W p l e room_1 s m #[Value.ref b] below meth c H [] 413910 7854376 Q (F0 m pc ls [.int 1])) :
    W p l e room_1 s m #[Value.ref b] below meth c s.heap [] 0 0 Q (entryFrame m ([Value.ref b] : List Value).toArray 7) := by
  obtain ⟨G, hSa, hG, hHr, h33⟩ := e_start hts hgv hX
  obtain ⟨n, h', c1, s1, e1, hc, hs⟩ := law_run hL xs
  have hts2 : ∀ w ∈ xTB, w.before #[Value.ref b] s = true := fun w hw => e_tb hts w (List.mem_filter.mp hw).1
  have E0 : xEnv p l room_1 s m #[Value.ref b] meth c G xP xm_L_law (xcall xP 12) (xfr 12) (xlo 12) c1 s1 :=
    ⟨hexec, hb, hml, hown, hts2, hname, hSa, xMok_law, fun mid => (xP_tab mid).2.1, by decide, by decide, by decide, hc, hs, fun n mid as h o h' c s ws hq => snd_all l hst G xP xP_tab 12 n mid as h o h' c s ws hq, .inl rfl⟩
  have hV0 : xVs G.2.2.2.2 (G.2.2.1 ++ []) [.ref 33] [.ref b] := ⟨⟨_, by rw [List.append_nil]; exact h33, rfl⟩, trivial⟩
  have P0 : va_P G.1 vwCl [] s.heap := fun k q h => by simp at h
  have D0 : va_D (fun q => G.2.2.2.1 ≤ q) [] := ⟨fun i j p q h => by simp at h, fun k q h => by simp at h⟩
  have hlv := lv_entry [Value.ref b] (n := 7) (show (lg_sl [Value.ref b]).length ≤ 7 by rw [lg_sl_len]; exact (by decide : 1 ≤ 7))
  have e9 : Int32.ofInt 1 = 1 := by decide
  rw [lg_entry_eq]
  have hgo := snd_go E0 (e := e) (below := below) (Q := Q) (ws0 := []) (o := .inl (some (.int (Int32.ofInt 1)))) (hf := h') (fun i pc v cv ws H locs ls h1 h2 h3 h4 h5 h6 => by
      have hv : v = some (.int (Int32.ofInt 1)) := (Sum.inl.inj h4).symm
      subst hv
      have hS := h6.2.2.2.2.2.2
      unfold xret at h2
      split at h2
      · cases cv with
        | none => exact h5.elim
        | some w =>
          cases (show w = .int (Int32.ofInt 1) from h5)
          have hk := hend pc H ls h1
          rw [← e9] at hk
          exact va_forget (fun q hq => by have h := hS q hq; rw [← hG]; exact h) (W.widen hc hs hk)
      · obtain ⟨x, hx⟩ := h2; cases hx
      · rcases h2 with hx | ⟨x, hx⟩ <;> cases hx
      · cases h2
      · exact h2.elim) (fun pc ik ei an ws H locs ls cst cells slots h1 h2 h3 => by cases h3) n xm_L_law.2.2.2.2.1 (lv_args 0 [.ref 33]) (lv_args 0 [.ref b]) [] [] _ c1 s1 0 0 [] s.heap [] _ e1 ⟨[], rfl⟩ ⟨xLe.rf, hHr, P0, D0, va_S.rf⟩ (xLs.args 0 hV0) hlv trivial (Nat.zero_add _) (Nat.zero_add _)
  have h0 : xpc xm_L_law.2.2.2.2.1 = 0 := xMok_law.2.1
  rw [h0] at hgo
  exact hgo
