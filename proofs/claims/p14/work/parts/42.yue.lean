/-! THE INVARIANT OF THE LAW'S LOOP, AND THE WORLD BEHIND THE CONSTRUCTORS -/
theorem ySh.out {n k : Nat} {tg : Nat → yT} {R : Nat → Nat → Value} {v : Value} (h : ySh n tg R) : ySh n tg (upd2 R 93 k v) := ⟨h.1, h.2.1, fun a q b ha => by
  have hne : a ≠ 93 := fun e => by
    subst e
    have h0 : (yr0L.getD 93 []).getD q none = some b := ha
    have h1 : yr0L.getD 93 [] = [] := by decide
    rw [h1] at h0
    cases q <;> cases h0
  rw [upd2_ne (.inl hne)]; exact h.2.2 a q b ha⟩
theorem yRI.outR {K nb : Nat} {tg : Nat → yT} {I : Nat → Nat → Int32} {R R' : Nat → Nat → Value} (h : yRI K nb tg I R) (hR : ∀ a, a ≠ 93 → R' a = R a) : yRI K nb tg I R' := by
  have hz := h.zl
  obtain ⟨h1, ⟨l1, l2, l3, l4, l5, l6⟩, h3, h4, h5, h6, h7⟩ := id h
  have eL : ∀ l, 87 ≤ l → l ≤ 92 → R' l = R l ∧ R' (yEl R l) = R (yEl R l) := fun l a1 a2 => ⟨hR l (by omega), hR _ (by have := hz l a1 a2; omega)⟩
  have eE : ∀ l, 87 ≤ l → l ≤ 92 → yEl R' l = yEl R l := fun l a1 a2 => yEl_eq (eL l a1 a2).1
  have eA : ∀ l i, 87 ≤ l → l ≤ 92 → yAd R' l i = yAd R l i := fun l i a1 a2 => yAd_eq (eL l a1 a2).1 (eL l a1 a2).2
  have li : ∀ {l et}, 87 ≤ l → l ≤ 92 → yLI nb tg I R l et → yLI nb tg I R' l et := fun {l et} a1 a2 hq => hq.same (fun _ _ => rfl) rfl (eL l a1 a2).1 (eL l a1 a2).2
  refine ⟨h1, ⟨li (by decide) (by decide) l1, li (by decide) (by decide) l2, li (by decide) (by decide) l3, li (by decide) (by decide) l4, li (by decide) (by decide) l5, li (by decide) (by decide) l6⟩, fun l l' a1 a2 a3 a4 a5 a6 => ?_, fun b b1 b2 => ?_, fun i hi => ?_, fun i hi => ?_, h7⟩
  · rw [eE l a1 a2] at a6 ⊢
    rw [eE l' a3 a4]
    exact h3 l l' a1 a2 a3 a4 a5 a6
  · obtain ⟨q1, q2, q3, q4⟩ := h4 b b1 b2
    refine ⟨q1, q2, q3, fun hb => ?_⟩
    obtain ⟨v1, v2, v3⟩ := q4 hb
    exact ⟨v1, fun j hj => by rw [hR b (by omega)]; exact v2 j hj, v3⟩
  · rw [eA 92 i (by decide) (by decide)]; exact h5 i hi
  · rw [eA 87 i (by decide) (by decide)]; exact h6 i hi
def yInv (K n : Nat) (tg : Nat → yT) (I : Nat → Nat → Int32) (R : Nat → Nat → Value) (ln : Nat) : Prop := ySh n tg R ∧ yCI I ∧ yRI K n tg I R ∧ yR9 K I R ∧ yCo I ∧ tg 33 = (0, ln)
section YUE
variable {K n n1 ln : Nat} {tg tg1 : Nat → yT} {I I1 : Nat → Nat → Int32} {R R1 : Nat → Nat → Value}
theorem yInv.out (h : yInv K n tg I R ln) {k : Nat} {v : Value} : yInv K n tg I (upd2 R 93 k v) ln := by
  obtain ⟨h1, h2, h3, h4, h5, h6⟩ := h
  exact ⟨h1.out, h2, h3.outR fun a ha => upd2_row ha, h4.out h3, h5, h6⟩
theorem yInv.x (h : yInv K n tg I R ln) (hX : yX n tg I R n1 tg1 I1 R1) : yInv K n1 tg1 I1 R1 ln := by
  obtain ⟨h1, h2, h3, h4, h5, h6⟩ := h
  have h94 : 94 ≤ n := h1.1
  have hr : yRf n I R I1 R1 := ⟨fun a ha _ => (hX.2.1 a ha).2.1, fun k _ => congrFun (hX.2.1 83 (by omega)).2.1 k, fun a ha => (hX.2.1 a ha).2.2⟩
  exact ⟨h1.x hX, h2.cong fun a ha => (hX.2.1 a (by omega)).2.1, h3.grow hX, h4.rf (h4.1.1.gx h3 hX) h3 hr (Nat.le_refl K), h5.cong fun a ha => (hX.2.1 a (by omega)).2.1, (hX.2.1 33 (by omega)).1.trans h6⟩
theorem yInv.kpR (h : yInv K n tg I R ln) (hS : ySh n1 tg1 R1) (hR : yRI (K + 1) n1 tg1 I1 R1) (hK : yKp n tg I R n1 tg1 I1 R1) (h4' : yR9 (K + 1) I1 R1) : yInv (K + 1) n1 tg1 I1 R1 ln := by
  obtain ⟨h1, h2, h3, h4, h5, h6⟩ := h
  have h94 : 94 ≤ n := h1.1
  exact ⟨hS, h2.cong fun a ha => hK.2.2.1 a ha, hR, h4', h5.cong fun a ha => hK.2.2.1 a (by omega), (hK.2.1 33 (by omega)).trans h6⟩
theorem yInv.kp (h : yInv K n tg I R ln) (hS : ySh n1 tg1 R1) (hR : yRI (K + 1) n1 tg1 I1 R1) (hK : yKp n tg I R n1 tg1 I1 R1) (hB : yKeep yMF4 I I1) (hO : yKeepO yLO6 n tg I I1) (hL : yLk I R R1) (h7 : I1 83 7 = I 83 7) (hm : yFm n tg I I1) (hr : yRf n I R I1 R1) : yInv (K + 1) n1 tg1 I1 R1 ln := h.kpR hS hR hK (h.2.2.2.1.rf (h.2.2.2.1.1.1.kp h.2.2.1 hK hB hO hL h7 hm) h.2.2.1 hr (Nat.le_succ K))
theorem yInv.up (h : yInv K n tg I R ln) (hk : K < 600) : yInv (K + 1) n tg I R ln := by
  obtain ⟨h1, h2, h3, h4, h5, h6⟩ := h
  exact ⟨h1, h2, h3.up (Nat.le_succ K) hk, ⟨⟨h4.1.1, h4.1.2.1, h4.1.2.2.1, h4.1.2.2.2.cg (Nat.le_succ K) rfl rfl rfl⟩, h4.2⟩, h5, h6⟩
theorem yInv.two {Ia : Nat → Nat → Int32} {Ra : Nat → Nat → Value} (h : yInv K n tg I R ln) (hC : yCI Ia) (hF : ∀ a, a < 34 → Ia a = I a) (hS : ySh n1 tg1 R1) (hR : yRI (K + 1) n1 tg1 I1 R1) (hK : yKp n tg Ia Ra n1 tg1 I1 R1) (hr : yR9 (K + 1) I1 R1) : yInv (K + 1) n1 tg1 I1 R1 ln := by
  obtain ⟨h1, h2, h3, h4, h5, h6⟩ := h
  have h94 : 94 ≤ n := h1.1
  exact ⟨hS, hC.cong fun a ha => hK.2.2.1 a ha, hR, hr, h5.cong fun a ha => (hK.2.2.1 a (by omega)).trans (hF a (by omega)), (hK.2.1 33 (by omega)).trans h6⟩
end YUE
/-! behind the constructors -/
theorem fin_tags : ((List.range 60).all fun j => decide (yt0 (34 + j) = aFin[j]?.map (·.1))) = true := by decide +kernel
theorem fin_refs : ((List.range 60).all fun j => (List.range 20).all fun k => match yr0 (34 + j) k with
  | none => true
  | some b => decide (aFin[j]?.map (fun q => aR q.1 q.2.2 k) = some (.ref b))) = true := by decide +kernel
theorem fin_len : ((List.range 94).all fun a => decide ((yr0L.getD a []).length ≤ 20)) = true := by decide +kernel
theorem yt0_hi {a : Nat} (h : 94 ≤ a) : yt0 a = none := by
  unfold yt0
  rw [List.getD_eq_getElem?_getD, List.getElem?_eq_none (by exact h)]; rfl
theorem yr0_hi {a k : Nat} (h : 94 ≤ a) : yr0 a k = none := by
  unfold yr0
  rw [show yr0L.getD a [] = [] by rw [List.getD_eq_getElem?_getD, List.getElem?_eq_none (by exact h)]; rfl]
  cases k <;> rfl
theorem yr0_wide {a k : Nat} (h : a < 94) (hk : 20 ≤ k) : yr0 a k = none := by
  have h1 := of_decide_eq_true (List.all_eq_true.mp fin_len a (List.mem_range.mpr h))
  unfold yr0
  rw [List.getD_eq_getElem?_getD, List.getElem?_eq_none (by omega)]; rfl
section YUF
variable {tg : Nat → yT} {I : Nat → Nat → Int32} {R : Nat → Nat → Value}
theorem fin_sh (ht : ∀ a t, a < 33 → yt0 a = some t → tg a = t) (hr : ∀ a k b, a < 33 → yr0 a k = some b → R a k = .ref b) : ySh 94 (aT (34, tg, I, R) aFin) (aV (34, tg, I, R) aFin) := by
  have h33 : yt0 33 = none := by decide
  refine ⟨Nat.le_refl 94, fun a t ha => ?_, fun a k b ha => ?_⟩
  · by_cases h1 : a < 34
    · have h2 : a ≠ 33 := fun e => by rw [e, h33] at ha; cases ha
      have e : aT (34, tg, I, R) aFin a = tg a := if_pos h1
      rw [e]; exact ht a t (by omega) ha
    · by_cases h2 : a < 94
      · obtain ⟨j, rfl⟩ : ∃ j, a = 34 + j := ⟨a - 34, by omega⟩
        have hj := of_decide_eq_true (List.all_eq_true.mp fin_tags j (List.mem_range.mpr (by omega)))
        rw [ha] at hj
        cases hq : aFin[j]? with
        | none => rw [hq] at hj; cases hj
        | some q =>
          rw [hq] at hj
          have e := aT_at (w := (34, tg, I, R)) hq
          rw [show (34 : Nat) + j = ((34, tg, I, R) : yS).1 + j from rfl, e]
          exact (Option.some.inj hj).symm
      · rw [yt0_hi (by omega)] at ha; cases ha
  · by_cases h1 : a < 34
    · have h2 : a ≠ 33 := fun e => by
        subst e
        have h0 : (yr0L.getD 33 []).getD k none = some b := ha
        rw [show yr0L.getD 33 [] = [] by decide] at h0
        cases k <;> cases h0
      have e : aV (34, tg, I, R) aFin a k = R a k := if_pos h1
      rw [e]; exact hr a k b (by omega) ha
    · by_cases h2 : a < 94
      · by_cases hk : k < 20
        · obtain ⟨j, rfl⟩ : ∃ j, a = 34 + j := ⟨a - 34, by omega⟩
          have hj := List.all_eq_true.mp (List.all_eq_true.mp fin_refs j (List.mem_range.mpr (by omega))) k (List.mem_range.mpr hk)
          rw [ha] at hj
          have hj := of_decide_eq_true hj
          cases hq : aFin[j]? with
          | none => rw [hq] at hj; cases hj
          | some q =>
            rw [hq] at hj
            have e := aV_at (w := (34, tg, I, R)) (k := k) hq
            rw [show (34 : Nat) + j = ((34, tg, I, R) : yS).1 + j from rfl, e]
            exact Option.some.inj hj
        · rw [yr0_wide h2 (by omega)] at ha; cases ha
      · rw [yr0_hi (by omega)] at ha; cases ha
theorem fin_ci : yCI (aN (34, tg, I, R) aFin) := by
  have e : ∀ j k x, (∃ q, aFin[j]? = some q ∧ aI q.2.1 k = x) → aN (34, tg, I, R) aFin (34 + j) k = x := fun j k x ⟨q, h1, h2⟩ => (aN_at (w := (34, tg, I, R)) h1).trans h2
  have e1 := e 4 0 (Int32.ofInt 0) ⟨_, rfl, rfl⟩
  have e2 := e 6 0 (Int32.ofInt 0) ⟨_, rfl, rfl⟩
  have e3 := e 14 0 (Int32.ofInt 0) ⟨_, rfl, rfl⟩
  have e4 := e 25 0 (Int32.ofInt 0) ⟨_, rfl, rfl⟩
  have e5 := e 35 0 (Int32.ofInt 0) ⟨_, rfl, rfl⟩
  have e6 := e 43 0 (Int32.ofInt 0) ⟨_, rfl, rfl⟩
  have e7 := e 0 8 (Int32.ofInt 0) ⟨_, rfl, rfl⟩
  unfold yCI
  rw [show (38 : Nat) = 34 + 4 from rfl, e1, show (40 : Nat) = 34 + 6 from rfl, e2, show (48 : Nat) = 34 + 14 from rfl, e3, show (59 : Nat) = 34 + 25 from rfl, e4, show (69 : Nat) = 34 + 35 from rfl, e5, show (77 : Nat) = 34 + 43 from rfl, e6, e7]
  refine ⟨by decide, by decide, by decide, by decide, by decide, by decide, by decide, fun k => .inl ?_⟩
  rw [e 36 k 0 ⟨_, rfl, rfl⟩]; rfl
theorem fin_ri (ht : ∀ a t, a < 33 → yt0 a = some t → tg a = t) : yRI 0 94 (aT (34, tg, I, R) aFin) (aN (34, tg, I, R) aFin) (aV (34, tg, I, R) aFin) := by
  have e : ∀ j k x, (∃ q, aFin[j]? = some q ∧ aI q.2.1 k = x) → aN (34, tg, I, R) aFin (34 + j) k = x := fun j k x ⟨q, h1, h2⟩ => (aN_at (w := (34, tg, I, R)) h1).trans h2
  have er : ∀ j k x, (∃ q, aFin[j]? = some q ∧ aR q.1 q.2.2 k = x) → aV (34, tg, I, R) aFin (34 + j) k = x := fun j k x ⟨q, h1, h2⟩ => (aV_at (w := (34, tg, I, R)) h1).trans h2
  have n1 : aN (34, tg, I, R) aFin 83 8 = 0 := e 49 8 0 ⟨_, rfl, rfl⟩
  have n2 : aN (34, tg, I, R) aFin 83 1 = 0 := e 49 1 0 ⟨_, rfl, rfl⟩
  have sz : ∀ l, 87 ≤ l → l ≤ 92 → aN (34, tg, I, R) aFin l 2 = 0 := fun l h1 h2 => by
    rcases (by omega : l = 87 ∨ l = 88 ∨ l = 89 ∨ l = 90 ∨ l = 91 ∨ l = 92) with rfl | rfl | rfl | rfl | rfl | rfl
    · exact e 53 2 0 ⟨_, rfl, rfl⟩
    · exact e 54 2 0 ⟨_, rfl, rfl⟩
    · exact e 55 2 0 ⟨_, rfl, rfl⟩
    · exact e 56 2 0 ⟨_, rfl, rfl⟩
    · exact e 57 2 0 ⟨_, rfl, rfl⟩
    · exact e 58 2 0 ⟨_, rfl, rfl⟩
  have el : ∀ l, 87 ≤ l → l ≤ 92 → aV (34, tg, I, R) aFin l 1 = .ref 0 := fun l h1 h2 => by
    rcases (by omega : l = 87 ∨ l = 88 ∨ l = 89 ∨ l = 90 ∨ l = 91 ∨ l = 92) with rfl | rfl | rfl | rfl | rfl | rfl
    · exact er 53 1 _ ⟨_, rfl, rfl⟩
    · exact er 54 1 _ ⟨_, rfl, rfl⟩
    · exact er 55 1 _ ⟨_, rfl, rfl⟩
    · exact er 56 1 _ ⟨_, rfl, rfl⟩
    · exact er 57 1 _ ⟨_, rfl, rfl⟩
    · exact er 58 1 _ ⟨_, rfl, rfl⟩
  have hE : ∀ l, 87 ≤ l → l ≤ 92 → yEl (aV (34, tg, I, R) aFin) l = 0 := fun l h1 h2 => by unfold yEl; rw [el l h1 h2]; rfl
  have h00 : (0 : Int32).toInt = 0 := by decide
  have t0 : aT (34, tg, I, R) aFin 0 = (3, 0) := (show aT (34, tg, I, R) aFin 0 = tg 0 from if_pos (show (0 : Nat) < 34 by decide)).trans (ht 0 _ (by decide) rfl)
  have li : ∀ l et, 87 ≤ l → l ≤ 92 → yLI 94 (aT (34, tg, I, R) aFin) (aN (34, tg, I, R) aFin) (aV (34, tg, I, R) aFin) l et := fun l et h1 h2 => by
    refine ⟨by rw [hE l h1 h2]; exact el l h1 h2, by rw [hE l h1 h2]; decide, ⟨0, by rw [hE l h1 h2]; exact t0, by rw [sz l h1 h2, h00]; decide, by rw [sz l h1 h2, h00]; decide, .inl ⟨hE l h1 h2, rfl⟩⟩, by rw [sz l h1 h2, h00]; decide, fun i hi => ?_⟩
    rw [sz l h1 h2, h00] at hi; omega
  refine ⟨?_, ⟨li _ _ (by decide) (by decide), li _ _ (by decide) (by decide), li _ _ (by decide) (by decide), li _ _ (by decide) (by decide), li _ _ (by decide) (by decide), li _ _ (by decide) (by decide)⟩, fun l l' a1 a2 a3 a4 a5 a6 => ?_, fun b b1 b2 => ?_, fun i hi => ?_, fun i hi => ?_, Nat.le_refl 94⟩
  · unfold yNum
    rw [n1, n2, sz 87 (by decide) (by decide), sz 88 (by decide) (by decide), sz 89 (by decide) (by decide), sz 90 (by decide) (by decide), sz 91 (by decide) (by decide), sz 92 (by decide) (by decide), h00]
    decide
  · rw [hE l a1 a2] at a6; omega
  · omega
  · rw [sz 92 (by decide) (by decide), h00] at hi; omega
  · rw [sz 87 (by decide) (by decide), h00] at hi; omega
theorem fin_hr : yHr (aN (34, tg, I, R) aFin) (aV (34, tg, I, R) aFin) := fun q hq => by
  have e : ∀ j k x, (∃ q, aFin[j]? = some q ∧ aI q.2.1 k = x) → aN (34, tg, I, R) aFin (34 + j) k = x := fun j k x ⟨q, h1, h2⟩ => (aN_at (w := (34, tg, I, R)) h1).trans h2
  have sz : aN (34, tg, I, R) aFin 87 2 = 0 := e 53 2 0 ⟨_, rfl, rfl⟩
  rw [sz]
  show aN (34, tg, I, R) aFin 36 q = Int32.ofInt 31
  rcases (by omega : q = 0 ∨ q = 1 ∨ q = 2 ∨ q = 3 ∨ q = 4) with rfl | rfl | rfl | rfl | rfl
  · exact e 2 0 _ ⟨_, rfl, rfl⟩
  · exact e 2 1 _ ⟨_, rfl, rfl⟩
  · exact e 2 2 _ ⟨_, rfl, rfl⟩
  · exact e 2 3 _ ⟨_, rfl, rfl⟩
  · exact e 2 4 _ ⟨_, rfl, rfl⟩
theorem fin_rl : yRl (aN (34, tg, I, R) aFin) := by
  have e : ∀ j k x, (∃ q, aFin[j]? = some q ∧ aI q.2.1 k = x) → aN (34, tg, I, R) aFin (34 + j) k = x := fun j k x ⟨q, h1, h2⟩ => (aN_at (w := (34, tg, I, R)) h1).trans h2
  exact ⟨congrArg Int32.toInt ((e 0 9 (Int32.ofInt 10) ⟨_, rfl, rfl⟩).trans (e 49 4 (Int32.ofInt 10) ⟨_, rfl, rfl⟩).symm), congrArg Int32.toInt ((e 0 8 (Int32.ofInt 0) ⟨_, rfl, rfl⟩).trans (e 49 1 (Int32.ofInt 0) ⟨_, rfl, rfl⟩).symm), congrArg Int32.toInt ((e 4 0 (Int32.ofInt 0) ⟨_, rfl, rfl⟩).trans (e 49 8 (Int32.ofInt 0) ⟨_, rfl, rfl⟩).symm), congrArg Int32.toInt ((e 6 0 (Int32.ofInt 0) ⟨_, rfl, rfl⟩).trans (e 54 2 (Int32.ofInt 0) ⟨_, rfl, rfl⟩).symm), congrArg Int32.toInt ((e 35 0 (Int32.ofInt 0) ⟨_, rfl, rfl⟩).trans (e 57 2 (Int32.ofInt 0) ⟨_, rfl, rfl⟩).symm), congrArg Int32.toInt ((e 43 0 (Int32.ofInt 0) ⟨_, rfl, rfl⟩).trans (e 58 2 (Int32.ofInt 0) ⟨_, rfl, rfl⟩).symm), congrArg Int32.toInt ((e 14 0 (Int32.ofInt 0) ⟨_, rfl, rfl⟩).trans (e 55 2 (Int32.ofInt 0) ⟨_, rfl, rfl⟩).symm), congrArg Int32.toInt ((e 25 0 (Int32.ofInt 0) ⟨_, rfl, rfl⟩).trans (e 56 2 (Int32.ofInt 0) ⟨_, rfl, rfl⟩).symm)⟩
theorem fin_r4 : yR4 (aN (34, tg, I, R) aFin) (aV (34, tg, I, R) aFin) := by
  have e : ∀ j k x, (∃ q, aFin[j]? = some q ∧ aI q.2.1 k = x) → aN (34, tg, I, R) aFin (34 + j) k = x := fun j k x ⟨q, h1, h2⟩ => (aN_at (w := (34, tg, I, R)) h1).trans h2
  have h00 : (0 : Int32).toInt = 0 := by decide
  have s88 : (aN (34, tg, I, R) aFin 88 2).toInt = 0 := by rw [show aN (34, tg, I, R) aFin 88 2 = 0 from e 54 2 0 ⟨_, rfl, rfl⟩]; decide
  have s90 : (aN (34, tg, I, R) aFin 90 2).toInt = 0 := by rw [show aN (34, tg, I, R) aFin 90 2 = 0 from e 56 2 0 ⟨_, rfl, rfl⟩]; decide
  have c40 : (aN (34, tg, I, R) aFin 40 0).toInt = 0 := by rw [show aN (34, tg, I, R) aFin 40 0 = 0 from e 6 0 0 ⟨_, rfl, rfl⟩]; decide
  have c59 : (aN (34, tg, I, R) aFin 59 0).toInt = 0 := by rw [show aN (34, tg, I, R) aFin 59 0 = 0 from e 25 0 0 ⟨_, rfl, rfl⟩]; decide
  refine ⟨fin_rl, fin_hr, fun l hl i j hij hj => ?_, fun i hi f hf => ?_, fun j hj => ?_, fun j hj => ?_, fun j hj => ?_, fun i hi => ?_, fun j hj => ?_, fun i hi => ⟨?_, ?_⟩⟩
  · rcases hl with rfl | rfl <;> omega
  · omega
  · omega
  · omega
  · omega
  · omega
  · exact e 31 j _ ⟨_, rfl, rfl⟩
  · exact e 10 i _ ⟨_, rfl, rfl⟩
  · exact e 11 i _ ⟨_, rfl, rfl⟩
theorem fin_r5 : yR5 (aN (34, tg, I, R) aFin) (aV (34, tg, I, R) aFin) := by
  have e : ∀ j k x, (∃ q, aFin[j]? = some q ∧ aI q.2.1 k = x) → aN (34, tg, I, R) aFin (34 + j) k = x := fun j k x ⟨q, h1, h2⟩ => (aN_at (w := (34, tg, I, R)) h1).trans h2
  have s89 : (aN (34, tg, I, R) aFin 89 2).toInt = 0 := by rw [show aN (34, tg, I, R) aFin 89 2 = 0 from e 55 2 0 ⟨_, rfl, rfl⟩]; decide
  have c40 : (aN (34, tg, I, R) aFin 40 0).toInt = 0 := by rw [show aN (34, tg, I, R) aFin 40 0 = 0 from e 6 0 0 ⟨_, rfl, rfl⟩]; decide
  have c48 : (aN (34, tg, I, R) aFin 48 0).toInt = 0 := by rw [show aN (34, tg, I, R) aFin 48 0 = 0 from e 14 0 0 ⟨_, rfl, rfl⟩]; decide
  refine ⟨fin_r4, fun j hj f hf => ?_, fun i j hij hj => ?_, fun j hj => ?_, fun j hj => ⟨?_, ?_, ?_⟩, fun i hi => ?_⟩
  · omega
  · omega
  · omega
  · exact e 21 j _ ⟨_, rfl, rfl⟩
  · exact e 23 j _ ⟨_, rfl, rfl⟩
  · exact e 24 j _ ⟨_, rfl, rfl⟩
  · omega
theorem fin_r6 : yR6 (aN (34, tg, I, R) aFin) (aV (34, tg, I, R) aFin) := by
  have e : ∀ j k x, (∃ q, aFin[j]? = some q ∧ aI q.2.1 k = x) → aN (34, tg, I, R) aFin (34 + j) k = x := fun j k x ⟨q, h1, h2⟩ => (aN_at (w := (34, tg, I, R)) h1).trans h2
  have s90 : (aN (34, tg, I, R) aFin 90 2).toInt = 0 := by rw [show aN (34, tg, I, R) aFin 90 2 = 0 from e 56 2 0 ⟨_, rfl, rfl⟩]; decide
  refine ⟨fin_r5, fun j hj => ?_, fun j hj => ⟨?_, ?_⟩⟩
  · omega
  · exact e 33 j _ ⟨_, rfl, rfl⟩
  · exact e 34 j _ ⟨_, rfl, rfl⟩
theorem fin_r7 : yR7 (aN (34, tg, I, R) aFin) (aV (34, tg, I, R) aFin) := by
  have e : ∀ j k x, (∃ q, aFin[j]? = some q ∧ aI q.2.1 k = x) → aN (34, tg, I, R) aFin (34 + j) k = x := fun j k x ⟨q, h1, h2⟩ => (aN_at (w := (34, tg, I, R)) h1).trans h2
  have s92 : (aN (34, tg, I, R) aFin 92 2).toInt = 0 := by rw [show aN (34, tg, I, R) aFin 92 2 = 0 from e 58 2 0 ⟨_, rfl, rfl⟩]; decide
  have e772 : aN (34, tg, I, R) aFin 77 2 = Int32.ofInt 0 := e 43 2 _ ⟨_, rfl, rfl⟩
  have hsum : ∀ (S : Int32) (w : Nat), mSum (aN (34, tg, I, R) aFin) (aV (34, tg, I, R) aFin) S w = Int32.ofInt 0 := fun S w => by unfold mSum; rw [s92]; rfl
  refine ⟨fin_r6, fun k hk => ?_, ?_, ⟨?_, ?_, ?_⟩, fun S hS => ?_, fun k _ => ?_, fun i j _ hj => ?_⟩
  · omega
  · rw [s92]; exact e 43 1 _ ⟨_, rfl, rfl⟩
  · rw [e772]; exact (e 49 7 _ ⟨_, rfl, rfl⟩).symm
  · rw [e772]; decide
  · rw [e772, s92]; decide
  · rw [s92] at hS
    rw [hsum, hsum, show S = 0 by have : 2 ^ (0 : Int).toNat = 1 := rfl; omega]
    exact ⟨e 47 0 _ ⟨_, rfl, rfl⟩, e 48 0 _ ⟨_, rfl, rfl⟩⟩
  · exact e 46 k _ ⟨_, rfl, rfl⟩
  · omega
theorem fin_r8 : yR8 0 (aN (34, tg, I, R) aFin) (aV (34, tg, I, R) aFin) := by
  have e : ∀ j k x, (∃ q, aFin[j]? = some q ∧ aI q.2.1 k = x) → aN (34, tg, I, R) aFin (34 + j) k = x := fun j k x ⟨q, h1, h2⟩ => (aN_at (w := (34, tg, I, R)) h1).trans h2
  have s91 : (aN (34, tg, I, R) aFin 91 2).toInt = 0 := by rw [show aN (34, tg, I, R) aFin 91 2 = 0 from e 57 2 0 ⟨_, rfl, rfl⟩]; decide
  have c75 : ∀ j, aN (34, tg, I, R) aFin 75 j = Int32.ofInt 0 := fun j => e 41 j _ ⟨_, rfl, rfl⟩
  have c76 : ∀ j, aN (34, tg, I, R) aFin 76 j = Int32.ofInt 0 := fun j => e 42 j _ ⟨_, rfl, rfl⟩
  have c85 : ∀ j, aN (34, tg, I, R) aFin 85 j = Int32.ofInt 0 := fun j => e 51 j _ ⟨_, rfl, rfl⟩
  have c86 : ∀ j, aN (34, tg, I, R) aFin 86 j = Int32.ofInt 0 := fun j => e 52 j _ ⟨_, rfl, rfl⟩
  have c742 : aN (34, tg, I, R) aFin 74 2 = Int32.ofInt 0 := e 40 2 _ ⟨_, rfl, rfl⟩
  have c348 : aN (34, tg, I, R) aFin 34 8 = Int32.ofInt 0 := e 0 8 _ ⟨_, rfl, rfl⟩
  have z0 : (Int32.ofInt 0).toInt = 0 := by decide
  refine ⟨fin_r7, ⟨fun j hj => ?_, ?_, ⟨?_, ?_, ?_⟩, fun j hj => ?_, fun j hj _ => ⟨c75 j, c76 j⟩⟩, ⟨fun j hj => ?_, fun f hf q _ => ?_, fun i j _ hj => ?_⟩, ⟨?_, fun j hj => ?_⟩⟩
  · rcases (by omega : j = 0 ∨ j = 1 ∨ j = 2 ∨ j = 3 ∨ j = 4 ∨ j = 5 ∨ j = 6 ∨ j = 7 ∨ j = 8) with rfl | rfl | rfl | rfl | rfl | rfl | rfl | rfl | rfl
    · exact (e 5 0 (Int32.ofInt 0) ⟨_, rfl, rfl⟩).trans (e 50 0 (Int32.ofInt 0) ⟨_, rfl, rfl⟩).symm
    · exact (e 5 1 (Int32.ofInt 0) ⟨_, rfl, rfl⟩).trans (e 50 1 (Int32.ofInt 0) ⟨_, rfl, rfl⟩).symm
    · exact (e 5 2 (Int32.ofInt 0) ⟨_, rfl, rfl⟩).trans (e 50 2 (Int32.ofInt 0) ⟨_, rfl, rfl⟩).symm
    · exact (e 5 3 (Int32.ofInt 0) ⟨_, rfl, rfl⟩).trans (e 50 3 (Int32.ofInt 0) ⟨_, rfl, rfl⟩).symm
    · exact (e 5 4 (Int32.ofInt 0) ⟨_, rfl, rfl⟩).trans (e 50 4 (Int32.ofInt 0) ⟨_, rfl, rfl⟩).symm
    · exact (e 5 5 (Int32.ofInt 0) ⟨_, rfl, rfl⟩).trans (e 50 5 (Int32.ofInt 0) ⟨_, rfl, rfl⟩).symm
    · exact (e 5 6 (Int32.ofInt 0) ⟨_, rfl, rfl⟩).trans (e 50 6 (Int32.ofInt 0) ⟨_, rfl, rfl⟩).symm
    · exact (e 5 7 (Int32.ofInt 0) ⟨_, rfl, rfl⟩).trans (e 50 7 (Int32.ofInt 0) ⟨_, rfl, rfl⟩).symm
    · exact (e 5 8 (Int32.ofInt 10000) ⟨_, rfl, rfl⟩).trans (e 50 8 (Int32.ofInt 10000) ⟨_, rfl, rfl⟩).symm
  · exact (e 4 1 (Int32.ofInt 0) ⟨_, rfl, rfl⟩).trans (e 49 2 (Int32.ofInt 0) ⟨_, rfl, rfl⟩).symm
  · exact (e 40 2 (Int32.ofInt 0) ⟨_, rfl, rfl⟩).trans (e 49 3 (Int32.ofInt 0) ⟨_, rfl, rfl⟩).symm
  · exact (e 40 3 (Int32.ofInt 100) ⟨_, rfl, rfl⟩).trans (e 49 5 (Int32.ofInt 100) ⟨_, rfl, rfl⟩).symm
  · exact (e 40 4 (Int32.ofInt 20) ⟨_, rfl, rfl⟩).trans (e 49 6 (Int32.ofInt 20) ⟨_, rfl, rfl⟩).symm
  · rw [c75, c76, c85, c86, z0]; exact ⟨⟨rfl, rfl⟩, by decide, by decide⟩
  · omega
  · rcases (by omega : f = 0 ∨ f = 1 ∨ f = 2 ∨ f = 3) with rfl | rfl | rfl | rfl
    · exact e 36 q _ ⟨_, rfl, rfl⟩
    · exact e 37 q _ ⟨_, rfl, rfl⟩
    · exact e 38 q _ ⟨_, rfl, rfl⟩
    · exact e 39 q _ ⟨_, rfl, rfl⟩
  · omega
  · rw [c742, z0]; exact ⟨by decide, by decide⟩
  · rw [c76, c348, z0]; exact ⟨by decide, by decide⟩
theorem fin_r9 : yR9 0 (aN (34, tg, I, R) aFin) (aV (34, tg, I, R) aFin) := by
  have e : ∀ j k x, (∃ q, aFin[j]? = some q ∧ aI q.2.1 k = x) → aN (34, tg, I, R) aFin (34 + j) k = x := fun j k x ⟨q, h1, h2⟩ => (aN_at (w := (34, tg, I, R)) h1).trans h2
  have c348 : (aN (34, tg, I, R) aFin 34 8).toInt = 0 := congrArg Int32.toInt (e 0 8 (Int32.ofInt 0) ⟨_, rfl, rfl⟩)
  have c48 : (aN (34, tg, I, R) aFin 48 0).toInt = 0 := by rw [show aN (34, tg, I, R) aFin 48 0 = 0 from e 14 0 0 ⟨_, rfl, rfl⟩]; decide
  exact ⟨fin_r8, fun d hd q hq => by omega, fun j hj => by omega⟩
theorem fin_inv {ln : Nat} (ht : ∀ a t, a < 33 → yt0 a = some t → tg a = t) (hr : ∀ a k b, a < 33 → yr0 a k = some b → R a k = .ref b) (hC : yCo I) (h33 : tg 33 = (0, ln)) : yInv 0 94 (aT (34, tg, I, R) aFin) (aN (34, tg, I, R) aFin) (aV (34, tg, I, R) aFin) ln :=
  ⟨fin_sh ht hr, fin_ci, fin_ri ht, fin_r9, hC.cong fun a ha => funext fun k => if_pos (show a < 34 by omega), (show aT (34, tg, I, R) aFin 33 = tg 33 from if_pos (show (33 : Nat) < 34 by decide)).trans h33⟩
end YUF
