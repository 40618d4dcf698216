/-! THE LAW'S FIRST WORLD IN THE MACHINE (by gen49.py) -/
def eRo (cI cB cO : ClassId) (a0 a1 a2 : Nat) (ad : Nat → Nat × Nat) (b L : Nat) (xs : Nat → Int32) : va_W := [(a0, .inl (cO, 0, .inr (.inr (.inr (.inr fun _ => none))))), (a1, .inl (cB, 100, .inl (sI xs 1))), (a2, .inl (cB, 100, .inl (sI xs 2))), ((ad 0).1, .inr (0, [.ref (ad 0).2, .int 0, .int 0, .int 0])), ((ad 0).2, .inl (cB, 5, .inl (sI xs 4))), ((ad 1).1, .inr (0, [.ref (ad 1).2, .int 0, .int 0, .int 0])), ((ad 1).2, .inl (cB, 2, .inl (sI xs 6))), ((ad 2).1, .inr (0, [.ref (ad 2).2, .int 0, .int 0, .int 0])), ((ad 2).2, .inl (cB, 4, .inl (sI xs 8))), ((ad 3).1, .inr (0, [.ref (ad 3).2, .int 0, .int 0, .int 0])), ((ad 3).2, .inl (cB, 6, .inl (sI xs 10))), ((ad 4).1, .inr (0, [.ref (ad 4).2, .int 0, .int 0, .int 0])), ((ad 4).2, .inl (cB, 6, .inl (sI xs 12))), ((ad 5).1, .inr (0, [.ref (ad 5).2, .int 0, .int 0, .int 0])), ((ad 5).2, .inl (cB, 2, .inl (sI xs 14))), ((ad 6).1, .inr (0, [.ref (ad 6).2, .int 0, .int 0, .int 0])), ((ad 6).2, .inl (cB, 5, .inl (sI xs 16))), ((ad 7).1, .inr (0, [.ref (ad 7).2, .int 0, .int 0, .int 0])), ((ad 7).2, .inl (cB, 0, .inl (sI xs 18))), ((ad 8).1, .inr (0, [.ref (ad 8).2, .int 0, .int 0, .int 0])), ((ad 8).2, .inl (cB, 4, .inl (sI xs 20))), ((ad 9).1, .inr (0, [.ref (ad 9).2, .int 0, .int 0, .int 0])), ((ad 9).2, .inl (cB, 4, .inl (sI xs 22))), ((ad 10).1, .inr (0, [.ref (ad 10).2, .int 0, .int 0, .int 0])), ((ad 10).2, .inl (cB, 5, .inl (sI xs 24))), ((ad 11).1, .inr (0, [.ref (ad 11).2, .int 0, .int 0, .int 0])), ((ad 11).2, .inl (cB, 5, .inl (sI xs 26))), ((ad 12).1, .inr (0, [.ref (ad 12).2, .int 0, .int 0, .int 0])), ((ad 12).2, .inl (cB, 2, .inl (sI xs 28))), ((ad 13).1, .inr (0, [.ref (ad 13).2, .int 0, .int 0, .int 0])), ((ad 13).2, .inl (cB, 4, .inl (sI xs 30))), ((ad 14).1, .inr (0, [.ref (ad 14).2, .int 0, .int 0, .int 0])), ((ad 14).2, .inl (cB, 2, .inl (sI xs 32))), (b, .inl (cI, L, .inl xs))]
def allI (f : Nat → Nat × va_E → Prop) : Nat → va_W → Prop
  | _, [] => True
  | i, q :: l => f i q ∧ allI f (i + 1) l
theorem allI_get {f : Nat → Nat × va_E → Prop} : ∀ {l : va_W} {i k : Nat} {q : Nat × va_E}, allI f i l → l[k]? = some q → f (i + k) q
  | q :: l, i, 0, r, h, hk => by cases hk; exact h.1
  | q :: l, i, k + 1, r, h, hk => by
    have := allI_get h.2 (show l[k]? = some r from hk)
    rwa [Nat.add_right_comm, Nat.add_assoc] at this
section YST
variable {s : State} {D : va_G} {cI cZ cB cO : ClassId} {a0 a1 a2 mi b L : Nat} {ad : Nat → Nat × Nat} {xs : Nat → Int32}
/-- the world's frame -/
def eG (s : State) (D : va_G) (cI cZ cB cO : ClassId) (a0 a1 a2 mi b L : Nat) (ad : Nat → Nat × Nat) (xs : Nat → Int32) : xG := (D, [(cI, .int), (cZ, .boolean), (cB, .byte), (cO, .object "java/lang/Object")], eRo cI cB cO a0 a1 a2 ad b L xs, s.heap.size, mi)
theorem e_hr : xHr (eG s D cI cZ cB cO a0 a1 a2 mi b L ad xs) (yH (34, sTg L, sI xs, sR)) ((eG s D cI cZ cB cO a0 a1 a2 mi b L ad xs).2.2.1 ++ []) := by
  refine ⟨rfl, fun k q hq => ?_⟩
  rw [List.append_nil] at hq
  have h : allI (fun i q => xCe (eG s D cI cZ cB cO a0 a1 a2 mi b L ad xs) ((eG s D cI cZ cB cO a0 a1 a2 mi b L ad xs).2.2.1 ++ []) (yCell (sTg L i) (sI xs i) (sR i)) q.2) 0 (eRo cI cB cO a0 a1 a2 ad b L xs) := by
    generalize hG : eG s D cI cZ cB cO a0 a1 a2 mi b L ad xs = G
    have t0 : G.2.1[0]? = some (cI, xAT 0) := by rw [← hG]; rfl
    have t2 : G.2.1[2]? = some (cB, xAT 2) := by rw [← hG]; rfl
    have t3 : G.2.1[3]? = some (cO, xAT 3) := by rw [← hG]; rfl
    have v3 : (G.2.2.1 ++ [])[4]? = some ((ad 0).2, .inl (cB, 5, .inl (sI xs 4))) := by rw [← hG]; rfl
    have v5 : (G.2.2.1 ++ [])[6]? = some ((ad 1).2, .inl (cB, 2, .inl (sI xs 6))) := by rw [← hG]; rfl
    have v7 : (G.2.2.1 ++ [])[8]? = some ((ad 2).2, .inl (cB, 4, .inl (sI xs 8))) := by rw [← hG]; rfl
    have v9 : (G.2.2.1 ++ [])[10]? = some ((ad 3).2, .inl (cB, 6, .inl (sI xs 10))) := by rw [← hG]; rfl
    have v11 : (G.2.2.1 ++ [])[12]? = some ((ad 4).2, .inl (cB, 6, .inl (sI xs 12))) := by rw [← hG]; rfl
    have v13 : (G.2.2.1 ++ [])[14]? = some ((ad 5).2, .inl (cB, 2, .inl (sI xs 14))) := by rw [← hG]; rfl
    have v15 : (G.2.2.1 ++ [])[16]? = some ((ad 6).2, .inl (cB, 5, .inl (sI xs 16))) := by rw [← hG]; rfl
    have v17 : (G.2.2.1 ++ [])[18]? = some ((ad 7).2, .inl (cB, 0, .inl (sI xs 18))) := by rw [← hG]; rfl
    have v19 : (G.2.2.1 ++ [])[20]? = some ((ad 8).2, .inl (cB, 4, .inl (sI xs 20))) := by rw [← hG]; rfl
    have v21 : (G.2.2.1 ++ [])[22]? = some ((ad 9).2, .inl (cB, 4, .inl (sI xs 22))) := by rw [← hG]; rfl
    have v23 : (G.2.2.1 ++ [])[24]? = some ((ad 10).2, .inl (cB, 5, .inl (sI xs 24))) := by rw [← hG]; rfl
    have v25 : (G.2.2.1 ++ [])[26]? = some ((ad 11).2, .inl (cB, 5, .inl (sI xs 26))) := by rw [← hG]; rfl
    have v27 : (G.2.2.1 ++ [])[28]? = some ((ad 12).2, .inl (cB, 2, .inl (sI xs 28))) := by rw [← hG]; rfl
    have v29 : (G.2.2.1 ++ [])[30]? = some ((ad 13).2, .inl (cB, 4, .inl (sI xs 30))) := by rw [← hG]; rfl
    have v31 : (G.2.2.1 ++ [])[32]? = some ((ad 14).2, .inl (cB, 2, .inl (sI xs 32))) := by rw [← hG]; rfl
    exact ⟨(show xCe G _ (.inl (3, 0, .inr (.inr (.inr (.inr fun j => yO (sR 0 j)))))) (.inl (cO, 0, .inr (.inr (.inr (.inr fun _ => none))))) from ⟨t3, rfl, rfl, fun j => (by rw [show yO (sR 0 j) = none from rfl]; exact rfl)⟩), (show xCe G _ (.inl (2, 100, .inl (sI xs 1))) (.inl (cB, 100, .inl (sI xs 1))) from ⟨t2, by decide, rfl, rfl⟩), (show xCe G _ (.inl (2, 100, .inl (sI xs 2))) (.inl (cB, 100, .inl (sI xs 2))) from ⟨t2, by decide, rfl, rfl⟩), (show xCe G _ (.inr (0, [.ref 4, .int 0, .int 0, .int 0])) (.inr (0, [.ref (ad 0).2, .int 0, .int 0, .int 0])) from ⟨rfl, ⟨_, v3, rfl⟩, rfl, rfl, rfl, trivial⟩), (show xCe G _ (.inl (2, 5, .inl (sI xs 4))) (.inl (cB, 5, .inl (sI xs 4))) from ⟨t2, by decide, rfl, rfl⟩), (show xCe G _ (.inr (0, [.ref 6, .int 0, .int 0, .int 0])) (.inr (0, [.ref (ad 1).2, .int 0, .int 0, .int 0])) from ⟨rfl, ⟨_, v5, rfl⟩, rfl, rfl, rfl, trivial⟩), (show xCe G _ (.inl (2, 2, .inl (sI xs 6))) (.inl (cB, 2, .inl (sI xs 6))) from ⟨t2, by decide, rfl, rfl⟩), (show xCe G _ (.inr (0, [.ref 8, .int 0, .int 0, .int 0])) (.inr (0, [.ref (ad 2).2, .int 0, .int 0, .int 0])) from ⟨rfl, ⟨_, v7, rfl⟩, rfl, rfl, rfl, trivial⟩), (show xCe G _ (.inl (2, 4, .inl (sI xs 8))) (.inl (cB, 4, .inl (sI xs 8))) from ⟨t2, by decide, rfl, rfl⟩), (show xCe G _ (.inr (0, [.ref 10, .int 0, .int 0, .int 0])) (.inr (0, [.ref (ad 3).2, .int 0, .int 0, .int 0])) from ⟨rfl, ⟨_, v9, rfl⟩, rfl, rfl, rfl, trivial⟩), (show xCe G _ (.inl (2, 6, .inl (sI xs 10))) (.inl (cB, 6, .inl (sI xs 10))) from ⟨t2, by decide, rfl, rfl⟩), (show xCe G _ (.inr (0, [.ref 12, .int 0, .int 0, .int 0])) (.inr (0, [.ref (ad 4).2, .int 0, .int 0, .int 0])) from ⟨rfl, ⟨_, v11, rfl⟩, rfl, rfl, rfl, trivial⟩), (show xCe G _ (.inl (2, 6, .inl (sI xs 12))) (.inl (cB, 6, .inl (sI xs 12))) from ⟨t2, by decide, rfl, rfl⟩), (show xCe G _ (.inr (0, [.ref 14, .int 0, .int 0, .int 0])) (.inr (0, [.ref (ad 5).2, .int 0, .int 0, .int 0])) from ⟨rfl, ⟨_, v13, rfl⟩, rfl, rfl, rfl, trivial⟩), (show xCe G _ (.inl (2, 2, .inl (sI xs 14))) (.inl (cB, 2, .inl (sI xs 14))) from ⟨t2, by decide, rfl, rfl⟩), (show xCe G _ (.inr (0, [.ref 16, .int 0, .int 0, .int 0])) (.inr (0, [.ref (ad 6).2, .int 0, .int 0, .int 0])) from ⟨rfl, ⟨_, v15, rfl⟩, rfl, rfl, rfl, trivial⟩), (show xCe G _ (.inl (2, 5, .inl (sI xs 16))) (.inl (cB, 5, .inl (sI xs 16))) from ⟨t2, by decide, rfl, rfl⟩), (show xCe G _ (.inr (0, [.ref 18, .int 0, .int 0, .int 0])) (.inr (0, [.ref (ad 7).2, .int 0, .int 0, .int 0])) from ⟨rfl, ⟨_, v17, rfl⟩, rfl, rfl, rfl, trivial⟩), (show xCe G _ (.inl (2, 0, .inl (sI xs 18))) (.inl (cB, 0, .inl (sI xs 18))) from ⟨t2, by decide, rfl, rfl⟩), (show xCe G _ (.inr (0, [.ref 20, .int 0, .int 0, .int 0])) (.inr (0, [.ref (ad 8).2, .int 0, .int 0, .int 0])) from ⟨rfl, ⟨_, v19, rfl⟩, rfl, rfl, rfl, trivial⟩), (show xCe G _ (.inl (2, 4, .inl (sI xs 20))) (.inl (cB, 4, .inl (sI xs 20))) from ⟨t2, by decide, rfl, rfl⟩), (show xCe G _ (.inr (0, [.ref 22, .int 0, .int 0, .int 0])) (.inr (0, [.ref (ad 9).2, .int 0, .int 0, .int 0])) from ⟨rfl, ⟨_, v21, rfl⟩, rfl, rfl, rfl, trivial⟩), (show xCe G _ (.inl (2, 4, .inl (sI xs 22))) (.inl (cB, 4, .inl (sI xs 22))) from ⟨t2, by decide, rfl, rfl⟩), (show xCe G _ (.inr (0, [.ref 24, .int 0, .int 0, .int 0])) (.inr (0, [.ref (ad 10).2, .int 0, .int 0, .int 0])) from ⟨rfl, ⟨_, v23, rfl⟩, rfl, rfl, rfl, trivial⟩), (show xCe G _ (.inl (2, 5, .inl (sI xs 24))) (.inl (cB, 5, .inl (sI xs 24))) from ⟨t2, by decide, rfl, rfl⟩), (show xCe G _ (.inr (0, [.ref 26, .int 0, .int 0, .int 0])) (.inr (0, [.ref (ad 11).2, .int 0, .int 0, .int 0])) from ⟨rfl, ⟨_, v25, rfl⟩, rfl, rfl, rfl, trivial⟩), (show xCe G _ (.inl (2, 5, .inl (sI xs 26))) (.inl (cB, 5, .inl (sI xs 26))) from ⟨t2, by decide, rfl, rfl⟩), (show xCe G _ (.inr (0, [.ref 28, .int 0, .int 0, .int 0])) (.inr (0, [.ref (ad 12).2, .int 0, .int 0, .int 0])) from ⟨rfl, ⟨_, v27, rfl⟩, rfl, rfl, rfl, trivial⟩), (show xCe G _ (.inl (2, 2, .inl (sI xs 28))) (.inl (cB, 2, .inl (sI xs 28))) from ⟨t2, by decide, rfl, rfl⟩), (show xCe G _ (.inr (0, [.ref 30, .int 0, .int 0, .int 0])) (.inr (0, [.ref (ad 13).2, .int 0, .int 0, .int 0])) from ⟨rfl, ⟨_, v29, rfl⟩, rfl, rfl, rfl, trivial⟩), (show xCe G _ (.inl (2, 4, .inl (sI xs 30))) (.inl (cB, 4, .inl (sI xs 30))) from ⟨t2, by decide, rfl, rfl⟩), (show xCe G _ (.inr (0, [.ref 32, .int 0, .int 0, .int 0])) (.inr (0, [.ref (ad 14).2, .int 0, .int 0, .int 0])) from ⟨rfl, ⟨_, v31, rfl⟩, rfl, rfl, rfl, trivial⟩), (show xCe G _ (.inl (2, 2, .inl (sI xs 32))) (.inl (cB, 2, .inl (sI xs 32))) from ⟨t2, by decide, rfl, rfl⟩), (show xCe G _ (.inl (0, L, .inl xs)) (.inl (cI, L, .inl xs)) from ⟨t0, by decide, rfl, rfl⟩), trivial⟩
  have := allI_get h hq
  rw [Nat.zero_add] at this
  exact this
theorem e_rc (h0 : va_T (.object "java/lang/Object") a0 0 (fun _ => .null) (fun q => s.heap.size ≤ q) s s.heap) (h1 : va_T .byte a1 100 (fun j => .int ((sBy.getD 1 []).getD j 0)) (fun q => s.heap.size ≤ q) s s.heap) (h2 : va_T .byte a2 100 (fun j => .int ((sBy.getD 2 []).getD j 0)) (fun q => s.heap.size ≤ q) s s.heap)
    (hs : ∀ i, i < 15 → va_O "java/lang/String" (ad i).1 (fun q => s.heap.size ≤ q) s s.heap ∧ va_OF "java/lang/String" "coder" "B" (.int 0) (ad i).1 (fun q => s.heap.size ≤ q) s s.heap ∧ va_OF "java/lang/String" "value" "[B" (.ref (ad i).2) (ad i).1 (fun q => s.heap.size ≤ q) s s.heap ∧ va_T .byte (ad i).2 (eB i).length (fun j => .int ((eB i).getD j 0)) (fun q => s.heap.size ≤ q) s s.heap) (hx : va_T .int b L (fun j => .int (xs j)) (fun q => s.heap.size ≤ q) s s.heap) :
    ∀ (k : Nat) (q : Nat × va_E), (eG s D cI cZ cB cO a0 a1 a2 mi b L ad xs).2.2.1[k]? = some q → xRc (eG s D cI cZ cB cO a0 a1 a2 mi b L ad xs) q s s.heap := by
  intro k q hq
  have hst : ∀ i, i < 15 → xRc (eG s D cI cZ cB cO a0 a1 a2 mi b L ad xs) ((ad i).1, .inr (0, [.ref (ad i).2, .int 0, .int 0, .int 0])) s s.heap := fun i hi => by
    obtain ⟨k1, k2, k3, -⟩ := hs i hi
    refine ⟨rfl, (RJ0, TJ0, 4), rfl, k1, fun k v hk hv => ?_⟩
    match k, hk, hv with
    | 0, _, hv => cases hv; exact k3
    | 1, _, hv => cases hv; exact k2
  have h : allI (fun _ q => xRc (eG s D cI cZ cB cO a0 a1 a2 mi b L ad xs) q s s.heap) 0 (eRo cI cB cO a0 a1 a2 ad b L xs) :=
    ⟨(show xRc (eG s D cI cZ cB cO a0 a1 a2 mi b L ad xs) (a0, .inl (cO, 0, .inr (.inr (.inr (.inr fun _ => none))))) s s.heap from ⟨rfl, h0⟩), (show xRc (eG s D cI cZ cB cO a0 a1 a2 mi b L ad xs) (a1, .inl (cB, 100, .inl (sI xs 1))) s s.heap from ⟨2, by decide, rfl, h1⟩), (show xRc (eG s D cI cZ cB cO a0 a1 a2 mi b L ad xs) (a2, .inl (cB, 100, .inl (sI xs 2))) s s.heap from ⟨2, by decide, rfl, h2⟩), hst 0 (by decide), (show xRc (eG s D cI cZ cB cO a0 a1 a2 mi b L ad xs) ((ad 0).2, .inl (cB, 5, .inl (sI xs 4))) s s.heap from ⟨2, by decide, rfl, (hs 0 (by decide)).2.2.2⟩), hst 1 (by decide), (show xRc (eG s D cI cZ cB cO a0 a1 a2 mi b L ad xs) ((ad 1).2, .inl (cB, 2, .inl (sI xs 6))) s s.heap from ⟨2, by decide, rfl, (hs 1 (by decide)).2.2.2⟩), hst 2 (by decide), (show xRc (eG s D cI cZ cB cO a0 a1 a2 mi b L ad xs) ((ad 2).2, .inl (cB, 4, .inl (sI xs 8))) s s.heap from ⟨2, by decide, rfl, (hs 2 (by decide)).2.2.2⟩), hst 3 (by decide), (show xRc (eG s D cI cZ cB cO a0 a1 a2 mi b L ad xs) ((ad 3).2, .inl (cB, 6, .inl (sI xs 10))) s s.heap from ⟨2, by decide, rfl, (hs 3 (by decide)).2.2.2⟩), hst 4 (by decide), (show xRc (eG s D cI cZ cB cO a0 a1 a2 mi b L ad xs) ((ad 4).2, .inl (cB, 6, .inl (sI xs 12))) s s.heap from ⟨2, by decide, rfl, (hs 4 (by decide)).2.2.2⟩), hst 5 (by decide), (show xRc (eG s D cI cZ cB cO a0 a1 a2 mi b L ad xs) ((ad 5).2, .inl (cB, 2, .inl (sI xs 14))) s s.heap from ⟨2, by decide, rfl, (hs 5 (by decide)).2.2.2⟩), hst 6 (by decide), (show xRc (eG s D cI cZ cB cO a0 a1 a2 mi b L ad xs) ((ad 6).2, .inl (cB, 5, .inl (sI xs 16))) s s.heap from ⟨2, by decide, rfl, (hs 6 (by decide)).2.2.2⟩), hst 7 (by decide), (show xRc (eG s D cI cZ cB cO a0 a1 a2 mi b L ad xs) ((ad 7).2, .inl (cB, 0, .inl (sI xs 18))) s s.heap from ⟨2, by decide, rfl, (hs 7 (by decide)).2.2.2⟩), hst 8 (by decide), (show xRc (eG s D cI cZ cB cO a0 a1 a2 mi b L ad xs) ((ad 8).2, .inl (cB, 4, .inl (sI xs 20))) s s.heap from ⟨2, by decide, rfl, (hs 8 (by decide)).2.2.2⟩), hst 9 (by decide), (show xRc (eG s D cI cZ cB cO a0 a1 a2 mi b L ad xs) ((ad 9).2, .inl (cB, 4, .inl (sI xs 22))) s s.heap from ⟨2, by decide, rfl, (hs 9 (by decide)).2.2.2⟩), hst 10 (by decide), (show xRc (eG s D cI cZ cB cO a0 a1 a2 mi b L ad xs) ((ad 10).2, .inl (cB, 5, .inl (sI xs 24))) s s.heap from ⟨2, by decide, rfl, (hs 10 (by decide)).2.2.2⟩), hst 11 (by decide), (show xRc (eG s D cI cZ cB cO a0 a1 a2 mi b L ad xs) ((ad 11).2, .inl (cB, 5, .inl (sI xs 26))) s s.heap from ⟨2, by decide, rfl, (hs 11 (by decide)).2.2.2⟩), hst 12 (by decide), (show xRc (eG s D cI cZ cB cO a0 a1 a2 mi b L ad xs) ((ad 12).2, .inl (cB, 2, .inl (sI xs 28))) s s.heap from ⟨2, by decide, rfl, (hs 12 (by decide)).2.2.2⟩), hst 13 (by decide), (show xRc (eG s D cI cZ cB cO a0 a1 a2 mi b L ad xs) ((ad 13).2, .inl (cB, 4, .inl (sI xs 30))) s s.heap from ⟨2, by decide, rfl, (hs 13 (by decide)).2.2.2⟩), hst 14 (by decide), (show xRc (eG s D cI cZ cB cO a0 a1 a2 mi b L ad xs) ((ad 14).2, .inl (cB, 2, .inl (sI xs 32))) s s.heap from ⟨2, by decide, rfl, (hs 14 (by decide)).2.2.2⟩), (show xRc (eG s D cI cZ cB cO a0 a1 a2 mi b L ad xs) (b, .inl (cI, L, .inl xs)) s s.heap from ⟨0, by decide, rfl, hx⟩), trivial⟩
  exact allI_get h hq
end YST
theorem xRc.lt {G : xG} {q : Nat × va_E} {U : State} {H : Heap} (h : xRc G q U H) : q.1 < G.2.2.2.1 := by
  unfold xRc at h
  split at h
  · obtain ⟨t, -, -, cell, -, -, -, -, -, -, h7⟩ := h; exact Nat.not_le.mp h7
  · obtain ⟨-, cell, -, -, -, -, -, -, h7⟩ := h; exact Nat.not_le.mp h7
  · obtain ⟨-, r, -, ⟨cell, -, -, -, h7⟩, -⟩ := h; exact Nat.not_le.mp h7
  · exact h.elim
theorem eMsg_ok : (xMsgs.all fun e => decide (Cond.exactly (.string e.1 e.2.1) "java/lang/String" ∈ eFL) && decide (Cond.stringRef e.1 e.2.1 e.2.2 ∈ lw_tbl)) = true := by decide +kernel
theorem eStr_ok : (xStrs.all fun e => decide (Cond.stringRef e.1 e.2.1 e.2.2.1 ∈ lw_tbl)) = true := by decide +kernel
theorem eCast_ok : (vwCl.all fun q => decide (Cond.castable q.1 "java/lang/Object" ∈ lw_tbl)) = true := by decide +kernel
theorem eCasA_ok : ((List.range 4).all fun t => decide (Cond.castable ("[" ++ (xAT t).toString) "java/lang/Object" ∈ lw_tbl)) = true := by decide +kernel
theorem eNc_ok : (xEx.all fun E => xEx.all fun E' => decide (E = E') || decide (Cond.not (.castable E E') ∈ eFL)) = true := by decide +kernel
theorem eFw_ok : (xFw.all fun x => decide (Cond.declares x.1 ∈ lw_tbl) && decide (Cond.interfaceMethod x.1.cls x.1.cls x.1.name x.1.desc ∈ lw_tbl) && decide (Cond.publicMethod x.2 ∈ lw_tbl) && decide (Cond.unhidden "java/util/ArrayList$Itr" x.1.name x.1.desc ∈ lw_tbl) && decide (Cond.castable "java/util/ArrayList$Itr" x.1.cls ∈ lw_tbl)) = true := by decide +kernel
def eLS : List (String × String × String) := (xSta.map fun e => (e.1, e.2.1, e.2.2.1)) ++ [(Bundle.tN, "UNASSIGNED_STACK", Bundle.steD), (Bundle.tN, "SUPPRESSED_SENTINEL", Bundle.listD)]
theorem eLS_ok : (eLS.all fun e => decide (Cond.laysStatic e.1 e.2.1 e.2.2 ∈ lw_tbl) && decide (Cond.initialized e.1 ∈ lw_tbl)) = true := by decide +kernel
theorem eRf_ok : ([.isRef (.static "jdk/internal/util/Preconditions" "SIOOBE_FORMATTER" "Ljava/util/function/BiFunction;"), .isRef (.static Bundle.tN "UNASSIGNED_STACK" Bundle.steD), .isRef (.static Bundle.tN "SUPPRESSED_SENTINEL" Bundle.listD), .eq (.static "java/lang/String" "COMPACT_STRINGS" "Z") (.int 1), .isRef (.mirror "[Ljava/lang/Object;"), .arrayOf (.static "java/util/ArrayList" "DEFAULTCAPACITY_EMPTY_ELEMENTDATA" "[Ljava/lang/Object;") (.object "java/lang/Object"), .eq (.length (.static "java/util/ArrayList" "DEFAULTCAPACITY_EMPTY_ELEMENTDATA" "[Ljava/lang/Object;")) (.int 0)] : List Cond).all (fun w => decide (w ∈ eFL)) = true := by decide +kernel
theorem eDc_ok : Cond.declares ⟨"java/lang/Object", "getClass", "()Ljava/lang/Class;"⟩ ∈ lw_tbl := by decide +kernel
theorem va_X_T {b L : Nat} {xs : Nat → Int32} {s : State} (h : va_X b L xs s s.heap) : va_T .int b L (fun j => .int (xs j)) (fun q => s.heap.size ≤ q) s s.heap := by
  obtain ⟨scr, h1, h2, h3, h4, h5⟩ := h
  exact ⟨scr, h1, h2, h3, by omega, by rw [h4]; rfl, h5, Nat.not_le.mpr (Array.getElem?_eq_some_iff.mp h1).1⟩
/-- THE LAW'S START: a frame in which all that stands is known, the script at 33 -/
theorem e_start {args : Array Value} {s : State} {b L : Nat} {xs : Nat → Int32} (hts : ∀ w ∈ lw_tbl, w.before args s = true) (hgv : (Jvm.Cond.and given_1 narrow_1).before args s = true) (hX : va_X b L xs s s.heap) :
    ∃ G : xG, xSa G s s.heap ∧ G.2.2.2.1 = s.heap.size ∧ xHr G (yH (34, sTg L, sI xs, sR)) (G.2.2.1 ++ []) ∧ G.2.2.1[33]? = some (b, .inl ((G.2.1.getD 0 (0, .int)).1, L, .inl xs)) := by
  have hs : ∀ w ∈ eFL, w.before args s = true := flat_of_before _ hgv
  have hA : ∀ a : Nat, a < s.heap.size → ¬ s.heap.size ≤ a := fun a h => Nat.not_le.mpr h
  have hrf : ∀ w, w ∈ _ → w.before args s = true := fun w hw => hs w (of_decide_eq_true (List.all_eq_true.mp eRf_ok w hw))
  obtain ⟨D, cI, cZ, cB, cO, hK⟩ := e_K hts
  obtain ⟨ad, hst⟩ := e_strs (A := fun q => s.heap.size ≤ q) hs hA
  obtain ⟨a1, hn1, hn2⟩ := eAr_of (A := fun q => s.heap.size ≤ q) (eB_lt (a := 1) (by decide)) (fun w hw => hs w (eBk_ok eBk_n w hw)) hA
  obtain ⟨a2, ht1, ht2⟩ := eAr_of (A := fun q => s.heap.size ≤ q) (eB_lt (a := 2) (by decide)) (fun w hw => hs w (eBk_ok eBk_t w hw)) hA
  obtain ⟨a0, hd1, hd2⟩ := va_Tof (args := args) (s := s) (tm := .static "java/util/ArrayList" "DEFAULTCAPACITY_EMPTY_ELEMENTDATA" "[Ljava/lang/Object;") (ty := .object "java/lang/Object") (N := 0) (f := fun _ => .null) (A := fun q => s.heap.size ≤ q) (by decide) (hrf _ (by simp)) (va_eqt (hrf _ (by simp))) (fun j hj => absurd hj (Nat.not_lt_zero j)) hA
  obtain ⟨mi, hMi⟩ := va_Mi.of (C := "[Ljava/lang/Object;") (hrf _ (by simp))
  have ha := eArr_ok
  simp only [Bool.and_eq_true, decide_eq_true_eq] at ha
  have hls : ∀ e ∈ eLS, (Cond.laysStatic e.1 e.2.1 e.2.2).before args s = true ∧ (Cond.initialized e.1).before args s = true := fun e he => by
    have h := List.all_eq_true.mp eLS_ok e he
    simp only [Bool.and_eq_true, decide_eq_true_eq] at h
    exact ⟨hts _ h.1, hts _ h.2⟩
  have hrc := e_rc (s := s) (D := D) (cI := cI) (cZ := cZ) (cB := cB) (cO := cO) (a0 := a0) (a1 := a1) (a2 := a2) (mi := mi) (b := b) (L := L) (ad := ad) (xs := xs) hd2 hn2 ht2 (fun i hi => (hst i hi).2) (va_X_T hX)
  refine ⟨eG s D cI cZ cB cO a0 a1 a2 mi b L ad xs, ⟨⟨hK, fun t ht => ?_, hMi, va_AO.of (hts _ ha.2), va_Dc.of (hts _ eDc_ok), fun q hq => va_any rfl (hts _ (of_decide_eq_true (List.all_eq_true.mp eCast_ok q hq))), fun t ht => va_any rfl (hts _ (of_decide_eq_true (List.all_eq_true.mp eCasA_ok t (List.mem_range.mpr ht))))⟩, ?_, fun e he => ?_, ⟨hrc, fun k q hq => ?_, rfl, Nat.le_refl _, ?_⟩, vx_Zqof (hls (Bundle.tN, "UNASSIGNED_STACK", Bundle.steD) (by simp [eLS])).1 (hls (Bundle.tN, "UNASSIGNED_STACK", Bundle.steD) (by simp [eLS])).2 (hrf _ (by simp)) hA, vx_Zqof (hls (Bundle.tN, "SUPPRESSED_SENTINEL", Bundle.listD) (by simp [eLS])).1 (hls (Bundle.tN, "SUPPRESSED_SENTINEL", Bundle.listD) (by simp [eLS])).2 (hrf _ (by simp)) hA, fun E hE E' hE' hne => ?_, fun w hw hg => va_any (xNw_tab hg) (e_tb hts w hw), fun x hx => ?_⟩, rfl, e_hr, rfl⟩
  · match t, ht with
    | 0, _ => exact ⟨cI, rfl⟩
    | 1, _ => exact ⟨cZ, rfl⟩
    | 2, _ => exact ⟨cB, rfl⟩
    | 3, _ => exact ⟨cO, rfl⟩
  · have hr : ∀ e ∈ xStrs, (Cond.stringRef e.1 e.2.1 e.2.2.1).before args s = true := fun e he => hts _ (of_decide_eq_true (List.all_eq_true.mp eStr_ok e he))
    have hr2 := hr
    unfold xStrs at hr
    unfold xSs xStrs
    exact List.forall_mem_cons.mpr ⟨⟨_, rfl, vk_R.of (hr _ (by simp)) (hst 0 (by decide)).1⟩, List.forall_mem_cons.mpr ⟨⟨_, rfl, vk_R.of (hr _ (by simp)) (hst 1 (by decide)).1⟩, List.forall_mem_cons.mpr ⟨⟨_, rfl, vk_R.of (hr _ (by simp)) (hst 2 (by decide)).1⟩, List.forall_mem_cons.mpr ⟨⟨_, rfl, vk_R.of (hr _ (by simp)) (hst 3 (by decide)).1⟩, List.forall_mem_cons.mpr ⟨⟨_, rfl, vk_R.of (hr _ (by simp)) (hst 4 (by decide)).1⟩, List.forall_mem_cons.mpr ⟨⟨_, rfl, vk_R.of (hr _ (by simp)) (hst 5 (by decide)).1⟩, List.forall_mem_cons.mpr ⟨⟨_, rfl, vk_R.of (hr _ (by simp)) (hst 6 (by decide)).1⟩, List.forall_mem_cons.mpr ⟨⟨_, rfl, vk_R.of (hr _ (by simp)) (hst 7 (by decide)).1⟩, List.forall_mem_cons.mpr ⟨⟨_, rfl, vk_R.of (hr _ (by simp)) (hst 8 (by decide)).1⟩, List.forall_mem_cons.mpr ⟨⟨_, rfl, vk_R.of (hr _ (by simp)) (hst 9 (by decide)).1⟩, List.forall_mem_cons.mpr ⟨⟨_, rfl, vk_R.of (hr _ (by simp)) (hst 10 (by decide)).1⟩, List.forall_mem_cons.mpr ⟨⟨_, rfl, vk_R.of (hr _ (by simp)) (hst 11 (by decide)).1⟩, List.forall_mem_cons.mpr ⟨⟨_, rfl, vk_R.of (hr _ (by simp)) (hst 12 (by decide)).1⟩, List.forall_mem_cons.mpr ⟨⟨_, rfl, vk_R.of (hr _ (by simp)) (hst 13 (by decide)).1⟩, List.forall_mem_cons.mpr ⟨⟨_, rfl, vk_R.of (hr _ (by simp)) (hst 14 (by decide)).1⟩, fun _ h => absurd h List.not_mem_nil⟩⟩⟩⟩⟩⟩⟩⟩⟩⟩⟩⟩⟩⟩⟩
  · have h := List.all_eq_true.mp eMsg_ok e he
    simp only [Bool.and_eq_true, decide_eq_true_eq] at h
    obtain ⟨a, c, cA, kA, q1, -⟩ := Cond.exactly_spec (args := args) (first := s) (o := none) (s := s) (idx := []) (t := .string e.1 e.2.1) (cls := "java/lang/String") (hs _ h.1)
    exact ⟨a, vk_R.of (hts _ h.2) q1⟩
  · exact (hrc k q hq).lt
  · have hz : ∀ e ∈ xSta, (Cond.laysStatic e.1 e.2.1 e.2.2.1).before args s = true ∧ (Cond.initialized e.1).before args s = true := fun e he => hls (e.1, e.2.1, e.2.2.1) (List.mem_append_left _ (List.mem_map.mpr ⟨e, he, rfl⟩))
    unfold xSta at hz ⊢
    exact List.forall_mem_cons.mpr ⟨⟨_, rfl, va_Zof (hz _ (by simp)).1 (hz _ (by simp)).2 hd1 hA⟩, List.forall_mem_cons.mpr ⟨⟨_, rfl, va_Zof (hz _ (by simp)).1 (hz _ (by simp)).2 hn1 hA⟩, List.forall_mem_cons.mpr ⟨⟨_, rfl, va_Zof (hz _ (by simp)).1 (hz _ (by simp)).2 ht1 hA⟩, List.forall_mem_cons.mpr ⟨va_Zof (hz _ (by simp)).1 (hz _ (by simp)).2 (va_eqt (hrf _ (by simp))) hA, List.forall_mem_cons.mpr ⟨va_Zqof (hz _ (by simp)).1 (hz _ (by simp)).2 (hrf _ (by simp)) hA, fun _ h => absurd h List.not_mem_nil⟩⟩⟩⟩⟩
  · have h := List.all_eq_true.mp (List.all_eq_true.mp eNc_ok E hE) E' hE'
    simp only [Bool.or_eq_true, decide_eq_true_eq] at h
    exact va_Nc.of (hs _ (h.resolve_left hne))
  · have h := List.all_eq_true.mp eFw_ok x hx
    simp only [Bool.and_eq_true, decide_eq_true_eq] at h
    exact va_Fw.of (hts _ h.1.1.1.1) (hts _ h.1.1.1.2) (hts _ h.1.1.2) (hts _ h.1.2) (hts _ h.2)
