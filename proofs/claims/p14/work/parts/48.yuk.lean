/-! WHAT THE LAW'S START GIVES (by gen48.py) -/
def eFL : List Cond := flatC (Jvm.Cond.and given_1 narrow_1)
def eAr (t : Term) (bs : List Int32) : List Cond := .arrayOf t .byte :: .eq (.length t) (.int (Int32.ofNat bs.length)) :: (List.range bs.length).map (fun j => .eq (.elem t (.int (Int32.ofNat j))) (.int (bs.getD j 0)))
def eSt (t : Term) (bs : List Int32) : List Cond := .exactly t "java/lang/String" :: .eq (.field t "java/lang/String" "coder" "B") (.int 0) :: eAr (.field t "java/lang/String" "value" "[B") bs
def eBk (p : Nat) (L : List Cond) : Bool := decide ((eFL.drop p).take L.length = L)
theorem eBk_ok {p : Nat} {L : List Cond} (h : eBk p L = true) : ∀ w ∈ L, w ∈ eFL := fun w hw => by
  have e : (eFL.drop p).take L.length = L := of_decide_eq_true h
  rw [← e] at hw
  exact List.mem_of_mem_drop (List.mem_of_mem_take hw)
section YEN
variable {args : Array Value} {s : State} {A : Nat → Prop}
theorem eAr_of {t : Term} {bs : List Int32} (hb : bs.length < 2 ^ 31) (h : ∀ w ∈ eAr t bs, w.before args s = true) (hA : ∀ a : Nat, a < s.heap.size → ¬ A a) : ∃ a : Nat, t.eval args s none [] s = some (.ref a) ∧ va_T .byte a bs.length (fun j => .int (bs.getD j 0)) A s s.heap :=
  va_Tof hb (h _ List.mem_cons_self) (va_eqt (h _ (List.mem_cons_of_mem _ List.mem_cons_self))) (fun j hj => va_eqt (h _ (List.mem_cons_of_mem _ (List.mem_cons_of_mem _ (List.mem_map.mpr ⟨j, List.mem_range.mpr hj, rfl⟩))))) hA
theorem eSt_of {t : Term} {bs : List Int32} (hb : bs.length < 2 ^ 31) (h : ∀ w ∈ eSt t bs, w.before args s = true) (hA : ∀ a : Nat, a < s.heap.size → ¬ A a) : ∃ q : Nat × Nat, t.eval args s none [] s = some (.ref q.1) ∧ va_O "java/lang/String" q.1 A s s.heap ∧ va_OF "java/lang/String" "coder" "B" (.int 0) q.1 A s s.heap ∧ va_OF "java/lang/String" "value" "[B" (.ref q.2) q.1 A s s.heap ∧ va_T .byte q.2 bs.length (fun j => .int (bs.getD j 0)) A s s.heap := by
  obtain ⟨a, c, cA, kA, q1, q2, q3, q4, q5, q6, -⟩ := Cond.exactly_spec (args := args) (first := s) (o := none) (s := s) (idx := []) (t := t) (cls := "java/lang/String") (h _ List.mem_cons_self)
  obtain ⟨v, ht, hT⟩ := eAr_of hb (fun w hw => h w (List.mem_cons_of_mem _ (List.mem_cons_of_mem _ hw))) hA
  exact ⟨(a, v), q1, ⟨cA, q3, q5, by rw [q6]; exact q2, hA a (Array.getElem?_eq_some_iff.mp q3).1⟩, vk_OFof q1 (va_eqt (h _ (List.mem_cons_of_mem _ List.mem_cons_self))) hA, vk_OFof q1 ht hA, hT⟩
/-- a private method of a superclass that is a class: the subclass's object selects it -/
theorem eSel {C : String} {y x z : MethodName} (hy : y.cls ≠ "java/lang/invoke/MethodHandle" ∧ y.cls ≠ "java/lang/invoke/VarHandle") (hz : z.cls = y.cls) (hs : (Cond.selects C x z).before args s = true) (hpriv : (Cond.privateMethod y).before args s = true) (hinst : (Cond.instanceMethod y).before args s = true) : (Cond.selects C y y).before args s = true := by
  obtain ⟨c, r, m, hc, -, hzn, -, k, hk, hni⟩ := Cond.selects_spec hs
  obtain ⟨mk, methM, hnamed, hmethM, -, -⟩ := Cond.instanceMethod_spec hinst
  have hfound : s.methodFound? y.cls y.name y.desc = some mk := State.methodFound?_of_named hnamed hy
  have hcls : mk.cls = m.cls := by
    have h1 := findClass_of_methodNamed hnamed
    have h2 := findClass_of_methodNamed hzn
    rw [hz] at h2
    exact Option.some.inj (h1.symm.trans h2)
  have hsel : selectMethod {} s.vm c mk = .method mk := selectMethod_private hmethM (Cond.privateMethod_at hpriv mk methM hnamed hmethM)
  simp only [Cond.before, Cond.holds, Cond.value, hc, hfound, hnamed, hsel, hcls, hk]
  simp; exact hni
def eY : List MethodName := [⟨"java/lang/AbstractStringBuilder","appendNull","()Ljava/lang/AbstractStringBuilder;"⟩, ⟨"java/lang/AbstractStringBuilder","ensureCapacityInternal","(I)V"⟩, ⟨"java/lang/AbstractStringBuilder","inflate","()V"⟩, ⟨"java/lang/AbstractStringBuilder","inflateIfNeededFor","(Ljava/lang/String;)V"⟩, ⟨"java/lang/AbstractStringBuilder","newCapacity","(I)I"⟩, ⟨"java/lang/AbstractStringBuilder","putStringAt","(ILjava/lang/String;)V"⟩]
theorem eY_ok : (eY.all fun y => decide (Cond.privateMethod y ∈ lw_tbl) && decide (Cond.instanceMethod y ∈ lw_tbl) && decide (y.cls = "java/lang/AbstractStringBuilder")) = true := by decide +kernel
def eZ : MethodName := ⟨"java/lang/AbstractStringBuilder", "isLatin1", "()Z"⟩
theorem eZ_ok : Cond.selects "java/lang/StringBuilder" eZ eZ ∈ lw_tbl := by decide +kernel
theorem xExtra_is : xExtra = (eY.map fun y => Cond.selects "java/lang/StringBuilder" y y) ++ [.declares ⟨"java/lang/RuntimeException","<init>","(Ljava/lang/String;)V"⟩, .declares ⟨"java/lang/Exception","<init>","(Ljava/lang/String;)V"⟩, .declares ⟨"java/lang/Throwable","<init>","(Ljava/lang/String;)V"⟩] := rfl
theorem eD_ok : ([.declares ⟨"java/lang/RuntimeException","<init>","(Ljava/lang/String;)V"⟩, .declares ⟨"java/lang/Exception","<init>","(Ljava/lang/String;)V"⟩, .declares ⟨"java/lang/Throwable","<init>","(Ljava/lang/String;)V"⟩] : List Cond).all (fun w => decide (w ∈ lw_tbl)) = true := by decide +kernel
/-- every word that the methods lean on -/
theorem e_tb (hts : ∀ w ∈ lw_tbl, w.before args s = true) : ∀ w ∈ xlw, w.before args s = true := by
  intro w hw
  rcases List.mem_append.mp hw with hw | hw
  · rw [xExtra_is] at hw
    rcases List.mem_append.mp hw with hw | hw
    · obtain ⟨y, hy, rfl⟩ := List.mem_map.mp hw
      have h := List.all_eq_true.mp eY_ok y hy
      simp only [Bool.and_eq_true, decide_eq_true_eq] at h
      exact eSel (z := eZ) (x := eZ) (by rw [h.2]; decide) h.2.symm (hts _ eZ_ok) (hts _ h.1.1) (hts _ h.1.2)
    · exact hts w (of_decide_eq_true (List.all_eq_true.mp eD_ok w hw))
  · exact hts w hw
/-! classes and arrays -/
def eIn : List Nat := [4, 4, 4, 3, 2, 8, 10, 5, 3, 11, 8, 5, 10, 2, 8, 10, 6, 4, 18]
theorem eIn_ok : ((List.range 19).all fun c => match vwCl[c]? with
  | some r => decide (Cond.instantiable r.1 (eIn.getD c 0) ∈ lw_tbl)
  | none => true) = true := by decide +kernel
theorem eArr_ok : decide (Cond.arrayClass .int ∈ lw_tbl) && decide (Cond.arrayClass .boolean ∈ lw_tbl) && decide (Cond.arrayClass .byte ∈ lw_tbl) && decide (Cond.arrayOver (.object "java/lang/Object") ∈ lw_tbl) = true := by decide +kernel
theorem e_prim {ty : FieldType} (h : (Cond.arrayClass ty).before args s = true) (hty : ∀ C, ty ≠ .object C) : ∃ c : ClassId, ArrOfT s c ty ∧ va_RA s c ty := by
  obtain ⟨c, k, comp, h1, h2, h3⟩ := Cond.arrayClass_spec h
  refine ⟨c, fun n z => ⟨fun k0 h0 => ?_, k, h2, comp, h3⟩, ?_⟩
  · first | cases h0 | exact absurd h0 (by simp)
  · cases ty with
    | object C => exact absurd rfl (hty C)
    | _ => exact h1
theorem e_K (hts : ∀ w ∈ lw_tbl, w.before args s = true) : ∃ (D : va_G) (cI cZ cB cO : ClassId), va_K D vwCl [(cI, .int), (cZ, .boolean), (cB, .byte), (cO, .object "java/lang/Object")] s := by
  have h0 : ∀ c : Nat, ∃ q : ClassId × (Nat → Nat), ∀ r, vwCl[c]? = some r → u_Kn s r.1 r.2.1 r.2.2 q.1 q.2 := by
    intro c
    cases hr : vwCl[c]? with
    | none => exact ⟨(0, fun _ => 0), fun r h => by cases h⟩
    | some r =>
      have hl : c < 19 := xcln_len ▸ (List.getElem?_eq_some_iff.mp hr).1
      have hi := List.all_eq_true.mp eIn_ok c (List.mem_range.mpr hl)
      rw [hr] at hi
      obtain ⟨cC, iS, hk⟩ := u_known (ws := xTB) (args := args) (C := r.1) (T := r.2.1) (N := r.2.2) (fun w hw => e_tb hts w (List.mem_filter.mp hw).1) (xcl_words r (List.mem_of_getElem? hr)) (hts _ (of_decide_eq_true hi))
      exact ⟨(cC, iS), fun r' e => by cases e; exact hk⟩
  obtain ⟨D, hD⟩ := Classical.axiomOfChoice h0
  have ha := eArr_ok
  simp only [Bool.and_eq_true, decide_eq_true_eq] at ha
  obtain ⟨cI, i1, i2⟩ := e_prim (hts _ ha.1.1.1) (fun C h => by cases h)
  obtain ⟨cZ, z1, z2⟩ := e_prim (hts _ ha.1.1.2) (fun C h => by cases h)
  obtain ⟨cB, b1, b2⟩ := e_prim (hts _ ha.1.2) (fun C h => by cases h)
  obtain ⟨comp, cO, k, f1, f2, f3, f4, f5⟩ := Cond.arrayOver_spec (hts _ ha.2)
  refine ⟨(fun c => (D c).1, fun c => (D c).2), cI, cZ, cB, cO, fun c r hr => hD c r hr, fun t q hq => ?_⟩
  match t, hq with
  | 0, hq => cases hq; exact ⟨i1, i2⟩
  | 1, hq => cases hq; exact ⟨z1, z2⟩
  | 2, hq => cases hq; exact ⟨b1, b2⟩
  | 3, hq => cases hq; exact ⟨fun N z => ⟨fun k0 h0 => (by cases h0), k, f3, comp, f4⟩, k, comp, f3, f4, f1, f5⟩
  | t + 4, hq => cases hq
/-! strings and tables of bytes -/
def eTs : List (String × Nat) := [("RibafreeHouse", 494), ("RibafreeHouse", 503), ("RibafreeHouse", 505), ("RibafreeHouse", 510), ("RibafreeHouse", 515), ("RibafreeHouse", 517), ("RibafreeHouse", 522), ("RibafreeHouseModel", 315), ("RibafreeHouseModel", 317), ("RibafreeHouseModel", 319), ("RibafreeHouseModel", 328), ("RibafreeHouseModel", 337), ("RibafreeHouseModel", 339), ("RibafreeHouseModel", 341), ("RibafreeHouseModel", 343)]
def eTm (i : Nat) : Term := .string (eTs.getD i ("", 0)).1 (eTs.getD i ("", 0)).2
def eB (i : Nat) : List Int32 := sBy.getD (4 + 2 * i) []
def ePl : List Nat := [1853, 1862, 1868, 1876, 1886, 1896, 1902, 1945, 1949, 1957, 1965, 1975, 1985, 1992, 2001]
theorem eBk_0 : eBk 1853 (eSt (eTm 0) (eB 0)) = true := by decide +kernel
theorem eBk_1 : eBk 1862 (eSt (eTm 1) (eB 1)) = true := by decide +kernel
theorem eBk_2 : eBk 1868 (eSt (eTm 2) (eB 2)) = true := by decide +kernel
theorem eBk_3 : eBk 1876 (eSt (eTm 3) (eB 3)) = true := by decide +kernel
theorem eBk_4 : eBk 1886 (eSt (eTm 4) (eB 4)) = true := by decide +kernel
theorem eBk_5 : eBk 1896 (eSt (eTm 5) (eB 5)) = true := by decide +kernel
theorem eBk_6 : eBk 1902 (eSt (eTm 6) (eB 6)) = true := by decide +kernel
theorem eBk_7 : eBk 1945 (eSt (eTm 7) (eB 7)) = true := by decide +kernel
theorem eBk_8 : eBk 1949 (eSt (eTm 8) (eB 8)) = true := by decide +kernel
theorem eBk_9 : eBk 1957 (eSt (eTm 9) (eB 9)) = true := by decide +kernel
theorem eBk_10 : eBk 1965 (eSt (eTm 10) (eB 10)) = true := by decide +kernel
theorem eBk_11 : eBk 1975 (eSt (eTm 11) (eB 11)) = true := by decide +kernel
theorem eBk_12 : eBk 1985 (eSt (eTm 12) (eB 12)) = true := by decide +kernel
theorem eBk_13 : eBk 1992 (eSt (eTm 13) (eB 13)) = true := by decide +kernel
theorem eBk_14 : eBk 2001 (eSt (eTm 14) (eB 14)) = true := by decide +kernel
def eTn : Term := .static "java/lang/Integer" "DigitOnes" "[B"
def eTt : Term := .static "java/lang/Integer" "DigitTens" "[B"
theorem eBk_n : eBk 12 (eAr eTn (sBy.getD 1 [])) = true := by decide +kernel
theorem eBk_t : eBk 115 (eAr eTt (sBy.getD 2 [])) = true := by decide +kernel
theorem eB_len : ((List.range 33).all fun a => decide ((sBy.getD a []).length < 2 ^ 31)) = true := by decide +kernel
theorem eB_lt {a : Nat} (h : a < 33) : (sBy.getD a []).length < 2 ^ 31 := of_decide_eq_true (List.all_eq_true.mp eB_len a (List.mem_range.mpr h))
theorem e_strs (hs : ∀ w ∈ eFL, w.before args s = true) (hA : ∀ a : Nat, a < s.heap.size → ¬ A a) : ∃ ad : Nat → Nat × Nat, ∀ i, i < 15 → (eTm i).eval args s none [] s = some (.ref (ad i).1) ∧ va_O "java/lang/String" (ad i).1 A s s.heap ∧ va_OF "java/lang/String" "coder" "B" (.int 0) (ad i).1 A s s.heap ∧ va_OF "java/lang/String" "value" "[B" (.ref (ad i).2) (ad i).1 A s s.heap ∧ va_T .byte (ad i).2 (eB i).length (fun j => .int ((eB i).getD j 0)) A s s.heap := by
  have h0 : ∀ i : Nat, ∃ q : Nat × Nat, i < 15 → (eTm i).eval args s none [] s = some (.ref q.1) ∧ va_O "java/lang/String" q.1 A s s.heap ∧ va_OF "java/lang/String" "coder" "B" (.int 0) q.1 A s s.heap ∧ va_OF "java/lang/String" "value" "[B" (.ref q.2) q.1 A s s.heap ∧ va_T .byte q.2 (eB i).length (fun j => .int ((eB i).getD j 0)) A s s.heap := by
    intro i
    by_cases hi : i < 15
    · have hb : ∀ w ∈ eSt (eTm i) (eB i), w ∈ eFL := by
        match i, hi with
        | 0, _ => exact eBk_ok eBk_0
        | 1, _ => exact eBk_ok eBk_1
        | 2, _ => exact eBk_ok eBk_2
        | 3, _ => exact eBk_ok eBk_3
        | 4, _ => exact eBk_ok eBk_4
        | 5, _ => exact eBk_ok eBk_5
        | 6, _ => exact eBk_ok eBk_6
        | 7, _ => exact eBk_ok eBk_7
        | 8, _ => exact eBk_ok eBk_8
        | 9, _ => exact eBk_ok eBk_9
        | 10, _ => exact eBk_ok eBk_10
        | 11, _ => exact eBk_ok eBk_11
        | 12, _ => exact eBk_ok eBk_12
        | 13, _ => exact eBk_ok eBk_13
        | 14, _ => exact eBk_ok eBk_14
      obtain ⟨q, hq⟩ := eSt_of (eB_lt (a := 4 + 2 * i) (by omega)) (fun w hw => hs w (hb w hw)) hA
      exact ⟨q, fun _ => hq⟩
    · exact ⟨(0, 0), fun h => absurd h hi⟩
  exact Classical.axiomOfChoice h0
end YEN
