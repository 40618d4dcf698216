/-! METHODS THAT LEAVE A FIELD ALONE; CALLS WITH WHAT THEY KEEP (by ex0.py) -/
/-- what a row puts, whom it calls; what a method does -/
def kPt (i : Instr) (an : List Nat) : List (Nat × Nat) := match i with
  | .putfield _ => (match an with
    | c :: j :: _ => [(c, j)]
    | _ => [])
  | _ => []
def kCs (i : Instr) (an : List Nat) : List Nat := match xci i an with
  | some m => [m]
  | none => []
def kSm (M : xM) : List (Nat × Nat) × List Nat := (M.2.2.2.2.1.flatMap (fun x => kPt x.2.2.1 x.2.2.2), M.2.2.2.2.1.flatMap (fun x => kCs x.2.2.1 x.2.2.2))
theorem kPt_ok {ci k : Nat} {i : Instr} {an : List Nat} (h : ∀ q ∈ kPt i an, (!(Nat.beq q.1 ci) || !(Nat.beq q.2 k)) = true) : xnp ci k i an = true := by
  cases i with
  | putfield a =>
    match an, h with
    | c :: j :: r, h => exact h (c, j) (List.mem_singleton.mpr rfl)
    | [], _ => rfl
    | [_], _ => rfl
  | _ => rfl
theorem kSm_ok {ci k : Nat} {cl : Nat → Bool} {M : xM} (h1 : (kSm M).1.all (fun q => !(Nat.beq q.1 ci) || !(Nat.beq q.2 k)) = true) (h2 : (kSm M).2.all cl = true) : xClM ci k cl M = true := by
  have h1 := List.all_eq_true.mp h1
  have h2 := List.all_eq_true.mp h2
  unfold xClM
  refine List.all_eq_true.mpr fun x hx => ?_
  rw [Bool.and_eq_true]
  refine ⟨kPt_ok fun q hq => h1 q (List.mem_flatMap.mpr ⟨x, hx, hq⟩), ?_⟩
  have h2 : ∀ m ∈ kCs x.2.2.1 x.2.2.2, cl m = true := fun m hm => h2 m (List.mem_flatMap.mpr ⟨x, hx, hm⟩)
  unfold kCs at h2
  cases e : xci x.2.2.1 x.2.2.2 with
  | none => rfl
  | some m => rw [e] at h2; exact h2 m (List.mem_singleton.mpr rfl)
noncomputable def kEq : Nat → List (List (Nat × Nat) × List Nat) → Bool
  | _, [] => true
  | m, t :: r => decide (kSm (xP m) = t) && kEq (m + 1) r
def kCk (ci k : Nat) (cl : Nat → Bool) : Nat → List (List (Nat × Nat) × List Nat) → Bool
  | _, [] => true
  | m, t :: r => (!cl m || (t.1.all (fun q => !(Nat.beq q.1 ci) || !(Nat.beq q.2 k)) && t.2.all cl)) && kCk ci k cl (m + 1) r
theorem kCk_ok {ci k : Nat} {cl : Nat → Bool} : ∀ (l : List (List (Nat × Nat) × List Nat)) (b mid : Nat), kEq b l = true → kCk ci k cl b l = true → b ≤ mid → mid < b + l.length → cl mid = true → xClM ci k cl (xP mid) = true
  | [], b, mid, _, _, h1, h2, _ => absurd h2 (by show ¬ mid < b + 0; omega)
  | t :: r, b, mid, he, hc, h1, h2, hm => by
    have he : (decide (kSm (xP b) = t) && kEq (b + 1) r) = true := he
    have hc : ((!cl b || (t.1.all (fun q => !(Nat.beq q.1 ci) || !(Nat.beq q.2 k)) && t.2.all cl)) && kCk ci k cl (b + 1) r) = true := hc
    have h2 : mid < b + (r.length + 1) := h2
    rw [Bool.and_eq_true] at he hc
    by_cases e : b = mid
    · have q1 := of_decide_eq_true he.1
      have q2 := hc.1
      rw [e] at q1 q2
      rw [hm] at q2
      have q2 : (t.1.all (fun q => !(Nat.beq q.1 ci) || !(Nat.beq q.2 k)) && t.2.all cl) = true := q2
      rw [Bool.and_eq_true, ← q1] at q2
      exact kSm_ok q2.1 q2.2
    · exact kCk_ok r (b + 1) mid he.2 hc.2 (by omega) (by omega) hm
def kTab : List (List (Nat × Nat) × List Nat) := [([(13, 0)], [121]), ([(13, 0)], [121]), ([(13, 0)], [122]), ([(13, 0)], [123]), ([(13, 0)], [124]), ([(13, 0)], [125]), ([(13, 0)], [126]), ([(13, 0)], [127]), ([(13, 0)], [128]), ([(13, 0)], [129]), ([(13, 0)], [130]), ([(13, 0)], [131]), ([(13, 0)], [132]), ([(13, 0)], [133]), ([(13, 0)], [134]), ([(13, 0)], [135]), ([(13, 0)], [136]), ([(13, 0)], [137]), ([(13, 0)], [138]), ([(13, 0)], [139]), ([(13, 0)], [140]), ([(13, 0)], [141]), ([(13, 0)], [142]), ([(13, 0)], [143]), ([(13, 0)], [144]), ([(13, 0)], [145]), ([(13, 0)], [146]), ([(13, 0)], [147]), ([(13, 0)], [148]), ([(13, 0)], [149]), ([(13, 1)], [150]), ([(13, 0)], [151]), ([(13, 0)], [152]), ([(13, 0)], [153]), ([(4, 0), (4, 1)], []), ([], []), ([], [265]), ([], [36]), ([], []), ([], [37]), ([(5, 0), (5, 1), (5, 2), (5, 3), (5, 4), (5, 5), (5, 6), (5, 7)], []), ([], []), ([], []), ([(5, 1), (5, 0)], []), ([], []), ([], []), ([], [42]), ([], [42]), ([], [164]), ([], [50]), ([], []), ([(6, 0), (6, 1), (6, 2), (6, 3), (6, 4), (6, 5), (6, 6), (6, 7), (6, 8), (6, 9)], []), ([], []), ([(6, 0)], []), ([], [52]), ([], []), ([], []), ([], []), ([], []), ([(7, 0), (7, 1), (7, 2), (7, 3), (7, 4)], []), ([], []), ([], []), ([], []), ([], []), ([], [164]), ([], [63, 64]), ([], []), ([], []), ([(8, 0), (8, 1), (8, 2)], []), ([], []), ([(8, 0)], []), ([], [163]), ([], [71, 71]), ([(8, 1)], [71]), ([], [73]), ([], []), ([(9, 0), (9, 1), (9, 2), (9, 3), (9, 4), (9, 5), (9, 6), (9, 7), (9, 8), (9, 9), (9, 10)], []), ([], []), ([(9, 0)], []), ([], []), ([], [79]), ([], [79]), ([], [81]), ([], [81, 84]), ([], [164]), ([], [82, 84, 83]), ([], [81]), ([], [164]), ([], []), ([], [82]), ([], [83]), ([], [79]), ([], [80]), ([], []), ([], [79]), ([(10, 0), (10, 1), (10, 2), (10, 3), (10, 4), (10, 5), (10, 6), (10, 7)], []), ([], []), ([], []), ([(10, 0)], []), ([], []), ([], []), ([], []), ([], []), ([], [97]), ([(11, 0), (11, 1), (11, 2), (11, 3), (11, 4)], []), ([], []), ([(11, 0)], []), ([], []), ([], [107]), ([], [107]), ([], [107]), ([], [107]), ([], [107]), ([], [107]), ([], [107, 107]), ([], [116, 109, 164, 107, 109, 107]), ([], [109]), ([], [110]), ([], [109]), ([], [117, 109]), ([(12, 0), (12, 1), (12, 2), (12, 3), (12, 4), (12, 5), (12, 6), (12, 7), (12, 8), (12, 9)], [34, 68, 95, 76, 51, 104, 59, 40]), ([], [163, 163, 35, 36]), ([], [163, 70]), ([], [69, 163, 98]), ([], [96, 97, 72, 99]), ([], [96, 102]), ([], [96, 54]), ([], [96, 69, 163, 163, 97, 167, 78, 100]), ([], [77, 81, 85, 86, 37, 37, 87, 72, 73, 88]), ([(12, 9)], [163]), ([], [96, 69, 163, 163, 168, 53]), ([], [52, 54, 96, 100]), ([], [106]), ([], [105, 165, 163, 163, 166, 108, 117, 71, 112, 117]), ([], [105, 165, 163, 166, 108, 169, 115, 166, 71, 116]), ([], [105, 165, 165, 163, 166, 166, 108, 108, 109, 72, 114, 109]), ([], [69, 163, 163, 71]), ([(7, 3), (7, 4), (7, 2), (8, 1)], [163, 163, 163, 61, 37, 62, 65, 71]), ([], [163, 163, 163, 163, 163, 163, 43]), ([(5, 2)], [42, 46, 46, 71]), ([], [41, 163, 45, 48, 71, 73]), ([(12, 8)], [163, 39, 60, 171, 74]), ([], [69, 101, 89, 90, 57, 118]), ([], [96]), ([], [77, 86, 85]), ([], [52]), ([], [105, 165, 166, 109, 110, 111]), ([], [41, 44, 45, 46, 47]), ([], [163, 163, 37, 38]), ([], [66, 91, 92, 58, 101, 75]), ([], [77, 273, 274, 275, 274, 275, 274, 275, 79, 274, 80, 274, 274, 82, 275, 274, 276]), ([], [96, 69, 167]), ([], [163, 49, 47]), ([], [69, 163, 61, 37, 62, 63, 64]), ([], [67, 119, 103, 94, 93]), ([], [149, 156, 157, 158, 159, 160, 162, 37, 152, 152, 154]), ([], [142]), ([], [143]), ([], [144]), ([], [145]), ([], [161, 161]), ([], [146]), ([], [147]), ([], []), ([], []), ([], [69]), ([], []), ([], [37]), ([], [97, 37]), ([], [110, 164, 170, 170]), ([], [113, 71]), ([], [55, 56, 72]), ([], []), ([(14, 0), (14, 1), (14, 2), (14, 3), (14, 4)], []), ([(15, 0), (15, 1), (15, 2), (15, 3), (15, 4), (15, 5), (15, 6)], []), ([], []), ([], []), ([], []), ([], [176]), ([(16, 2), (16, 5), (16, 0), (16, 1)], []), ([(17, 0), (17, 1), (17, 2), (17, 3)], []), ([], []), ([], [181]), ([], []), ([], []), ([], []), ([(18, 4), (18, 5), (18, 6), (18, 9), (18, 10), (18, 11), (18, 12), (18, 13), (18, 14), (18, 15), (18, 16), (18, 17)], [299, 299, 299, 299, 299, 299]), ([], []), ([(18, 0)], []), ([(18, 0)], [188]), ([], [183]), ([], [302, 183]), ([], [307, 296, 297]), ([], [192]), ([], [183, 183, 189, 184, 306, 192]), ([(18, 8)], [183, 189, 188]), ([], [190, 189, 183, 188, 302, 188, 179, 306, 302]), ([], [302, 304, 304]), ([(16, 4), (16, 5), (16, 1), (16, 2)], [191, 189, 304, 197, 188]), ([(16, 2)], [191, 189, 304, 304, 188, 304, 307, 296, 297, 184]), ([(16, 3), (14, 5)], [191, 189, 304, 188, 304, 197, 197, 304, 304]), ([], [184, 193, 184, 184, 184]), ([], [191, 190, 189, 183, 183, 188, 302, 197, 188, 304, 201, 174, 306, 203, 302]), ([(16, 1), (16, 2)], []), ([(15, 7), (15, 8), (15, 9), (18, 2)], [302, 183, 189, 304, 175, 188, 304, 176, 177, 193, 193]), ([(18, 4)], [183, 189]), ([], [191, 190, 189, 183, 183, 188, 304, 302, 193, 197, 188, 173, 306, 302]), ([(14, 5)], [302, 183, 189, 304, 188, 304, 304, 203]), ([], [302, 189, 180, 306, 302]), ([], [302, 183]), ([], [190]), ([], []), ([], [209, 210, 189, 183, 183, 188, 304, 211, 181, 188, 181]), ([], [209, 210, 189, 183, 188, 304, 211, 188, 304, 214, 182, 211, 181]), ([], []), ([], [209, 210, 210, 189, 183, 188, 304, 211, 211, 188]), ([], [190, 189, 183, 188, 188]), ([], [193]), ([(18, 5), (18, 6), (18, 3), (18, 2)], [183, 183, 183, 189, 217]), ([], [183, 183, 183, 183, 183, 183, 189, 302, 188, 306, 302]), ([], [304]), ([], [302, 220, 184]), ([], [302, 185, 304]), ([(18, 7)], [302, 189, 221, 188, 222, 222]), ([(18, 2)], [302, 183, 189, 183, 188, 185, 188, 304]), ([(14, 6), (14, 7)], [307, 296, 297, 304]), ([(18, 1), (18, 2)], [183, 189, 188, 225]), ([], [307, 296, 297, 184, 307, 296, 297, 178, 307, 296, 297, 184, 307, 296, 297]), ([], [190, 189, 183, 188, 227]), ([], [304, 184, 184, 197]), ([], [191, 189, 183, 188, 229]), ([], [304, 175, 177, 175, 176]), ([], [302, 183, 189, 183, 188, 231]), ([], [304, 184]), ([], [302, 183, 189, 183, 188, 233]), ([], [304]), ([], [209, 210, 189, 183, 188, 211, 235]), ([], [304, 220, 184, 185, 184]), ([], [302, 183, 189, 183, 188, 237]), ([], [183, 189, 183, 188, 193]), ([], [307, 296, 297, 184, 184, 307, 296, 297, 184, 307, 296, 297, 184, 302, 302]), ([], [183, 189, 240]), ([], [302, 183, 189, 304, 273, 275, 274, 276, 273, 274, 275, 274, 275, 274, 275, 274, 274, 276]), ([], [191, 190, 189, 304, 201]), ([], [221, 302, 222, 222, 222, 222, 222]), ([], [183, 189, 244, 222]), ([], [190, 189, 183, 188, 217]), ([], [307, 296, 297, 307, 296, 297, 181, 307, 296, 297, 304, 304]), ([(18, 0)], [247]), ([], []), ([(18, 0)], [240, 249, 227, 249, 302, 229, 249, 302, 231, 249, 302, 233, 249, 302, 235, 249, 235, 249, 302, 237, 249, 193, 184, 249, 244, 222, 249, 249, 247, 184, 249]), ([(1, 0), (1, 1), (1, 0), (1, 1)], [279]), ([], []), ([(1, 0)], [254, 310]), ([], [315]), ([(1, 0), (1, 1)], [260, 279, 278]), ([(1, 3)], [257, 267, 253, 262]), ([(1, 3)], [253, 260, 288]), ([(1, 3)], [264, 253, 260, 263, 287]), ([], []), ([], []), ([], [270, 255]), ([], [261, 268]), ([], []), ([], []), ([], []), ([], [269]), ([], [270]), ([], [270, 278]), ([(0, 1), (0, 0), (0, 0), (0, 1), (0, 1), (0, 0)], [259, 277, 260, 312, 285, 284, 312]), ([], []), ([], [319]), ([], [318]), ([], [251]), ([], [256]), ([], [258]), ([], [266]), ([], [252]), ([], [289]), ([], [280]), ([], []), ([], [283]), ([], [283]), ([], []), ([], []), ([], [286, 280, 312, 282, 286]), ([], [292, 282]), ([], [291, 290]), ([], [291, 281, 281, 281, 281]), ([], [292, 281]), ([], [281, 281, 281, 281, 281]), ([], [283, 272]), ([], [283, 271]), ([], []), ([(3, 0)], [293]), ([(2, 3), (2, 1), (2, 2)], []), ([], []), ([(2, 0), (2, 1)], [298]), ([], []), ([(3, 1)], [294]), ([(3, 1), (3, 1)], [315, 308]), ([], [300]), ([], []), ([], []), ([], [314, 303]), ([(3, 2)], [301]), ([(3, 0)], [305]), ([], [295]), ([], [309]), ([], []), ([], []), ([], []), ([], [313]), ([], [311]), ([], [317]), ([], [316]), ([], []), ([], []), ([], []), ([], [])]
theorem kTab_n : kTab.length = 320 := by decide +kernel
set_option maxRecDepth 20000 in
theorem kTab_ok : kEq 0 kTab = true := by decide +kernel
def cK12_9 (m : Nat) : Bool := Nat.blt m 320 && !([0, 9, 120, 129] : List Nat).contains m
theorem K12_9 (mid : Nat) (hm : cK12_9 mid = true) : xClM 12 9 cK12_9 (xP mid) = true := kCk_ok kTab 0 mid kTab_ok (by decide +kernel) (Nat.zero_le _) (by
  rw [kTab_n, Nat.zero_add]
  unfold cK12_9 at hm
  simp only [Bool.and_eq_true] at hm
  exact blt_lt hm.1) hm
def cK12_8 (m : Nat) : Bool := Nat.blt m 320 && !([0, 21, 120, 141] : List Nat).contains m
theorem K12_8 (mid : Nat) (hm : cK12_8 mid = true) : xClM 12 8 cK12_8 (xP mid) = true := kCk_ok kTab 0 mid kTab_ok (by decide +kernel) (Nat.zero_le _) (by
  rw [kTab_n, Nat.zero_add]
  unfold cK12_8 at hm
  simp only [Bool.and_eq_true] at hm
  exact blt_lt hm.1) hm
def cK8_0 (m : Nat) : Bool := Nat.blt m 320 && !([0, 2, 68, 70, 120, 122] : List Nat).contains m
theorem K8_0 (mid : Nat) (hm : cK8_0 mid = true) : xClM 8 0 cK8_0 (xP mid) = true := kCk_ok kTab 0 mid kTab_ok (by decide +kernel) (Nat.zero_le _) (by
  rw [kTab_n, Nat.zero_add]
  unfold cK8_0 at hm
  simp only [Bool.and_eq_true] at hm
  exact blt_lt hm.1) hm
def cK10_0 (m : Nat) : Bool := Nat.blt m 320 && !([0, 3, 95, 98, 120, 123] : List Nat).contains m
theorem K10_0 (mid : Nat) (hm : cK10_0 mid = true) : xClM 10 0 cK10_0 (xP mid) = true := kCk_ok kTab 0 mid kTab_ok (by decide +kernel) (Nat.zero_le _) (by
  rw [kTab_n, Nat.zero_add]
  unfold cK10_0 at hm
  simp only [Bool.and_eq_true] at hm
  exact blt_lt hm.1) hm
def cK9_0 (m : Nat) : Bool := Nat.blt m 320 && !([0, 7, 76, 78, 120, 127] : List Nat).contains m
theorem K9_0 (mid : Nat) (hm : cK9_0 mid = true) : xClM 9 0 cK9_0 (xP mid) = true := kCk_ok kTab 0 mid kTab_ok (by decide +kernel) (Nat.zero_le _) (by
  rw [kTab_n, Nat.zero_add]
  unfold cK9_0 at hm
  simp only [Bool.and_eq_true] at hm
  exact blt_lt hm.1) hm
def cK6_0 (m : Nat) : Bool := Nat.blt m 320 && !([0, 10, 51, 53, 120, 130] : List Nat).contains m
theorem K6_0 (mid : Nat) (hm : cK6_0 mid = true) : xClM 6 0 cK6_0 (xP mid) = true := kCk_ok kTab 0 mid kTab_ok (by decide +kernel) (Nat.zero_le _) (by
  rw [kTab_n, Nat.zero_add]
  unfold cK6_0 at hm
  simp only [Bool.and_eq_true] at hm
  exact blt_lt hm.1) hm
def cK11_0 (m : Nat) : Bool := Nat.blt m 320 && !([0, 12, 104, 106, 120, 132] : List Nat).contains m
theorem K11_0 (mid : Nat) (hm : cK11_0 mid = true) : xClM 11 0 cK11_0 (xP mid) = true := kCk_ok kTab 0 mid kTab_ok (by decide +kernel) (Nat.zero_le _) (by
  rw [kTab_n, Nat.zero_add]
  unfold cK11_0 at hm
  simp only [Bool.and_eq_true] at hm
  exact blt_lt hm.1) hm
def cK5_0 (m : Nat) : Bool := Nat.blt m 320 && !([0, 18, 40, 43, 120, 138] : List Nat).contains m
theorem K5_0 (mid : Nat) (hm : cK5_0 mid = true) : xClM 5 0 cK5_0 (xP mid) = true := kCk_ok kTab 0 mid kTab_ok (by decide +kernel) (Nat.zero_le _) (by
  rw [kTab_n, Nat.zero_add]
  unfold cK5_0 at hm
  simp only [Bool.and_eq_true] at hm
  exact blt_lt hm.1) hm
def cK18_4 (m : Nat) : Bool := Nat.blt m 320 && !([0, 186, 205] : List Nat).contains m
theorem K18_4 (mid : Nat) (hm : cK18_4 mid = true) : xClM 18 4 cK18_4 (xP mid) = true := kCk_ok kTab 0 mid kTab_ok (by decide +kernel) (Nat.zero_le _) (by
  rw [kTab_n, Nat.zero_add]
  unfold cK18_4 at hm
  simp only [Bool.and_eq_true] at hm
  exact blt_lt hm.1) hm
def cK18_1 (m : Nat) : Bool := Nat.blt m 320 && !([0, 226] : List Nat).contains m
theorem K18_1 (mid : Nat) (hm : cK18_1 mid = true) : xClM 18 1 cK18_1 (xP mid) = true := kCk_ok kTab 0 mid kTab_ok (by decide +kernel) (Nat.zero_le _) (by
  rw [kTab_n, Nat.zero_add]
  unfold cK18_1 at hm
  simp only [Bool.and_eq_true] at hm
  exact blt_lt hm.1) hm
def cK18_8 (m : Nat) : Bool := Nat.blt m 320 && !([0, 195] : List Nat).contains m
theorem K18_8 (mid : Nat) (hm : cK18_8 mid = true) : xClM 18 8 cK18_8 (xP mid) = true := kCk_ok kTab 0 mid kTab_ok (by decide +kernel) (Nat.zero_le _) (by
  rw [kTab_n, Nat.zero_add]
  unfold cK18_8 at hm
  simp only [Bool.and_eq_true] at hm
  exact blt_lt hm.1) hm
def cK3_2 (m : Nat) : Bool := Nat.blt m 320 && !([0, 194, 196, 202, 206, 208, 219, 305, 306] : List Nat).contains m
theorem K3_2 (mid : Nat) (hm : cK3_2 mid = true) : xClM 3 2 cK3_2 (xP mid) = true := kCk_ok kTab 0 mid kTab_ok (by decide +kernel) (Nat.zero_le _) (by
  rw [kTab_n, Nat.zero_add]
  unfold cK3_2 at hm
  simp only [Bool.and_eq_true] at hm
  exact blt_lt hm.1) hm
def cK18_0 (m : Nat) : Bool := Nat.blt m 320 && !([0, 188, 189, 194, 195, 196, 198, 199, 200, 202, 204, 205, 206, 207, 208, 212, 213, 215, 216, 218, 219, 223, 224, 226, 228, 230, 232, 234, 236, 238, 239, 241, 242, 243, 245, 246, 248, 250] : List Nat).contains m
theorem K18_0 (mid : Nat) (hm : cK18_0 mid = true) : xClM 18 0 cK18_0 (xP mid) = true := kCk_ok kTab 0 mid kTab_ok (by decide +kernel) (Nat.zero_le _) (by
  rw [kTab_n, Nat.zero_add]
  unfold cK18_0 at hm
  simp only [Bool.and_eq_true] at hm
  exact blt_lt hm.1) hm
def cK13_0 (m : Nat) : Bool := Nat.blt m 320 && !([0, 1, 2, 3, 4, 5, 6, 7, 8, 9, 10, 11, 12, 13, 14, 15, 16, 17, 18, 19, 20, 21, 22, 23, 24, 25, 26, 27, 28, 29, 31, 32, 33] : List Nat).contains m
theorem K13_0 (mid : Nat) (hm : cK13_0 mid = true) : xClM 13 0 cK13_0 (xP mid) = true := kCk_ok kTab 0 mid kTab_ok (by decide +kernel) (Nat.zero_le _) (by
  rw [kTab_n, Nat.zero_add]
  unfold cK13_0 at hm
  simp only [Bool.and_eq_true] at hm
  exact blt_lt hm.1) hm
def cK15_0 (m : Nat) : Bool := Nat.blt m 320 && !([0, 174, 202] : List Nat).contains m
theorem K15_0 (mid : Nat) (hm : cK15_0 mid = true) : xClM 15 0 cK15_0 (xP mid) = true := kCk_ok kTab 0 mid kTab_ok (by decide +kernel) (Nat.zero_le _) (by
  rw [kTab_n, Nat.zero_add]
  unfold cK15_0 at hm
  simp only [Bool.and_eq_true] at hm
  exact blt_lt hm.1) hm
def cK15_1 (m : Nat) : Bool := Nat.blt m 320 && !([0, 174, 202] : List Nat).contains m
theorem K15_1 (mid : Nat) (hm : cK15_1 mid = true) : xClM 15 1 cK15_1 (xP mid) = true := kCk_ok kTab 0 mid kTab_ok (by decide +kernel) (Nat.zero_le _) (by
  rw [kTab_n, Nat.zero_add]
  unfold cK15_1 at hm
  simp only [Bool.and_eq_true] at hm
  exact blt_lt hm.1) hm
def cK15_2 (m : Nat) : Bool := Nat.blt m 320 && !([0, 174, 202] : List Nat).contains m
theorem K15_2 (mid : Nat) (hm : cK15_2 mid = true) : xClM 15 2 cK15_2 (xP mid) = true := kCk_ok kTab 0 mid kTab_ok (by decide +kernel) (Nat.zero_le _) (by
  rw [kTab_n, Nat.zero_add]
  unfold cK15_2 at hm
  simp only [Bool.and_eq_true] at hm
  exact blt_lt hm.1) hm
def cK15_3 (m : Nat) : Bool := Nat.blt m 320 && !([0, 174, 202] : List Nat).contains m
theorem K15_3 (mid : Nat) (hm : cK15_3 mid = true) : xClM 15 3 cK15_3 (xP mid) = true := kCk_ok kTab 0 mid kTab_ok (by decide +kernel) (Nat.zero_le _) (by
  rw [kTab_n, Nat.zero_add]
  unfold cK15_3 at hm
  simp only [Bool.and_eq_true] at hm
  exact blt_lt hm.1) hm
def cK15_4 (m : Nat) : Bool := Nat.blt m 320 && !([0, 174, 202] : List Nat).contains m
theorem K15_4 (mid : Nat) (hm : cK15_4 mid = true) : xClM 15 4 cK15_4 (xP mid) = true := kCk_ok kTab 0 mid kTab_ok (by decide +kernel) (Nat.zero_le _) (by
  rw [kTab_n, Nat.zero_add]
  unfold cK15_4 at hm
  simp only [Bool.and_eq_true] at hm
  exact blt_lt hm.1) hm
def cK15_5 (m : Nat) : Bool := Nat.blt m 320 && !([0, 174, 202] : List Nat).contains m
theorem K15_5 (mid : Nat) (hm : cK15_5 mid = true) : xClM 15 5 cK15_5 (xP mid) = true := kCk_ok kTab 0 mid kTab_ok (by decide +kernel) (Nat.zero_le _) (by
  rw [kTab_n, Nat.zero_add]
  unfold cK15_5 at hm
  simp only [Bool.and_eq_true] at hm
  exact blt_lt hm.1) hm
def cK15_6 (m : Nat) : Bool := Nat.blt m 320 && !([0, 174, 202] : List Nat).contains m
theorem K15_6 (mid : Nat) (hm : cK15_6 mid = true) : xClM 15 6 cK15_6 (xP mid) = true := kCk_ok kTab 0 mid kTab_ok (by decide +kernel) (Nat.zero_le _) (by
  rw [kTab_n, Nat.zero_add]
  unfold cK15_6 at hm
  simp only [Bool.and_eq_true] at hm
  exact blt_lt hm.1) hm
def cK15_7 (m : Nat) : Bool := Nat.blt m 320 && !([0, 204] : List Nat).contains m
theorem K15_7 (mid : Nat) (hm : cK15_7 mid = true) : xClM 15 7 cK15_7 (xP mid) = true := kCk_ok kTab 0 mid kTab_ok (by decide +kernel) (Nat.zero_le _) (by
  rw [kTab_n, Nat.zero_add]
  unfold cK15_7 at hm
  simp only [Bool.and_eq_true] at hm
  exact blt_lt hm.1) hm
def cK15_8 (m : Nat) : Bool := Nat.blt m 320 && !([0, 204] : List Nat).contains m
theorem K15_8 (mid : Nat) (hm : cK15_8 mid = true) : xClM 15 8 cK15_8 (xP mid) = true := kCk_ok kTab 0 mid kTab_ok (by decide +kernel) (Nat.zero_le _) (by
  rw [kTab_n, Nat.zero_add]
  unfold cK15_8 at hm
  simp only [Bool.and_eq_true] at hm
  exact blt_lt hm.1) hm
def cK15_9 (m : Nat) : Bool := Nat.blt m 320 && !([0, 204] : List Nat).contains m
theorem K15_9 (mid : Nat) (hm : cK15_9 mid = true) : xClM 15 9 cK15_9 (xP mid) = true := kCk_ok kTab 0 mid kTab_ok (by decide +kernel) (Nat.zero_le _) (by
  rw [kTab_n, Nat.zero_add]
  unfold cK15_9 at hm
  simp only [Bool.and_eq_true] at hm
  exact blt_lt hm.1) hm
def cK14_2 (m : Nat) : Bool := Nat.blt m 320 && !([0, 173, 206] : List Nat).contains m
theorem K14_2 (mid : Nat) (hm : cK14_2 mid = true) : xClM 14 2 cK14_2 (xP mid) = true := kCk_ok kTab 0 mid kTab_ok (by decide +kernel) (Nat.zero_le _) (by
  rw [kTab_n, Nat.zero_add]
  unfold cK14_2 at hm
  simp only [Bool.and_eq_true] at hm
  exact blt_lt hm.1) hm
def cK14_3 (m : Nat) : Bool := Nat.blt m 320 && !([0, 173, 206] : List Nat).contains m
theorem K14_3 (mid : Nat) (hm : cK14_3 mid = true) : xClM 14 3 cK14_3 (xP mid) = true := kCk_ok kTab 0 mid kTab_ok (by decide +kernel) (Nat.zero_le _) (by
  rw [kTab_n, Nat.zero_add]
  unfold cK14_3 at hm
  simp only [Bool.and_eq_true] at hm
  exact blt_lt hm.1) hm
def cK14_4 (m : Nat) : Bool := Nat.blt m 320 && !([0, 173, 206] : List Nat).contains m
theorem K14_4 (mid : Nat) (hm : cK14_4 mid = true) : xClM 14 4 cK14_4 (xP mid) = true := kCk_ok kTab 0 mid kTab_ok (by decide +kernel) (Nat.zero_le _) (by
  rw [kTab_n, Nat.zero_add]
  unfold cK14_4 at hm
  simp only [Bool.and_eq_true] at hm
  exact blt_lt hm.1) hm
def cK14_6 (m : Nat) : Bool := Nat.blt m 320 && !([0, 225, 226] : List Nat).contains m
theorem K14_6 (mid : Nat) (hm : cK14_6 mid = true) : xClM 14 6 cK14_6 (xP mid) = true := kCk_ok kTab 0 mid kTab_ok (by decide +kernel) (Nat.zero_le _) (by
  rw [kTab_n, Nat.zero_add]
  unfold cK14_6 at hm
  simp only [Bool.and_eq_true] at hm
  exact blt_lt hm.1) hm
def cK14_7 (m : Nat) : Bool := Nat.blt m 320 && !([0, 225, 226] : List Nat).contains m
theorem K14_7 (mid : Nat) (hm : cK14_7 mid = true) : xClM 14 7 cK14_7 (xP mid) = true := kCk_ok kTab 0 mid kTab_ok (by decide +kernel) (Nat.zero_le _) (by
  rw [kTab_n, Nat.zero_add]
  unfold cK14_7 at hm
  simp only [Bool.and_eq_true] at hm
  exact blt_lt hm.1) hm
def cK3_1 (m : Nat) : Bool := Nat.blt m 320 && !([0, 186, 194, 196, 202, 206, 208, 219, 299, 300, 301, 305, 306] : List Nat).contains m
theorem K3_1 (mid : Nat) (hm : cK3_1 mid = true) : xClM 3 1 cK3_1 (xP mid) = true := kCk_ok kTab 0 mid kTab_ok (by decide +kernel) (Nat.zero_le _) (by
  rw [kTab_n, Nat.zero_add]
  unfold cK3_1 at hm
  simp only [Bool.and_eq_true] at hm
  exact blt_lt hm.1) hm
def cK16_0 (m : Nat) : Bool := Nat.blt m 320 && !([0, 179, 196] : List Nat).contains m
theorem K16_0 (mid : Nat) (hm : cK16_0 mid = true) : xClM 16 0 cK16_0 (xP mid) = true := kCk_ok kTab 0 mid kTab_ok (by decide +kernel) (Nat.zero_le _) (by
  rw [kTab_n, Nat.zero_add]
  unfold cK16_0 at hm
  simp only [Bool.and_eq_true] at hm
  exact blt_lt hm.1) hm
def cK16_1 (m : Nat) : Bool := Nat.blt m 320 && !([0, 179, 196, 198, 202, 203, 207] : List Nat).contains m
theorem K16_1 (mid : Nat) (hm : cK16_1 mid = true) : xClM 16 1 cK16_1 (xP mid) = true := kCk_ok kTab 0 mid kTab_ok (by decide +kernel) (Nat.zero_le _) (by
  rw [kTab_n, Nat.zero_add]
  unfold cK16_1 at hm
  simp only [Bool.and_eq_true] at hm
  exact blt_lt hm.1) hm
def cK16_2 (m : Nat) : Bool := Nat.blt m 320 && !([0, 179, 196, 198, 199, 202, 203, 207] : List Nat).contains m
theorem K16_2 (mid : Nat) (hm : cK16_2 mid = true) : xClM 16 2 cK16_2 (xP mid) = true := kCk_ok kTab 0 mid kTab_ok (by decide +kernel) (Nat.zero_le _) (by
  rw [kTab_n, Nat.zero_add]
  unfold cK16_2 at hm
  simp only [Bool.and_eq_true] at hm
  exact blt_lt hm.1) hm
def cK16_3 (m : Nat) : Bool := Nat.blt m 320 && !([0, 200] : List Nat).contains m
theorem K16_3 (mid : Nat) (hm : cK16_3 mid = true) : xClM 16 3 cK16_3 (xP mid) = true := kCk_ok kTab 0 mid kTab_ok (by decide +kernel) (Nat.zero_le _) (by
  rw [kTab_n, Nat.zero_add]
  unfold cK16_3 at hm
  simp only [Bool.and_eq_true] at hm
  exact blt_lt hm.1) hm
def cK16_4 (m : Nat) : Bool := Nat.blt m 320 && !([0, 198] : List Nat).contains m
theorem K16_4 (mid : Nat) (hm : cK16_4 mid = true) : xClM 16 4 cK16_4 (xP mid) = true := kCk_ok kTab 0 mid kTab_ok (by decide +kernel) (Nat.zero_le _) (by
  rw [kTab_n, Nat.zero_add]
  unfold cK16_4 at hm
  simp only [Bool.and_eq_true] at hm
  exact blt_lt hm.1) hm
def cK16_5 (m : Nat) : Bool := Nat.blt m 320 && !([0, 179, 196, 198] : List Nat).contains m
theorem K16_5 (mid : Nat) (hm : cK16_5 mid = true) : xClM 16 5 cK16_5 (xP mid) = true := kCk_ok kTab 0 mid kTab_ok (by decide +kernel) (Nat.zero_le _) (by
  rw [kTab_n, Nat.zero_add]
  unfold cK16_5 at hm
  simp only [Bool.and_eq_true] at hm
  exact blt_lt hm.1) hm
def cK14_0 (m : Nat) : Bool := Nat.blt m 320 && !([0, 173, 206] : List Nat).contains m
theorem K14_0 (mid : Nat) (hm : cK14_0 mid = true) : xClM 14 0 cK14_0 (xP mid) = true := kCk_ok kTab 0 mid kTab_ok (by decide +kernel) (Nat.zero_le _) (by
  rw [kTab_n, Nat.zero_add]
  unfold cK14_0 at hm
  simp only [Bool.and_eq_true] at hm
  exact blt_lt hm.1) hm
def cK14_1 (m : Nat) : Bool := Nat.blt m 320 && !([0, 173, 206] : List Nat).contains m
theorem K14_1 (mid : Nat) (hm : cK14_1 mid = true) : xClM 14 1 cK14_1 (xP mid) = true := kCk_ok kTab 0 mid kTab_ok (by decide +kernel) (Nat.zero_le _) (by
  rw [kTab_n, Nat.zero_add]
  unfold cK14_1 at hm
  simp only [Bool.and_eq_true] at hm
  exact blt_lt hm.1) hm
def cK14_5 (m : Nat) : Bool := Nat.blt m 320 && !([0, 200, 207] : List Nat).contains m
theorem K14_5 (mid : Nat) (hm : cK14_5 mid = true) : xClM 14 5 cK14_5 (xP mid) = true := kCk_ok kTab 0 mid kTab_ok (by decide +kernel) (Nat.zero_le _) (by
  rw [kTab_n, Nat.zero_add]
  unfold cK14_5 at hm
  simp only [Bool.and_eq_true] at hm
  exact blt_lt hm.1) hm
def kCl (ci k m : Nat) : Bool := if ci = 12 ∧ k = 9 then cK12_9 m else if ci = 12 ∧ k = 8 then cK12_8 m else if ci = 8 ∧ k = 0 then cK8_0 m else if ci = 10 ∧ k = 0 then cK10_0 m else if ci = 9 ∧ k = 0 then cK9_0 m else if ci = 6 ∧ k = 0 then cK6_0 m else if ci = 11 ∧ k = 0 then cK11_0 m else if ci = 5 ∧ k = 0 then cK5_0 m else if ci = 18 ∧ k = 4 then cK18_4 m else if ci = 18 ∧ k = 1 then cK18_1 m else if ci = 18 ∧ k = 8 then cK18_8 m else if ci = 3 ∧ k = 2 then cK3_2 m else if ci = 18 ∧ k = 0 then cK18_0 m else if ci = 13 ∧ k = 0 then cK13_0 m else if ci = 15 ∧ k = 0 then cK15_0 m else if ci = 15 ∧ k = 1 then cK15_1 m else if ci = 15 ∧ k = 2 then cK15_2 m else if ci = 15 ∧ k = 3 then cK15_3 m else if ci = 15 ∧ k = 4 then cK15_4 m else if ci = 15 ∧ k = 5 then cK15_5 m else if ci = 15 ∧ k = 6 then cK15_6 m else if ci = 15 ∧ k = 7 then cK15_7 m else if ci = 15 ∧ k = 8 then cK15_8 m else if ci = 15 ∧ k = 9 then cK15_9 m else if ci = 14 ∧ k = 2 then cK14_2 m else if ci = 14 ∧ k = 3 then cK14_3 m else if ci = 14 ∧ k = 4 then cK14_4 m else if ci = 14 ∧ k = 6 then cK14_6 m else if ci = 14 ∧ k = 7 then cK14_7 m else if ci = 3 ∧ k = 1 then cK3_1 m else if ci = 16 ∧ k = 0 then cK16_0 m else if ci = 16 ∧ k = 1 then cK16_1 m else if ci = 16 ∧ k = 2 then cK16_2 m else if ci = 16 ∧ k = 3 then cK16_3 m else if ci = 16 ∧ k = 4 then cK16_4 m else if ci = 16 ∧ k = 5 then cK16_5 m else if ci = 14 ∧ k = 0 then cK14_0 m else if ci = 14 ∧ k = 1 then cK14_1 m else if ci = 14 ∧ k = 5 then cK14_5 m else false
theorem kT (ci k mid : Nat) (h : kCl ci k mid = true) : xClM ci k (kCl ci k) (xP mid) = true := by
  by_cases h0 : ci = 12 ∧ k = 9
  · have e : kCl ci k = cK12_9 := funext fun m => by unfold kCl; rw [if_pos h0]
    rw [e] at h ⊢
    rw [h0.1, h0.2]
    exact K12_9 mid h
  by_cases h1 : ci = 12 ∧ k = 8
  · have e : kCl ci k = cK12_8 := funext fun m => by unfold kCl; rw [if_neg h0, if_pos h1]
    rw [e] at h ⊢
    rw [h1.1, h1.2]
    exact K12_8 mid h
  by_cases h2 : ci = 8 ∧ k = 0
  · have e : kCl ci k = cK8_0 := funext fun m => by unfold kCl; rw [if_neg h0, if_neg h1, if_pos h2]
    rw [e] at h ⊢
    rw [h2.1, h2.2]
    exact K8_0 mid h
  by_cases h3 : ci = 10 ∧ k = 0
  · have e : kCl ci k = cK10_0 := funext fun m => by unfold kCl; rw [if_neg h0, if_neg h1, if_neg h2, if_pos h3]
    rw [e] at h ⊢
    rw [h3.1, h3.2]
    exact K10_0 mid h
  by_cases h4 : ci = 9 ∧ k = 0
  · have e : kCl ci k = cK9_0 := funext fun m => by unfold kCl; rw [if_neg h0, if_neg h1, if_neg h2, if_neg h3, if_pos h4]
    rw [e] at h ⊢
    rw [h4.1, h4.2]
    exact K9_0 mid h
  by_cases h5 : ci = 6 ∧ k = 0
  · have e : kCl ci k = cK6_0 := funext fun m => by unfold kCl; rw [if_neg h0, if_neg h1, if_neg h2, if_neg h3, if_neg h4, if_pos h5]
    rw [e] at h ⊢
    rw [h5.1, h5.2]
    exact K6_0 mid h
  by_cases h6 : ci = 11 ∧ k = 0
  · have e : kCl ci k = cK11_0 := funext fun m => by unfold kCl; rw [if_neg h0, if_neg h1, if_neg h2, if_neg h3, if_neg h4, if_neg h5, if_pos h6]
    rw [e] at h ⊢
    rw [h6.1, h6.2]
    exact K11_0 mid h
  by_cases h7 : ci = 5 ∧ k = 0
  · have e : kCl ci k = cK5_0 := funext fun m => by unfold kCl; rw [if_neg h0, if_neg h1, if_neg h2, if_neg h3, if_neg h4, if_neg h5, if_neg h6, if_pos h7]
    rw [e] at h ⊢
    rw [h7.1, h7.2]
    exact K5_0 mid h
  by_cases h8 : ci = 18 ∧ k = 4
  · have e : kCl ci k = cK18_4 := funext fun m => by unfold kCl; rw [if_neg h0, if_neg h1, if_neg h2, if_neg h3, if_neg h4, if_neg h5, if_neg h6, if_neg h7, if_pos h8]
    rw [e] at h ⊢
    rw [h8.1, h8.2]
    exact K18_4 mid h
  by_cases h9 : ci = 18 ∧ k = 1
  · have e : kCl ci k = cK18_1 := funext fun m => by unfold kCl; rw [if_neg h0, if_neg h1, if_neg h2, if_neg h3, if_neg h4, if_neg h5, if_neg h6, if_neg h7, if_neg h8, if_pos h9]
    rw [e] at h ⊢
    rw [h9.1, h9.2]
    exact K18_1 mid h
  by_cases h10 : ci = 18 ∧ k = 8
  · have e : kCl ci k = cK18_8 := funext fun m => by unfold kCl; rw [if_neg h0, if_neg h1, if_neg h2, if_neg h3, if_neg h4, if_neg h5, if_neg h6, if_neg h7, if_neg h8, if_neg h9, if_pos h10]
    rw [e] at h ⊢
    rw [h10.1, h10.2]
    exact K18_8 mid h
  by_cases h11 : ci = 3 ∧ k = 2
  · have e : kCl ci k = cK3_2 := funext fun m => by unfold kCl; rw [if_neg h0, if_neg h1, if_neg h2, if_neg h3, if_neg h4, if_neg h5, if_neg h6, if_neg h7, if_neg h8, if_neg h9, if_neg h10, if_pos h11]
    rw [e] at h ⊢
    rw [h11.1, h11.2]
    exact K3_2 mid h
  by_cases h12 : ci = 18 ∧ k = 0
  · have e : kCl ci k = cK18_0 := funext fun m => by unfold kCl; rw [if_neg h0, if_neg h1, if_neg h2, if_neg h3, if_neg h4, if_neg h5, if_neg h6, if_neg h7, if_neg h8, if_neg h9, if_neg h10, if_neg h11, if_pos h12]
    rw [e] at h ⊢
    rw [h12.1, h12.2]
    exact K18_0 mid h
  by_cases h13 : ci = 13 ∧ k = 0
  · have e : kCl ci k = cK13_0 := funext fun m => by unfold kCl; rw [if_neg h0, if_neg h1, if_neg h2, if_neg h3, if_neg h4, if_neg h5, if_neg h6, if_neg h7, if_neg h8, if_neg h9, if_neg h10, if_neg h11, if_neg h12, if_pos h13]
    rw [e] at h ⊢
    rw [h13.1, h13.2]
    exact K13_0 mid h
  by_cases h14 : ci = 15 ∧ k = 0
  · have e : kCl ci k = cK15_0 := funext fun m => by unfold kCl; rw [if_neg h0, if_neg h1, if_neg h2, if_neg h3, if_neg h4, if_neg h5, if_neg h6, if_neg h7, if_neg h8, if_neg h9, if_neg h10, if_neg h11, if_neg h12, if_neg h13, if_pos h14]
    rw [e] at h ⊢
    rw [h14.1, h14.2]
    exact K15_0 mid h
  by_cases h15 : ci = 15 ∧ k = 1
  · have e : kCl ci k = cK15_1 := funext fun m => by unfold kCl; rw [if_neg h0, if_neg h1, if_neg h2, if_neg h3, if_neg h4, if_neg h5, if_neg h6, if_neg h7, if_neg h8, if_neg h9, if_neg h10, if_neg h11, if_neg h12, if_neg h13, if_neg h14, if_pos h15]
    rw [e] at h ⊢
    rw [h15.1, h15.2]
    exact K15_1 mid h
  by_cases h16 : ci = 15 ∧ k = 2
  · have e : kCl ci k = cK15_2 := funext fun m => by unfold kCl; rw [if_neg h0, if_neg h1, if_neg h2, if_neg h3, if_neg h4, if_neg h5, if_neg h6, if_neg h7, if_neg h8, if_neg h9, if_neg h10, if_neg h11, if_neg h12, if_neg h13, if_neg h14, if_neg h15, if_pos h16]
    rw [e] at h ⊢
    rw [h16.1, h16.2]
    exact K15_2 mid h
  by_cases h17 : ci = 15 ∧ k = 3
  · have e : kCl ci k = cK15_3 := funext fun m => by unfold kCl; rw [if_neg h0, if_neg h1, if_neg h2, if_neg h3, if_neg h4, if_neg h5, if_neg h6, if_neg h7, if_neg h8, if_neg h9, if_neg h10, if_neg h11, if_neg h12, if_neg h13, if_neg h14, if_neg h15, if_neg h16, if_pos h17]
    rw [e] at h ⊢
    rw [h17.1, h17.2]
    exact K15_3 mid h
  by_cases h18 : ci = 15 ∧ k = 4
  · have e : kCl ci k = cK15_4 := funext fun m => by unfold kCl; rw [if_neg h0, if_neg h1, if_neg h2, if_neg h3, if_neg h4, if_neg h5, if_neg h6, if_neg h7, if_neg h8, if_neg h9, if_neg h10, if_neg h11, if_neg h12, if_neg h13, if_neg h14, if_neg h15, if_neg h16, if_neg h17, if_pos h18]
    rw [e] at h ⊢
    rw [h18.1, h18.2]
    exact K15_4 mid h
  by_cases h19 : ci = 15 ∧ k = 5
  · have e : kCl ci k = cK15_5 := funext fun m => by unfold kCl; rw [if_neg h0, if_neg h1, if_neg h2, if_neg h3, if_neg h4, if_neg h5, if_neg h6, if_neg h7, if_neg h8, if_neg h9, if_neg h10, if_neg h11, if_neg h12, if_neg h13, if_neg h14, if_neg h15, if_neg h16, if_neg h17, if_neg h18, if_pos h19]
    rw [e] at h ⊢
    rw [h19.1, h19.2]
    exact K15_5 mid h
  by_cases h20 : ci = 15 ∧ k = 6
  · have e : kCl ci k = cK15_6 := funext fun m => by unfold kCl; rw [if_neg h0, if_neg h1, if_neg h2, if_neg h3, if_neg h4, if_neg h5, if_neg h6, if_neg h7, if_neg h8, if_neg h9, if_neg h10, if_neg h11, if_neg h12, if_neg h13, if_neg h14, if_neg h15, if_neg h16, if_neg h17, if_neg h18, if_neg h19, if_pos h20]
    rw [e] at h ⊢
    rw [h20.1, h20.2]
    exact K15_6 mid h
  by_cases h21 : ci = 15 ∧ k = 7
  · have e : kCl ci k = cK15_7 := funext fun m => by unfold kCl; rw [if_neg h0, if_neg h1, if_neg h2, if_neg h3, if_neg h4, if_neg h5, if_neg h6, if_neg h7, if_neg h8, if_neg h9, if_neg h10, if_neg h11, if_neg h12, if_neg h13, if_neg h14, if_neg h15, if_neg h16, if_neg h17, if_neg h18, if_neg h19, if_neg h20, if_pos h21]
    rw [e] at h ⊢
    rw [h21.1, h21.2]
    exact K15_7 mid h
  by_cases h22 : ci = 15 ∧ k = 8
  · have e : kCl ci k = cK15_8 := funext fun m => by unfold kCl; rw [if_neg h0, if_neg h1, if_neg h2, if_neg h3, if_neg h4, if_neg h5, if_neg h6, if_neg h7, if_neg h8, if_neg h9, if_neg h10, if_neg h11, if_neg h12, if_neg h13, if_neg h14, if_neg h15, if_neg h16, if_neg h17, if_neg h18, if_neg h19, if_neg h20, if_neg h21, if_pos h22]
    rw [e] at h ⊢
    rw [h22.1, h22.2]
    exact K15_8 mid h
  by_cases h23 : ci = 15 ∧ k = 9
  · have e : kCl ci k = cK15_9 := funext fun m => by unfold kCl; rw [if_neg h0, if_neg h1, if_neg h2, if_neg h3, if_neg h4, if_neg h5, if_neg h6, if_neg h7, if_neg h8, if_neg h9, if_neg h10, if_neg h11, if_neg h12, if_neg h13, if_neg h14, if_neg h15, if_neg h16, if_neg h17, if_neg h18, if_neg h19, if_neg h20, if_neg h21, if_neg h22, if_pos h23]
    rw [e] at h ⊢
    rw [h23.1, h23.2]
    exact K15_9 mid h
  by_cases h24 : ci = 14 ∧ k = 2
  · have e : kCl ci k = cK14_2 := funext fun m => by unfold kCl; rw [if_neg h0, if_neg h1, if_neg h2, if_neg h3, if_neg h4, if_neg h5, if_neg h6, if_neg h7, if_neg h8, if_neg h9, if_neg h10, if_neg h11, if_neg h12, if_neg h13, if_neg h14, if_neg h15, if_neg h16, if_neg h17, if_neg h18, if_neg h19, if_neg h20, if_neg h21, if_neg h22, if_neg h23, if_pos h24]
    rw [e] at h ⊢
    rw [h24.1, h24.2]
    exact K14_2 mid h
  by_cases h25 : ci = 14 ∧ k = 3
  · have e : kCl ci k = cK14_3 := funext fun m => by unfold kCl; rw [if_neg h0, if_neg h1, if_neg h2, if_neg h3, if_neg h4, if_neg h5, if_neg h6, if_neg h7, if_neg h8, if_neg h9, if_neg h10, if_neg h11, if_neg h12, if_neg h13, if_neg h14, if_neg h15, if_neg h16, if_neg h17, if_neg h18, if_neg h19, if_neg h20, if_neg h21, if_neg h22, if_neg h23, if_neg h24, if_pos h25]
    rw [e] at h ⊢
    rw [h25.1, h25.2]
    exact K14_3 mid h
  by_cases h26 : ci = 14 ∧ k = 4
  · have e : kCl ci k = cK14_4 := funext fun m => by unfold kCl; rw [if_neg h0, if_neg h1, if_neg h2, if_neg h3, if_neg h4, if_neg h5, if_neg h6, if_neg h7, if_neg h8, if_neg h9, if_neg h10, if_neg h11, if_neg h12, if_neg h13, if_neg h14, if_neg h15, if_neg h16, if_neg h17, if_neg h18, if_neg h19, if_neg h20, if_neg h21, if_neg h22, if_neg h23, if_neg h24, if_neg h25, if_pos h26]
    rw [e] at h ⊢
    rw [h26.1, h26.2]
    exact K14_4 mid h
  by_cases h27 : ci = 14 ∧ k = 6
  · have e : kCl ci k = cK14_6 := funext fun m => by unfold kCl; rw [if_neg h0, if_neg h1, if_neg h2, if_neg h3, if_neg h4, if_neg h5, if_neg h6, if_neg h7, if_neg h8, if_neg h9, if_neg h10, if_neg h11, if_neg h12, if_neg h13, if_neg h14, if_neg h15, if_neg h16, if_neg h17, if_neg h18, if_neg h19, if_neg h20, if_neg h21, if_neg h22, if_neg h23, if_neg h24, if_neg h25, if_neg h26, if_pos h27]
    rw [e] at h ⊢
    rw [h27.1, h27.2]
    exact K14_6 mid h
  by_cases h28 : ci = 14 ∧ k = 7
  · have e : kCl ci k = cK14_7 := funext fun m => by unfold kCl; rw [if_neg h0, if_neg h1, if_neg h2, if_neg h3, if_neg h4, if_neg h5, if_neg h6, if_neg h7, if_neg h8, if_neg h9, if_neg h10, if_neg h11, if_neg h12, if_neg h13, if_neg h14, if_neg h15, if_neg h16, if_neg h17, if_neg h18, if_neg h19, if_neg h20, if_neg h21, if_neg h22, if_neg h23, if_neg h24, if_neg h25, if_neg h26, if_neg h27, if_pos h28]
    rw [e] at h ⊢
    rw [h28.1, h28.2]
    exact K14_7 mid h
  by_cases h29 : ci = 3 ∧ k = 1
  · have e : kCl ci k = cK3_1 := funext fun m => by unfold kCl; rw [if_neg h0, if_neg h1, if_neg h2, if_neg h3, if_neg h4, if_neg h5, if_neg h6, if_neg h7, if_neg h8, if_neg h9, if_neg h10, if_neg h11, if_neg h12, if_neg h13, if_neg h14, if_neg h15, if_neg h16, if_neg h17, if_neg h18, if_neg h19, if_neg h20, if_neg h21, if_neg h22, if_neg h23, if_neg h24, if_neg h25, if_neg h26, if_neg h27, if_neg h28, if_pos h29]
    rw [e] at h ⊢
    rw [h29.1, h29.2]
    exact K3_1 mid h
  by_cases h30 : ci = 16 ∧ k = 0
  · have e : kCl ci k = cK16_0 := funext fun m => by unfold kCl; rw [if_neg h0, if_neg h1, if_neg h2, if_neg h3, if_neg h4, if_neg h5, if_neg h6, if_neg h7, if_neg h8, if_neg h9, if_neg h10, if_neg h11, if_neg h12, if_neg h13, if_neg h14, if_neg h15, if_neg h16, if_neg h17, if_neg h18, if_neg h19, if_neg h20, if_neg h21, if_neg h22, if_neg h23, if_neg h24, if_neg h25, if_neg h26, if_neg h27, if_neg h28, if_neg h29, if_pos h30]
    rw [e] at h ⊢
    rw [h30.1, h30.2]
    exact K16_0 mid h
  by_cases h31 : ci = 16 ∧ k = 1
  · have e : kCl ci k = cK16_1 := funext fun m => by unfold kCl; rw [if_neg h0, if_neg h1, if_neg h2, if_neg h3, if_neg h4, if_neg h5, if_neg h6, if_neg h7, if_neg h8, if_neg h9, if_neg h10, if_neg h11, if_neg h12, if_neg h13, if_neg h14, if_neg h15, if_neg h16, if_neg h17, if_neg h18, if_neg h19, if_neg h20, if_neg h21, if_neg h22, if_neg h23, if_neg h24, if_neg h25, if_neg h26, if_neg h27, if_neg h28, if_neg h29, if_neg h30, if_pos h31]
    rw [e] at h ⊢
    rw [h31.1, h31.2]
    exact K16_1 mid h
  by_cases h32 : ci = 16 ∧ k = 2
  · have e : kCl ci k = cK16_2 := funext fun m => by unfold kCl; rw [if_neg h0, if_neg h1, if_neg h2, if_neg h3, if_neg h4, if_neg h5, if_neg h6, if_neg h7, if_neg h8, if_neg h9, if_neg h10, if_neg h11, if_neg h12, if_neg h13, if_neg h14, if_neg h15, if_neg h16, if_neg h17, if_neg h18, if_neg h19, if_neg h20, if_neg h21, if_neg h22, if_neg h23, if_neg h24, if_neg h25, if_neg h26, if_neg h27, if_neg h28, if_neg h29, if_neg h30, if_neg h31, if_pos h32]
    rw [e] at h ⊢
    rw [h32.1, h32.2]
    exact K16_2 mid h
  by_cases h33 : ci = 16 ∧ k = 3
  · have e : kCl ci k = cK16_3 := funext fun m => by unfold kCl; rw [if_neg h0, if_neg h1, if_neg h2, if_neg h3, if_neg h4, if_neg h5, if_neg h6, if_neg h7, if_neg h8, if_neg h9, if_neg h10, if_neg h11, if_neg h12, if_neg h13, if_neg h14, if_neg h15, if_neg h16, if_neg h17, if_neg h18, if_neg h19, if_neg h20, if_neg h21, if_neg h22, if_neg h23, if_neg h24, if_neg h25, if_neg h26, if_neg h27, if_neg h28, if_neg h29, if_neg h30, if_neg h31, if_neg h32, if_pos h33]
    rw [e] at h ⊢
    rw [h33.1, h33.2]
    exact K16_3 mid h
  by_cases h34 : ci = 16 ∧ k = 4
  · have e : kCl ci k = cK16_4 := funext fun m => by unfold kCl; rw [if_neg h0, if_neg h1, if_neg h2, if_neg h3, if_neg h4, if_neg h5, if_neg h6, if_neg h7, if_neg h8, if_neg h9, if_neg h10, if_neg h11, if_neg h12, if_neg h13, if_neg h14, if_neg h15, if_neg h16, if_neg h17, if_neg h18, if_neg h19, if_neg h20, if_neg h21, if_neg h22, if_neg h23, if_neg h24, if_neg h25, if_neg h26, if_neg h27, if_neg h28, if_neg h29, if_neg h30, if_neg h31, if_neg h32, if_neg h33, if_pos h34]
    rw [e] at h ⊢
    rw [h34.1, h34.2]
    exact K16_4 mid h
  by_cases h35 : ci = 16 ∧ k = 5
  · have e : kCl ci k = cK16_5 := funext fun m => by unfold kCl; rw [if_neg h0, if_neg h1, if_neg h2, if_neg h3, if_neg h4, if_neg h5, if_neg h6, if_neg h7, if_neg h8, if_neg h9, if_neg h10, if_neg h11, if_neg h12, if_neg h13, if_neg h14, if_neg h15, if_neg h16, if_neg h17, if_neg h18, if_neg h19, if_neg h20, if_neg h21, if_neg h22, if_neg h23, if_neg h24, if_neg h25, if_neg h26, if_neg h27, if_neg h28, if_neg h29, if_neg h30, if_neg h31, if_neg h32, if_neg h33, if_neg h34, if_pos h35]
    rw [e] at h ⊢
    rw [h35.1, h35.2]
    exact K16_5 mid h
  by_cases h36 : ci = 14 ∧ k = 0
  · have e : kCl ci k = cK14_0 := funext fun m => by unfold kCl; rw [if_neg h0, if_neg h1, if_neg h2, if_neg h3, if_neg h4, if_neg h5, if_neg h6, if_neg h7, if_neg h8, if_neg h9, if_neg h10, if_neg h11, if_neg h12, if_neg h13, if_neg h14, if_neg h15, if_neg h16, if_neg h17, if_neg h18, if_neg h19, if_neg h20, if_neg h21, if_neg h22, if_neg h23, if_neg h24, if_neg h25, if_neg h26, if_neg h27, if_neg h28, if_neg h29, if_neg h30, if_neg h31, if_neg h32, if_neg h33, if_neg h34, if_neg h35, if_pos h36]
    rw [e] at h ⊢
    rw [h36.1, h36.2]
    exact K14_0 mid h
  by_cases h37 : ci = 14 ∧ k = 1
  · have e : kCl ci k = cK14_1 := funext fun m => by unfold kCl; rw [if_neg h0, if_neg h1, if_neg h2, if_neg h3, if_neg h4, if_neg h5, if_neg h6, if_neg h7, if_neg h8, if_neg h9, if_neg h10, if_neg h11, if_neg h12, if_neg h13, if_neg h14, if_neg h15, if_neg h16, if_neg h17, if_neg h18, if_neg h19, if_neg h20, if_neg h21, if_neg h22, if_neg h23, if_neg h24, if_neg h25, if_neg h26, if_neg h27, if_neg h28, if_neg h29, if_neg h30, if_neg h31, if_neg h32, if_neg h33, if_neg h34, if_neg h35, if_neg h36, if_pos h37]
    rw [e] at h ⊢
    rw [h37.1, h37.2]
    exact K14_1 mid h
  by_cases h38 : ci = 14 ∧ k = 5
  · have e : kCl ci k = cK14_5 := funext fun m => by unfold kCl; rw [if_neg h0, if_neg h1, if_neg h2, if_neg h3, if_neg h4, if_neg h5, if_neg h6, if_neg h7, if_neg h8, if_neg h9, if_neg h10, if_neg h11, if_neg h12, if_neg h13, if_neg h14, if_neg h15, if_neg h16, if_neg h17, if_neg h18, if_neg h19, if_neg h20, if_neg h21, if_neg h22, if_neg h23, if_neg h24, if_neg h25, if_neg h26, if_neg h27, if_neg h28, if_neg h29, if_neg h30, if_neg h31, if_neg h32, if_neg h33, if_neg h34, if_neg h35, if_neg h36, if_neg h37, if_pos h38]
    rw [e] at h ⊢
    rw [h38.1, h38.2]
    exact K14_5 mid h
  unfold kCl at h
  rw [if_neg h0, if_neg h1, if_neg h2, if_neg h3, if_neg h4, if_neg h5, if_neg h6, if_neg h7, if_neg h8, if_neg h9, if_neg h10, if_neg h11, if_neg h12, if_neg h13, if_neg h14, if_neg h15, if_neg h16, if_neg h17, if_neg h18, if_neg h19, if_neg h20, if_neg h21, if_neg h22, if_neg h23, if_neg h24, if_neg h25, if_neg h26, if_neg h27, if_neg h28, if_neg h29, if_neg h30, if_neg h31, if_neg h32, if_neg h33, if_neg h34, if_neg h35, if_neg h36, if_neg h37, if_neg h38] at h
  cases h
/-- the fields (class, place, object) of a list stay -/
def yKeep : List (Nat × Nat × Nat) → (Nat → Nat → Int32) → (Nat → Nat → Int32) → Prop
  | [], _, _ => True
  | (_, k, a) :: r, I, I' => I' a k = I a k ∧ yKeep r I I'
def kOk (mid : Nat) : Nat × Nat × Nat → Bool
  | (ci, k, a) => kCl ci k mid && (decide (yt0 a = some (ci + 4, 0)) && (Nat.blt k (yN ci) && yI ci k))
theorem xFrm.fldR {ci k a z z' n n' : Nat} {tg tg' : Nat → yT} {I I' : Nat → Nat → Int32} {R R' : Nat → Nat → Value} (h : xFrm ci k (yH (n, tg, I, R)) (yH (n', tg', I', R'))) (ha : a < n) (ht : tg a = (ci + 4, z)) (ht' : tg' a = (ci + 4, z')) (hN : Nat.blt k (yN ci) = true) (hi : yI ci k = false) : R' a k = R a k := by
  obtain ⟨fs', e1, e2⟩ := h.2 a _ ha (yH_obj ht)
  rw [yH_obj ht'] at e1
  cases e1
  rw [yFs_get (blt_lt hN), yFs_get (blt_lt hN), if_neg (by rw [hi]; decide), if_neg (by rw [hi]; decide)] at e2
  exact Option.some.inj e2
/-- a call that keeps fields of known objects, and what Out.n is -/
theorem yC.keep {mid n : Nat} {as : List Value} {tg : Nat → yT} {I : Nat → Nat → Int32} {R : Nat → Nat → Value} {c s : Nat} {Q : yQ} (L : List (Nat × Nat × Nat)) (hL : L.all (kOk mid) = true) (hO : kCl 13 0 mid = true) (hS : ySh n tg R)
    (h : yC mid as (n, tg, I, R) c s (fun o w' c' s' => ySh w'.1 w'.2.1 w'.2.2.2 ∧ (yKeep L I w'.2.2.1 → w'.2.2.2 93 0 = R 93 0 → Q o w' c' s'))) : yC mid as (n, tg, I, R) c s Q := by
  obtain ⟨m, o, w', c', s', e, hq, hk⟩ := h
  have key : ∀ L' : List (Nat × Nat × Nat), L'.all (kOk mid) = true → yKeep L' I w'.2.2.1 := by
    intro L'
    induction L' with
    | nil => intro _; trivial
    | cons q r ih =>
      intro hL'
      rw [List.all_cons, Bool.and_eq_true] at hL'
      obtain ⟨h1, h2⟩ := hL'
      obtain ⟨ci, k, a⟩ := q
      have h1 : (kCl ci k mid && (decide (yt0 a = some (ci + 4, 0)) && (Nat.blt k (yN ci) && yI ci k))) = true := h1
      simp only [Bool.and_eq_true] at h1
      obtain ⟨h1, h3, h4, h5⟩ := h1
      have h3 := of_decide_eq_true h3
      have h6 : a < 94 := by
        by_cases hl : a < 94
        · exact hl
        · exfalso
          have : yt0L.getD a none = some (ci + 4, 0) := h3
          rw [List.getD_eq_getElem?_getD, List.getElem?_eq_none (by show 94 ≤ _; omega)] at this
          cases this
      exact ⟨xFrm.fld (n' := w'.1) (tg' := w'.2.1) (I' := w'.2.2.1) (R' := w'.2.2.2) (xcall_frm (kT _ _) m m mid as _ _ _ _ _ h1 e) (hS.n (Nat.ble_eq_true_of_le h6)) (hS.t h3) (hq.t h3) h4 h5, ih h2⟩
  refine ⟨m, o, w', c', s', e, hk (key L hL) ?_⟩
  exact xFrm.fldR (n' := w'.1) (tg' := w'.2.1) (I' := w'.2.2.1) (R' := w'.2.2.2) (xcall_frm (kT 13 0) m m mid as _ _ _ _ _ hO e) (hS.n rfl) (hS.t rfl) (hq.t rfl) rfl rfl
