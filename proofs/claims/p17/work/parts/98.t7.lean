/-! METHODS THAT LEAVE A FIELD ALONE; CALLS WITH WHAT THEY KEEP (by ex0.py) -/
/-- what a row puts, whom it calls; what a method does -/
def kPtQ (i : Instr) (an : List Nat) : List (Nat × Nat) := match i with
  | .putfield _ => (match an with
    | c :: j :: _ => [(c, j)]
    | _ => [])
  | _ => []
def kCsQ (i : Instr) (an : List Nat) : List Nat := match xci i an with
  | some m => [m]
  | none => []
def kSmQ (M : xM) : List (Nat × Nat) × List Nat := (M.2.2.2.2.1.flatMap (fun x => kPtQ x.2.2.1 x.2.2.2), M.2.2.2.2.1.flatMap (fun x => kCsQ x.2.2.1 x.2.2.2))
theorem kPt_okQ {ci k : Nat} {i : Instr} {an : List Nat} (h : ∀ q ∈ kPtQ i an, (!(Nat.beq q.1 ci) || !(Nat.beq q.2 k)) = true) : xnp ci k i an = true := by
  cases i with
  | putfield a =>
    match an, h with
    | c :: j :: r, h => exact h (c, j) (List.mem_singleton.mpr rfl)
    | [], _ => rfl
    | [_], _ => rfl
  | _ => rfl
theorem kSm_okQ {ci k : Nat} {cl : Nat → Bool} {M : xM} (h1 : (kSmQ M).1.all (fun q => !(Nat.beq q.1 ci) || !(Nat.beq q.2 k)) = true) (h2 : (kSmQ M).2.all cl = true) : xClM ci k cl M = true := by
  have h1 := List.all_eq_true.mp h1
  have h2 := List.all_eq_true.mp h2
  unfold xClM
  refine List.all_eq_true.mpr fun x hx => ?_
  rw [Bool.and_eq_true]
  refine ⟨kPt_okQ fun q hq => h1 q (List.mem_flatMap.mpr ⟨x, hx, hq⟩), ?_⟩
  have h2 : ∀ m ∈ kCsQ x.2.2.1 x.2.2.2, cl m = true := fun m hm => h2 m (List.mem_flatMap.mpr ⟨x, hx, hm⟩)
  unfold kCsQ at h2
  cases e : xci x.2.2.1 x.2.2.2 with
  | none => rfl
  | some m => rw [e] at h2; exact h2 m (List.mem_singleton.mpr rfl)
def kEqQ : Nat → List (List (Nat × Nat) × List Nat) → Bool
  | _, [] => true
  | m, t :: r => decide (kSmQ (xP m) = t) && kEqQ (m + 1) r
def kCkQ (ci k : Nat) (cl : Nat → Bool) : Nat → List (List (Nat × Nat) × List Nat) → Bool
  | _, [] => true
  | m, t :: r => (!cl m || (t.1.all (fun q => !(Nat.beq q.1 ci) || !(Nat.beq q.2 k)) && t.2.all cl)) && kCkQ ci k cl (m + 1) r
theorem kCk_okQ {ci k : Nat} {cl : Nat → Bool} : ∀ (l : List (List (Nat × Nat) × List Nat)) (b mid : Nat), kEqQ b l = true → kCkQ ci k cl b l = true → b ≤ mid → mid < b + l.length → cl mid = true → xClM ci k cl (xP mid) = true
  | [], b, mid, _, _, h1, h2, _ => absurd h2 (by show ¬ mid < b + 0; omega)
  | t :: r, b, mid, he, hc, h1, h2, hm => by
    have he : (decide (kSmQ (xP b) = t) && kEqQ (b + 1) r) = true := he
    have hc : ((!cl b || (t.1.all (fun q => !(Nat.beq q.1 ci) || !(Nat.beq q.2 k)) && t.2.all cl)) && kCkQ ci k cl (b + 1) r) = true := hc
    have h2 : mid < b + (r.length + 1) := h2
    rw [Bool.and_eq_true] at he hc
    by_cases e : b = mid
    · have q1 := of_decide_eq_true he.1
      have q2 := hc.1
      rw [e] at q1 q2
      rw [hm] at q2
      have q2 : (t.1.all (fun q => !(Nat.beq q.1 ci) || !(Nat.beq q.2 k)) && t.2.all cl) = true := q2
      rw [Bool.and_eq_true, ← q1] at q2
      exact kSm_okQ q2.1 q2.2
    · exact kCk_okQ r (b + 1) mid he.2 hc.2 (by omega) (by omega) hm
def kTabQ : List (List (Nat × Nat) × List Nat) := [([(13, 0)], [121]), ([(13, 0)], [121]), ([(13, 0)], [122]), ([(13, 0)], [123]), ([(13, 0)], [124]), ([(13, 0)], [125]), ([(13, 0)], [126]), ([(13, 0)], [127]), ([(13, 0)], [128]), ([(13, 0)], [129]), ([(13, 0)], [130]), ([(13, 0)], [131]), ([(13, 0)], [132]), ([(13, 0)], [133]), ([(13, 0)], [134]), ([(13, 0)], [135]), ([(13, 0)], [136]), ([(13, 0)], [137]), ([(13, 0)], [138]), ([(13, 0)], [139]), ([(13, 0)], [140]), ([(13, 0)], [141]), ([(13, 0)], [142]), ([(13, 0)], [143]), ([(13, 0)], [144]), ([(13, 0)], [145]), ([(13, 0)], [146]), ([(13, 0)], [147]), ([(13, 0)], [148]), ([(13, 0)], [149]), ([(13, 1)], [150]), ([(13, 0)], [151]), ([(13, 0)], [152]), ([(13, 0)], [153]), ([(4, 0), (4, 1)], []), ([], []), ([], [265]), ([], [36]), ([], []), ([], [37]), ([(5, 0), (5, 1), (5, 2), (5, 3), (5, 4), (5, 5), (5, 6), (5, 7)], []), ([], []), ([], []), ([(5, 1), (5, 0)], []), ([], []), ([], []), ([], [42]), ([], [42]), ([], [164]), ([], [50]), ([], []), ([(6, 0), (6, 1), (6, 2), (6, 3), (6, 4), (6, 5), (6, 6), (6, 7), (6, 8), (6, 9)], []), ([], []), ([(6, 0)], []), ([], [52]), ([], []), ([], []), ([], []), ([], []), ([(7, 0), (7, 1), (7, 2), (7, 3), (7, 4)], []), ([], []), ([], []), ([], []), ([], []), ([], [164]), ([], [63, 64]), ([], []), ([], []), ([(8, 0), (8, 1), (8, 2)], []), ([], []), ([(8, 0)], []), ([], [163]), ([], [71, 71]), ([(8, 1)], [71]), ([], [73]), ([], []), ([(9, 0), (9, 1), (9, 2), (9, 3), (9, 4), (9, 5), (9, 6), (9, 7), (9, 8), (9, 9), (9, 10)], []), ([], []), ([(9, 0)], []), ([], []), ([], [79]), ([], [79]), ([], [81]), ([], [81, 84]), ([], [164]), ([], [82, 84, 83]), ([], [81]), ([], [164]), ([], []), ([], [82]), ([], [83]), ([], [79]), ([], [80]), ([], []), ([], [79]), ([(10, 0), (10, 1), (10, 2), (10, 3), (10, 4), (10, 5), (10, 6), (10, 7)], []), ([], []), ([], []), ([(10, 0)], []), ([], []), ([], []), ([], []), ([], []), ([], [97]), ([(11, 0), (11, 1), (11, 2), (11, 3), (11, 4)], []), ([], []), ([(11, 0)], []), ([], []), ([], [107]), ([], [107]), ([], [107]), ([], [107]), ([], [107]), ([], [107]), ([], [107, 107]), ([], [116, 109, 164, 107, 109, 107]), ([], [109]), ([], [110]), ([], [109]), ([], [117, 109]), ([(12, 0), (12, 1), (12, 2), (12, 3), (12, 4), (12, 5), (12, 6), (12, 7), (12, 8), (12, 9)], [34, 68, 95, 76, 51, 104, 59, 40]), ([], [163, 163, 35, 36]), ([], [163, 70]), ([], [69, 163, 98]), ([], [96, 97, 72, 99]), ([], [96, 102]), ([], [96, 54]), ([], [96, 69, 163, 163, 97, 167, 78, 100]), ([], [77, 81, 85, 86, 37, 37, 87, 72, 73, 88]), ([(12, 9)], [163]), ([], [96, 69, 163, 163, 168, 53]), ([], [52, 54, 96, 100]), ([], [106]), ([], [105, 165, 163, 163, 166, 108, 117, 71, 112, 117]), ([], [105, 165, 163, 166, 108, 169, 115, 166, 71, 116]), ([], [105, 165, 165, 163, 166, 166, 108, 108, 109, 72, 114, 109]), ([], [69, 163, 163, 71]), ([(7, 3), (7, 4), (7, 2), (8, 1)], [163, 163, 163, 61, 37, 62, 65, 71]), ([], [163, 163, 163, 163, 163, 163, 43]), ([(5, 2)], [42, 46, 46, 71]), ([], [41, 163, 45, 48, 71, 73]), ([(12, 8)], [163, 39, 60, 171, 74]), ([], [69, 101, 89, 90, 57, 118]), ([], [96]), ([], [77, 86, 85]), ([], [52]), ([], [105, 165, 166, 109, 110, 111]), ([], [41, 44, 45, 46, 47]), ([], [163, 163, 37, 38]), ([], [66, 91, 92, 58, 101, 75]), ([], [77, 273, 274, 275, 274, 275, 274, 275, 79, 274, 80, 274, 274, 82, 275, 274, 276]), ([], [96, 69, 167]), ([], [163, 49, 47]), ([], [69, 163, 61, 37, 62, 63, 64]), ([], [67, 119, 103, 94, 93]), ([], [149, 156, 157, 158, 159, 160, 162, 37, 152, 152, 154]), ([], [142]), ([], [143]), ([], [144]), ([], [145]), ([], [161, 161]), ([], [146]), ([], [147]), ([], []), ([], []), ([], [69]), ([], []), ([], [37]), ([], [97, 37]), ([], [110, 164, 170, 170]), ([], [113, 71]), ([], [55, 56, 72]), ([], []), ([(14, 0), (14, 1), (14, 2), (14, 3), (14, 4)], []), ([(15, 0), (15, 1), (15, 2), (15, 3), (15, 4), (15, 5), (15, 6)], []), ([], []), ([], []), ([], []), ([], [176]), ([(16, 2), (16, 5), (16, 0), (16, 1)], []), ([(17, 0), (17, 1), (17, 2), (17, 3)], []), ([], []), ([], [181]), ([], []), ([], []), ([], []), ([(18, 4), (18, 5), (18, 6), (18, 9), (18, 10), (18, 11), (18, 12), (18, 13), (18, 14), (18, 15), (18, 16), (18, 17)], [299, 299, 299, 299, 299, 299]), ([], []), ([(18, 0)], []), ([(18, 0)], [188]), ([], [183]), ([], [302, 183]), ([], [307, 296, 297]), ([], [192]), ([], [183, 183, 189, 184, 306, 192]), ([(18, 8)], [183, 189, 188]), ([], [190, 189, 183, 188, 302, 188, 179, 306, 302]), ([], [302, 304, 304]), ([(16, 4), (16, 5), (16, 1), (16, 2)], [191, 189, 304, 197, 188]), ([(16, 2)], [191, 189, 304, 304, 188, 304, 307, 296, 297, 184]), ([(16, 3), (14, 5)], [191, 189, 304, 188, 304, 197, 197, 304, 304]), ([], [184, 193, 184, 184, 184]), ([], [191, 190, 189, 183, 183, 188, 302, 197, 188, 304, 201, 174, 306, 203, 302]), ([(16, 1), (16, 2)], []), ([(15, 7), (15, 8), (15, 9), (18, 2)], [302, 183, 189, 304, 175, 188, 304, 176, 177, 193, 193]), ([(18, 4)], [183, 189]), ([], [191, 190, 189, 183, 183, 188, 304, 302, 193, 197, 188, 173, 306, 302]), ([(14, 5)], [302, 183, 189, 304, 188, 304, 304, 203]), ([], [302, 189, 180, 306, 302]), ([], [302, 183]), ([], [190]), ([], []), ([], [209, 210, 189, 183, 183, 188, 304, 211, 181, 188, 181]), ([], [209, 210, 189, 183, 188, 304, 211, 188, 304, 214, 182, 211, 181]), ([], []), ([], [209, 210, 210, 189, 183, 188, 304, 211, 211, 188]), ([], [190, 189, 183, 188, 188]), ([], [193]), ([(18, 5), (18, 6), (18, 3), (18, 2)], [183, 183, 183, 189, 217]), ([], [183, 183, 183, 183, 183, 183, 189, 302, 188, 306, 302]), ([], [304]), ([], [302, 220, 184]), ([], [302, 185, 304]), ([(18, 7)], [302, 189, 221, 188, 222, 222]), ([(18, 2)], [302, 183, 189, 183, 188, 185, 188, 304]), ([(14, 6), (14, 7)], [307, 296, 297, 304]), ([(18, 1), (18, 2)], [183, 189, 188, 225]), ([], [307, 296, 297, 184, 307, 296, 297, 178, 307, 296, 297, 184, 307, 296, 297]), ([], [190, 189, 183, 188, 227]), ([], [304, 184, 184, 197]), ([], [191, 189, 183, 188, 229]), ([], [304, 175, 177, 175, 176]), ([], [302, 183, 189, 183, 188, 231]), ([], [304, 184]), ([], [302, 183, 189, 183, 188, 233]), ([], [304]), ([], [209, 210, 189, 183, 188, 211, 235]), ([], [304, 220, 184, 185, 184]), ([], [302, 183, 189, 183, 188, 237]), ([], [183, 189, 183, 188, 193]), ([], [307, 296, 297, 184, 184, 307, 296, 297, 184, 307, 296, 297, 184, 302, 302]), ([], [183, 189, 240]), ([], [302, 183, 189, 304, 273, 275, 274, 276, 273, 274, 275, 274, 275, 274, 275, 274, 274, 276]), ([], [191, 190, 189, 304, 201]), ([], [221, 302, 222, 222, 222, 222, 222]), ([], [183, 189, 244, 222]), ([], [190, 189, 183, 188, 217]), ([], [307, 296, 297, 307, 296, 297, 181, 307, 296, 297, 304, 304]), ([(18, 0)], [247]), ([], []), ([(18, 0)], [240, 249, 227, 249, 302, 229, 249, 302, 231, 249, 302, 233, 249, 302, 235, 249, 235, 249, 302, 237, 249, 193, 184, 249, 244, 222, 249, 249, 247, 184, 249]), ([(1, 0), (1, 1), (1, 0), (1, 1)], [279]), ([], []), ([(1, 0)], [254, 310]), ([], [315]), ([(1, 0), (1, 1)], [260, 279, 278]), ([(1, 3)], [257, 267, 253, 262]), ([(1, 3)], [253, 260, 288]), ([(1, 3)], [264, 253, 260, 263, 287]), ([], []), ([], []), ([], [270, 255]), ([], [261, 268]), ([], []), ([], []), ([], []), ([], [269]), ([], [270]), ([], [270, 278]), ([(0, 1), (0, 0), (0, 0), (0, 1), (0, 1), (0, 0)], [259, 277, 260, 312, 285, 284, 312]), ([], []), ([], [319]), ([], [318]), ([], [251]), ([], [256]), ([], [258]), ([], [266]), ([], [252]), ([], [289]), ([], [280]), ([], []), ([], [283]), ([], [283]), ([], []), ([], []), ([], [286, 280, 312, 282, 286]), ([], [292, 282]), ([], [291, 290]), ([], [291, 281, 281, 281, 281]), ([], [292, 281]), ([], [281, 281, 281, 281, 281]), ([], [283, 272]), ([], [283, 271]), ([], []), ([(3, 0)], [293]), ([(2, 3), (2, 1), (2, 2)], []), ([], []), ([(2, 0), (2, 1)], [298]), ([], []), ([(3, 1)], [294]), ([(3, 1), (3, 1)], [315, 308]), ([], [300]), ([], []), ([], []), ([], [314, 303]), ([(3, 2)], [301]), ([(3, 0)], [305]), ([], [295]), ([], [309]), ([], []), ([], []), ([], []), ([], [313]), ([], [311]), ([], [317]), ([], [316]), ([], []), ([], []), ([], []), ([], [])]
theorem kTab_nQ : kTabQ.length = 320 := by decide +kernel
set_option maxRecDepth 20000 in
theorem kTab_okQ : kEqQ 0 kTabQ = true := by decide +kernel
def cK12_9Q (m : Nat) : Bool := Nat.blt m 320 && !([0, 9, 120, 129] : List Nat).contains m
theorem K12_9Q (mid : Nat) (hm : cK12_9Q mid = true) : xClM 12 9 cK12_9Q (xP mid) = true := kCk_okQ kTabQ 0 mid kTab_okQ (by decide +kernel) (Nat.zero_le _) (by
  rw [kTab_nQ, Nat.zero_add]
  unfold cK12_9Q at hm
  simp only [Bool.and_eq_true] at hm
  exact blt_lt hm.1) hm
def cK12_8Q (m : Nat) : Bool := Nat.blt m 320 && !([0, 21, 120, 141] : List Nat).contains m
theorem K12_8Q (mid : Nat) (hm : cK12_8Q mid = true) : xClM 12 8 cK12_8Q (xP mid) = true := kCk_okQ kTabQ 0 mid kTab_okQ (by decide +kernel) (Nat.zero_le _) (by
  rw [kTab_nQ, Nat.zero_add]
  unfold cK12_8Q at hm
  simp only [Bool.and_eq_true] at hm
  exact blt_lt hm.1) hm
def cK8_0Q (m : Nat) : Bool := Nat.blt m 320 && !([0, 2, 68, 70, 120, 122] : List Nat).contains m
theorem K8_0Q (mid : Nat) (hm : cK8_0Q mid = true) : xClM 8 0 cK8_0Q (xP mid) = true := kCk_okQ kTabQ 0 mid kTab_okQ (by decide +kernel) (Nat.zero_le _) (by
  rw [kTab_nQ, Nat.zero_add]
  unfold cK8_0Q at hm
  simp only [Bool.and_eq_true] at hm
  exact blt_lt hm.1) hm
def cK10_0Q (m : Nat) : Bool := Nat.blt m 320 && !([0, 3, 95, 98, 120, 123] : List Nat).contains m
theorem K10_0Q (mid : Nat) (hm : cK10_0Q mid = true) : xClM 10 0 cK10_0Q (xP mid) = true := kCk_okQ kTabQ 0 mid kTab_okQ (by decide +kernel) (Nat.zero_le _) (by
  rw [kTab_nQ, Nat.zero_add]
  unfold cK10_0Q at hm
  simp only [Bool.and_eq_true] at hm
  exact blt_lt hm.1) hm
def cK9_0Q (m : Nat) : Bool := Nat.blt m 320 && !([0, 7, 76, 78, 120, 127] : List Nat).contains m
theorem K9_0Q (mid : Nat) (hm : cK9_0Q mid = true) : xClM 9 0 cK9_0Q (xP mid) = true := kCk_okQ kTabQ 0 mid kTab_okQ (by decide +kernel) (Nat.zero_le _) (by
  rw [kTab_nQ, Nat.zero_add]
  unfold cK9_0Q at hm
  simp only [Bool.and_eq_true] at hm
  exact blt_lt hm.1) hm
def cK6_0Q (m : Nat) : Bool := Nat.blt m 320 && !([0, 10, 51, 53, 120, 130] : List Nat).contains m
theorem K6_0Q (mid : Nat) (hm : cK6_0Q mid = true) : xClM 6 0 cK6_0Q (xP mid) = true := kCk_okQ kTabQ 0 mid kTab_okQ (by decide +kernel) (Nat.zero_le _) (by
  rw [kTab_nQ, Nat.zero_add]
  unfold cK6_0Q at hm
  simp only [Bool.and_eq_true] at hm
  exact blt_lt hm.1) hm
def cK11_0Q (m : Nat) : Bool := Nat.blt m 320 && !([0, 12, 104, 106, 120, 132] : List Nat).contains m
theorem K11_0Q (mid : Nat) (hm : cK11_0Q mid = true) : xClM 11 0 cK11_0Q (xP mid) = true := kCk_okQ kTabQ 0 mid kTab_okQ (by decide +kernel) (Nat.zero_le _) (by
  rw [kTab_nQ, Nat.zero_add]
  unfold cK11_0Q at hm
  simp only [Bool.and_eq_true] at hm
  exact blt_lt hm.1) hm
def cK5_0Q (m : Nat) : Bool := Nat.blt m 320 && !([0, 18, 40, 43, 120, 138] : List Nat).contains m
theorem K5_0Q (mid : Nat) (hm : cK5_0Q mid = true) : xClM 5 0 cK5_0Q (xP mid) = true := kCk_okQ kTabQ 0 mid kTab_okQ (by decide +kernel) (Nat.zero_le _) (by
  rw [kTab_nQ, Nat.zero_add]
  unfold cK5_0Q at hm
  simp only [Bool.and_eq_true] at hm
  exact blt_lt hm.1) hm
def cK18_4Q (m : Nat) : Bool := Nat.blt m 320 && !([0, 186, 205] : List Nat).contains m
theorem K18_4Q (mid : Nat) (hm : cK18_4Q mid = true) : xClM 18 4 cK18_4Q (xP mid) = true := kCk_okQ kTabQ 0 mid kTab_okQ (by decide +kernel) (Nat.zero_le _) (by
  rw [kTab_nQ, Nat.zero_add]
  unfold cK18_4Q at hm
  simp only [Bool.and_eq_true] at hm
  exact blt_lt hm.1) hm
def cK18_1Q (m : Nat) : Bool := Nat.blt m 320 && !([0, 226] : List Nat).contains m
theorem K18_1Q (mid : Nat) (hm : cK18_1Q mid = true) : xClM 18 1 cK18_1Q (xP mid) = true := kCk_okQ kTabQ 0 mid kTab_okQ (by decide +kernel) (Nat.zero_le _) (by
  rw [kTab_nQ, Nat.zero_add]
  unfold cK18_1Q at hm
  simp only [Bool.and_eq_true] at hm
  exact blt_lt hm.1) hm
def cK18_8Q (m : Nat) : Bool := Nat.blt m 320 && !([0, 195] : List Nat).contains m
theorem K18_8Q (mid : Nat) (hm : cK18_8Q mid = true) : xClM 18 8 cK18_8Q (xP mid) = true := kCk_okQ kTabQ 0 mid kTab_okQ (by decide +kernel) (Nat.zero_le _) (by
  rw [kTab_nQ, Nat.zero_add]
  unfold cK18_8Q at hm
  simp only [Bool.and_eq_true] at hm
  exact blt_lt hm.1) hm
def cK3_2Q (m : Nat) : Bool := Nat.blt m 320 && !([0, 194, 196, 202, 206, 208, 219, 305, 306] : List Nat).contains m
theorem K3_2Q (mid : Nat) (hm : cK3_2Q mid = true) : xClM 3 2 cK3_2Q (xP mid) = true := kCk_okQ kTabQ 0 mid kTab_okQ (by decide +kernel) (Nat.zero_le _) (by
  rw [kTab_nQ, Nat.zero_add]
  unfold cK3_2Q at hm
  simp only [Bool.and_eq_true] at hm
  exact blt_lt hm.1) hm
def cK18_0Q (m : Nat) : Bool := Nat.blt m 320 && !([0, 188, 189, 194, 195, 196, 198, 199, 200, 202, 204, 205, 206, 207, 208, 212, 213, 215, 216, 218, 219, 223, 224, 226, 228, 230, 232, 234, 236, 238, 239, 241, 242, 243, 245, 246, 248, 250] : List Nat).contains m
theorem K18_0Q (mid : Nat) (hm : cK18_0Q mid = true) : xClM 18 0 cK18_0Q (xP mid) = true := kCk_okQ kTabQ 0 mid kTab_okQ (by decide +kernel) (Nat.zero_le _) (by
  rw [kTab_nQ, Nat.zero_add]
  unfold cK18_0Q at hm
  simp only [Bool.and_eq_true] at hm
  exact blt_lt hm.1) hm
def cK13_0Q (m : Nat) : Bool := Nat.blt m 320 && !([0, 1, 2, 3, 4, 5, 6, 7, 8, 9, 10, 11, 12, 13, 14, 15, 16, 17, 18, 19, 20, 21, 22, 23, 24, 25, 26, 27, 28, 29, 31, 32, 33] : List Nat).contains m
theorem K13_0Q (mid : Nat) (hm : cK13_0Q mid = true) : xClM 13 0 cK13_0Q (xP mid) = true := kCk_okQ kTabQ 0 mid kTab_okQ (by decide +kernel) (Nat.zero_le _) (by
  rw [kTab_nQ, Nat.zero_add]
  unfold cK13_0Q at hm
  simp only [Bool.and_eq_true] at hm
  exact blt_lt hm.1) hm
def cK15_0Q (m : Nat) : Bool := Nat.blt m 320 && !([0, 174, 202] : List Nat).contains m
theorem K15_0Q (mid : Nat) (hm : cK15_0Q mid = true) : xClM 15 0 cK15_0Q (xP mid) = true := kCk_okQ kTabQ 0 mid kTab_okQ (by decide +kernel) (Nat.zero_le _) (by
  rw [kTab_nQ, Nat.zero_add]
  unfold cK15_0Q at hm
  simp only [Bool.and_eq_true] at hm
  exact blt_lt hm.1) hm
def cK15_1Q (m : Nat) : Bool := Nat.blt m 320 && !([0, 174, 202] : List Nat).contains m
theorem K15_1Q (mid : Nat) (hm : cK15_1Q mid = true) : xClM 15 1 cK15_1Q (xP mid) = true := kCk_okQ kTabQ 0 mid kTab_okQ (by decide +kernel) (Nat.zero_le _) (by
  rw [kTab_nQ, Nat.zero_add]
  unfold cK15_1Q at hm
  simp only [Bool.and_eq_true] at hm
  exact blt_lt hm.1) hm
def cK15_2Q (m : Nat) : Bool := Nat.blt m 320 && !([0, 174, 202] : List Nat).contains m
theorem K15_2Q (mid : Nat) (hm : cK15_2Q mid = true) : xClM 15 2 cK15_2Q (xP mid) = true := kCk_okQ kTabQ 0 mid kTab_okQ (by decide +kernel) (Nat.zero_le _) (by
  rw [kTab_nQ, Nat.zero_add]
  unfold cK15_2Q at hm
  simp only [Bool.and_eq_true] at hm
  exact blt_lt hm.1) hm
def cK15_3Q (m : Nat) : Bool := Nat.blt m 320 && !([0, 174, 202] : List Nat).contains m
theorem K15_3Q (mid : Nat) (hm : cK15_3Q mid = true) : xClM 15 3 cK15_3Q (xP mid) = true := kCk_okQ kTabQ 0 mid kTab_okQ (by decide +kernel) (Nat.zero_le _) (by
  rw [kTab_nQ, Nat.zero_add]
  unfold cK15_3Q at hm
  simp only [Bool.and_eq_true] at hm
  exact blt_lt hm.1) hm
def cK15_4Q (m : Nat) : Bool := Nat.blt m 320 && !([0, 174, 202] : List Nat).contains m
theorem K15_4Q (mid : Nat) (hm : cK15_4Q mid = true) : xClM 15 4 cK15_4Q (xP mid) = true := kCk_okQ kTabQ 0 mid kTab_okQ (by decide +kernel) (Nat.zero_le _) (by
  rw [kTab_nQ, Nat.zero_add]
  unfold cK15_4Q at hm
  simp only [Bool.and_eq_true] at hm
  exact blt_lt hm.1) hm
def cK15_5Q (m : Nat) : Bool := Nat.blt m 320 && !([0, 174, 202] : List Nat).contains m
theorem K15_5Q (mid : Nat) (hm : cK15_5Q mid = true) : xClM 15 5 cK15_5Q (xP mid) = true := kCk_okQ kTabQ 0 mid kTab_okQ (by decide +kernel) (Nat.zero_le _) (by
  rw [kTab_nQ, Nat.zero_add]
  unfold cK15_5Q at hm
  simp only [Bool.and_eq_true] at hm
  exact blt_lt hm.1) hm
def cK15_6Q (m : Nat) : Bool := Nat.blt m 320 && !([0, 174, 202] : List Nat).contains m
theorem K15_6Q (mid : Nat) (hm : cK15_6Q mid = true) : xClM 15 6 cK15_6Q (xP mid) = true := kCk_okQ kTabQ 0 mid kTab_okQ (by decide +kernel) (Nat.zero_le _) (by
  rw [kTab_nQ, Nat.zero_add]
  unfold cK15_6Q at hm
  simp only [Bool.and_eq_true] at hm
  exact blt_lt hm.1) hm
def cK15_7Q (m : Nat) : Bool := Nat.blt m 320 && !([0, 204] : List Nat).contains m
theorem K15_7Q (mid : Nat) (hm : cK15_7Q mid = true) : xClM 15 7 cK15_7Q (xP mid) = true := kCk_okQ kTabQ 0 mid kTab_okQ (by decide +kernel) (Nat.zero_le _) (by
  rw [kTab_nQ, Nat.zero_add]
  unfold cK15_7Q at hm
  simp only [Bool.and_eq_true] at hm
  exact blt_lt hm.1) hm
def cK15_8Q (m : Nat) : Bool := Nat.blt m 320 && !([0, 204] : List Nat).contains m
theorem K15_8Q (mid : Nat) (hm : cK15_8Q mid = true) : xClM 15 8 cK15_8Q (xP mid) = true := kCk_okQ kTabQ 0 mid kTab_okQ (by decide +kernel) (Nat.zero_le _) (by
  rw [kTab_nQ, Nat.zero_add]
  unfold cK15_8Q at hm
  simp only [Bool.and_eq_true] at hm
  exact blt_lt hm.1) hm
def cK15_9Q (m : Nat) : Bool := Nat.blt m 320 && !([0, 204] : List Nat).contains m
theorem K15_9Q (mid : Nat) (hm : cK15_9Q mid = true) : xClM 15 9 cK15_9Q (xP mid) = true := kCk_okQ kTabQ 0 mid kTab_okQ (by decide +kernel) (Nat.zero_le _) (by
  rw [kTab_nQ, Nat.zero_add]
  unfold cK15_9Q at hm
  simp only [Bool.and_eq_true] at hm
  exact blt_lt hm.1) hm
def cK14_2Q (m : Nat) : Bool := Nat.blt m 320 && !([0, 173, 206] : List Nat).contains m
theorem K14_2Q (mid : Nat) (hm : cK14_2Q mid = true) : xClM 14 2 cK14_2Q (xP mid) = true := kCk_okQ kTabQ 0 mid kTab_okQ (by decide +kernel) (Nat.zero_le _) (by
  rw [kTab_nQ, Nat.zero_add]
  unfold cK14_2Q at hm
  simp only [Bool.and_eq_true] at hm
  exact blt_lt hm.1) hm
def cK14_3Q (m : Nat) : Bool := Nat.blt m 320 && !([0, 173, 206] : List Nat).contains m
theorem K14_3Q (mid : Nat) (hm : cK14_3Q mid = true) : xClM 14 3 cK14_3Q (xP mid) = true := kCk_okQ kTabQ 0 mid kTab_okQ (by decide +kernel) (Nat.zero_le _) (by
  rw [kTab_nQ, Nat.zero_add]
  unfold cK14_3Q at hm
  simp only [Bool.and_eq_true] at hm
  exact blt_lt hm.1) hm
def cK14_4Q (m : Nat) : Bool := Nat.blt m 320 && !([0, 173, 206] : List Nat).contains m
theorem K14_4Q (mid : Nat) (hm : cK14_4Q mid = true) : xClM 14 4 cK14_4Q (xP mid) = true := kCk_okQ kTabQ 0 mid kTab_okQ (by decide +kernel) (Nat.zero_le _) (by
  rw [kTab_nQ, Nat.zero_add]
  unfold cK14_4Q at hm
  simp only [Bool.and_eq_true] at hm
  exact blt_lt hm.1) hm
def cK14_6Q (m : Nat) : Bool := Nat.blt m 320 && !([0, 225, 226] : List Nat).contains m
theorem K14_6Q (mid : Nat) (hm : cK14_6Q mid = true) : xClM 14 6 cK14_6Q (xP mid) = true := kCk_okQ kTabQ 0 mid kTab_okQ (by decide +kernel) (Nat.zero_le _) (by
  rw [kTab_nQ, Nat.zero_add]
  unfold cK14_6Q at hm
  simp only [Bool.and_eq_true] at hm
  exact blt_lt hm.1) hm
def cK14_7Q (m : Nat) : Bool := Nat.blt m 320 && !([0, 225, 226] : List Nat).contains m
theorem K14_7Q (mid : Nat) (hm : cK14_7Q mid = true) : xClM 14 7 cK14_7Q (xP mid) = true := kCk_okQ kTabQ 0 mid kTab_okQ (by decide +kernel) (Nat.zero_le _) (by
  rw [kTab_nQ, Nat.zero_add]
  unfold cK14_7Q at hm
  simp only [Bool.and_eq_true] at hm
  exact blt_lt hm.1) hm
def cK3_1Q (m : Nat) : Bool := Nat.blt m 320 && !([0, 186, 194, 196, 202, 206, 208, 219, 299, 300, 301, 305, 306] : List Nat).contains m
theorem K3_1Q (mid : Nat) (hm : cK3_1Q mid = true) : xClM 3 1 cK3_1Q (xP mid) = true := kCk_okQ kTabQ 0 mid kTab_okQ (by decide +kernel) (Nat.zero_le _) (by
  rw [kTab_nQ, Nat.zero_add]
  unfold cK3_1Q at hm
  simp only [Bool.and_eq_true] at hm
  exact blt_lt hm.1) hm
def cK16_0Q (m : Nat) : Bool := Nat.blt m 320 && !([0, 179, 196] : List Nat).contains m
theorem K16_0Q (mid : Nat) (hm : cK16_0Q mid = true) : xClM 16 0 cK16_0Q (xP mid) = true := kCk_okQ kTabQ 0 mid kTab_okQ (by decide +kernel) (Nat.zero_le _) (by
  rw [kTab_nQ, Nat.zero_add]
  unfold cK16_0Q at hm
  simp only [Bool.and_eq_true] at hm
  exact blt_lt hm.1) hm
def cK16_1Q (m : Nat) : Bool := Nat.blt m 320 && !([0, 179, 196, 198, 202, 203, 207] : List Nat).contains m
theorem K16_1Q (mid : Nat) (hm : cK16_1Q mid = true) : xClM 16 1 cK16_1Q (xP mid) = true := kCk_okQ kTabQ 0 mid kTab_okQ (by decide +kernel) (Nat.zero_le _) (by
  rw [kTab_nQ, Nat.zero_add]
  unfold cK16_1Q at hm
  simp only [Bool.and_eq_true] at hm
  exact blt_lt hm.1) hm
def cK16_2Q (m : Nat) : Bool := Nat.blt m 320 && !([0, 179, 196, 198, 199, 202, 203, 207] : List Nat).contains m
theorem K16_2Q (mid : Nat) (hm : cK16_2Q mid = true) : xClM 16 2 cK16_2Q (xP mid) = true := kCk_okQ kTabQ 0 mid kTab_okQ (by decide +kernel) (Nat.zero_le _) (by
  rw [kTab_nQ, Nat.zero_add]
  unfold cK16_2Q at hm
  simp only [Bool.and_eq_true] at hm
  exact blt_lt hm.1) hm
def cK16_3Q (m : Nat) : Bool := Nat.blt m 320 && !([0, 200] : List Nat).contains m
theorem K16_3Q (mid : Nat) (hm : cK16_3Q mid = true) : xClM 16 3 cK16_3Q (xP mid) = true := kCk_okQ kTabQ 0 mid kTab_okQ (by decide +kernel) (Nat.zero_le _) (by
  rw [kTab_nQ, Nat.zero_add]
  unfold cK16_3Q at hm
  simp only [Bool.and_eq_true] at hm
  exact blt_lt hm.1) hm
def cK16_4Q (m : Nat) : Bool := Nat.blt m 320 && !([0, 198] : List Nat).contains m
theorem K16_4Q (mid : Nat) (hm : cK16_4Q mid = true) : xClM 16 4 cK16_4Q (xP mid) = true := kCk_okQ kTabQ 0 mid kTab_okQ (by decide +kernel) (Nat.zero_le _) (by
  rw [kTab_nQ, Nat.zero_add]
  unfold cK16_4Q at hm
  simp only [Bool.and_eq_true] at hm
  exact blt_lt hm.1) hm
def cK16_5Q (m : Nat) : Bool := Nat.blt m 320 && !([0, 179, 196, 198] : List Nat).contains m
theorem K16_5Q (mid : Nat) (hm : cK16_5Q mid = true) : xClM 16 5 cK16_5Q (xP mid) = true := kCk_okQ kTabQ 0 mid kTab_okQ (by decide +kernel) (Nat.zero_le _) (by
  rw [kTab_nQ, Nat.zero_add]
  unfold cK16_5Q at hm
  simp only [Bool.and_eq_true] at hm
  exact blt_lt hm.1) hm
def cK14_0Q (m : Nat) : Bool := Nat.blt m 320 && !([0, 173, 206] : List Nat).contains m
theorem K14_0Q (mid : Nat) (hm : cK14_0Q mid = true) : xClM 14 0 cK14_0Q (xP mid) = true := kCk_okQ kTabQ 0 mid kTab_okQ (by decide +kernel) (Nat.zero_le _) (by
  rw [kTab_nQ, Nat.zero_add]
  unfold cK14_0Q at hm
  simp only [Bool.and_eq_true] at hm
  exact blt_lt hm.1) hm
def cK14_1Q (m : Nat) : Bool := Nat.blt m 320 && !([0, 173, 206] : List Nat).contains m
theorem K14_1Q (mid : Nat) (hm : cK14_1Q mid = true) : xClM 14 1 cK14_1Q (xP mid) = true := kCk_okQ kTabQ 0 mid kTab_okQ (by decide +kernel) (Nat.zero_le _) (by
  rw [kTab_nQ, Nat.zero_add]
  unfold cK14_1Q at hm
  simp only [Bool.and_eq_true] at hm
  exact blt_lt hm.1) hm
def cK14_5Q (m : Nat) : Bool := Nat.blt m 320 && !([0, 200, 207] : List Nat).contains m
theorem K14_5Q (mid : Nat) (hm : cK14_5Q mid = true) : xClM 14 5 cK14_5Q (xP mid) = true := kCk_okQ kTabQ 0 mid kTab_okQ (by decide +kernel) (Nat.zero_le _) (by
  rw [kTab_nQ, Nat.zero_add]
  unfold cK14_5Q at hm
  simp only [Bool.and_eq_true] at hm
  exact blt_lt hm.1) hm
