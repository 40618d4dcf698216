/-! METHODS THAT LEAVE A FIELD ALONE (by gencl.py) -/
def cT9 (m : Nat) : Bool := Nat.blt m 320 && !([0, 9, 120, 129] : List Nat).contains m
set_option maxRecDepth 20000 in
theorem T9_0 : (List.range 20).all (fun j => !cT9 (0 + j) || xClM 12 9 cT9 (xP (0 + j))) = true := by decide +kernel
set_option maxRecDepth 20000 in
theorem T9_1 : (List.range 20).all (fun j => !cT9 (20 + j) || xClM 12 9 cT9 (xP (20 + j))) = true := by decide +kernel
set_option maxRecDepth 20000 in
theorem T9_2 : (List.range 20).all (fun j => !cT9 (40 + j) || xClM 12 9 cT9 (xP (40 + j))) = true := by decide +kernel
set_option maxRecDepth 20000 in
theorem T9_3 : (List.range 20).all (fun j => !cT9 (60 + j) || xClM 12 9 cT9 (xP (60 + j))) = true := by decide +kernel
set_option maxRecDepth 20000 in
theorem T9_4 : (List.range 20).all (fun j => !cT9 (80 + j) || xClM 12 9 cT9 (xP (80 + j))) = true := by decide +kernel
set_option maxRecDepth 20000 in
theorem T9_5 : (List.range 20).all (fun j => !cT9 (100 + j) || xClM 12 9 cT9 (xP (100 + j))) = true := by decide +kernel
set_option maxRecDepth 20000 in
theorem T9_6 : (List.range 20).all (fun j => !cT9 (120 + j) || xClM 12 9 cT9 (xP (120 + j))) = true := by decide +kernel
set_option maxRecDepth 20000 in
theorem T9_7 : (List.range 20).all (fun j => !cT9 (140 + j) || xClM 12 9 cT9 (xP (140 + j))) = true := by decide +kernel
set_option maxRecDepth 20000 in
theorem T9_8 : (List.range 20).all (fun j => !cT9 (160 + j) || xClM 12 9 cT9 (xP (160 + j))) = true := by decide +kernel
set_option maxRecDepth 20000 in
theorem T9_9 : (List.range 20).all (fun j => !cT9 (180 + j) || xClM 12 9 cT9 (xP (180 + j))) = true := by decide +kernel
set_option maxRecDepth 20000 in
theorem T9_10 : (List.range 20).all (fun j => !cT9 (200 + j) || xClM 12 9 cT9 (xP (200 + j))) = true := by decide +kernel
set_option maxRecDepth 20000 in
theorem T9_11 : (List.range 20).all (fun j => !cT9 (220 + j) || xClM 12 9 cT9 (xP (220 + j))) = true := by decide +kernel
set_option maxRecDepth 20000 in
theorem T9_12 : (List.range 20).all (fun j => !cT9 (240 + j) || xClM 12 9 cT9 (xP (240 + j))) = true := by decide +kernel
set_option maxRecDepth 20000 in
theorem T9_13 : (List.range 20).all (fun j => !cT9 (260 + j) || xClM 12 9 cT9 (xP (260 + j))) = true := by decide +kernel
set_option maxRecDepth 20000 in
theorem T9_14 : (List.range 20).all (fun j => !cT9 (280 + j) || xClM 12 9 cT9 (xP (280 + j))) = true := by decide +kernel
set_option maxRecDepth 20000 in
theorem T9_15 : (List.range 20).all (fun j => !cT9 (300 + j) || xClM 12 9 cT9 (xP (300 + j))) = true := by decide +kernel
theorem T9 (mid : Nat) (hm : cT9 mid = true) : xClM 12 9 cT9 (xP mid) = true := by
  have hl : mid < 320 := by
    unfold cT9 at hm
    simp only [Bool.and_eq_true] at hm
    exact blt_lt hm.1
  have key : ∀ (b n : Nat), (List.range n).all (fun j => !cT9 (b + j) || xClM 12 9 cT9 (xP (b + j))) = true → b ≤ mid → mid < b + n → xClM 12 9 cT9 (xP mid) = true := fun b n h h1 h2 => by
    have := List.all_eq_true.mp h (mid - b) (List.mem_range.mpr (by omega))
    rw [Nat.add_sub_cancel' h1, hm] at this
    simpa using this
  by_cases h0 : mid < 20
  · exact key 0 20 T9_0 (by omega) (by omega)
  by_cases h1 : mid < 40
  · exact key 20 20 T9_1 (by omega) (by omega)
  by_cases h2 : mid < 60
  · exact key 40 20 T9_2 (by omega) (by omega)
  by_cases h3 : mid < 80
  · exact key 60 20 T9_3 (by omega) (by omega)
  by_cases h4 : mid < 100
  · exact key 80 20 T9_4 (by omega) (by omega)
  by_cases h5 : mid < 120
  · exact key 100 20 T9_5 (by omega) (by omega)
  by_cases h6 : mid < 140
  · exact key 120 20 T9_6 (by omega) (by omega)
  by_cases h7 : mid < 160
  · exact key 140 20 T9_7 (by omega) (by omega)
  by_cases h8 : mid < 180
  · exact key 160 20 T9_8 (by omega) (by omega)
  by_cases h9 : mid < 200
  · exact key 180 20 T9_9 (by omega) (by omega)
  by_cases h10 : mid < 220
  · exact key 200 20 T9_10 (by omega) (by omega)
  by_cases h11 : mid < 240
  · exact key 220 20 T9_11 (by omega) (by omega)
  by_cases h12 : mid < 260
  · exact key 240 20 T9_12 (by omega) (by omega)
  by_cases h13 : mid < 280
  · exact key 260 20 T9_13 (by omega) (by omega)
  by_cases h14 : mid < 300
  · exact key 280 20 T9_14 (by omega) (by omega)
  exact key 300 20 T9_15 (by omega) (by omega)
def cT4 (m : Nat) : Bool := Nat.blt m 320 && !([0, 186, 205] : List Nat).contains m
set_option maxRecDepth 20000 in
theorem T4_0 : (List.range 20).all (fun j => !cT4 (0 + j) || xClM 18 4 cT4 (xP (0 + j))) = true := by decide +kernel
set_option maxRecDepth 20000 in
theorem T4_1 : (List.range 20).all (fun j => !cT4 (20 + j) || xClM 18 4 cT4 (xP (20 + j))) = true := by decide +kernel
set_option maxRecDepth 20000 in
theorem T4_2 : (List.range 20).all (fun j => !cT4 (40 + j) || xClM 18 4 cT4 (xP (40 + j))) = true := by decide +kernel
set_option maxRecDepth 20000 in
theorem T4_3 : (List.range 20).all (fun j => !cT4 (60 + j) || xClM 18 4 cT4 (xP (60 + j))) = true := by decide +kernel
set_option maxRecDepth 20000 in
theorem T4_4 : (List.range 20).all (fun j => !cT4 (80 + j) || xClM 18 4 cT4 (xP (80 + j))) = true := by decide +kernel
set_option maxRecDepth 20000 in
theorem T4_5 : (List.range 20).all (fun j => !cT4 (100 + j) || xClM 18 4 cT4 (xP (100 + j))) = true := by decide +kernel
set_option maxRecDepth 20000 in
theorem T4_6 : (List.range 20).all (fun j => !cT4 (120 + j) || xClM 18 4 cT4 (xP (120 + j))) = true := by decide +kernel
set_option maxRecDepth 20000 in
theorem T4_7 : (List.range 20).all (fun j => !cT4 (140 + j) || xClM 18 4 cT4 (xP (140 + j))) = true := by decide +kernel
set_option maxRecDepth 20000 in
theorem T4_8 : (List.range 20).all (fun j => !cT4 (160 + j) || xClM 18 4 cT4 (xP (160 + j))) = true := by decide +kernel
set_option maxRecDepth 20000 in
theorem T4_9 : (List.range 20).all (fun j => !cT4 (180 + j) || xClM 18 4 cT4 (xP (180 + j))) = true := by decide +kernel
set_option maxRecDepth 20000 in
theorem T4_10 : (List.range 20).all (fun j => !cT4 (200 + j) || xClM 18 4 cT4 (xP (200 + j))) = true := by decide +kernel
set_option maxRecDepth 20000 in
theorem T4_11 : (List.range 20).all (fun j => !cT4 (220 + j) || xClM 18 4 cT4 (xP (220 + j))) = true := by decide +kernel
set_option maxRecDepth 20000 in
theorem T4_12 : (List.range 20).all (fun j => !cT4 (240 + j) || xClM 18 4 cT4 (xP (240 + j))) = true := by decide +kernel
set_option maxRecDepth 20000 in
theorem T4_13 : (List.range 20).all (fun j => !cT4 (260 + j) || xClM 18 4 cT4 (xP (260 + j))) = true := by decide +kernel
set_option maxRecDepth 20000 in
theorem T4_14 : (List.range 20).all (fun j => !cT4 (280 + j) || xClM 18 4 cT4 (xP (280 + j))) = true := by decide +kernel
set_option maxRecDepth 20000 in
theorem T4_15 : (List.range 20).all (fun j => !cT4 (300 + j) || xClM 18 4 cT4 (xP (300 + j))) = true := by decide +kernel
theorem T4 (mid : Nat) (hm : cT4 mid = true) : xClM 18 4 cT4 (xP mid) = true := by
  have hl : mid < 320 := by
    unfold cT4 at hm
    simp only [Bool.and_eq_true] at hm
    exact blt_lt hm.1
  have key : ∀ (b n : Nat), (List.range n).all (fun j => !cT4 (b + j) || xClM 18 4 cT4 (xP (b + j))) = true → b ≤ mid → mid < b + n → xClM 18 4 cT4 (xP mid) = true := fun b n h h1 h2 => by
    have := List.all_eq_true.mp h (mid - b) (List.mem_range.mpr (by omega))
    rw [Nat.add_sub_cancel' h1, hm] at this
    simpa using this
  by_cases h0 : mid < 20
  · exact key 0 20 T4_0 (by omega) (by omega)
  by_cases h1 : mid < 40
  · exact key 20 20 T4_1 (by omega) (by omega)
  by_cases h2 : mid < 60
  · exact key 40 20 T4_2 (by omega) (by omega)
  by_cases h3 : mid < 80
  · exact key 60 20 T4_3 (by omega) (by omega)
  by_cases h4 : mid < 100
  · exact key 80 20 T4_4 (by omega) (by omega)
  by_cases h5 : mid < 120
  · exact key 100 20 T4_5 (by omega) (by omega)
  by_cases h6 : mid < 140
  · exact key 120 20 T4_6 (by omega) (by omega)
  by_cases h7 : mid < 160
  · exact key 140 20 T4_7 (by omega) (by omega)
  by_cases h8 : mid < 180
  · exact key 160 20 T4_8 (by omega) (by omega)
  by_cases h9 : mid < 200
  · exact key 180 20 T4_9 (by omega) (by omega)
  by_cases h10 : mid < 220
  · exact key 200 20 T4_10 (by omega) (by omega)
  by_cases h11 : mid < 240
  · exact key 220 20 T4_11 (by omega) (by omega)
  by_cases h12 : mid < 260
  · exact key 240 20 T4_12 (by omega) (by omega)
  by_cases h13 : mid < 280
  · exact key 260 20 T4_13 (by omega) (by omega)
  by_cases h14 : mid < 300
  · exact key 280 20 T4_14 (by omega) (by omega)
  exact key 300 20 T4_15 (by omega) (by omega)
