/-! METHODS THAT LEAVE A FIELD ALONE; CALLS WITH WHAT THEY KEEP (by ex0.py) -/
def cK12_9 (m : Nat) : Bool := Nat.blt m 320 && !([0, 9, 120, 129] : List Nat).contains m
set_option maxRecDepth 20000 in
theorem K12_9_0 : (List.range 40).all (fun j => !cK12_9 (0 + j) || xClM 12 9 cK12_9 (xP (0 + j))) = true := by decide +kernel
set_option maxRecDepth 20000 in
theorem K12_9_1 : (List.range 40).all (fun j => !cK12_9 (40 + j) || xClM 12 9 cK12_9 (xP (40 + j))) = true := by decide +kernel
set_option maxRecDepth 20000 in
theorem K12_9_2 : (List.range 40).all (fun j => !cK12_9 (80 + j) || xClM 12 9 cK12_9 (xP (80 + j))) = true := by decide +kernel
set_option maxRecDepth 20000 in
theorem K12_9_3 : (List.range 40).all (fun j => !cK12_9 (120 + j) || xClM 12 9 cK12_9 (xP (120 + j))) = true := by decide +kernel
set_option maxRecDepth 20000 in
theorem K12_9_4 : (List.range 40).all (fun j => !cK12_9 (160 + j) || xClM 12 9 cK12_9 (xP (160 + j))) = true := by decide +kernel
set_option maxRecDepth 20000 in
theorem K12_9_5 : (List.range 40).all (fun j => !cK12_9 (200 + j) || xClM 12 9 cK12_9 (xP (200 + j))) = true := by decide +kernel
set_option maxRecDepth 20000 in
theorem K12_9_6 : (List.range 40).all (fun j => !cK12_9 (240 + j) || xClM 12 9 cK12_9 (xP (240 + j))) = true := by decide +kernel
set_option maxRecDepth 20000 in
theorem K12_9_7 : (List.range 40).all (fun j => !cK12_9 (280 + j) || xClM 12 9 cK12_9 (xP (280 + j))) = true := by decide +kernel
theorem K12_9 (mid : Nat) (hm : cK12_9 mid = true) : xClM 12 9 cK12_9 (xP mid) = true := by
  have hl : mid < 320 := by
    unfold cK12_9 at hm
    simp only [Bool.and_eq_true] at hm
    exact blt_lt hm.1
  have key : ∀ (b n : Nat), (List.range n).all (fun j => !cK12_9 (b + j) || xClM 12 9 cK12_9 (xP (b + j))) = true → b ≤ mid → mid < b + n → xClM 12 9 cK12_9 (xP mid) = true := fun b n h h1 h2 => by
    have := List.all_eq_true.mp h (mid - b) (List.mem_range.mpr (by omega))
    rw [Nat.add_sub_cancel' h1, hm] at this
    simpa using this
  by_cases h0 : mid < 40
  · exact key 0 40 K12_9_0 (by omega) (by omega)
  by_cases h1 : mid < 80
  · exact key 40 40 K12_9_1 (by omega) (by omega)
  by_cases h2 : mid < 120
  · exact key 80 40 K12_9_2 (by omega) (by omega)
  by_cases h3 : mid < 160
  · exact key 120 40 K12_9_3 (by omega) (by omega)
  by_cases h4 : mid < 200
  · exact key 160 40 K12_9_4 (by omega) (by omega)
  by_cases h5 : mid < 240
  · exact key 200 40 K12_9_5 (by omega) (by omega)
  by_cases h6 : mid < 280
  · exact key 240 40 K12_9_6 (by omega) (by omega)
  exact key 280 40 K12_9_7 (by omega) (by omega)
def cK12_8 (m : Nat) : Bool := Nat.blt m 320 && !([0, 21, 120, 141] : List Nat).contains m
set_option maxRecDepth 20000 in
theorem K12_8_0 : (List.range 40).all (fun j => !cK12_8 (0 + j) || xClM 12 8 cK12_8 (xP (0 + j))) = true := by decide +kernel
set_option maxRecDepth 20000 in
theorem K12_8_1 : (List.range 40).all (fun j => !cK12_8 (40 + j) || xClM 12 8 cK12_8 (xP (40 + j))) = true := by decide +kernel
set_option maxRecDepth 20000 in
theorem K12_8_2 : (List.range 40).all (fun j => !cK12_8 (80 + j) || xClM 12 8 cK12_8 (xP (80 + j))) = true := by decide +kernel
set_option maxRecDepth 20000 in
theorem K12_8_3 : (List.range 40).all (fun j => !cK12_8 (120 + j) || xClM 12 8 cK12_8 (xP (120 + j))) = true := by decide +kernel
set_option maxRecDepth 20000 in
theorem K12_8_4 : (List.range 40).all (fun j => !cK12_8 (160 + j) || xClM 12 8 cK12_8 (xP (160 + j))) = true := by decide +kernel
set_option maxRecDepth 20000 in
theorem K12_8_5 : (List.range 40).all (fun j => !cK12_8 (200 + j) || xClM 12 8 cK12_8 (xP (200 + j))) = true := by decide +kernel
set_option maxRecDepth 20000 in
theorem K12_8_6 : (List.range 40).all (fun j => !cK12_8 (240 + j) || xClM 12 8 cK12_8 (xP (240 + j))) = true := by decide +kernel
set_option maxRecDepth 20000 in
theorem K12_8_7 : (List.range 40).all (fun j => !cK12_8 (280 + j) || xClM 12 8 cK12_8 (xP (280 + j))) = true := by decide +kernel
theorem K12_8 (mid : Nat) (hm : cK12_8 mid = true) : xClM 12 8 cK12_8 (xP mid) = true := by
  have hl : mid < 320 := by
    unfold cK12_8 at hm
    simp only [Bool.and_eq_true] at hm
    exact blt_lt hm.1
  have key : ∀ (b n : Nat), (List.range n).all (fun j => !cK12_8 (b + j) || xClM 12 8 cK12_8 (xP (b + j))) = true → b ≤ mid → mid < b + n → xClM 12 8 cK12_8 (xP mid) = true := fun b n h h1 h2 => by
    have := List.all_eq_true.mp h (mid - b) (List.mem_range.mpr (by omega))
    rw [Nat.add_sub_cancel' h1, hm] at this
    simpa using this
  by_cases h0 : mid < 40
  · exact key 0 40 K12_8_0 (by omega) (by omega)
  by_cases h1 : mid < 80
  · exact key 40 40 K12_8_1 (by omega) (by omega)
  by_cases h2 : mid < 120
  · exact key 80 40 K12_8_2 (by omega) (by omega)
  by_cases h3 : mid < 160
  · exact key 120 40 K12_8_3 (by omega) (by omega)
  by_cases h4 : mid < 200
  · exact key 160 40 K12_8_4 (by omega) (by omega)
  by_cases h5 : mid < 240
  · exact key 200 40 K12_8_5 (by omega) (by omega)
  by_cases h6 : mid < 280
  · exact key 240 40 K12_8_6 (by omega) (by omega)
  exact key 280 40 K12_8_7 (by omega) (by omega)
def cK8_0 (m : Nat) : Bool := Nat.blt m 320 && !([0, 2, 68, 70, 120, 122] : List Nat).contains m
set_option maxRecDepth 20000 in
theorem K8_0_0 : (List.range 40).all (fun j => !cK8_0 (0 + j) || xClM 8 0 cK8_0 (xP (0 + j))) = true := by decide +kernel
set_option maxRecDepth 20000 in
theorem K8_0_1 : (List.range 40).all (fun j => !cK8_0 (40 + j) || xClM 8 0 cK8_0 (xP (40 + j))) = true := by decide +kernel
set_option maxRecDepth 20000 in
theorem K8_0_2 : (List.range 40).all (fun j => !cK8_0 (80 + j) || xClM 8 0 cK8_0 (xP (80 + j))) = true := by decide +kernel
set_option maxRecDepth 20000 in
theorem K8_0_3 : (List.range 40).all (fun j => !cK8_0 (120 + j) || xClM 8 0 cK8_0 (xP (120 + j))) = true := by decide +kernel
set_option maxRecDepth 20000 in
theorem K8_0_4 : (List.range 40).all (fun j => !cK8_0 (160 + j) || xClM 8 0 cK8_0 (xP (160 + j))) = true := by decide +kernel
set_option maxRecDepth 20000 in
theorem K8_0_5 : (List.range 40).all (fun j => !cK8_0 (200 + j) || xClM 8 0 cK8_0 (xP (200 + j))) = true := by decide +kernel
set_option maxRecDepth 20000 in
theorem K8_0_6 : (List.range 40).all (fun j => !cK8_0 (240 + j) || xClM 8 0 cK8_0 (xP (240 + j))) = true := by decide +kernel
set_option maxRecDepth 20000 in
theorem K8_0_7 : (List.range 40).all (fun j => !cK8_0 (280 + j) || xClM 8 0 cK8_0 (xP (280 + j))) = true := by decide +kernel
theorem K8_0 (mid : Nat) (hm : cK8_0 mid = true) : xClM 8 0 cK8_0 (xP mid) = true := by
  have hl : mid < 320 := by
    unfold cK8_0 at hm
    simp only [Bool.and_eq_true] at hm
    exact blt_lt hm.1
  have key : ∀ (b n : Nat), (List.range n).all (fun j => !cK8_0 (b + j) || xClM 8 0 cK8_0 (xP (b + j))) = true → b ≤ mid → mid < b + n → xClM 8 0 cK8_0 (xP mid) = true := fun b n h h1 h2 => by
    have := List.all_eq_true.mp h (mid - b) (List.mem_range.mpr (by omega))
    rw [Nat.add_sub_cancel' h1, hm] at this
    simpa using this
  by_cases h0 : mid < 40
  · exact key 0 40 K8_0_0 (by omega) (by omega)
  by_cases h1 : mid < 80
  · exact key 40 40 K8_0_1 (by omega) (by omega)
  by_cases h2 : mid < 120
  · exact key 80 40 K8_0_2 (by omega) (by omega)
  by_cases h3 : mid < 160
  · exact key 120 40 K8_0_3 (by omega) (by omega)
  by_cases h4 : mid < 200
  · exact key 160 40 K8_0_4 (by omega) (by omega)
  by_cases h5 : mid < 240
  · exact key 200 40 K8_0_5 (by omega) (by omega)
  by_cases h6 : mid < 280
  · exact key 240 40 K8_0_6 (by omega) (by omega)
  exact key 280 40 K8_0_7 (by omega) (by omega)
def cK10_0 (m : Nat) : Bool := Nat.blt m 320 && !([0, 3, 95, 98, 120, 123] : List Nat).contains m
set_option maxRecDepth 20000 in
theorem K10_0_0 : (List.range 40).all (fun j => !cK10_0 (0 + j) || xClM 10 0 cK10_0 (xP (0 + j))) = true := by decide +kernel
set_option maxRecDepth 20000 in
theorem K10_0_1 : (List.range 40).all (fun j => !cK10_0 (40 + j) || xClM 10 0 cK10_0 (xP (40 + j))) = true := by decide +kernel
set_option maxRecDepth 20000 in
theorem K10_0_2 : (List.range 40).all (fun j => !cK10_0 (80 + j) || xClM 10 0 cK10_0 (xP (80 + j))) = true := by decide +kernel
set_option maxRecDepth 20000 in
theorem K10_0_3 : (List.range 40).all (fun j => !cK10_0 (120 + j) || xClM 10 0 cK10_0 (xP (120 + j))) = true := by decide +kernel
set_option maxRecDepth 20000 in
theorem K10_0_4 : (List.range 40).all (fun j => !cK10_0 (160 + j) || xClM 10 0 cK10_0 (xP (160 + j))) = true := by decide +kernel
set_option maxRecDepth 20000 in
theorem K10_0_5 : (List.range 40).all (fun j => !cK10_0 (200 + j) || xClM 10 0 cK10_0 (xP (200 + j))) = true := by decide +kernel
set_option maxRecDepth 20000 in
theorem K10_0_6 : (List.range 40).all (fun j => !cK10_0 (240 + j) || xClM 10 0 cK10_0 (xP (240 + j))) = true := by decide +kernel
set_option maxRecDepth 20000 in
theorem K10_0_7 : (List.range 40).all (fun j => !cK10_0 (280 + j) || xClM 10 0 cK10_0 (xP (280 + j))) = true := by decide +kernel
theorem K10_0 (mid : Nat) (hm : cK10_0 mid = true) : xClM 10 0 cK10_0 (xP mid) = true := by
  have hl : mid < 320 := by
    unfold cK10_0 at hm
    simp only [Bool.and_eq_true] at hm
    exact blt_lt hm.1
  have key : ∀ (b n : Nat), (List.range n).all (fun j => !cK10_0 (b + j) || xClM 10 0 cK10_0 (xP (b + j))) = true → b ≤ mid → mid < b + n → xClM 10 0 cK10_0 (xP mid) = true := fun b n h h1 h2 => by
    have := List.all_eq_true.mp h (mid - b) (List.mem_range.mpr (by omega))
    rw [Nat.add_sub_cancel' h1, hm] at this
    simpa using this
  by_cases h0 : mid < 40
  · exact key 0 40 K10_0_0 (by omega) (by omega)
  by_cases h1 : mid < 80
  · exact key 40 40 K10_0_1 (by omega) (by omega)
  by_cases h2 : mid < 120
  · exact key 80 40 K10_0_2 (by omega) (by omega)
  by_cases h3 : mid < 160
  · exact key 120 40 K10_0_3 (by omega) (by omega)
  by_cases h4 : mid < 200
  · exact key 160 40 K10_0_4 (by omega) (by omega)
  by_cases h5 : mid < 240
  · exact key 200 40 K10_0_5 (by omega) (by omega)
  by_cases h6 : mid < 280
  · exact key 240 40 K10_0_6 (by omega) (by omega)
  exact key 280 40 K10_0_7 (by omega) (by omega)
def cK9_0 (m : Nat) : Bool := Nat.blt m 320 && !([0, 7, 76, 78, 120, 127] : List Nat).contains m
set_option maxRecDepth 20000 in
theorem K9_0_0 : (List.range 40).all (fun j => !cK9_0 (0 + j) || xClM 9 0 cK9_0 (xP (0 + j))) = true := by decide +kernel
set_option maxRecDepth 20000 in
theorem K9_0_1 : (List.range 40).all (fun j => !cK9_0 (40 + j) || xClM 9 0 cK9_0 (xP (40 + j))) = true := by decide +kernel
set_option maxRecDepth 20000 in
theorem K9_0_2 : (List.range 40).all (fun j => !cK9_0 (80 + j) || xClM 9 0 cK9_0 (xP (80 + j))) = true := by decide +kernel
set_option maxRecDepth 20000 in
theorem K9_0_3 : (List.range 40).all (fun j => !cK9_0 (120 + j) || xClM 9 0 cK9_0 (xP (120 + j))) = true := by decide +kernel
set_option maxRecDepth 20000 in
theorem K9_0_4 : (List.range 40).all (fun j => !cK9_0 (160 + j) || xClM 9 0 cK9_0 (xP (160 + j))) = true := by decide +kernel
set_option maxRecDepth 20000 in
theorem K9_0_5 : (List.range 40).all (fun j => !cK9_0 (200 + j) || xClM 9 0 cK9_0 (xP (200 + j))) = true := by decide +kernel
set_option maxRecDepth 20000 in
theorem K9_0_6 : (List.range 40).all (fun j => !cK9_0 (240 + j) || xClM 9 0 cK9_0 (xP (240 + j))) = true := by decide +kernel
set_option maxRecDepth 20000 in
theorem K9_0_7 : (List.range 40).all (fun j => !cK9_0 (280 + j) || xClM 9 0 cK9_0 (xP (280 + j))) = true := by decide +kernel
theorem K9_0 (mid : Nat) (hm : cK9_0 mid = true) : xClM 9 0 cK9_0 (xP mid) = true := by
  have hl : mid < 320 := by
    unfold cK9_0 at hm
    simp only [Bool.and_eq_true] at hm
    exact blt_lt hm.1
  have key : ∀ (b n : Nat), (List.range n).all (fun j => !cK9_0 (b + j) || xClM 9 0 cK9_0 (xP (b + j))) = true → b ≤ mid → mid < b + n → xClM 9 0 cK9_0 (xP mid) = true := fun b n h h1 h2 => by
    have := List.all_eq_true.mp h (mid - b) (List.mem_range.mpr (by omega))
    rw [Nat.add_sub_cancel' h1, hm] at this
    simpa using this
  by_cases h0 : mid < 40
  · exact key 0 40 K9_0_0 (by omega) (by omega)
  by_cases h1 : mid < 80
  · exact key 40 40 K9_0_1 (by omega) (by omega)
  by_cases h2 : mid < 120
  · exact key 80 40 K9_0_2 (by omega) (by omega)
  by_cases h3 : mid < 160
  · exact key 120 40 K9_0_3 (by omega) (by omega)
  by_cases h4 : mid < 200
  · exact key 160 40 K9_0_4 (by omega) (by omega)
  by_cases h5 : mid < 240
  · exact key 200 40 K9_0_5 (by omega) (by omega)
  by_cases h6 : mid < 280
  · exact key 240 40 K9_0_6 (by omega) (by omega)
  exact key 280 40 K9_0_7 (by omega) (by omega)
def cK6_0 (m : Nat) : Bool := Nat.blt m 320 && !([0, 10, 51, 53, 120, 130] : List Nat).contains m
set_option maxRecDepth 20000 in
theorem K6_0_0 : (List.range 40).all (fun j => !cK6_0 (0 + j) || xClM 6 0 cK6_0 (xP (0 + j))) = true := by decide +kernel
set_option maxRecDepth 20000 in
theorem K6_0_1 : (List.range 40).all (fun j => !cK6_0 (40 + j) || xClM 6 0 cK6_0 (xP (40 + j))) = true := by decide +kernel
set_option maxRecDepth 20000 in
theorem K6_0_2 : (List.range 40).all (fun j => !cK6_0 (80 + j) || xClM 6 0 cK6_0 (xP (80 + j))) = true := by decide +kernel
set_option maxRecDepth 20000 in
theorem K6_0_3 : (List.range 40).all (fun j => !cK6_0 (120 + j) || xClM 6 0 cK6_0 (xP (120 + j))) = true := by decide +kernel
set_option maxRecDepth 20000 in
theorem K6_0_4 : (List.range 40).all (fun j => !cK6_0 (160 + j) || xClM 6 0 cK6_0 (xP (160 + j))) = true := by decide +kernel
set_option maxRecDepth 20000 in
theorem K6_0_5 : (List.range 40).all (fun j => !cK6_0 (200 + j) || xClM 6 0 cK6_0 (xP (200 + j))) = true := by decide +kernel
set_option maxRecDepth 20000 in
theorem K6_0_6 : (List.range 40).all (fun j => !cK6_0 (240 + j) || xClM 6 0 cK6_0 (xP (240 + j))) = true := by decide +kernel
set_option maxRecDepth 20000 in
theorem K6_0_7 : (List.range 40).all (fun j => !cK6_0 (280 + j) || xClM 6 0 cK6_0 (xP (280 + j))) = true := by decide +kernel
theorem K6_0 (mid : Nat) (hm : cK6_0 mid = true) : xClM 6 0 cK6_0 (xP mid) = true := by
  have hl : mid < 320 := by
    unfold cK6_0 at hm
    simp only [Bool.and_eq_true] at hm
    exact blt_lt hm.1
  have key : ∀ (b n : Nat), (List.range n).all (fun j => !cK6_0 (b + j) || xClM 6 0 cK6_0 (xP (b + j))) = true → b ≤ mid → mid < b + n → xClM 6 0 cK6_0 (xP mid) = true := fun b n h h1 h2 => by
    have := List.all_eq_true.mp h (mid - b) (List.mem_range.mpr (by omega))
    rw [Nat.add_sub_cancel' h1, hm] at this
    simpa using this
  by_cases h0 : mid < 40
  · exact key 0 40 K6_0_0 (by omega) (by omega)
  by_cases h1 : mid < 80
  · exact key 40 40 K6_0_1 (by omega) (by omega)
  by_cases h2 : mid < 120
  · exact key 80 40 K6_0_2 (by omega) (by omega)
  by_cases h3 : mid < 160
  · exact key 120 40 K6_0_3 (by omega) (by omega)
  by_cases h4 : mid < 200
  · exact key 160 40 K6_0_4 (by omega) (by omega)
  by_cases h5 : mid < 240
  · exact key 200 40 K6_0_5 (by omega) (by omega)
  by_cases h6 : mid < 280
  · exact key 240 40 K6_0_6 (by omega) (by omega)
  exact key 280 40 K6_0_7 (by omega) (by omega)
def cK11_0 (m : Nat) : Bool := Nat.blt m 320 && !([0, 12, 104, 106, 120, 132] : List Nat).contains m
set_option maxRecDepth 20000 in
theorem K11_0_0 : (List.range 40).all (fun j => !cK11_0 (0 + j) || xClM 11 0 cK11_0 (xP (0 + j))) = true := by decide +kernel
set_option maxRecDepth 20000 in
theorem K11_0_1 : (List.range 40).all (fun j => !cK11_0 (40 + j) || xClM 11 0 cK11_0 (xP (40 + j))) = true := by decide +kernel
set_option maxRecDepth 20000 in
theorem K11_0_2 : (List.range 40).all (fun j => !cK11_0 (80 + j) || xClM 11 0 cK11_0 (xP (80 + j))) = true := by decide +kernel
set_option maxRecDepth 20000 in
theorem K11_0_3 : (List.range 40).all (fun j => !cK11_0 (120 + j) || xClM 11 0 cK11_0 (xP (120 + j))) = true := by decide +kernel
set_option maxRecDepth 20000 in
theorem K11_0_4 : (List.range 40).all (fun j => !cK11_0 (160 + j) || xClM 11 0 cK11_0 (xP (160 + j))) = true := by decide +kernel
set_option maxRecDepth 20000 in
theorem K11_0_5 : (List.range 40).all (fun j => !cK11_0 (200 + j) || xClM 11 0 cK11_0 (xP (200 + j))) = true := by decide +kernel
set_option maxRecDepth 20000 in
theorem K11_0_6 : (List.range 40).all (fun j => !cK11_0 (240 + j) || xClM 11 0 cK11_0 (xP (240 + j))) = true := by decide +kernel
set_option maxRecDepth 20000 in
theorem K11_0_7 : (List.range 40).all (fun j => !cK11_0 (280 + j) || xClM 11 0 cK11_0 (xP (280 + j))) = true := by decide +kernel
theorem K11_0 (mid : Nat) (hm : cK11_0 mid = true) : xClM 11 0 cK11_0 (xP mid) = true := by
  have hl : mid < 320 := by
    unfold cK11_0 at hm
    simp only [Bool.and_eq_true] at hm
    exact blt_lt hm.1
  have key : ∀ (b n : Nat), (List.range n).all (fun j => !cK11_0 (b + j) || xClM 11 0 cK11_0 (xP (b + j))) = true → b ≤ mid → mid < b + n → xClM 11 0 cK11_0 (xP mid) = true := fun b n h h1 h2 => by
    have := List.all_eq_true.mp h (mid - b) (List.mem_range.mpr (by omega))
    rw [Nat.add_sub_cancel' h1, hm] at this
    simpa using this
  by_cases h0 : mid < 40
  · exact key 0 40 K11_0_0 (by omega) (by omega)
  by_cases h1 : mid < 80
  · exact key 40 40 K11_0_1 (by omega) (by omega)
  by_cases h2 : mid < 120
  · exact key 80 40 K11_0_2 (by omega) (by omega)
  by_cases h3 : mid < 160
  · exact key 120 40 K11_0_3 (by omega) (by omega)
  by_cases h4 : mid < 200
  · exact key 160 40 K11_0_4 (by omega) (by omega)
  by_cases h5 : mid < 240
  · exact key 200 40 K11_0_5 (by omega) (by omega)
  by_cases h6 : mid < 280
  · exact key 240 40 K11_0_6 (by omega) (by omega)
  exact key 280 40 K11_0_7 (by omega) (by omega)
def cK5_0 (m : Nat) : Bool := Nat.blt m 320 && !([0, 18, 40, 43, 120, 138] : List Nat).contains m
set_option maxRecDepth 20000 in
theorem K5_0_0 : (List.range 40).all (fun j => !cK5_0 (0 + j) || xClM 5 0 cK5_0 (xP (0 + j))) = true := by decide +kernel
set_option maxRecDepth 20000 in
theorem K5_0_1 : (List.range 40).all (fun j => !cK5_0 (40 + j) || xClM 5 0 cK5_0 (xP (40 + j))) = true := by decide +kernel
set_option maxRecDepth 20000 in
theorem K5_0_2 : (List.range 40).all (fun j => !cK5_0 (80 + j) || xClM 5 0 cK5_0 (xP (80 + j))) = true := by decide +kernel
set_option maxRecDepth 20000 in
theorem K5_0_3 : (List.range 40).all (fun j => !cK5_0 (120 + j) || xClM 5 0 cK5_0 (xP (120 + j))) = true := by decide +kernel
set_option maxRecDepth 20000 in
theorem K5_0_4 : (List.range 40).all (fun j => !cK5_0 (160 + j) || xClM 5 0 cK5_0 (xP (160 + j))) = true := by decide +kernel
set_option maxRecDepth 20000 in
theorem K5_0_5 : (List.range 40).all (fun j => !cK5_0 (200 + j) || xClM 5 0 cK5_0 (xP (200 + j))) = true := by decide +kernel
set_option maxRecDepth 20000 in
theorem K5_0_6 : (List.range 40).all (fun j => !cK5_0 (240 + j) || xClM 5 0 cK5_0 (xP (240 + j))) = true := by decide +kernel
set_option maxRecDepth 20000 in
theorem K5_0_7 : (List.range 40).all (fun j => !cK5_0 (280 + j) || xClM 5 0 cK5_0 (xP (280 + j))) = true := by decide +kernel
theorem K5_0 (mid : Nat) (hm : cK5_0 mid = true) : xClM 5 0 cK5_0 (xP mid) = true := by
  have hl : mid < 320 := by
    unfold cK5_0 at hm
    simp only [Bool.and_eq_true] at hm
    exact blt_lt hm.1
  have key : ∀ (b n : Nat), (List.range n).all (fun j => !cK5_0 (b + j) || xClM 5 0 cK5_0 (xP (b + j))) = true → b ≤ mid → mid < b + n → xClM 5 0 cK5_0 (xP mid) = true := fun b n h h1 h2 => by
    have := List.all_eq_true.mp h (mid - b) (List.mem_range.mpr (by omega))
    rw [Nat.add_sub_cancel' h1, hm] at this
    simpa using this
  by_cases h0 : mid < 40
  · exact key 0 40 K5_0_0 (by omega) (by omega)
  by_cases h1 : mid < 80
  · exact key 40 40 K5_0_1 (by omega) (by omega)
  by_cases h2 : mid < 120
  · exact key 80 40 K5_0_2 (by omega) (by omega)
  by_cases h3 : mid < 160
  · exact key 120 40 K5_0_3 (by omega) (by omega)
  by_cases h4 : mid < 200
  · exact key 160 40 K5_0_4 (by omega) (by omega)
  by_cases h5 : mid < 240
  · exact key 200 40 K5_0_5 (by omega) (by omega)
  by_cases h6 : mid < 280
  · exact key 240 40 K5_0_6 (by omega) (by omega)
  exact key 280 40 K5_0_7 (by omega) (by omega)
def cK18_4 (m : Nat) : Bool := Nat.blt m 320 && !([0, 186, 205] : List Nat).contains m
set_option maxRecDepth 20000 in
theorem K18_4_0 : (List.range 40).all (fun j => !cK18_4 (0 + j) || xClM 18 4 cK18_4 (xP (0 + j))) = true := by decide +kernel
set_option maxRecDepth 20000 in
theorem K18_4_1 : (List.range 40).all (fun j => !cK18_4 (40 + j) || xClM 18 4 cK18_4 (xP (40 + j))) = true := by decide +kernel
set_option maxRecDepth 20000 in
theorem K18_4_2 : (List.range 40).all (fun j => !cK18_4 (80 + j) || xClM 18 4 cK18_4 (xP (80 + j))) = true := by decide +kernel
set_option maxRecDepth 20000 in
theorem K18_4_3 : (List.range 40).all (fun j => !cK18_4 (120 + j) || xClM 18 4 cK18_4 (xP (120 + j))) = true := by decide +kernel
set_option maxRecDepth 20000 in
theorem K18_4_4 : (List.range 40).all (fun j => !cK18_4 (160 + j) || xClM 18 4 cK18_4 (xP (160 + j))) = true := by decide +kernel
set_option maxRecDepth 20000 in
theorem K18_4_5 : (List.range 40).all (fun j => !cK18_4 (200 + j) || xClM 18 4 cK18_4 (xP (200 + j))) = true := by decide +kernel
set_option maxRecDepth 20000 in
theorem K18_4_6 : (List.range 40).all (fun j => !cK18_4 (240 + j) || xClM 18 4 cK18_4 (xP (240 + j))) = true := by decide +kernel
set_option maxRecDepth 20000 in
theorem K18_4_7 : (List.range 40).all (fun j => !cK18_4 (280 + j) || xClM 18 4 cK18_4 (xP (280 + j))) = true := by decide +kernel
theorem K18_4 (mid : Nat) (hm : cK18_4 mid = true) : xClM 18 4 cK18_4 (xP mid) = true := by
  have hl : mid < 320 := by
    unfold cK18_4 at hm
    simp only [Bool.and_eq_true] at hm
    exact blt_lt hm.1
  have key : ∀ (b n : Nat), (List.range n).all (fun j => !cK18_4 (b + j) || xClM 18 4 cK18_4 (xP (b + j))) = true → b ≤ mid → mid < b + n → xClM 18 4 cK18_4 (xP mid) = true := fun b n h h1 h2 => by
    have := List.all_eq_true.mp h (mid - b) (List.mem_range.mpr (by omega))
    rw [Nat.add_sub_cancel' h1, hm] at this
    simpa using this
  by_cases h0 : mid < 40
  · exact key 0 40 K18_4_0 (by omega) (by omega)
  by_cases h1 : mid < 80
  · exact key 40 40 K18_4_1 (by omega) (by omega)
  by_cases h2 : mid < 120
  · exact key 80 40 K18_4_2 (by omega) (by omega)
  by_cases h3 : mid < 160
  · exact key 120 40 K18_4_3 (by omega) (by omega)
  by_cases h4 : mid < 200
  · exact key 160 40 K18_4_4 (by omega) (by omega)
  by_cases h5 : mid < 240
  · exact key 200 40 K18_4_5 (by omega) (by omega)
  by_cases h6 : mid < 280
  · exact key 240 40 K18_4_6 (by omega) (by omega)
  exact key 280 40 K18_4_7 (by omega) (by omega)
def cK18_1 (m : Nat) : Bool := Nat.blt m 320 && !([0, 226] : List Nat).contains m
set_option maxRecDepth 20000 in
theorem K18_1_0 : (List.range 40).all (fun j => !cK18_1 (0 + j) || xClM 18 1 cK18_1 (xP (0 + j))) = true := by decide +kernel
set_option maxRecDepth 20000 in
theorem K18_1_1 : (List.range 40).all (fun j => !cK18_1 (40 + j) || xClM 18 1 cK18_1 (xP (40 + j))) = true := by decide +kernel
set_option maxRecDepth 20000 in
theorem K18_1_2 : (List.range 40).all (fun j => !cK18_1 (80 + j) || xClM 18 1 cK18_1 (xP (80 + j))) = true := by decide +kernel
set_option maxRecDepth 20000 in
theorem K18_1_3 : (List.range 40).all (fun j => !cK18_1 (120 + j) || xClM 18 1 cK18_1 (xP (120 + j))) = true := by decide +kernel
set_option maxRecDepth 20000 in
theorem K18_1_4 : (List.range 40).all (fun j => !cK18_1 (160 + j) || xClM 18 1 cK18_1 (xP (160 + j))) = true := by decide +kernel
set_option maxRecDepth 20000 in
theorem K18_1_5 : (List.range 40).all (fun j => !cK18_1 (200 + j) || xClM 18 1 cK18_1 (xP (200 + j))) = true := by decide +kernel
set_option maxRecDepth 20000 in
theorem K18_1_6 : (List.range 40).all (fun j => !cK18_1 (240 + j) || xClM 18 1 cK18_1 (xP (240 + j))) = true := by decide +kernel
set_option maxRecDepth 20000 in
theorem K18_1_7 : (List.range 40).all (fun j => !cK18_1 (280 + j) || xClM 18 1 cK18_1 (xP (280 + j))) = true := by decide +kernel
theorem K18_1 (mid : Nat) (hm : cK18_1 mid = true) : xClM 18 1 cK18_1 (xP mid) = true := by
  have hl : mid < 320 := by
    unfold cK18_1 at hm
    simp only [Bool.and_eq_true] at hm
    exact blt_lt hm.1
  have key : ∀ (b n : Nat), (List.range n).all (fun j => !cK18_1 (b + j) || xClM 18 1 cK18_1 (xP (b + j))) = true → b ≤ mid → mid < b + n → xClM 18 1 cK18_1 (xP mid) = true := fun b n h h1 h2 => by
    have := List.all_eq_true.mp h (mid - b) (List.mem_range.mpr (by omega))
    rw [Nat.add_sub_cancel' h1, hm] at this
    simpa using this
  by_cases h0 : mid < 40
  · exact key 0 40 K18_1_0 (by omega) (by omega)
  by_cases h1 : mid < 80
  · exact key 40 40 K18_1_1 (by omega) (by omega)
  by_cases h2 : mid < 120
  · exact key 80 40 K18_1_2 (by omega) (by omega)
  by_cases h3 : mid < 160
  · exact key 120 40 K18_1_3 (by omega) (by omega)
  by_cases h4 : mid < 200
  · exact key 160 40 K18_1_4 (by omega) (by omega)
  by_cases h5 : mid < 240
  · exact key 200 40 K18_1_5 (by omega) (by omega)
  by_cases h6 : mid < 280
  · exact key 240 40 K18_1_6 (by omega) (by omega)
  exact key 280 40 K18_1_7 (by omega) (by omega)
def cK18_8 (m : Nat) : Bool := Nat.blt m 320 && !([0, 195] : List Nat).contains m
set_option maxRecDepth 20000 in
theorem K18_8_0 : (List.range 40).all (fun j => !cK18_8 (0 + j) || xClM 18 8 cK18_8 (xP (0 + j))) = true := by decide +kernel
set_option maxRecDepth 20000 in
theorem K18_8_1 : (List.range 40).all (fun j => !cK18_8 (40 + j) || xClM 18 8 cK18_8 (xP (40 + j))) = true := by decide +kernel
set_option maxRecDepth 20000 in
theorem K18_8_2 : (List.range 40).all (fun j => !cK18_8 (80 + j) || xClM 18 8 cK18_8 (xP (80 + j))) = true := by decide +kernel
set_option maxRecDepth 20000 in
theorem K18_8_3 : (List.range 40).all (fun j => !cK18_8 (120 + j) || xClM 18 8 cK18_8 (xP (120 + j))) = true := by decide +kernel
set_option maxRecDepth 20000 in
theorem K18_8_4 : (List.range 40).all (fun j => !cK18_8 (160 + j) || xClM 18 8 cK18_8 (xP (160 + j))) = true := by decide +kernel
set_option maxRecDepth 20000 in
theorem K18_8_5 : (List.range 40).all (fun j => !cK18_8 (200 + j) || xClM 18 8 cK18_8 (xP (200 + j))) = true := by decide +kernel
set_option maxRecDepth 20000 in
theorem K18_8_6 : (List.range 40).all (fun j => !cK18_8 (240 + j) || xClM 18 8 cK18_8 (xP (240 + j))) = true := by decide +kernel
set_option maxRecDepth 20000 in
theorem K18_8_7 : (List.range 40).all (fun j => !cK18_8 (280 + j) || xClM 18 8 cK18_8 (xP (280 + j))) = true := by decide +kernel
theorem K18_8 (mid : Nat) (hm : cK18_8 mid = true) : xClM 18 8 cK18_8 (xP mid) = true := by
  have hl : mid < 320 := by
    unfold cK18_8 at hm
    simp only [Bool.and_eq_true] at hm
    exact blt_lt hm.1
  have key : ∀ (b n : Nat), (List.range n).all (fun j => !cK18_8 (b + j) || xClM 18 8 cK18_8 (xP (b + j))) = true → b ≤ mid → mid < b + n → xClM 18 8 cK18_8 (xP mid) = true := fun b n h h1 h2 => by
    have := List.all_eq_true.mp h (mid - b) (List.mem_range.mpr (by omega))
    rw [Nat.add_sub_cancel' h1, hm] at this
    simpa using this
  by_cases h0 : mid < 40
  · exact key 0 40 K18_8_0 (by omega) (by omega)
  by_cases h1 : mid < 80
  · exact key 40 40 K18_8_1 (by omega) (by omega)
  by_cases h2 : mid < 120
  · exact key 80 40 K18_8_2 (by omega) (by omega)
  by_cases h3 : mid < 160
  · exact key 120 40 K18_8_3 (by omega) (by omega)
  by_cases h4 : mid < 200
  · exact key 160 40 K18_8_4 (by omega) (by omega)
  by_cases h5 : mid < 240
  · exact key 200 40 K18_8_5 (by omega) (by omega)
  by_cases h6 : mid < 280
  · exact key 240 40 K18_8_6 (by omega) (by omega)
  exact key 280 40 K18_8_7 (by omega) (by omega)
def cK3_2 (m : Nat) : Bool := Nat.blt m 320 && !([0, 194, 196, 202, 206, 208, 219, 305, 306] : List Nat).contains m
set_option maxRecDepth 20000 in
theorem K3_2_0 : (List.range 40).all (fun j => !cK3_2 (0 + j) || xClM 3 2 cK3_2 (xP (0 + j))) = true := by decide +kernel
set_option maxRecDepth 20000 in
theorem K3_2_1 : (List.range 40).all (fun j => !cK3_2 (40 + j) || xClM 3 2 cK3_2 (xP (40 + j))) = true := by decide +kernel
set_option maxRecDepth 20000 in
theorem K3_2_2 : (List.range 40).all (fun j => !cK3_2 (80 + j) || xClM 3 2 cK3_2 (xP (80 + j))) = true := by decide +kernel
set_option maxRecDepth 20000 in
theorem K3_2_3 : (List.range 40).all (fun j => !cK3_2 (120 + j) || xClM 3 2 cK3_2 (xP (120 + j))) = true := by decide +kernel
set_option maxRecDepth 20000 in
theorem K3_2_4 : (List.range 40).all (fun j => !cK3_2 (160 + j) || xClM 3 2 cK3_2 (xP (160 + j))) = true := by decide +kernel
set_option maxRecDepth 20000 in
theorem K3_2_5 : (List.range 40).all (fun j => !cK3_2 (200 + j) || xClM 3 2 cK3_2 (xP (200 + j))) = true := by decide +kernel
set_option maxRecDepth 20000 in
theorem K3_2_6 : (List.range 40).all (fun j => !cK3_2 (240 + j) || xClM 3 2 cK3_2 (xP (240 + j))) = true := by decide +kernel
set_option maxRecDepth 20000 in
theorem K3_2_7 : (List.range 40).all (fun j => !cK3_2 (280 + j) || xClM 3 2 cK3_2 (xP (280 + j))) = true := by decide +kernel
theorem K3_2 (mid : Nat) (hm : cK3_2 mid = true) : xClM 3 2 cK3_2 (xP mid) = true := by
  have hl : mid < 320 := by
    unfold cK3_2 at hm
    simp only [Bool.and_eq_true] at hm
    exact blt_lt hm.1
  have key : ∀ (b n : Nat), (List.range n).all (fun j => !cK3_2 (b + j) || xClM 3 2 cK3_2 (xP (b + j))) = true → b ≤ mid → mid < b + n → xClM 3 2 cK3_2 (xP mid) = true := fun b n h h1 h2 => by
    have := List.all_eq_true.mp h (mid - b) (List.mem_range.mpr (by omega))
    rw [Nat.add_sub_cancel' h1, hm] at this
    simpa using this
  by_cases h0 : mid < 40
  · exact key 0 40 K3_2_0 (by omega) (by omega)
  by_cases h1 : mid < 80
  · exact key 40 40 K3_2_1 (by omega) (by omega)
  by_cases h2 : mid < 120
  · exact key 80 40 K3_2_2 (by omega) (by omega)
  by_cases h3 : mid < 160
  · exact key 120 40 K3_2_3 (by omega) (by omega)
  by_cases h4 : mid < 200
  · exact key 160 40 K3_2_4 (by omega) (by omega)
  by_cases h5 : mid < 240
  · exact key 200 40 K3_2_5 (by omega) (by omega)
  by_cases h6 : mid < 280
  · exact key 240 40 K3_2_6 (by omega) (by omega)
  exact key 280 40 K3_2_7 (by omega) (by omega)
def cK18_0 (m : Nat) : Bool := Nat.blt m 320 && !([0, 188, 189, 194, 195, 196, 198, 199, 200, 202, 204, 205, 206, 207, 208, 212, 213, 215, 216, 218, 219, 223, 224, 226, 228, 230, 232, 234, 236, 238, 239, 241, 242, 243, 245, 246, 248, 250] : List Nat).contains m
set_option maxRecDepth 20000 in
theorem K18_0_0 : (List.range 40).all (fun j => !cK18_0 (0 + j) || xClM 18 0 cK18_0 (xP (0 + j))) = true := by decide +kernel
set_option maxRecDepth 20000 in
theorem K18_0_1 : (List.range 40).all (fun j => !cK18_0 (40 + j) || xClM 18 0 cK18_0 (xP (40 + j))) = true := by decide +kernel
set_option maxRecDepth 20000 in
theorem K18_0_2 : (List.range 40).all (fun j => !cK18_0 (80 + j) || xClM 18 0 cK18_0 (xP (80 + j))) = true := by decide +kernel
set_option maxRecDepth 20000 in
theorem K18_0_3 : (List.range 40).all (fun j => !cK18_0 (120 + j) || xClM 18 0 cK18_0 (xP (120 + j))) = true := by decide +kernel
set_option maxRecDepth 20000 in
theorem K18_0_4 : (List.range 40).all (fun j => !cK18_0 (160 + j) || xClM 18 0 cK18_0 (xP (160 + j))) = true := by decide +kernel
set_option maxRecDepth 20000 in
theorem K18_0_5 : (List.range 40).all (fun j => !cK18_0 (200 + j) || xClM 18 0 cK18_0 (xP (200 + j))) = true := by decide +kernel
set_option maxRecDepth 20000 in
theorem K18_0_6 : (List.range 40).all (fun j => !cK18_0 (240 + j) || xClM 18 0 cK18_0 (xP (240 + j))) = true := by decide +kernel
set_option maxRecDepth 20000 in
theorem K18_0_7 : (List.range 40).all (fun j => !cK18_0 (280 + j) || xClM 18 0 cK18_0 (xP (280 + j))) = true := by decide +kernel
theorem K18_0 (mid : Nat) (hm : cK18_0 mid = true) : xClM 18 0 cK18_0 (xP mid) = true := by
  have hl : mid < 320 := by
    unfold cK18_0 at hm
    simp only [Bool.and_eq_true] at hm
    exact blt_lt hm.1
  have key : ∀ (b n : Nat), (List.range n).all (fun j => !cK18_0 (b + j) || xClM 18 0 cK18_0 (xP (b + j))) = true → b ≤ mid → mid < b + n → xClM 18 0 cK18_0 (xP mid) = true := fun b n h h1 h2 => by
    have := List.all_eq_true.mp h (mid - b) (List.mem_range.mpr (by omega))
    rw [Nat.add_sub_cancel' h1, hm] at this
    simpa using this
  by_cases h0 : mid < 40
  · exact key 0 40 K18_0_0 (by omega) (by omega)
  by_cases h1 : mid < 80
  · exact key 40 40 K18_0_1 (by omega) (by omega)
  by_cases h2 : mid < 120
  · exact key 80 40 K18_0_2 (by omega) (by omega)
  by_cases h3 : mid < 160
  · exact key 120 40 K18_0_3 (by omega) (by omega)
  by_cases h4 : mid < 200
  · exact key 160 40 K18_0_4 (by omega) (by omega)
  by_cases h5 : mid < 240
  · exact key 200 40 K18_0_5 (by omega) (by omega)
  by_cases h6 : mid < 280
  · exact key 240 40 K18_0_6 (by omega) (by omega)
  exact key 280 40 K18_0_7 (by omega) (by omega)
def cK13_0 (m : Nat) : Bool := Nat.blt m 320 && !([0, 1, 2, 3, 4, 5, 6, 7, 8, 9, 10, 11, 12, 13, 14, 15, 16, 17, 18, 19, 20, 21, 22, 23, 24, 25, 26, 27, 28, 29, 31, 32, 33] : List Nat).contains m
set_option maxRecDepth 20000 in
theorem K13_0_0 : (List.range 40).all (fun j => !cK13_0 (0 + j) || xClM 13 0 cK13_0 (xP (0 + j))) = true := by decide +kernel
set_option maxRecDepth 20000 in
theorem K13_0_1 : (List.range 40).all (fun j => !cK13_0 (40 + j) || xClM 13 0 cK13_0 (xP (40 + j))) = true := by decide +kernel
set_option maxRecDepth 20000 in
theorem K13_0_2 : (List.range 40).all (fun j => !cK13_0 (80 + j) || xClM 13 0 cK13_0 (xP (80 + j))) = true := by decide +kernel
set_option maxRecDepth 20000 in
theorem K13_0_3 : (List.range 40).all (fun j => !cK13_0 (120 + j) || xClM 13 0 cK13_0 (xP (120 + j))) = true := by decide +kernel
set_option maxRecDepth 20000 in
theorem K13_0_4 : (List.range 40).all (fun j => !cK13_0 (160 + j) || xClM 13 0 cK13_0 (xP (160 + j))) = true := by decide +kernel
set_option maxRecDepth 20000 in
theorem K13_0_5 : (List.range 40).all (fun j => !cK13_0 (200 + j) || xClM 13 0 cK13_0 (xP (200 + j))) = true := by decide +kernel
set_option maxRecDepth 20000 in
theorem K13_0_6 : (List.range 40).all (fun j => !cK13_0 (240 + j) || xClM 13 0 cK13_0 (xP (240 + j))) = true := by decide +kernel
set_option maxRecDepth 20000 in
theorem K13_0_7 : (List.range 40).all (fun j => !cK13_0 (280 + j) || xClM 13 0 cK13_0 (xP (280 + j))) = true := by decide +kernel
theorem K13_0 (mid : Nat) (hm : cK13_0 mid = true) : xClM 13 0 cK13_0 (xP mid) = true := by
  have hl : mid < 320 := by
    unfold cK13_0 at hm
    simp only [Bool.and_eq_true] at hm
    exact blt_lt hm.1
  have key : ∀ (b n : Nat), (List.range n).all (fun j => !cK13_0 (b + j) || xClM 13 0 cK13_0 (xP (b + j))) = true → b ≤ mid → mid < b + n → xClM 13 0 cK13_0 (xP mid) = true := fun b n h h1 h2 => by
    have := List.all_eq_true.mp h (mid - b) (List.mem_range.mpr (by omega))
    rw [Nat.add_sub_cancel' h1, hm] at this
    simpa using this
  by_cases h0 : mid < 40
  · exact key 0 40 K13_0_0 (by omega) (by omega)
  by_cases h1 : mid < 80
  · exact key 40 40 K13_0_1 (by omega) (by omega)
  by_cases h2 : mid < 120
  · exact key 80 40 K13_0_2 (by omega) (by omega)
  by_cases h3 : mid < 160
  · exact key 120 40 K13_0_3 (by omega) (by omega)
  by_cases h4 : mid < 200
  · exact key 160 40 K13_0_4 (by omega) (by omega)
  by_cases h5 : mid < 240
  · exact key 200 40 K13_0_5 (by omega) (by omega)
  by_cases h6 : mid < 280
  · exact key 240 40 K13_0_6 (by omega) (by omega)
  exact key 280 40 K13_0_7 (by omega) (by omega)
def cK15_0 (m : Nat) : Bool := Nat.blt m 320 && !([0, 174, 202] : List Nat).contains m
set_option maxRecDepth 20000 in
theorem K15_0_0 : (List.range 40).all (fun j => !cK15_0 (0 + j) || xClM 15 0 cK15_0 (xP (0 + j))) = true := by decide +kernel
set_option maxRecDepth 20000 in
theorem K15_0_1 : (List.range 40).all (fun j => !cK15_0 (40 + j) || xClM 15 0 cK15_0 (xP (40 + j))) = true := by decide +kernel
set_option maxRecDepth 20000 in
theorem K15_0_2 : (List.range 40).all (fun j => !cK15_0 (80 + j) || xClM 15 0 cK15_0 (xP (80 + j))) = true := by decide +kernel
set_option maxRecDepth 20000 in
theorem K15_0_3 : (List.range 40).all (fun j => !cK15_0 (120 + j) || xClM 15 0 cK15_0 (xP (120 + j))) = true := by decide +kernel
set_option maxRecDepth 20000 in
theorem K15_0_4 : (List.range 40).all (fun j => !cK15_0 (160 + j) || xClM 15 0 cK15_0 (xP (160 + j))) = true := by decide +kernel
set_option maxRecDepth 20000 in
theorem K15_0_5 : (List.range 40).all (fun j => !cK15_0 (200 + j) || xClM 15 0 cK15_0 (xP (200 + j))) = true := by decide +kernel
set_option maxRecDepth 20000 in
theorem K15_0_6 : (List.range 40).all (fun j => !cK15_0 (240 + j) || xClM 15 0 cK15_0 (xP (240 + j))) = true := by decide +kernel
set_option maxRecDepth 20000 in
theorem K15_0_7 : (List.range 40).all (fun j => !cK15_0 (280 + j) || xClM 15 0 cK15_0 (xP (280 + j))) = true := by decide +kernel
theorem K15_0 (mid : Nat) (hm : cK15_0 mid = true) : xClM 15 0 cK15_0 (xP mid) = true := by
  have hl : mid < 320 := by
    unfold cK15_0 at hm
    simp only [Bool.and_eq_true] at hm
    exact blt_lt hm.1
  have key : ∀ (b n : Nat), (List.range n).all (fun j => !cK15_0 (b + j) || xClM 15 0 cK15_0 (xP (b + j))) = true → b ≤ mid → mid < b + n → xClM 15 0 cK15_0 (xP mid) = true := fun b n h h1 h2 => by
    have := List.all_eq_true.mp h (mid - b) (List.mem_range.mpr (by omega))
    rw [Nat.add_sub_cancel' h1, hm] at this
    simpa using this
  by_cases h0 : mid < 40
  · exact key 0 40 K15_0_0 (by omega) (by omega)
  by_cases h1 : mid < 80
  · exact key 40 40 K15_0_1 (by omega) (by omega)
  by_cases h2 : mid < 120
  · exact key 80 40 K15_0_2 (by omega) (by omega)
  by_cases h3 : mid < 160
  · exact key 120 40 K15_0_3 (by omega) (by omega)
  by_cases h4 : mid < 200
  · exact key 160 40 K15_0_4 (by omega) (by omega)
  by_cases h5 : mid < 240
  · exact key 200 40 K15_0_5 (by omega) (by omega)
  by_cases h6 : mid < 280
  · exact key 240 40 K15_0_6 (by omega) (by omega)
  exact key 280 40 K15_0_7 (by omega) (by omega)
def cK15_1 (m : Nat) : Bool := Nat.blt m 320 && !([0, 174, 202] : List Nat).contains m
set_option maxRecDepth 20000 in
theorem K15_1_0 : (List.range 40).all (fun j => !cK15_1 (0 + j) || xClM 15 1 cK15_1 (xP (0 + j))) = true := by decide +kernel
set_option maxRecDepth 20000 in
theorem K15_1_1 : (List.range 40).all (fun j => !cK15_1 (40 + j) || xClM 15 1 cK15_1 (xP (40 + j))) = true := by decide +kernel
set_option maxRecDepth 20000 in
theorem K15_1_2 : (List.range 40).all (fun j => !cK15_1 (80 + j) || xClM 15 1 cK15_1 (xP (80 + j))) = true := by decide +kernel
set_option maxRecDepth 20000 in
theorem K15_1_3 : (List.range 40).all (fun j => !cK15_1 (120 + j) || xClM 15 1 cK15_1 (xP (120 + j))) = true := by decide +kernel
set_option maxRecDepth 20000 in
theorem K15_1_4 : (List.range 40).all (fun j => !cK15_1 (160 + j) || xClM 15 1 cK15_1 (xP (160 + j))) = true := by decide +kernel
set_option maxRecDepth 20000 in
theorem K15_1_5 : (List.range 40).all (fun j => !cK15_1 (200 + j) || xClM 15 1 cK15_1 (xP (200 + j))) = true := by decide +kernel
set_option maxRecDepth 20000 in
theorem K15_1_6 : (List.range 40).all (fun j => !cK15_1 (240 + j) || xClM 15 1 cK15_1 (xP (240 + j))) = true := by decide +kernel
set_option maxRecDepth 20000 in
theorem K15_1_7 : (List.range 40).all (fun j => !cK15_1 (280 + j) || xClM 15 1 cK15_1 (xP (280 + j))) = true := by decide +kernel
theorem K15_1 (mid : Nat) (hm : cK15_1 mid = true) : xClM 15 1 cK15_1 (xP mid) = true := by
  have hl : mid < 320 := by
    unfold cK15_1 at hm
    simp only [Bool.and_eq_true] at hm
    exact blt_lt hm.1
  have key : ∀ (b n : Nat), (List.range n).all (fun j => !cK15_1 (b + j) || xClM 15 1 cK15_1 (xP (b + j))) = true → b ≤ mid → mid < b + n → xClM 15 1 cK15_1 (xP mid) = true := fun b n h h1 h2 => by
    have := List.all_eq_true.mp h (mid - b) (List.mem_range.mpr (by omega))
    rw [Nat.add_sub_cancel' h1, hm] at this
    simpa using this
  by_cases h0 : mid < 40
  · exact key 0 40 K15_1_0 (by omega) (by omega)
  by_cases h1 : mid < 80
  · exact key 40 40 K15_1_1 (by omega) (by omega)
  by_cases h2 : mid < 120
  · exact key 80 40 K15_1_2 (by omega) (by omega)
  by_cases h3 : mid < 160
  · exact key 120 40 K15_1_3 (by omega) (by omega)
  by_cases h4 : mid < 200
  · exact key 160 40 K15_1_4 (by omega) (by omega)
  by_cases h5 : mid < 240
  · exact key 200 40 K15_1_5 (by omega) (by omega)
  by_cases h6 : mid < 280
  · exact key 240 40 K15_1_6 (by omega) (by omega)
  exact key 280 40 K15_1_7 (by omega) (by omega)
def cK15_2 (m : Nat) : Bool := Nat.blt m 320 && !([0, 174, 202] : List Nat).contains m
set_option maxRecDepth 20000 in
theorem K15_2_0 : (List.range 40).all (fun j => !cK15_2 (0 + j) || xClM 15 2 cK15_2 (xP (0 + j))) = true := by decide +kernel
set_option maxRecDepth 20000 in
theorem K15_2_1 : (List.range 40).all (fun j => !cK15_2 (40 + j) || xClM 15 2 cK15_2 (xP (40 + j))) = true := by decide +kernel
set_option maxRecDepth 20000 in
theorem K15_2_2 : (List.range 40).all (fun j => !cK15_2 (80 + j) || xClM 15 2 cK15_2 (xP (80 + j))) = true := by decide +kernel
set_option maxRecDepth 20000 in
theorem K15_2_3 : (List.range 40).all (fun j => !cK15_2 (120 + j) || xClM 15 2 cK15_2 (xP (120 + j))) = true := by decide +kernel
set_option maxRecDepth 20000 in
theorem K15_2_4 : (List.range 40).all (fun j => !cK15_2 (160 + j) || xClM 15 2 cK15_2 (xP (160 + j))) = true := by decide +kernel
set_option maxRecDepth 20000 in
theorem K15_2_5 : (List.range 40).all (fun j => !cK15_2 (200 + j) || xClM 15 2 cK15_2 (xP (200 + j))) = true := by decide +kernel
set_option maxRecDepth 20000 in
theorem K15_2_6 : (List.range 40).all (fun j => !cK15_2 (240 + j) || xClM 15 2 cK15_2 (xP (240 + j))) = true := by decide +kernel
set_option maxRecDepth 20000 in
theorem K15_2_7 : (List.range 40).all (fun j => !cK15_2 (280 + j) || xClM 15 2 cK15_2 (xP (280 + j))) = true := by decide +kernel
theorem K15_2 (mid : Nat) (hm : cK15_2 mid = true) : xClM 15 2 cK15_2 (xP mid) = true := by
  have hl : mid < 320 := by
    unfold cK15_2 at hm
    simp only [Bool.and_eq_true] at hm
    exact blt_lt hm.1
  have key : ∀ (b n : Nat), (List.range n).all (fun j => !cK15_2 (b + j) || xClM 15 2 cK15_2 (xP (b + j))) = true → b ≤ mid → mid < b + n → xClM 15 2 cK15_2 (xP mid) = true := fun b n h h1 h2 => by
    have := List.all_eq_true.mp h (mid - b) (List.mem_range.mpr (by omega))
    rw [Nat.add_sub_cancel' h1, hm] at this
    simpa using this
  by_cases h0 : mid < 40
  · exact key 0 40 K15_2_0 (by omega) (by omega)
  by_cases h1 : mid < 80
  · exact key 40 40 K15_2_1 (by omega) (by omega)
  by_cases h2 : mid < 120
  · exact key 80 40 K15_2_2 (by omega) (by omega)
  by_cases h3 : mid < 160
  · exact key 120 40 K15_2_3 (by omega) (by omega)
  by_cases h4 : mid < 200
  · exact key 160 40 K15_2_4 (by omega) (by omega)
  by_cases h5 : mid < 240
  · exact key 200 40 K15_2_5 (by omega) (by omega)
  by_cases h6 : mid < 280
  · exact key 240 40 K15_2_6 (by omega) (by omega)
  exact key 280 40 K15_2_7 (by omega) (by omega)
def cK15_3 (m : Nat) : Bool := Nat.blt m 320 && !([0, 174, 202] : List Nat).contains m
set_option maxRecDepth 20000 in
theorem K15_3_0 : (List.range 40).all (fun j => !cK15_3 (0 + j) || xClM 15 3 cK15_3 (xP (0 + j))) = true := by decide +kernel
set_option maxRecDepth 20000 in
theorem K15_3_1 : (List.range 40).all (fun j => !cK15_3 (40 + j) || xClM 15 3 cK15_3 (xP (40 + j))) = true := by decide +kernel
set_option maxRecDepth 20000 in
theorem K15_3_2 : (List.range 40).all (fun j => !cK15_3 (80 + j) || xClM 15 3 cK15_3 (xP (80 + j))) = true := by decide +kernel
set_option maxRecDepth 20000 in
theorem K15_3_3 : (List.range 40).all (fun j => !cK15_3 (120 + j) || xClM 15 3 cK15_3 (xP (120 + j))) = true := by decide +kernel
set_option maxRecDepth 20000 in
theorem K15_3_4 : (List.range 40).all (fun j => !cK15_3 (160 + j) || xClM 15 3 cK15_3 (xP (160 + j))) = true := by decide +kernel
set_option maxRecDepth 20000 in
theorem K15_3_5 : (List.range 40).all (fun j => !cK15_3 (200 + j) || xClM 15 3 cK15_3 (xP (200 + j))) = true := by decide +kernel
set_option maxRecDepth 20000 in
theorem K15_3_6 : (List.range 40).all (fun j => !cK15_3 (240 + j) || xClM 15 3 cK15_3 (xP (240 + j))) = true := by decide +kernel
set_option maxRecDepth 20000 in
theorem K15_3_7 : (List.range 40).all (fun j => !cK15_3 (280 + j) || xClM 15 3 cK15_3 (xP (280 + j))) = true := by decide +kernel
theorem K15_3 (mid : Nat) (hm : cK15_3 mid = true) : xClM 15 3 cK15_3 (xP mid) = true := by
  have hl : mid < 320 := by
    unfold cK15_3 at hm
    simp only [Bool.and_eq_true] at hm
    exact blt_lt hm.1
  have key : ∀ (b n : Nat), (List.range n).all (fun j => !cK15_3 (b + j) || xClM 15 3 cK15_3 (xP (b + j))) = true → b ≤ mid → mid < b + n → xClM 15 3 cK15_3 (xP mid) = true := fun b n h h1 h2 => by
    have := List.all_eq_true.mp h (mid - b) (List.mem_range.mpr (by omega))
    rw [Nat.add_sub_cancel' h1, hm] at this
    simpa using this
  by_cases h0 : mid < 40
  · exact key 0 40 K15_3_0 (by omega) (by omega)
  by_cases h1 : mid < 80
  · exact key 40 40 K15_3_1 (by omega) (by omega)
  by_cases h2 : mid < 120
  · exact key 80 40 K15_3_2 (by omega) (by omega)
  by_cases h3 : mid < 160
  · exact key 120 40 K15_3_3 (by omega) (by omega)
  by_cases h4 : mid < 200
  · exact key 160 40 K15_3_4 (by omega) (by omega)
  by_cases h5 : mid < 240
  · exact key 200 40 K15_3_5 (by omega) (by omega)
  by_cases h6 : mid < 280
  · exact key 240 40 K15_3_6 (by omega) (by omega)
  exact key 280 40 K15_3_7 (by omega) (by omega)
def cK15_4 (m : Nat) : Bool := Nat.blt m 320 && !([0, 174, 202] : List Nat).contains m
set_option maxRecDepth 20000 in
theorem K15_4_0 : (List.range 40).all (fun j => !cK15_4 (0 + j) || xClM 15 4 cK15_4 (xP (0 + j))) = true := by decide +kernel
set_option maxRecDepth 20000 in
theorem K15_4_1 : (List.range 40).all (fun j => !cK15_4 (40 + j) || xClM 15 4 cK15_4 (xP (40 + j))) = true := by decide +kernel
set_option maxRecDepth 20000 in
theorem K15_4_2 : (List.range 40).all (fun j => !cK15_4 (80 + j) || xClM 15 4 cK15_4 (xP (80 + j))) = true := by decide +kernel
set_option maxRecDepth 20000 in
theorem K15_4_3 : (List.range 40).all (fun j => !cK15_4 (120 + j) || xClM 15 4 cK15_4 (xP (120 + j))) = true := by decide +kernel
set_option maxRecDepth 20000 in
theorem K15_4_4 : (List.range 40).all (fun j => !cK15_4 (160 + j) || xClM 15 4 cK15_4 (xP (160 + j))) = true := by decide +kernel
set_option maxRecDepth 20000 in
theorem K15_4_5 : (List.range 40).all (fun j => !cK15_4 (200 + j) || xClM 15 4 cK15_4 (xP (200 + j))) = true := by decide +kernel
set_option maxRecDepth 20000 in
theorem K15_4_6 : (List.range 40).all (fun j => !cK15_4 (240 + j) || xClM 15 4 cK15_4 (xP (240 + j))) = true := by decide +kernel
set_option maxRecDepth 20000 in
theorem K15_4_7 : (List.range 40).all (fun j => !cK15_4 (280 + j) || xClM 15 4 cK15_4 (xP (280 + j))) = true := by decide +kernel
theorem K15_4 (mid : Nat) (hm : cK15_4 mid = true) : xClM 15 4 cK15_4 (xP mid) = true := by
  have hl : mid < 320 := by
    unfold cK15_4 at hm
    simp only [Bool.and_eq_true] at hm
    exact blt_lt hm.1
  have key : ∀ (b n : Nat), (List.range n).all (fun j => !cK15_4 (b + j) || xClM 15 4 cK15_4 (xP (b + j))) = true → b ≤ mid → mid < b + n → xClM 15 4 cK15_4 (xP mid) = true := fun b n h h1 h2 => by
    have := List.all_eq_true.mp h (mid - b) (List.mem_range.mpr (by omega))
    rw [Nat.add_sub_cancel' h1, hm] at this
    simpa using this
  by_cases h0 : mid < 40
  · exact key 0 40 K15_4_0 (by omega) (by omega)
  by_cases h1 : mid < 80
  · exact key 40 40 K15_4_1 (by omega) (by omega)
  by_cases h2 : mid < 120
  · exact key 80 40 K15_4_2 (by omega) (by omega)
  by_cases h3 : mid < 160
  · exact key 120 40 K15_4_3 (by omega) (by omega)
  by_cases h4 : mid < 200
  · exact key 160 40 K15_4_4 (by omega) (by omega)
  by_cases h5 : mid < 240
  · exact key 200 40 K15_4_5 (by omega) (by omega)
  by_cases h6 : mid < 280
  · exact key 240 40 K15_4_6 (by omega) (by omega)
  exact key 280 40 K15_4_7 (by omega) (by omega)
def cK15_5 (m : Nat) : Bool := Nat.blt m 320 && !([0, 174, 202] : List Nat).contains m
set_option maxRecDepth 20000 in
theorem K15_5_0 : (List.range 40).all (fun j => !cK15_5 (0 + j) || xClM 15 5 cK15_5 (xP (0 + j))) = true := by decide +kernel
set_option maxRecDepth 20000 in
theorem K15_5_1 : (List.range 40).all (fun j => !cK15_5 (40 + j) || xClM 15 5 cK15_5 (xP (40 + j))) = true := by decide +kernel
set_option maxRecDepth 20000 in
theorem K15_5_2 : (List.range 40).all (fun j => !cK15_5 (80 + j) || xClM 15 5 cK15_5 (xP (80 + j))) = true := by decide +kernel
set_option maxRecDepth 20000 in
theorem K15_5_3 : (List.range 40).all (fun j => !cK15_5 (120 + j) || xClM 15 5 cK15_5 (xP (120 + j))) = true := by decide +kernel
set_option maxRecDepth 20000 in
theorem K15_5_4 : (List.range 40).all (fun j => !cK15_5 (160 + j) || xClM 15 5 cK15_5 (xP (160 + j))) = true := by decide +kernel
set_option maxRecDepth 20000 in
theorem K15_5_5 : (List.range 40).all (fun j => !cK15_5 (200 + j) || xClM 15 5 cK15_5 (xP (200 + j))) = true := by decide +kernel
set_option maxRecDepth 20000 in
theorem K15_5_6 : (List.range 40).all (fun j => !cK15_5 (240 + j) || xClM 15 5 cK15_5 (xP (240 + j))) = true := by decide +kernel
set_option maxRecDepth 20000 in
theorem K15_5_7 : (List.range 40).all (fun j => !cK15_5 (280 + j) || xClM 15 5 cK15_5 (xP (280 + j))) = true := by decide +kernel
theorem K15_5 (mid : Nat) (hm : cK15_5 mid = true) : xClM 15 5 cK15_5 (xP mid) = true := by
  have hl : mid < 320 := by
    unfold cK15_5 at hm
    simp only [Bool.and_eq_true] at hm
    exact blt_lt hm.1
  have key : ∀ (b n : Nat), (List.range n).all (fun j => !cK15_5 (b + j) || xClM 15 5 cK15_5 (xP (b + j))) = true → b ≤ mid → mid < b + n → xClM 15 5 cK15_5 (xP mid) = true := fun b n h h1 h2 => by
    have := List.all_eq_true.mp h (mid - b) (List.mem_range.mpr (by omega))
    rw [Nat.add_sub_cancel' h1, hm] at this
    simpa using this
  by_cases h0 : mid < 40
  · exact key 0 40 K15_5_0 (by omega) (by omega)
  by_cases h1 : mid < 80
  · exact key 40 40 K15_5_1 (by omega) (by omega)
  by_cases h2 : mid < 120
  · exact key 80 40 K15_5_2 (by omega) (by omega)
  by_cases h3 : mid < 160
  · exact key 120 40 K15_5_3 (by omega) (by omega)
  by_cases h4 : mid < 200
  · exact key 160 40 K15_5_4 (by omega) (by omega)
  by_cases h5 : mid < 240
  · exact key 200 40 K15_5_5 (by omega) (by omega)
  by_cases h6 : mid < 280
  · exact key 240 40 K15_5_6 (by omega) (by omega)
  exact key 280 40 K15_5_7 (by omega) (by omega)
def cK15_6 (m : Nat) : Bool := Nat.blt m 320 && !([0, 174, 202] : List Nat).contains m
set_option maxRecDepth 20000 in
theorem K15_6_0 : (List.range 40).all (fun j => !cK15_6 (0 + j) || xClM 15 6 cK15_6 (xP (0 + j))) = true := by decide +kernel
set_option maxRecDepth 20000 in
theorem K15_6_1 : (List.range 40).all (fun j => !cK15_6 (40 + j) || xClM 15 6 cK15_6 (xP (40 + j))) = true := by decide +kernel
set_option maxRecDepth 20000 in
theorem K15_6_2 : (List.range 40).all (fun j => !cK15_6 (80 + j) || xClM 15 6 cK15_6 (xP (80 + j))) = true := by decide +kernel
set_option maxRecDepth 20000 in
theorem K15_6_3 : (List.range 40).all (fun j => !cK15_6 (120 + j) || xClM 15 6 cK15_6 (xP (120 + j))) = true := by decide +kernel
set_option maxRecDepth 20000 in
theorem K15_6_4 : (List.range 40).all (fun j => !cK15_6 (160 + j) || xClM 15 6 cK15_6 (xP (160 + j))) = true := by decide +kernel
set_option maxRecDepth 20000 in
theorem K15_6_5 : (List.range 40).all (fun j => !cK15_6 (200 + j) || xClM 15 6 cK15_6 (xP (200 + j))) = true := by decide +kernel
set_option maxRecDepth 20000 in
theorem K15_6_6 : (List.range 40).all (fun j => !cK15_6 (240 + j) || xClM 15 6 cK15_6 (xP (240 + j))) = true := by decide +kernel
set_option maxRecDepth 20000 in
theorem K15_6_7 : (List.range 40).all (fun j => !cK15_6 (280 + j) || xClM 15 6 cK15_6 (xP (280 + j))) = true := by decide +kernel
theorem K15_6 (mid : Nat) (hm : cK15_6 mid = true) : xClM 15 6 cK15_6 (xP mid) = true := by
  have hl : mid < 320 := by
    unfold cK15_6 at hm
    simp only [Bool.and_eq_true] at hm
    exact blt_lt hm.1
  have key : ∀ (b n : Nat), (List.range n).all (fun j => !cK15_6 (b + j) || xClM 15 6 cK15_6 (xP (b + j))) = true → b ≤ mid → mid < b + n → xClM 15 6 cK15_6 (xP mid) = true := fun b n h h1 h2 => by
    have := List.all_eq_true.mp h (mid - b) (List.mem_range.mpr (by omega))
    rw [Nat.add_sub_cancel' h1, hm] at this
    simpa using this
  by_cases h0 : mid < 40
  · exact key 0 40 K15_6_0 (by omega) (by omega)
  by_cases h1 : mid < 80
  · exact key 40 40 K15_6_1 (by omega) (by omega)
  by_cases h2 : mid < 120
  · exact key 80 40 K15_6_2 (by omega) (by omega)
  by_cases h3 : mid < 160
  · exact key 120 40 K15_6_3 (by omega) (by omega)
  by_cases h4 : mid < 200
  · exact key 160 40 K15_6_4 (by omega) (by omega)
  by_cases h5 : mid < 240
  · exact key 200 40 K15_6_5 (by omega) (by omega)
  by_cases h6 : mid < 280
  · exact key 240 40 K15_6_6 (by omega) (by omega)
  exact key 280 40 K15_6_7 (by omega) (by omega)
def cK15_7 (m : Nat) : Bool := Nat.blt m 320 && !([0, 204] : List Nat).contains m
set_option maxRecDepth 20000 in
theorem K15_7_0 : (List.range 40).all (fun j => !cK15_7 (0 + j) || xClM 15 7 cK15_7 (xP (0 + j))) = true := by decide +kernel
set_option maxRecDepth 20000 in
theorem K15_7_1 : (List.range 40).all (fun j => !cK15_7 (40 + j) || xClM 15 7 cK15_7 (xP (40 + j))) = true := by decide +kernel
set_option maxRecDepth 20000 in
theorem K15_7_2 : (List.range 40).all (fun j => !cK15_7 (80 + j) || xClM 15 7 cK15_7 (xP (80 + j))) = true := by decide +kernel
set_option maxRecDepth 20000 in
theorem K15_7_3 : (List.range 40).all (fun j => !cK15_7 (120 + j) || xClM 15 7 cK15_7 (xP (120 + j))) = true := by decide +kernel
set_option maxRecDepth 20000 in
theorem K15_7_4 : (List.range 40).all (fun j => !cK15_7 (160 + j) || xClM 15 7 cK15_7 (xP (160 + j))) = true := by decide +kernel
set_option maxRecDepth 20000 in
theorem K15_7_5 : (List.range 40).all (fun j => !cK15_7 (200 + j) || xClM 15 7 cK15_7 (xP (200 + j))) = true := by decide +kernel
set_option maxRecDepth 20000 in
theorem K15_7_6 : (List.range 40).all (fun j => !cK15_7 (240 + j) || xClM 15 7 cK15_7 (xP (240 + j))) = true := by decide +kernel
set_option maxRecDepth 20000 in
theorem K15_7_7 : (List.range 40).all (fun j => !cK15_7 (280 + j) || xClM 15 7 cK15_7 (xP (280 + j))) = true := by decide +kernel
theorem K15_7 (mid : Nat) (hm : cK15_7 mid = true) : xClM 15 7 cK15_7 (xP mid) = true := by
  have hl : mid < 320 := by
    unfold cK15_7 at hm
    simp only [Bool.and_eq_true] at hm
    exact blt_lt hm.1
  have key : ∀ (b n : Nat), (List.range n).all (fun j => !cK15_7 (b + j) || xClM 15 7 cK15_7 (xP (b + j))) = true → b ≤ mid → mid < b + n → xClM 15 7 cK15_7 (xP mid) = true := fun b n h h1 h2 => by
    have := List.all_eq_true.mp h (mid - b) (List.mem_range.mpr (by omega))
    rw [Nat.add_sub_cancel' h1, hm] at this
    simpa using this
  by_cases h0 : mid < 40
  · exact key 0 40 K15_7_0 (by omega) (by omega)
  by_cases h1 : mid < 80
  · exact key 40 40 K15_7_1 (by omega) (by omega)
  by_cases h2 : mid < 120
  · exact key 80 40 K15_7_2 (by omega) (by omega)
  by_cases h3 : mid < 160
  · exact key 120 40 K15_7_3 (by omega) (by omega)
  by_cases h4 : mid < 200
  · exact key 160 40 K15_7_4 (by omega) (by omega)
  by_cases h5 : mid < 240
  · exact key 200 40 K15_7_5 (by omega) (by omega)
  by_cases h6 : mid < 280
  · exact key 240 40 K15_7_6 (by omega) (by omega)
  exact key 280 40 K15_7_7 (by omega) (by omega)
def cK15_8 (m : Nat) : Bool := Nat.blt m 320 && !([0, 204] : List Nat).contains m
set_option maxRecDepth 20000 in
theorem K15_8_0 : (List.range 40).all (fun j => !cK15_8 (0 + j) || xClM 15 8 cK15_8 (xP (0 + j))) = true := by decide +kernel
set_option maxRecDepth 20000 in
theorem K15_8_1 : (List.range 40).all (fun j => !cK15_8 (40 + j) || xClM 15 8 cK15_8 (xP (40 + j))) = true := by decide +kernel
set_option maxRecDepth 20000 in
theorem K15_8_2 : (List.range 40).all (fun j => !cK15_8 (80 + j) || xClM 15 8 cK15_8 (xP (80 + j))) = true := by decide +kernel
set_option maxRecDepth 20000 in
theorem K15_8_3 : (List.range 40).all (fun j => !cK15_8 (120 + j) || xClM 15 8 cK15_8 (xP (120 + j))) = true := by decide +kernel
set_option maxRecDepth 20000 in
theorem K15_8_4 : (List.range 40).all (fun j => !cK15_8 (160 + j) || xClM 15 8 cK15_8 (xP (160 + j))) = true := by decide +kernel
set_option maxRecDepth 20000 in
theorem K15_8_5 : (List.range 40).all (fun j => !cK15_8 (200 + j) || xClM 15 8 cK15_8 (xP (200 + j))) = true := by decide +kernel
set_option maxRecDepth 20000 in
theorem K15_8_6 : (List.range 40).all (fun j => !cK15_8 (240 + j) || xClM 15 8 cK15_8 (xP (240 + j))) = true := by decide +kernel
set_option maxRecDepth 20000 in
theorem K15_8_7 : (List.range 40).all (fun j => !cK15_8 (280 + j) || xClM 15 8 cK15_8 (xP (280 + j))) = true := by decide +kernel
theorem K15_8 (mid : Nat) (hm : cK15_8 mid = true) : xClM 15 8 cK15_8 (xP mid) = true := by
  have hl : mid < 320 := by
    unfold cK15_8 at hm
    simp only [Bool.and_eq_true] at hm
    exact blt_lt hm.1
  have key : ∀ (b n : Nat), (List.range n).all (fun j => !cK15_8 (b + j) || xClM 15 8 cK15_8 (xP (b + j))) = true → b ≤ mid → mid < b + n → xClM 15 8 cK15_8 (xP mid) = true := fun b n h h1 h2 => by
    have := List.all_eq_true.mp h (mid - b) (List.mem_range.mpr (by omega))
    rw [Nat.add_sub_cancel' h1, hm] at this
    simpa using this
  by_cases h0 : mid < 40
  · exact key 0 40 K15_8_0 (by omega) (by omega)
  by_cases h1 : mid < 80
  · exact key 40 40 K15_8_1 (by omega) (by omega)
  by_cases h2 : mid < 120
  · exact key 80 40 K15_8_2 (by omega) (by omega)
  by_cases h3 : mid < 160
  · exact key 120 40 K15_8_3 (by omega) (by omega)
  by_cases h4 : mid < 200
  · exact key 160 40 K15_8_4 (by omega) (by omega)
  by_cases h5 : mid < 240
  · exact key 200 40 K15_8_5 (by omega) (by omega)
  by_cases h6 : mid < 280
  · exact key 240 40 K15_8_6 (by omega) (by omega)
  exact key 280 40 K15_8_7 (by omega) (by omega)
def cK15_9 (m : Nat) : Bool := Nat.blt m 320 && !([0, 204] : List Nat).contains m
set_option maxRecDepth 20000 in
theorem K15_9_0 : (List.range 40).all (fun j => !cK15_9 (0 + j) || xClM 15 9 cK15_9 (xP (0 + j))) = true := by decide +kernel
set_option maxRecDepth 20000 in
theorem K15_9_1 : (List.range 40).all (fun j => !cK15_9 (40 + j) || xClM 15 9 cK15_9 (xP (40 + j))) = true := by decide +kernel
set_option maxRecDepth 20000 in
theorem K15_9_2 : (List.range 40).all (fun j => !cK15_9 (80 + j) || xClM 15 9 cK15_9 (xP (80 + j))) = true := by decide +kernel
set_option maxRecDepth 20000 in
theorem K15_9_3 : (List.range 40).all (fun j => !cK15_9 (120 + j) || xClM 15 9 cK15_9 (xP (120 + j))) = true := by decide +kernel
set_option maxRecDepth 20000 in
theorem K15_9_4 : (List.range 40).all (fun j => !cK15_9 (160 + j) || xClM 15 9 cK15_9 (xP (160 + j))) = true := by decide +kernel
set_option maxRecDepth 20000 in
theorem K15_9_5 : (List.range 40).all (fun j => !cK15_9 (200 + j) || xClM 15 9 cK15_9 (xP (200 + j))) = true := by decide +kernel
set_option maxRecDepth 20000 in
theorem K15_9_6 : (List.range 40).all (fun j => !cK15_9 (240 + j) || xClM 15 9 cK15_9 (xP (240 + j))) = true := by decide +kernel
set_option maxRecDepth 20000 in
theorem K15_9_7 : (List.range 40).all (fun j => !cK15_9 (280 + j) || xClM 15 9 cK15_9 (xP (280 + j))) = true := by decide +kernel
theorem K15_9 (mid : Nat) (hm : cK15_9 mid = true) : xClM 15 9 cK15_9 (xP mid) = true := by
  have hl : mid < 320 := by
    unfold cK15_9 at hm
    simp only [Bool.and_eq_true] at hm
    exact blt_lt hm.1
  have key : ∀ (b n : Nat), (List.range n).all (fun j => !cK15_9 (b + j) || xClM 15 9 cK15_9 (xP (b + j))) = true → b ≤ mid → mid < b + n → xClM 15 9 cK15_9 (xP mid) = true := fun b n h h1 h2 => by
    have := List.all_eq_true.mp h (mid - b) (List.mem_range.mpr (by omega))
    rw [Nat.add_sub_cancel' h1, hm] at this
    simpa using this
  by_cases h0 : mid < 40
  · exact key 0 40 K15_9_0 (by omega) (by omega)
  by_cases h1 : mid < 80
  · exact key 40 40 K15_9_1 (by omega) (by omega)
  by_cases h2 : mid < 120
  · exact key 80 40 K15_9_2 (by omega) (by omega)
  by_cases h3 : mid < 160
  · exact key 120 40 K15_9_3 (by omega) (by omega)
  by_cases h4 : mid < 200
  · exact key 160 40 K15_9_4 (by omega) (by omega)
  by_cases h5 : mid < 240
  · exact key 200 40 K15_9_5 (by omega) (by omega)
  by_cases h6 : mid < 280
  · exact key 240 40 K15_9_6 (by omega) (by omega)
  exact key 280 40 K15_9_7 (by omega) (by omega)
def cK14_2 (m : Nat) : Bool := Nat.blt m 320 && !([0, 173, 206] : List Nat).contains m
set_option maxRecDepth 20000 in
theorem K14_2_0 : (List.range 40).all (fun j => !cK14_2 (0 + j) || xClM 14 2 cK14_2 (xP (0 + j))) = true := by decide +kernel
set_option maxRecDepth 20000 in
theorem K14_2_1 : (List.range 40).all (fun j => !cK14_2 (40 + j) || xClM 14 2 cK14_2 (xP (40 + j))) = true := by decide +kernel
set_option maxRecDepth 20000 in
theorem K14_2_2 : (List.range 40).all (fun j => !cK14_2 (80 + j) || xClM 14 2 cK14_2 (xP (80 + j))) = true := by decide +kernel
set_option maxRecDepth 20000 in
theorem K14_2_3 : (List.range 40).all (fun j => !cK14_2 (120 + j) || xClM 14 2 cK14_2 (xP (120 + j))) = true := by decide +kernel
set_option maxRecDepth 20000 in
theorem K14_2_4 : (List.range 40).all (fun j => !cK14_2 (160 + j) || xClM 14 2 cK14_2 (xP (160 + j))) = true := by decide +kernel
set_option maxRecDepth 20000 in
theorem K14_2_5 : (List.range 40).all (fun j => !cK14_2 (200 + j) || xClM 14 2 cK14_2 (xP (200 + j))) = true := by decide +kernel
set_option maxRecDepth 20000 in
theorem K14_2_6 : (List.range 40).all (fun j => !cK14_2 (240 + j) || xClM 14 2 cK14_2 (xP (240 + j))) = true := by decide +kernel
set_option maxRecDepth 20000 in
theorem K14_2_7 : (List.range 40).all (fun j => !cK14_2 (280 + j) || xClM 14 2 cK14_2 (xP (280 + j))) = true := by decide +kernel
theorem K14_2 (mid : Nat) (hm : cK14_2 mid = true) : xClM 14 2 cK14_2 (xP mid) = true := by
  have hl : mid < 320 := by
    unfold cK14_2 at hm
    simp only [Bool.and_eq_true] at hm
    exact blt_lt hm.1
  have key : ∀ (b n : Nat), (List.range n).all (fun j => !cK14_2 (b + j) || xClM 14 2 cK14_2 (xP (b + j))) = true → b ≤ mid → mid < b + n → xClM 14 2 cK14_2 (xP mid) = true := fun b n h h1 h2 => by
    have := List.all_eq_true.mp h (mid - b) (List.mem_range.mpr (by omega))
    rw [Nat.add_sub_cancel' h1, hm] at this
    simpa using this
  by_cases h0 : mid < 40
  · exact key 0 40 K14_2_0 (by omega) (by omega)
  by_cases h1 : mid < 80
  · exact key 40 40 K14_2_1 (by omega) (by omega)
  by_cases h2 : mid < 120
  · exact key 80 40 K14_2_2 (by omega) (by omega)
  by_cases h3 : mid < 160
  · exact key 120 40 K14_2_3 (by omega) (by omega)
  by_cases h4 : mid < 200
  · exact key 160 40 K14_2_4 (by omega) (by omega)
  by_cases h5 : mid < 240
  · exact key 200 40 K14_2_5 (by omega) (by omega)
  by_cases h6 : mid < 280
  · exact key 240 40 K14_2_6 (by omega) (by omega)
  exact key 280 40 K14_2_7 (by omega) (by omega)
def cK14_3 (m : Nat) : Bool := Nat.blt m 320 && !([0, 173, 206] : List Nat).contains m
set_option maxRecDepth 20000 in
theorem K14_3_0 : (List.range 40).all (fun j => !cK14_3 (0 + j) || xClM 14 3 cK14_3 (xP (0 + j))) = true := by decide +kernel
set_option maxRecDepth 20000 in
theorem K14_3_1 : (List.range 40).all (fun j => !cK14_3 (40 + j) || xClM 14 3 cK14_3 (xP (40 + j))) = true := by decide +kernel
set_option maxRecDepth 20000 in
theorem K14_3_2 : (List.range 40).all (fun j => !cK14_3 (80 + j) || xClM 14 3 cK14_3 (xP (80 + j))) = true := by decide +kernel
set_option maxRecDepth 20000 in
theorem K14_3_3 : (List.range 40).all (fun j => !cK14_3 (120 + j) || xClM 14 3 cK14_3 (xP (120 + j))) = true := by decide +kernel
set_option maxRecDepth 20000 in
theorem K14_3_4 : (List.range 40).all (fun j => !cK14_3 (160 + j) || xClM 14 3 cK14_3 (xP (160 + j))) = true := by decide +kernel
set_option maxRecDepth 20000 in
theorem K14_3_5 : (List.range 40).all (fun j => !cK14_3 (200 + j) || xClM 14 3 cK14_3 (xP (200 + j))) = true := by decide +kernel
set_option maxRecDepth 20000 in
theorem K14_3_6 : (List.range 40).all (fun j => !cK14_3 (240 + j) || xClM 14 3 cK14_3 (xP (240 + j))) = true := by decide +kernel
set_option maxRecDepth 20000 in
theorem K14_3_7 : (List.range 40).all (fun j => !cK14_3 (280 + j) || xClM 14 3 cK14_3 (xP (280 + j))) = true := by decide +kernel
theorem K14_3 (mid : Nat) (hm : cK14_3 mid = true) : xClM 14 3 cK14_3 (xP mid) = true := by
  have hl : mid < 320 := by
    unfold cK14_3 at hm
    simp only [Bool.and_eq_true] at hm
    exact blt_lt hm.1
  have key : ∀ (b n : Nat), (List.range n).all (fun j => !cK14_3 (b + j) || xClM 14 3 cK14_3 (xP (b + j))) = true → b ≤ mid → mid < b + n → xClM 14 3 cK14_3 (xP mid) = true := fun b n h h1 h2 => by
    have := List.all_eq_true.mp h (mid - b) (List.mem_range.mpr (by omega))
    rw [Nat.add_sub_cancel' h1, hm] at this
    simpa using this
  by_cases h0 : mid < 40
  · exact key 0 40 K14_3_0 (by omega) (by omega)
  by_cases h1 : mid < 80
  · exact key 40 40 K14_3_1 (by omega) (by omega)
  by_cases h2 : mid < 120
  · exact key 80 40 K14_3_2 (by omega) (by omega)
  by_cases h3 : mid < 160
  · exact key 120 40 K14_3_3 (by omega) (by omega)
  by_cases h4 : mid < 200
  · exact key 160 40 K14_3_4 (by omega) (by omega)
  by_cases h5 : mid < 240
  · exact key 200 40 K14_3_5 (by omega) (by omega)
  by_cases h6 : mid < 280
  · exact key 240 40 K14_3_6 (by omega) (by omega)
  exact key 280 40 K14_3_7 (by omega) (by omega)
def cK14_4 (m : Nat) : Bool := Nat.blt m 320 && !([0, 173, 206] : List Nat).contains m
set_option maxRecDepth 20000 in
theorem K14_4_0 : (List.range 40).all (fun j => !cK14_4 (0 + j) || xClM 14 4 cK14_4 (xP (0 + j))) = true := by decide +kernel
set_option maxRecDepth 20000 in
theorem K14_4_1 : (List.range 40).all (fun j => !cK14_4 (40 + j) || xClM 14 4 cK14_4 (xP (40 + j))) = true := by decide +kernel
set_option maxRecDepth 20000 in
theorem K14_4_2 : (List.range 40).all (fun j => !cK14_4 (80 + j) || xClM 14 4 cK14_4 (xP (80 + j))) = true := by decide +kernel
set_option maxRecDepth 20000 in
theorem K14_4_3 : (List.range 40).all (fun j => !cK14_4 (120 + j) || xClM 14 4 cK14_4 (xP (120 + j))) = true := by decide +kernel
set_option maxRecDepth 20000 in
theorem K14_4_4 : (List.range 40).all (fun j => !cK14_4 (160 + j) || xClM 14 4 cK14_4 (xP (160 + j))) = true := by decide +kernel
set_option maxRecDepth 20000 in
theorem K14_4_5 : (List.range 40).all (fun j => !cK14_4 (200 + j) || xClM 14 4 cK14_4 (xP (200 + j))) = true := by decide +kernel
set_option maxRecDepth 20000 in
theorem K14_4_6 : (List.range 40).all (fun j => !cK14_4 (240 + j) || xClM 14 4 cK14_4 (xP (240 + j))) = true := by decide +kernel
set_option maxRecDepth 20000 in
theorem K14_4_7 : (List.range 40).all (fun j => !cK14_4 (280 + j) || xClM 14 4 cK14_4 (xP (280 + j))) = true := by decide +kernel
theorem K14_4 (mid : Nat) (hm : cK14_4 mid = true) : xClM 14 4 cK14_4 (xP mid) = true := by
  have hl : mid < 320 := by
    unfold cK14_4 at hm
    simp only [Bool.and_eq_true] at hm
    exact blt_lt hm.1
  have key : ∀ (b n : Nat), (List.range n).all (fun j => !cK14_4 (b + j) || xClM 14 4 cK14_4 (xP (b + j))) = true → b ≤ mid → mid < b + n → xClM 14 4 cK14_4 (xP mid) = true := fun b n h h1 h2 => by
    have := List.all_eq_true.mp h (mid - b) (List.mem_range.mpr (by omega))
    rw [Nat.add_sub_cancel' h1, hm] at this
    simpa using this
  by_cases h0 : mid < 40
  · exact key 0 40 K14_4_0 (by omega) (by omega)
  by_cases h1 : mid < 80
  · exact key 40 40 K14_4_1 (by omega) (by omega)
  by_cases h2 : mid < 120
  · exact key 80 40 K14_4_2 (by omega) (by omega)
  by_cases h3 : mid < 160
  · exact key 120 40 K14_4_3 (by omega) (by omega)
  by_cases h4 : mid < 200
  · exact key 160 40 K14_4_4 (by omega) (by omega)
  by_cases h5 : mid < 240
  · exact key 200 40 K14_4_5 (by omega) (by omega)
  by_cases h6 : mid < 280
  · exact key 240 40 K14_4_6 (by omega) (by omega)
  exact key 280 40 K14_4_7 (by omega) (by omega)
def cK14_6 (m : Nat) : Bool := Nat.blt m 320 && !([0, 225, 226] : List Nat).contains m
set_option maxRecDepth 20000 in
theorem K14_6_0 : (List.range 40).all (fun j => !cK14_6 (0 + j) || xClM 14 6 cK14_6 (xP (0 + j))) = true := by decide +kernel
set_option maxRecDepth 20000 in
theorem K14_6_1 : (List.range 40).all (fun j => !cK14_6 (40 + j) || xClM 14 6 cK14_6 (xP (40 + j))) = true := by decide +kernel
set_option maxRecDepth 20000 in
theorem K14_6_2 : (List.range 40).all (fun j => !cK14_6 (80 + j) || xClM 14 6 cK14_6 (xP (80 + j))) = true := by decide +kernel
set_option maxRecDepth 20000 in
theorem K14_6_3 : (List.range 40).all (fun j => !cK14_6 (120 + j) || xClM 14 6 cK14_6 (xP (120 + j))) = true := by decide +kernel
set_option maxRecDepth 20000 in
theorem K14_6_4 : (List.range 40).all (fun j => !cK14_6 (160 + j) || xClM 14 6 cK14_6 (xP (160 + j))) = true := by decide +kernel
set_option maxRecDepth 20000 in
theorem K14_6_5 : (List.range 40).all (fun j => !cK14_6 (200 + j) || xClM 14 6 cK14_6 (xP (200 + j))) = true := by decide +kernel
set_option maxRecDepth 20000 in
theorem K14_6_6 : (List.range 40).all (fun j => !cK14_6 (240 + j) || xClM 14 6 cK14_6 (xP (240 + j))) = true := by decide +kernel
set_option maxRecDepth 20000 in
theorem K14_6_7 : (List.range 40).all (fun j => !cK14_6 (280 + j) || xClM 14 6 cK14_6 (xP (280 + j))) = true := by decide +kernel
theorem K14_6 (mid : Nat) (hm : cK14_6 mid = true) : xClM 14 6 cK14_6 (xP mid) = true := by
  have hl : mid < 320 := by
    unfold cK14_6 at hm
    simp only [Bool.and_eq_true] at hm
    exact blt_lt hm.1
  have key : ∀ (b n : Nat), (List.range n).all (fun j => !cK14_6 (b + j) || xClM 14 6 cK14_6 (xP (b + j))) = true → b ≤ mid → mid < b + n → xClM 14 6 cK14_6 (xP mid) = true := fun b n h h1 h2 => by
    have := List.all_eq_true.mp h (mid - b) (List.mem_range.mpr (by omega))
    rw [Nat.add_sub_cancel' h1, hm] at this
    simpa using this
  by_cases h0 : mid < 40
  · exact key 0 40 K14_6_0 (by omega) (by omega)
  by_cases h1 : mid < 80
  · exact key 40 40 K14_6_1 (by omega) (by omega)
  by_cases h2 : mid < 120
  · exact key 80 40 K14_6_2 (by omega) (by omega)
  by_cases h3 : mid < 160
  · exact key 120 40 K14_6_3 (by omega) (by omega)
  by_cases h4 : mid < 200
  · exact key 160 40 K14_6_4 (by omega) (by omega)
  by_cases h5 : mid < 240
  · exact key 200 40 K14_6_5 (by omega) (by omega)
  by_cases h6 : mid < 280
  · exact key 240 40 K14_6_6 (by omega) (by omega)
  exact key 280 40 K14_6_7 (by omega) (by omega)
def cK14_7 (m : Nat) : Bool := Nat.blt m 320 && !([0, 225, 226] : List Nat).contains m
set_option maxRecDepth 20000 in
theorem K14_7_0 : (List.range 40).all (fun j => !cK14_7 (0 + j) || xClM 14 7 cK14_7 (xP (0 + j))) = true := by decide +kernel
set_option maxRecDepth 20000 in
theorem K14_7_1 : (List.range 40).all (fun j => !cK14_7 (40 + j) || xClM 14 7 cK14_7 (xP (40 + j))) = true := by decide +kernel
set_option maxRecDepth 20000 in
theorem K14_7_2 : (List.range 40).all (fun j => !cK14_7 (80 + j) || xClM 14 7 cK14_7 (xP (80 + j))) = true := by decide +kernel
set_option maxRecDepth 20000 in
theorem K14_7_3 : (List.range 40).all (fun j => !cK14_7 (120 + j) || xClM 14 7 cK14_7 (xP (120 + j))) = true := by decide +kernel
set_option maxRecDepth 20000 in
theorem K14_7_4 : (List.range 40).all (fun j => !cK14_7 (160 + j) || xClM 14 7 cK14_7 (xP (160 + j))) = true := by decide +kernel
set_option maxRecDepth 20000 in
theorem K14_7_5 : (List.range 40).all (fun j => !cK14_7 (200 + j) || xClM 14 7 cK14_7 (xP (200 + j))) = true := by decide +kernel
set_option maxRecDepth 20000 in
theorem K14_7_6 : (List.range 40).all (fun j => !cK14_7 (240 + j) || xClM 14 7 cK14_7 (xP (240 + j))) = true := by decide +kernel
set_option maxRecDepth 20000 in
theorem K14_7_7 : (List.range 40).all (fun j => !cK14_7 (280 + j) || xClM 14 7 cK14_7 (xP (280 + j))) = true := by decide +kernel
theorem K14_7 (mid : Nat) (hm : cK14_7 mid = true) : xClM 14 7 cK14_7 (xP mid) = true := by
  have hl : mid < 320 := by
    unfold cK14_7 at hm
    simp only [Bool.and_eq_true] at hm
    exact blt_lt hm.1
  have key : ∀ (b n : Nat), (List.range n).all (fun j => !cK14_7 (b + j) || xClM 14 7 cK14_7 (xP (b + j))) = true → b ≤ mid → mid < b + n → xClM 14 7 cK14_7 (xP mid) = true := fun b n h h1 h2 => by
    have := List.all_eq_true.mp h (mid - b) (List.mem_range.mpr (by omega))
    rw [Nat.add_sub_cancel' h1, hm] at this
    simpa using this
  by_cases h0 : mid < 40
  · exact key 0 40 K14_7_0 (by omega) (by omega)
  by_cases h1 : mid < 80
  · exact key 40 40 K14_7_1 (by omega) (by omega)
  by_cases h2 : mid < 120
  · exact key 80 40 K14_7_2 (by omega) (by omega)
  by_cases h3 : mid < 160
  · exact key 120 40 K14_7_3 (by omega) (by omega)
  by_cases h4 : mid < 200
  · exact key 160 40 K14_7_4 (by omega) (by omega)
  by_cases h5 : mid < 240
  · exact key 200 40 K14_7_5 (by omega) (by omega)
  by_cases h6 : mid < 280
  · exact key 240 40 K14_7_6 (by omega) (by omega)
  exact key 280 40 K14_7_7 (by omega) (by omega)
def cK3_1 (m : Nat) : Bool := Nat.blt m 320 && !([0, 186, 194, 196, 202, 206, 208, 219, 299, 300, 301, 305, 306] : List Nat).contains m
set_option maxRecDepth 20000 in
theorem K3_1_0 : (List.range 40).all (fun j => !cK3_1 (0 + j) || xClM 3 1 cK3_1 (xP (0 + j))) = true := by decide +kernel
set_option maxRecDepth 20000 in
theorem K3_1_1 : (List.range 40).all (fun j => !cK3_1 (40 + j) || xClM 3 1 cK3_1 (xP (40 + j))) = true := by decide +kernel
set_option maxRecDepth 20000 in
theorem K3_1_2 : (List.range 40).all (fun j => !cK3_1 (80 + j) || xClM 3 1 cK3_1 (xP (80 + j))) = true := by decide +kernel
set_option maxRecDepth 20000 in
theorem K3_1_3 : (List.range 40).all (fun j => !cK3_1 (120 + j) || xClM 3 1 cK3_1 (xP (120 + j))) = true := by decide +kernel
set_option maxRecDepth 20000 in
theorem K3_1_4 : (List.range 40).all (fun j => !cK3_1 (160 + j) || xClM 3 1 cK3_1 (xP (160 + j))) = true := by decide +kernel
set_option maxRecDepth 20000 in
theorem K3_1_5 : (List.range 40).all (fun j => !cK3_1 (200 + j) || xClM 3 1 cK3_1 (xP (200 + j))) = true := by decide +kernel
set_option maxRecDepth 20000 in
theorem K3_1_6 : (List.range 40).all (fun j => !cK3_1 (240 + j) || xClM 3 1 cK3_1 (xP (240 + j))) = true := by decide +kernel
set_option maxRecDepth 20000 in
theorem K3_1_7 : (List.range 40).all (fun j => !cK3_1 (280 + j) || xClM 3 1 cK3_1 (xP (280 + j))) = true := by decide +kernel
theorem K3_1 (mid : Nat) (hm : cK3_1 mid = true) : xClM 3 1 cK3_1 (xP mid) = true := by
  have hl : mid < 320 := by
    unfold cK3_1 at hm
    simp only [Bool.and_eq_true] at hm
    exact blt_lt hm.1
  have key : ∀ (b n : Nat), (List.range n).all (fun j => !cK3_1 (b + j) || xClM 3 1 cK3_1 (xP (b + j))) = true → b ≤ mid → mid < b + n → xClM 3 1 cK3_1 (xP mid) = true := fun b n h h1 h2 => by
    have := List.all_eq_true.mp h (mid - b) (List.mem_range.mpr (by omega))
    rw [Nat.add_sub_cancel' h1, hm] at this
    simpa using this
  by_cases h0 : mid < 40
  · exact key 0 40 K3_1_0 (by omega) (by omega)
  by_cases h1 : mid < 80
  · exact key 40 40 K3_1_1 (by omega) (by omega)
  by_cases h2 : mid < 120
  · exact key 80 40 K3_1_2 (by omega) (by omega)
  by_cases h3 : mid < 160
  · exact key 120 40 K3_1_3 (by omega) (by omega)
  by_cases h4 : mid < 200
  · exact key 160 40 K3_1_4 (by omega) (by omega)
  by_cases h5 : mid < 240
  · exact key 200 40 K3_1_5 (by omega) (by omega)
  by_cases h6 : mid < 280
  · exact key 240 40 K3_1_6 (by omega) (by omega)
  exact key 280 40 K3_1_7 (by omega) (by omega)
def cK16_0 (m : Nat) : Bool := Nat.blt m 320 && !([0, 179, 196] : List Nat).contains m
set_option maxRecDepth 20000 in
theorem K16_0_0 : (List.range 40).all (fun j => !cK16_0 (0 + j) || xClM 16 0 cK16_0 (xP (0 + j))) = true := by decide +kernel
set_option maxRecDepth 20000 in
theorem K16_0_1 : (List.range 40).all (fun j => !cK16_0 (40 + j) || xClM 16 0 cK16_0 (xP (40 + j))) = true := by decide +kernel
set_option maxRecDepth 20000 in
theorem K16_0_2 : (List.range 40).all (fun j => !cK16_0 (80 + j) || xClM 16 0 cK16_0 (xP (80 + j))) = true := by decide +kernel
set_option maxRecDepth 20000 in
theorem K16_0_3 : (List.range 40).all (fun j => !cK16_0 (120 + j) || xClM 16 0 cK16_0 (xP (120 + j))) = true := by decide +kernel
set_option maxRecDepth 20000 in
theorem K16_0_4 : (List.range 40).all (fun j => !cK16_0 (160 + j) || xClM 16 0 cK16_0 (xP (160 + j))) = true := by decide +kernel
set_option maxRecDepth 20000 in
theorem K16_0_5 : (List.range 40).all (fun j => !cK16_0 (200 + j) || xClM 16 0 cK16_0 (xP (200 + j))) = true := by decide +kernel
set_option maxRecDepth 20000 in
theorem K16_0_6 : (List.range 40).all (fun j => !cK16_0 (240 + j) || xClM 16 0 cK16_0 (xP (240 + j))) = true := by decide +kernel
set_option maxRecDepth 20000 in
theorem K16_0_7 : (List.range 40).all (fun j => !cK16_0 (280 + j) || xClM 16 0 cK16_0 (xP (280 + j))) = true := by decide +kernel
theorem K16_0 (mid : Nat) (hm : cK16_0 mid = true) : xClM 16 0 cK16_0 (xP mid) = true := by
  have hl : mid < 320 := by
    unfold cK16_0 at hm
    simp only [Bool.and_eq_true] at hm
    exact blt_lt hm.1
  have key : ∀ (b n : Nat), (List.range n).all (fun j => !cK16_0 (b + j) || xClM 16 0 cK16_0 (xP (b + j))) = true → b ≤ mid → mid < b + n → xClM 16 0 cK16_0 (xP mid) = true := fun b n h h1 h2 => by
    have := List.all_eq_true.mp h (mid - b) (List.mem_range.mpr (by omega))
    rw [Nat.add_sub_cancel' h1, hm] at this
    simpa using this
  by_cases h0 : mid < 40
  · exact key 0 40 K16_0_0 (by omega) (by omega)
  by_cases h1 : mid < 80
  · exact key 40 40 K16_0_1 (by omega) (by omega)
  by_cases h2 : mid < 120
  · exact key 80 40 K16_0_2 (by omega) (by omega)
  by_cases h3 : mid < 160
  · exact key 120 40 K16_0_3 (by omega) (by omega)
  by_cases h4 : mid < 200
  · exact key 160 40 K16_0_4 (by omega) (by omega)
  by_cases h5 : mid < 240
  · exact key 200 40 K16_0_5 (by omega) (by omega)
  by_cases h6 : mid < 280
  · exact key 240 40 K16_0_6 (by omega) (by omega)
  exact key 280 40 K16_0_7 (by omega) (by omega)
def cK16_1 (m : Nat) : Bool := Nat.blt m 320 && !([0, 179, 196, 198, 202, 203, 207] : List Nat).contains m
set_option maxRecDepth 20000 in
theorem K16_1_0 : (List.range 40).all (fun j => !cK16_1 (0 + j) || xClM 16 1 cK16_1 (xP (0 + j))) = true := by decide +kernel
set_option maxRecDepth 20000 in
theorem K16_1_1 : (List.range 40).all (fun j => !cK16_1 (40 + j) || xClM 16 1 cK16_1 (xP (40 + j))) = true := by decide +kernel
set_option maxRecDepth 20000 in
theorem K16_1_2 : (List.range 40).all (fun j => !cK16_1 (80 + j) || xClM 16 1 cK16_1 (xP (80 + j))) = true := by decide +kernel
set_option maxRecDepth 20000 in
theorem K16_1_3 : (List.range 40).all (fun j => !cK16_1 (120 + j) || xClM 16 1 cK16_1 (xP (120 + j))) = true := by decide +kernel
set_option maxRecDepth 20000 in
theorem K16_1_4 : (List.range 40).all (fun j => !cK16_1 (160 + j) || xClM 16 1 cK16_1 (xP (160 + j))) = true := by decide +kernel
set_option maxRecDepth 20000 in
theorem K16_1_5 : (List.range 40).all (fun j => !cK16_1 (200 + j) || xClM 16 1 cK16_1 (xP (200 + j))) = true := by decide +kernel
set_option maxRecDepth 20000 in
theorem K16_1_6 : (List.range 40).all (fun j => !cK16_1 (240 + j) || xClM 16 1 cK16_1 (xP (240 + j))) = true := by decide +kernel
set_option maxRecDepth 20000 in
theorem K16_1_7 : (List.range 40).all (fun j => !cK16_1 (280 + j) || xClM 16 1 cK16_1 (xP (280 + j))) = true := by decide +kernel
theorem K16_1 (mid : Nat) (hm : cK16_1 mid = true) : xClM 16 1 cK16_1 (xP mid) = true := by
  have hl : mid < 320 := by
    unfold cK16_1 at hm
    simp only [Bool.and_eq_true] at hm
    exact blt_lt hm.1
  have key : ∀ (b n : Nat), (List.range n).all (fun j => !cK16_1 (b + j) || xClM 16 1 cK16_1 (xP (b + j))) = true → b ≤ mid → mid < b + n → xClM 16 1 cK16_1 (xP mid) = true := fun b n h h1 h2 => by
    have := List.all_eq_true.mp h (mid - b) (List.mem_range.mpr (by omega))
    rw [Nat.add_sub_cancel' h1, hm] at this
    simpa using this
  by_cases h0 : mid < 40
  · exact key 0 40 K16_1_0 (by omega) (by omega)
  by_cases h1 : mid < 80
  · exact key 40 40 K16_1_1 (by omega) (by omega)
  by_cases h2 : mid < 120
  · exact key 80 40 K16_1_2 (by omega) (by omega)
  by_cases h3 : mid < 160
  · exact key 120 40 K16_1_3 (by omega) (by omega)
  by_cases h4 : mid < 200
  · exact key 160 40 K16_1_4 (by omega) (by omega)
  by_cases h5 : mid < 240
  · exact key 200 40 K16_1_5 (by omega) (by omega)
  by_cases h6 : mid < 280
  · exact key 240 40 K16_1_6 (by omega) (by omega)
  exact key 280 40 K16_1_7 (by omega) (by omega)
def cK16_2 (m : Nat) : Bool := Nat.blt m 320 && !([0, 179, 196, 198, 199, 202, 203, 207] : List Nat).contains m
set_option maxRecDepth 20000 in
theorem K16_2_0 : (List.range 40).all (fun j => !cK16_2 (0 + j) || xClM 16 2 cK16_2 (xP (0 + j))) = true := by decide +kernel
set_option maxRecDepth 20000 in
theorem K16_2_1 : (List.range 40).all (fun j => !cK16_2 (40 + j) || xClM 16 2 cK16_2 (xP (40 + j))) = true := by decide +kernel
set_option maxRecDepth 20000 in
theorem K16_2_2 : (List.range 40).all (fun j => !cK16_2 (80 + j) || xClM 16 2 cK16_2 (xP (80 + j))) = true := by decide +kernel
set_option maxRecDepth 20000 in
theorem K16_2_3 : (List.range 40).all (fun j => !cK16_2 (120 + j) || xClM 16 2 cK16_2 (xP (120 + j))) = true := by decide +kernel
set_option maxRecDepth 20000 in
theorem K16_2_4 : (List.range 40).all (fun j => !cK16_2 (160 + j) || xClM 16 2 cK16_2 (xP (160 + j))) = true := by decide +kernel
set_option maxRecDepth 20000 in
theorem K16_2_5 : (List.range 40).all (fun j => !cK16_2 (200 + j) || xClM 16 2 cK16_2 (xP (200 + j))) = true := by decide +kernel
set_option maxRecDepth 20000 in
theorem K16_2_6 : (List.range 40).all (fun j => !cK16_2 (240 + j) || xClM 16 2 cK16_2 (xP (240 + j))) = true := by decide +kernel
set_option maxRecDepth 20000 in
theorem K16_2_7 : (List.range 40).all (fun j => !cK16_2 (280 + j) || xClM 16 2 cK16_2 (xP (280 + j))) = true := by decide +kernel
theorem K16_2 (mid : Nat) (hm : cK16_2 mid = true) : xClM 16 2 cK16_2 (xP mid) = true := by
  have hl : mid < 320 := by
    unfold cK16_2 at hm
    simp only [Bool.and_eq_true] at hm
    exact blt_lt hm.1
  have key : ∀ (b n : Nat), (List.range n).all (fun j => !cK16_2 (b + j) || xClM 16 2 cK16_2 (xP (b + j))) = true → b ≤ mid → mid < b + n → xClM 16 2 cK16_2 (xP mid) = true := fun b n h h1 h2 => by
    have := List.all_eq_true.mp h (mid - b) (List.mem_range.mpr (by omega))
    rw [Nat.add_sub_cancel' h1, hm] at this
    simpa using this
  by_cases h0 : mid < 40
  · exact key 0 40 K16_2_0 (by omega) (by omega)
  by_cases h1 : mid < 80
  · exact key 40 40 K16_2_1 (by omega) (by omega)
  by_cases h2 : mid < 120
  · exact key 80 40 K16_2_2 (by omega) (by omega)
  by_cases h3 : mid < 160
  · exact key 120 40 K16_2_3 (by omega) (by omega)
  by_cases h4 : mid < 200
  · exact key 160 40 K16_2_4 (by omega) (by omega)
  by_cases h5 : mid < 240
  · exact key 200 40 K16_2_5 (by omega) (by omega)
  by_cases h6 : mid < 280
  · exact key 240 40 K16_2_6 (by omega) (by omega)
  exact key 280 40 K16_2_7 (by omega) (by omega)
def cK16_3 (m : Nat) : Bool := Nat.blt m 320 && !([0, 200] : List Nat).contains m
set_option maxRecDepth 20000 in
theorem K16_3_0 : (List.range 40).all (fun j => !cK16_3 (0 + j) || xClM 16 3 cK16_3 (xP (0 + j))) = true := by decide +kernel
set_option maxRecDepth 20000 in
theorem K16_3_1 : (List.range 40).all (fun j => !cK16_3 (40 + j) || xClM 16 3 cK16_3 (xP (40 + j))) = true := by decide +kernel
set_option maxRecDepth 20000 in
theorem K16_3_2 : (List.range 40).all (fun j => !cK16_3 (80 + j) || xClM 16 3 cK16_3 (xP (80 + j))) = true := by decide +kernel
set_option maxRecDepth 20000 in
theorem K16_3_3 : (List.range 40).all (fun j => !cK16_3 (120 + j) || xClM 16 3 cK16_3 (xP (120 + j))) = true := by decide +kernel
set_option maxRecDepth 20000 in
theorem K16_3_4 : (List.range 40).all (fun j => !cK16_3 (160 + j) || xClM 16 3 cK16_3 (xP (160 + j))) = true := by decide +kernel
set_option maxRecDepth 20000 in
theorem K16_3_5 : (List.range 40).all (fun j => !cK16_3 (200 + j) || xClM 16 3 cK16_3 (xP (200 + j))) = true := by decide +kernel
set_option maxRecDepth 20000 in
theorem K16_3_6 : (List.range 40).all (fun j => !cK16_3 (240 + j) || xClM 16 3 cK16_3 (xP (240 + j))) = true := by decide +kernel
set_option maxRecDepth 20000 in
theorem K16_3_7 : (List.range 40).all (fun j => !cK16_3 (280 + j) || xClM 16 3 cK16_3 (xP (280 + j))) = true := by decide +kernel
theorem K16_3 (mid : Nat) (hm : cK16_3 mid = true) : xClM 16 3 cK16_3 (xP mid) = true := by
  have hl : mid < 320 := by
    unfold cK16_3 at hm
    simp only [Bool.and_eq_true] at hm
    exact blt_lt hm.1
  have key : ∀ (b n : Nat), (List.range n).all (fun j => !cK16_3 (b + j) || xClM 16 3 cK16_3 (xP (b + j))) = true → b ≤ mid → mid < b + n → xClM 16 3 cK16_3 (xP mid) = true := fun b n h h1 h2 => by
    have := List.all_eq_true.mp h (mid - b) (List.mem_range.mpr (by omega))
    rw [Nat.add_sub_cancel' h1, hm] at this
    simpa using this
  by_cases h0 : mid < 40
  · exact key 0 40 K16_3_0 (by omega) (by omega)
  by_cases h1 : mid < 80
  · exact key 40 40 K16_3_1 (by omega) (by omega)
  by_cases h2 : mid < 120
  · exact key 80 40 K16_3_2 (by omega) (by omega)
  by_cases h3 : mid < 160
  · exact key 120 40 K16_3_3 (by omega) (by omega)
  by_cases h4 : mid < 200
  · exact key 160 40 K16_3_4 (by omega) (by omega)
  by_cases h5 : mid < 240
  · exact key 200 40 K16_3_5 (by omega) (by omega)
  by_cases h6 : mid < 280
  · exact key 240 40 K16_3_6 (by omega) (by omega)
  exact key 280 40 K16_3_7 (by omega) (by omega)
def cK16_4 (m : Nat) : Bool := Nat.blt m 320 && !([0, 198] : List Nat).contains m
set_option maxRecDepth 20000 in
theorem K16_4_0 : (List.range 40).all (fun j => !cK16_4 (0 + j) || xClM 16 4 cK16_4 (xP (0 + j))) = true := by decide +kernel
set_option maxRecDepth 20000 in
theorem K16_4_1 : (List.range 40).all (fun j => !cK16_4 (40 + j) || xClM 16 4 cK16_4 (xP (40 + j))) = true := by decide +kernel
set_option maxRecDepth 20000 in
theorem K16_4_2 : (List.range 40).all (fun j => !cK16_4 (80 + j) || xClM 16 4 cK16_4 (xP (80 + j))) = true := by decide +kernel
set_option maxRecDepth 20000 in
theorem K16_4_3 : (List.range 40).all (fun j => !cK16_4 (120 + j) || xClM 16 4 cK16_4 (xP (120 + j))) = true := by decide +kernel
set_option maxRecDepth 20000 in
theorem K16_4_4 : (List.range 40).all (fun j => !cK16_4 (160 + j) || xClM 16 4 cK16_4 (xP (160 + j))) = true := by decide +kernel
set_option maxRecDepth 20000 in
theorem K16_4_5 : (List.range 40).all (fun j => !cK16_4 (200 + j) || xClM 16 4 cK16_4 (xP (200 + j))) = true := by decide +kernel
set_option maxRecDepth 20000 in
theorem K16_4_6 : (List.range 40).all (fun j => !cK16_4 (240 + j) || xClM 16 4 cK16_4 (xP (240 + j))) = true := by decide +kernel
set_option maxRecDepth 20000 in
theorem K16_4_7 : (List.range 40).all (fun j => !cK16_4 (280 + j) || xClM 16 4 cK16_4 (xP (280 + j))) = true := by decide +kernel
theorem K16_4 (mid : Nat) (hm : cK16_4 mid = true) : xClM 16 4 cK16_4 (xP mid) = true := by
  have hl : mid < 320 := by
    unfold cK16_4 at hm
    simp only [Bool.and_eq_true] at hm
    exact blt_lt hm.1
  have key : ∀ (b n : Nat), (List.range n).all (fun j => !cK16_4 (b + j) || xClM 16 4 cK16_4 (xP (b + j))) = true → b ≤ mid → mid < b + n → xClM 16 4 cK16_4 (xP mid) = true := fun b n h h1 h2 => by
    have := List.all_eq_true.mp h (mid - b) (List.mem_range.mpr (by omega))
    rw [Nat.add_sub_cancel' h1, hm] at this
    simpa using this
  by_cases h0 : mid < 40
  · exact key 0 40 K16_4_0 (by omega) (by omega)
  by_cases h1 : mid < 80
  · exact key 40 40 K16_4_1 (by omega) (by omega)
  by_cases h2 : mid < 120
  · exact key 80 40 K16_4_2 (by omega) (by omega)
  by_cases h3 : mid < 160
  · exact key 120 40 K16_4_3 (by omega) (by omega)
  by_cases h4 : mid < 200
  · exact key 160 40 K16_4_4 (by omega) (by omega)
  by_cases h5 : mid < 240
  · exact key 200 40 K16_4_5 (by omega) (by omega)
  by_cases h6 : mid < 280
  · exact key 240 40 K16_4_6 (by omega) (by omega)
  exact key 280 40 K16_4_7 (by omega) (by omega)
def cK16_5 (m : Nat) : Bool := Nat.blt m 320 && !([0, 179, 196, 198] : List Nat).contains m
set_option maxRecDepth 20000 in
theorem K16_5_0 : (List.range 40).all (fun j => !cK16_5 (0 + j) || xClM 16 5 cK16_5 (xP (0 + j))) = true := by decide +kernel
set_option maxRecDepth 20000 in
theorem K16_5_1 : (List.range 40).all (fun j => !cK16_5 (40 + j) || xClM 16 5 cK16_5 (xP (40 + j))) = true := by decide +kernel
set_option maxRecDepth 20000 in
theorem K16_5_2 : (List.range 40).all (fun j => !cK16_5 (80 + j) || xClM 16 5 cK16_5 (xP (80 + j))) = true := by decide +kernel
set_option maxRecDepth 20000 in
theorem K16_5_3 : (List.range 40).all (fun j => !cK16_5 (120 + j) || xClM 16 5 cK16_5 (xP (120 + j))) = true := by decide +kernel
set_option maxRecDepth 20000 in
theorem K16_5_4 : (List.range 40).all (fun j => !cK16_5 (160 + j) || xClM 16 5 cK16_5 (xP (160 + j))) = true := by decide +kernel
set_option maxRecDepth 20000 in
theorem K16_5_5 : (List.range 40).all (fun j => !cK16_5 (200 + j) || xClM 16 5 cK16_5 (xP (200 + j))) = true := by decide +kernel
set_option maxRecDepth 20000 in
theorem K16_5_6 : (List.range 40).all (fun j => !cK16_5 (240 + j) || xClM 16 5 cK16_5 (xP (240 + j))) = true := by decide +kernel
set_option maxRecDepth 20000 in
theorem K16_5_7 : (List.range 40).all (fun j => !cK16_5 (280 + j) || xClM 16 5 cK16_5 (xP (280 + j))) = true := by decide +kernel
theorem K16_5 (mid : Nat) (hm : cK16_5 mid = true) : xClM 16 5 cK16_5 (xP mid) = true := by
  have hl : mid < 320 := by
    unfold cK16_5 at hm
    simp only [Bool.and_eq_true] at hm
    exact blt_lt hm.1
  have key : ∀ (b n : Nat), (List.range n).all (fun j => !cK16_5 (b + j) || xClM 16 5 cK16_5 (xP (b + j))) = true → b ≤ mid → mid < b + n → xClM 16 5 cK16_5 (xP mid) = true := fun b n h h1 h2 => by
    have := List.all_eq_true.mp h (mid - b) (List.mem_range.mpr (by omega))
    rw [Nat.add_sub_cancel' h1, hm] at this
    simpa using this
  by_cases h0 : mid < 40
  · exact key 0 40 K16_5_0 (by omega) (by omega)
  by_cases h1 : mid < 80
  · exact key 40 40 K16_5_1 (by omega) (by omega)
  by_cases h2 : mid < 120
  · exact key 80 40 K16_5_2 (by omega) (by omega)
  by_cases h3 : mid < 160
  · exact key 120 40 K16_5_3 (by omega) (by omega)
  by_cases h4 : mid < 200
  · exact key 160 40 K16_5_4 (by omega) (by omega)
  by_cases h5 : mid < 240
  · exact key 200 40 K16_5_5 (by omega) (by omega)
  by_cases h6 : mid < 280
  · exact key 240 40 K16_5_6 (by omega) (by omega)
  exact key 280 40 K16_5_7 (by omega) (by omega)
def cK14_0 (m : Nat) : Bool := Nat.blt m 320 && !([0, 173, 206] : List Nat).contains m
set_option maxRecDepth 20000 in
theorem K14_0_0 : (List.range 40).all (fun j => !cK14_0 (0 + j) || xClM 14 0 cK14_0 (xP (0 + j))) = true := by decide +kernel
set_option maxRecDepth 20000 in
theorem K14_0_1 : (List.range 40).all (fun j => !cK14_0 (40 + j) || xClM 14 0 cK14_0 (xP (40 + j))) = true := by decide +kernel
set_option maxRecDepth 20000 in
theorem K14_0_2 : (List.range 40).all (fun j => !cK14_0 (80 + j) || xClM 14 0 cK14_0 (xP (80 + j))) = true := by decide +kernel
set_option maxRecDepth 20000 in
theorem K14_0_3 : (List.range 40).all (fun j => !cK14_0 (120 + j) || xClM 14 0 cK14_0 (xP (120 + j))) = true := by decide +kernel
set_option maxRecDepth 20000 in
theorem K14_0_4 : (List.range 40).all (fun j => !cK14_0 (160 + j) || xClM 14 0 cK14_0 (xP (160 + j))) = true := by decide +kernel
set_option maxRecDepth 20000 in
theorem K14_0_5 : (List.range 40).all (fun j => !cK14_0 (200 + j) || xClM 14 0 cK14_0 (xP (200 + j))) = true := by decide +kernel
set_option maxRecDepth 20000 in
theorem K14_0_6 : (List.range 40).all (fun j => !cK14_0 (240 + j) || xClM 14 0 cK14_0 (xP (240 + j))) = true := by decide +kernel
set_option maxRecDepth 20000 in
theorem K14_0_7 : (List.range 40).all (fun j => !cK14_0 (280 + j) || xClM 14 0 cK14_0 (xP (280 + j))) = true := by decide +kernel
theorem K14_0 (mid : Nat) (hm : cK14_0 mid = true) : xClM 14 0 cK14_0 (xP mid) = true := by
  have hl : mid < 320 := by
    unfold cK14_0 at hm
    simp only [Bool.and_eq_true] at hm
    exact blt_lt hm.1
  have key : ∀ (b n : Nat), (List.range n).all (fun j => !cK14_0 (b + j) || xClM 14 0 cK14_0 (xP (b + j))) = true → b ≤ mid → mid < b + n → xClM 14 0 cK14_0 (xP mid) = true := fun b n h h1 h2 => by
    have := List.all_eq_true.mp h (mid - b) (List.mem_range.mpr (by omega))
    rw [Nat.add_sub_cancel' h1, hm] at this
    simpa using this
  by_cases h0 : mid < 40
  · exact key 0 40 K14_0_0 (by omega) (by omega)
  by_cases h1 : mid < 80
  · exact key 40 40 K14_0_1 (by omega) (by omega)
  by_cases h2 : mid < 120
  · exact key 80 40 K14_0_2 (by omega) (by omega)
  by_cases h3 : mid < 160
  · exact key 120 40 K14_0_3 (by omega) (by omega)
  by_cases h4 : mid < 200
  · exact key 160 40 K14_0_4 (by omega) (by omega)
  by_cases h5 : mid < 240
  · exact key 200 40 K14_0_5 (by omega) (by omega)
  by_cases h6 : mid < 280
  · exact key 240 40 K14_0_6 (by omega) (by omega)
  exact key 280 40 K14_0_7 (by omega) (by omega)
def cK14_1 (m : Nat) : Bool := Nat.blt m 320 && !([0, 173, 206] : List Nat).contains m
set_option maxRecDepth 20000 in
theorem K14_1_0 : (List.range 40).all (fun j => !cK14_1 (0 + j) || xClM 14 1 cK14_1 (xP (0 + j))) = true := by decide +kernel
set_option maxRecDepth 20000 in
theorem K14_1_1 : (List.range 40).all (fun j => !cK14_1 (40 + j) || xClM 14 1 cK14_1 (xP (40 + j))) = true := by decide +kernel
set_option maxRecDepth 20000 in
theorem K14_1_2 : (List.range 40).all (fun j => !cK14_1 (80 + j) || xClM 14 1 cK14_1 (xP (80 + j))) = true := by decide +kernel
set_option maxRecDepth 20000 in
theorem K14_1_3 : (List.range 40).all (fun j => !cK14_1 (120 + j) || xClM 14 1 cK14_1 (xP (120 + j))) = true := by decide +kernel
set_option maxRecDepth 20000 in
theorem K14_1_4 : (List.range 40).all (fun j => !cK14_1 (160 + j) || xClM 14 1 cK14_1 (xP (160 + j))) = true := by decide +kernel
set_option maxRecDepth 20000 in
theorem K14_1_5 : (List.range 40).all (fun j => !cK14_1 (200 + j) || xClM 14 1 cK14_1 (xP (200 + j))) = true := by decide +kernel
set_option maxRecDepth 20000 in
theorem K14_1_6 : (List.range 40).all (fun j => !cK14_1 (240 + j) || xClM 14 1 cK14_1 (xP (240 + j))) = true := by decide +kernel
set_option maxRecDepth 20000 in
theorem K14_1_7 : (List.range 40).all (fun j => !cK14_1 (280 + j) || xClM 14 1 cK14_1 (xP (280 + j))) = true := by decide +kernel
theorem K14_1 (mid : Nat) (hm : cK14_1 mid = true) : xClM 14 1 cK14_1 (xP mid) = true := by
  have hl : mid < 320 := by
    unfold cK14_1 at hm
    simp only [Bool.and_eq_true] at hm
    exact blt_lt hm.1
  have key : ∀ (b n : Nat), (List.range n).all (fun j => !cK14_1 (b + j) || xClM 14 1 cK14_1 (xP (b + j))) = true → b ≤ mid → mid < b + n → xClM 14 1 cK14_1 (xP mid) = true := fun b n h h1 h2 => by
    have := List.all_eq_true.mp h (mid - b) (List.mem_range.mpr (by omega))
    rw [Nat.add_sub_cancel' h1, hm] at this
    simpa using this
  by_cases h0 : mid < 40
  · exact key 0 40 K14_1_0 (by omega) (by omega)
  by_cases h1 : mid < 80
  · exact key 40 40 K14_1_1 (by omega) (by omega)
  by_cases h2 : mid < 120
  · exact key 80 40 K14_1_2 (by omega) (by omega)
  by_cases h3 : mid < 160
  · exact key 120 40 K14_1_3 (by omega) (by omega)
  by_cases h4 : mid < 200
  · exact key 160 40 K14_1_4 (by omega) (by omega)
  by_cases h5 : mid < 240
  · exact key 200 40 K14_1_5 (by omega) (by omega)
  by_cases h6 : mid < 280
  · exact key 240 40 K14_1_6 (by omega) (by omega)
  exact key 280 40 K14_1_7 (by omega) (by omega)
def cK14_5 (m : Nat) : Bool := Nat.blt m 320 && !([0, 200, 207] : List Nat).contains m
set_option maxRecDepth 20000 in
theorem K14_5_0 : (List.range 40).all (fun j => !cK14_5 (0 + j) || xClM 14 5 cK14_5 (xP (0 + j))) = true := by decide +kernel
set_option maxRecDepth 20000 in
theorem K14_5_1 : (List.range 40).all (fun j => !cK14_5 (40 + j) || xClM 14 5 cK14_5 (xP (40 + j))) = true := by decide +kernel
set_option maxRecDepth 20000 in
theorem K14_5_2 : (List.range 40).all (fun j => !cK14_5 (80 + j) || xClM 14 5 cK14_5 (xP (80 + j))) = true := by decide +kernel
set_option maxRecDepth 20000 in
theorem K14_5_3 : (List.range 40).all (fun j => !cK14_5 (120 + j) || xClM 14 5 cK14_5 (xP (120 + j))) = true := by decide +kernel
set_option maxRecDepth 20000 in
theorem K14_5_4 : (List.range 40).all (fun j => !cK14_5 (160 + j) || xClM 14 5 cK14_5 (xP (160 + j))) = true := by decide +kernel
set_option maxRecDepth 20000 in
theorem K14_5_5 : (List.range 40).all (fun j => !cK14_5 (200 + j) || xClM 14 5 cK14_5 (xP (200 + j))) = true := by decide +kernel
set_option maxRecDepth 20000 in
theorem K14_5_6 : (List.range 40).all (fun j => !cK14_5 (240 + j) || xClM 14 5 cK14_5 (xP (240 + j))) = true := by decide +kernel
set_option maxRecDepth 20000 in
theorem K14_5_7 : (List.range 40).all (fun j => !cK14_5 (280 + j) || xClM 14 5 cK14_5 (xP (280 + j))) = true := by decide +kernel
theorem K14_5 (mid : Nat) (hm : cK14_5 mid = true) : xClM 14 5 cK14_5 (xP mid) = true := by
  have hl : mid < 320 := by
    unfold cK14_5 at hm
    simp only [Bool.and_eq_true] at hm
    exact blt_lt hm.1
  have key : ∀ (b n : Nat), (List.range n).all (fun j => !cK14_5 (b + j) || xClM 14 5 cK14_5 (xP (b + j))) = true → b ≤ mid → mid < b + n → xClM 14 5 cK14_5 (xP mid) = true := fun b n h h1 h2 => by
    have := List.all_eq_true.mp h (mid - b) (List.mem_range.mpr (by omega))
    rw [Nat.add_sub_cancel' h1, hm] at this
    simpa using this
  by_cases h0 : mid < 40
  · exact key 0 40 K14_5_0 (by omega) (by omega)
  by_cases h1 : mid < 80
  · exact key 40 40 K14_5_1 (by omega) (by omega)
  by_cases h2 : mid < 120
  · exact key 80 40 K14_5_2 (by omega) (by omega)
  by_cases h3 : mid < 160
  · exact key 120 40 K14_5_3 (by omega) (by omega)
  by_cases h4 : mid < 200
  · exact key 160 40 K14_5_4 (by omega) (by omega)
  by_cases h5 : mid < 240
  · exact key 200 40 K14_5_5 (by omega) (by omega)
  by_cases h6 : mid < 280
  · exact key 240 40 K14_5_6 (by omega) (by omega)
  exact key 280 40 K14_5_7 (by omega) (by omega)
def kCl (ci k m : Nat) : Bool := if ci = 12 ∧ k = 9 then cK12_9 m else if ci = 12 ∧ k = 8 then cK12_8 m else if ci = 8 ∧ k = 0 then cK8_0 m else if ci = 10 ∧ k = 0 then cK10_0 m else if ci = 9 ∧ k = 0 then cK9_0 m else if ci = 6 ∧ k = 0 then cK6_0 m else if ci = 11 ∧ k = 0 then cK11_0 m else if ci = 5 ∧ k = 0 then cK5_0 m else if ci = 18 ∧ k = 4 then cK18_4 m else if ci = 18 ∧ k = 1 then cK18_1 m else if ci = 18 ∧ k = 8 then cK18_8 m else if ci = 3 ∧ k = 2 then cK3_2 m else if ci = 18 ∧ k = 0 then cK18_0 m else if ci = 13 ∧ k = 0 then cK13_0 m else if ci = 15 ∧ k = 0 then cK15_0 m else if ci = 15 ∧ k = 1 then cK15_1 m else if ci = 15 ∧ k = 2 then cK15_2 m else if ci = 15 ∧ k = 3 then cK15_3 m else if ci = 15 ∧ k = 4 then cK15_4 m else if ci = 15 ∧ k = 5 then cK15_5 m else if ci = 15 ∧ k = 6 then cK15_6 m else if ci = 15 ∧ k = 7 then cK15_7 m else if ci = 15 ∧ k = 8 then cK15_8 m else if ci = 15 ∧ k = 9 then cK15_9 m else if ci = 14 ∧ k = 2 then cK14_2 m else if ci = 14 ∧ k = 3 then cK14_3 m else if ci = 14 ∧ k = 4 then cK14_4 m else if ci = 14 ∧ k = 6 then cK14_6 m else if ci = 14 ∧ k = 7 then cK14_7 m else if ci = 3 ∧ k = 1 then cK3_1 m else if ci = 16 ∧ k = 0 then cK16_0 m else if ci = 16 ∧ k = 1 then cK16_1 m else if ci = 16 ∧ k = 2 then cK16_2 m else if ci = 16 ∧ k = 3 then cK16_3 m else if ci = 16 ∧ k = 4 then cK16_4 m else if ci = 16 ∧ k = 5 then cK16_5 m else if ci = 14 ∧ k = 0 then cK14_0 m else if ci = 14 ∧ k = 1 then cK14_1 m else if ci = 14 ∧ k = 5 then cK14_5 m else false
theorem kT (ci k mid : Nat) (h : kCl ci k mid = true) : xClM ci k (kCl ci k) (xP mid) = true := by
  by_cases h0 : ci = 12 ∧ k = 9
  · have e : kCl ci k = cK12_9 := funext fun m => by unfold kCl; rw [if_pos h0]
    rw [e] at h ⊢
    rw [h0.1, h0.2]
    exact K12_9 mid h
  by_cases h1 : ci = 12 ∧ k = 8
  · have e : kCl ci k = cK12_8 := funext fun m => by unfold kCl; rw [if_neg h0, if_pos h1]
    rw [e] at h ⊢
    rw [h1.1, h1.2]
    exact K12_8 mid h
  by_cases h2 : ci = 8 ∧ k = 0
  · have e : kCl ci k = cK8_0 := funext fun m => by unfold kCl; rw [if_neg h0, if_neg h1, if_pos h2]
    rw [e] at h ⊢
    rw [h2.1, h2.2]
    exact K8_0 mid h
  by_cases h3 : ci = 10 ∧ k = 0
  · have e : kCl ci k = cK10_0 := funext fun m => by unfold kCl; rw [if_neg h0, if_neg h1, if_neg h2, if_pos h3]
    rw [e] at h ⊢
    rw [h3.1, h3.2]
    exact K10_0 mid h
  by_cases h4 : ci = 9 ∧ k = 0
  · have e : kCl ci k = cK9_0 := funext fun m => by unfold kCl; rw [if_neg h0, if_neg h1, if_neg h2, if_neg h3, if_pos h4]
    rw [e] at h ⊢
    rw [h4.1, h4.2]
    exact K9_0 mid h
  by_cases h5 : ci = 6 ∧ k = 0
  · have e : kCl ci k = cK6_0 := funext fun m => by unfold kCl; rw [if_neg h0, if_neg h1, if_neg h2, if_neg h3, if_neg h4, if_pos h5]
    rw [e] at h ⊢
    rw [h5.1, h5.2]
    exact K6_0 mid h
  by_cases h6 : ci = 11 ∧ k = 0
  · have e : kCl ci k = cK11_0 := funext fun m => by unfold kCl; rw [if_neg h0, if_neg h1, if_neg h2, if_neg h3, if_neg h4, if_neg h5, if_pos h6]
    rw [e] at h ⊢
    rw [h6.1, h6.2]
    exact K11_0 mid h
  by_cases h7 : ci = 5 ∧ k = 0
  · have e : kCl ci k = cK5_0 := funext fun m => by unfold kCl; rw [if_neg h0, if_neg h1, if_neg h2, if_neg h3, if_neg h4, if_neg h5, if_neg h6, if_pos h7]
    rw [e] at h ⊢
    rw [h7.1, h7.2]
    exact K5_0 mid h
  by_cases h8 : ci = 18 ∧ k = 4
  · have e : kCl ci k = cK18_4 := funext fun m => by unfold kCl; rw [if_neg h0, if_neg h1, if_neg h2, if_neg h3, if_neg h4, if_neg h5, if_neg h6, if_neg h7, if_pos h8]
    rw [e] at h ⊢
    rw [h8.1, h8.2]
    exact K18_4 mid h
  by_cases h9 : ci = 18 ∧ k = 1
  · have e : kCl ci k = cK18_1 := funext fun m => by unfold kCl; rw [if_neg h0, if_neg h1, if_neg h2, if_neg h3, if_neg h4, if_neg h5, if_neg h6, if_neg h7, if_neg h8, if_pos h9]
    rw [e] at h ⊢
    rw [h9.1, h9.2]
    exact K18_1 mid h
  by_cases h10 : ci = 18 ∧ k = 8
  · have e : kCl ci k = cK18_8 := funext fun m => by unfold kCl; rw [if_neg h0, if_neg h1, if_neg h2, if_neg h3, if_neg h4, if_neg h5, if_neg h6, if_neg h7, if_neg h8, if_neg h9, if_pos h10]
    rw [e] at h ⊢
    rw [h10.1, h10.2]
    exact K18_8 mid h
  by_cases h11 : ci = 3 ∧ k = 2
  · have e : kCl ci k = cK3_2 := funext fun m => by unfold kCl; rw [if_neg h0, if_neg h1, if_neg h2, if_neg h3, if_neg h4, if_neg h5, if_neg h6, if_neg h7, if_neg h8, if_neg h9, if_neg h10, if_pos h11]
    rw [e] at h ⊢
    rw [h11.1, h11.2]
    exact K3_2 mid h
  by_cases h12 : ci = 18 ∧ k = 0
  · have e : kCl ci k = cK18_0 := funext fun m => by unfold kCl; rw [if_neg h0, if_neg h1, if_neg h2, if_neg h3, if_neg h4, if_neg h5, if_neg h6, if_neg h7, if_neg h8, if_neg h9, if_neg h10, if_neg h11, if_pos h12]
    rw [e] at h ⊢
    rw [h12.1, h12.2]
    exact K18_0 mid h
  by_cases h13 : ci = 13 ∧ k = 0
  · have e : kCl ci k = cK13_0 := funext fun m => by unfold kCl; rw [if_neg h0, if_neg h1, if_neg h2, if_neg h3, if_neg h4, if_neg h5, if_neg h6, if_neg h7, if_neg h8, if_neg h9, if_neg h10, if_neg h11, if_neg h12, if_pos h13]
    rw [e] at h ⊢
    rw [h13.1, h13.2]
    exact K13_0 mid h
  by_cases h14 : ci = 15 ∧ k = 0
  · have e : kCl ci k = cK15_0 := funext fun m => by unfold kCl; rw [if_neg h0, if_neg h1, if_neg h2, if_neg h3, if_neg h4, if_neg h5, if_neg h6, if_neg h7, if_neg h8, if_neg h9, if_neg h10, if_neg h11, if_neg h12, if_neg h13, if_pos h14]
    rw [e] at h ⊢
    rw [h14.1, h14.2]
    exact K15_0 mid h
  by_cases h15 : ci = 15 ∧ k = 1
  · have e : kCl ci k = cK15_1 := funext fun m => by unfold kCl; rw [if_neg h0, if_neg h1, if_neg h2, if_neg h3, if_neg h4, if_neg h5, if_neg h6, if_neg h7, if_neg h8, if_neg h9, if_neg h10, if_neg h11, if_neg h12, if_neg h13, if_neg h14, if_pos h15]
    rw [e] at h ⊢
    rw [h15.1, h15.2]
    exact K15_1 mid h
  by_cases h16 : ci = 15 ∧ k = 2
  · have e : kCl ci k = cK15_2 := funext fun m => by unfold kCl; rw [if_neg h0, if_neg h1, if_neg h2, if_neg h3, if_neg h4, if_neg h5, if_neg h6, if_neg h7, if_neg h8, if_neg h9, if_neg h10, if_neg h11, if_neg h12, if_neg h13, if_neg h14, if_neg h15, if_pos h16]
    rw [e] at h ⊢
    rw [h16.1, h16.2]
    exact K15_2 mid h
  by_cases h17 : ci = 15 ∧ k = 3
  · have e : kCl ci k = cK15_3 := funext fun m => by unfold kCl; rw [if_neg h0, if_neg h1, if_neg h2, if_neg h3, if_neg h4, if_neg h5, if_neg h6, if_neg h7, if_neg h8, if_neg h9, if_neg h10, if_neg h11, if_neg h12, if_neg h13, if_neg h14, if_neg h15, if_neg h16, if_pos h17]
    rw [e] at h ⊢
    rw [h17.1, h17.2]
    exact K15_3 mid h
  by_cases h18 : ci = 15 ∧ k = 4
  · have e : kCl ci k = cK15_4 := funext fun m => by unfold kCl; rw [if_neg h0, if_neg h1, if_neg h2, if_neg h3, if_neg h4, if_neg h5, if_neg h6, if_neg h7, if_neg h8, if_neg h9, if_neg h10, if_neg h11, if_neg h12, if_neg h13, if_neg h14, if_neg h15, if_neg h16, if_neg h17, if_pos h18]
    rw [e] at h ⊢
    rw [h18.1, h18.2]
    exact K15_4 mid h
  by_cases h19 : ci = 15 ∧ k = 5
  · have e : kCl ci k = cK15_5 := funext fun m => by unfold kCl; rw [if_neg h0, if_neg h1, if_neg h2, if_neg h3, if_neg h4, if_neg h5, if_neg h6, if_neg h7, if_neg h8, if_neg h9, if_neg h10, if_neg h11, if_neg h12, if_neg h13, if_neg h14, if_neg h15, if_neg h16, if_neg h17, if_neg h18, if_pos h19]
    rw [e] at h ⊢
    rw [h19.1, h19.2]
    exact K15_5 mid h
  by_cases h20 : ci = 15 ∧ k = 6
  · have e : kCl ci k = cK15_6 := funext fun m => by unfold kCl; rw [if_neg h0, if_neg h1, if_neg h2, if_neg h3, if_neg h4, if_neg h5, if_neg h6, if_neg h7, if_neg h8, if_neg h9, if_neg h10, if_neg h11, if_neg h12, if_neg h13, if_neg h14, if_neg h15, if_neg h16, if_neg h17, if_neg h18, if_neg h19, if_pos h20]
    rw [e] at h ⊢
    rw [h20.1, h20.2]
    exact K15_6 mid h
  by_cases h21 : ci = 15 ∧ k = 7
  · have e : kCl ci k = cK15_7 := funext fun m => by unfold kCl; rw [if_neg h0, if_neg h1, if_neg h2, if_neg h3, if_neg h4, if_neg h5, if_neg h6, if_neg h7, if_neg h8, if_neg h9, if_neg h10, if_neg h11, if_neg h12, if_neg h13, if_neg h14, if_neg h15, if_neg h16, if_neg h17, if_neg h18, if_neg h19, if_neg h20, if_pos h21]
    rw [e] at h ⊢
    rw [h21.1, h21.2]
    exact K15_7 mid h
  by_cases h22 : ci = 15 ∧ k = 8
  · have e : kCl ci k = cK15_8 := funext fun m => by unfold kCl; rw [if_neg h0, if_neg h1, if_neg h2, if_neg h3, if_neg h4, if_neg h5, if_neg h6, if_neg h7, if_neg h8, if_neg h9, if_neg h10, if_neg h11, if_neg h12, if_neg h13, if_neg h14, if_neg h15, if_neg h16, if_neg h17, if_neg h18, if_neg h19, if_neg h20, if_neg h21, if_pos h22]
    rw [e] at h ⊢
    rw [h22.1, h22.2]
    exact K15_8 mid h
  by_cases h23 : ci = 15 ∧ k = 9
  · have e : kCl ci k = cK15_9 := funext fun m => by unfold kCl; rw [if_neg h0, if_neg h1, if_neg h2, if_neg h3, if_neg h4, if_neg h5, if_neg h6, if_neg h7, if_neg h8, if_neg h9, if_neg h10, if_neg h11, if_neg h12, if_neg h13, if_neg h14, if_neg h15, if_neg h16, if_neg h17, if_neg h18, if_neg h19, if_neg h20, if_neg h21, if_neg h22, if_pos h23]
    rw [e] at h ⊢
    rw [h23.1, h23.2]
    exact K15_9 mid h
  by_cases h24 : ci = 14 ∧ k = 2
  · have e : kCl ci k = cK14_2 := funext fun m => by unfold kCl; rw [if_neg h0, if_neg h1, if_neg h2, if_neg h3, if_neg h4, if_neg h5, if_neg h6, if_neg h7, if_neg h8, if_neg h9, if_neg h10, if_neg h11, if_neg h12, if_neg h13, if_neg h14, if_neg h15, if_neg h16, if_neg h17, if_neg h18, if_neg h19, if_neg h20, if_neg h21, if_neg h22, if_neg h23, if_pos h24]
    rw [e] at h ⊢
    rw [h24.1, h24.2]
    exact K14_2 mid h
  by_cases h25 : ci = 14 ∧ k = 3
  · have e : kCl ci k = cK14_3 := funext fun m => by unfold kCl; rw [if_neg h0, if_neg h1, if_neg h2, if_neg h3, if_neg h4, if_neg h5, if_neg h6, if_neg h7, if_neg h8, if_neg h9, if_neg h10, if_neg h11, if_neg h12, if_neg h13, if_neg h14, if_neg h15, if_neg h16, if_neg h17, if_neg h18, if_neg h19, if_neg h20, if_neg h21, if_neg h22, if_neg h23, if_neg h24, if_pos h25]
    rw [e] at h ⊢
    rw [h25.1, h25.2]
    exact K14_3 mid h
  by_cases h26 : ci = 14 ∧ k = 4
  · have e : kCl ci k = cK14_4 := funext fun m => by unfold kCl; rw [if_neg h0, if_neg h1, if_neg h2, if_neg h3, if_neg h4, if_neg h5, if_neg h6, if_neg h7, if_neg h8, if_neg h9, if_neg h10, if_neg h11, if_neg h12, if_neg h13, if_neg h14, if_neg h15, if_neg h16, if_neg h17, if_neg h18, if_neg h19, if_neg h20, if_neg h21, if_neg h22, if_neg h23, if_neg h24, if_neg h25, if_pos h26]
    rw [e] at h ⊢
    rw [h26.1, h26.2]
    exact K14_4 mid h
  by_cases h27 : ci = 14 ∧ k = 6
  · have e : kCl ci k = cK14_6 := funext fun m => by unfold kCl; rw [if_neg h0, if_neg h1, if_neg h2, if_neg h3, if_neg h4, if_neg h5, if_neg h6, if_neg h7, if_neg h8, if_neg h9, if_neg h10, if_neg h11, if_neg h12, if_neg h13, if_neg h14, if_neg h15, if_neg h16, if_neg h17, if_neg h18, if_neg h19, if_neg h20, if_neg h21, if_neg h22, if_neg h23, if_neg h24, if_neg h25, if_neg h26, if_pos h27]
    rw [e] at h ⊢
    rw [h27.1, h27.2]
    exact K14_6 mid h
  by_cases h28 : ci = 14 ∧ k = 7
  · have e : kCl ci k = cK14_7 := funext fun m => by unfold kCl; rw [if_neg h0, if_neg h1, if_neg h2, if_neg h3, if_neg h4, if_neg h5, if_neg h6, if_neg h7, if_neg h8, if_neg h9, if_neg h10, if_neg h11, if_neg h12, if_neg h13, if_neg h14, if_neg h15, if_neg h16, if_neg h17, if_neg h18, if_neg h19, if_neg h20, if_neg h21, if_neg h22, if_neg h23, if_neg h24, if_neg h25, if_neg h26, if_neg h27, if_pos h28]
    rw [e] at h ⊢
    rw [h28.1, h28.2]
    exact K14_7 mid h
  by_cases h29 : ci = 3 ∧ k = 1
  · have e : kCl ci k = cK3_1 := funext fun m => by unfold kCl; rw [if_neg h0, if_neg h1, if_neg h2, if_neg h3, if_neg h4, if_neg h5, if_neg h6, if_neg h7, if_neg h8, if_neg h9, if_neg h10, if_neg h11, if_neg h12, if_neg h13, if_neg h14, if_neg h15, if_neg h16, if_neg h17, if_neg h18, if_neg h19, if_neg h20, if_neg h21, if_neg h22, if_neg h23, if_neg h24, if_neg h25, if_neg h26, if_neg h27, if_neg h28, if_pos h29]
    rw [e] at h ⊢
    rw [h29.1, h29.2]
    exact K3_1 mid h
  by_cases h30 : ci = 16 ∧ k = 0
  · have e : kCl ci k = cK16_0 := funext fun m => by unfold kCl; rw [if_neg h0, if_neg h1, if_neg h2, if_neg h3, if_neg h4, if_neg h5, if_neg h6, if_neg h7, if_neg h8, if_neg h9, if_neg h10, if_neg h11, if_neg h12, if_neg h13, if_neg h14, if_neg h15, if_neg h16, if_neg h17, if_neg h18, if_neg h19, if_neg h20, if_neg h21, if_neg h22, if_neg h23, if_neg h24, if_neg h25, if_neg h26, if_neg h27, if_neg h28, if_neg h29, if_pos h30]
    rw [e] at h ⊢
    rw [h30.1, h30.2]
    exact K16_0 mid h
  by_cases h31 : ci = 16 ∧ k = 1
  · have e : kCl ci k = cK16_1 := funext fun m => by unfold kCl; rw [if_neg h0, if_neg h1, if_neg h2, if_neg h3, if_neg h4, if_neg h5, if_neg h6, if_neg h7, if_neg h8, if_neg h9, if_neg h10, if_neg h11, if_neg h12, if_neg h13, if_neg h14, if_neg h15, if_neg h16, if_neg h17, if_neg h18, if_neg h19, if_neg h20, if_neg h21, if_neg h22, if_neg h23, if_neg h24, if_neg h25, if_neg h26, if_neg h27, if_neg h28, if_neg h29, if_neg h30, if_pos h31]
    rw [e] at h ⊢
    rw [h31.1, h31.2]
    exact K16_1 mid h
  by_cases h32 : ci = 16 ∧ k = 2
  · have e : kCl ci k = cK16_2 := funext fun m => by unfold kCl; rw [if_neg h0, if_neg h1, if_neg h2, if_neg h3, if_neg h4, if_neg h5, if_neg h6, if_neg h7, if_neg h8, if_neg h9, if_neg h10, if_neg h11, if_neg h12, if_neg h13, if_neg h14, if_neg h15, if_neg h16, if_neg h17, if_neg h18, if_neg h19, if_neg h20, if_neg h21, if_neg h22, if_neg h23, if_neg h24, if_neg h25, if_neg h26, if_neg h27, if_neg h28, if_neg h29, if_neg h30, if_neg h31, if_pos h32]
    rw [e] at h ⊢
    rw [h32.1, h32.2]
    exact K16_2 mid h
  by_cases h33 : ci = 16 ∧ k = 3
  · have e : kCl ci k = cK16_3 := funext fun m => by unfold kCl; rw [if_neg h0, if_neg h1, if_neg h2, if_neg h3, if_neg h4, if_neg h5, if_neg h6, if_neg h7, if_neg h8, if_neg h9, if_neg h10, if_neg h11, if_neg h12, if_neg h13, if_neg h14, if_neg h15, if_neg h16, if_neg h17, if_neg h18, if_neg h19, if_neg h20, if_neg h21, if_neg h22, if_neg h23, if_neg h24, if_neg h25, if_neg h26, if_neg h27, if_neg h28, if_neg h29, if_neg h30, if_neg h31, if_neg h32, if_pos h33]
    rw [e] at h ⊢
    rw [h33.1, h33.2]
    exact K16_3 mid h
  by_cases h34 : ci = 16 ∧ k = 4
  · have e : kCl ci k = cK16_4 := funext fun m => by unfold kCl; rw [if_neg h0, if_neg h1, if_neg h2, if_neg h3, if_neg h4, if_neg h5, if_neg h6, if_neg h7, if_neg h8, if_neg h9, if_neg h10, if_neg h11, if_neg h12, if_neg h13, if_neg h14, if_neg h15, if_neg h16, if_neg h17, if_neg h18, if_neg h19, if_neg h20, if_neg h21, if_neg h22, if_neg h23, if_neg h24, if_neg h25, if_neg h26, if_neg h27, if_neg h28, if_neg h29, if_neg h30, if_neg h31, if_neg h32, if_neg h33, if_pos h34]
    rw [e] at h ⊢
    rw [h34.1, h34.2]
    exact K16_4 mid h
  by_cases h35 : ci = 16 ∧ k = 5
  · have e : kCl ci k = cK16_5 := funext fun m => by unfold kCl; rw [if_neg h0, if_neg h1, if_neg h2, if_neg h3, if_neg h4, if_neg h5, if_neg h6, if_neg h7, if_neg h8, if_neg h9, if_neg h10, if_neg h11, if_neg h12, if_neg h13, if_neg h14, if_neg h15, if_neg h16, if_neg h17, if_neg h18, if_neg h19, if_neg h20, if_neg h21, if_neg h22, if_neg h23, if_neg h24, if_neg h25, if_neg h26, if_neg h27, if_neg h28, if_neg h29, if_neg h30, if_neg h31, if_neg h32, if_neg h33, if_neg h34, if_pos h35]
    rw [e] at h ⊢
    rw [h35.1, h35.2]
    exact K16_5 mid h
  by_cases h36 : ci = 14 ∧ k = 0
  · have e : kCl ci k = cK14_0 := funext fun m => by unfold kCl; rw [if_neg h0, if_neg h1, if_neg h2, if_neg h3, if_neg h4, if_neg h5, if_neg h6, if_neg h7, if_neg h8, if_neg h9, if_neg h10, if_neg h11, if_neg h12, if_neg h13, if_neg h14, if_neg h15, if_neg h16, if_neg h17, if_neg h18, if_neg h19, if_neg h20, if_neg h21, if_neg h22, if_neg h23, if_neg h24, if_neg h25, if_neg h26, if_neg h27, if_neg h28, if_neg h29, if_neg h30, if_neg h31, if_neg h32, if_neg h33, if_neg h34, if_neg h35, if_pos h36]
    rw [e] at h ⊢
    rw [h36.1, h36.2]
    exact K14_0 mid h
  by_cases h37 : ci = 14 ∧ k = 1
  · have e : kCl ci k = cK14_1 := funext fun m => by unfold kCl; rw [if_neg h0, if_neg h1, if_neg h2, if_neg h3, if_neg h4, if_neg h5, if_neg h6, if_neg h7, if_neg h8, if_neg h9, if_neg h10, if_neg h11, if_neg h12, if_neg h13, if_neg h14, if_neg h15, if_neg h16, if_neg h17, if_neg h18, if_neg h19, if_neg h20, if_neg h21, if_neg h22, if_neg h23, if_neg h24, if_neg h25, if_neg h26, if_neg h27, if_neg h28, if_neg h29, if_neg h30, if_neg h31, if_neg h32, if_neg h33, if_neg h34, if_neg h35, if_neg h36, if_pos h37]
    rw [e] at h ⊢
    rw [h37.1, h37.2]
    exact K14_1 mid h
  by_cases h38 : ci = 14 ∧ k = 5
  · have e : kCl ci k = cK14_5 := funext fun m => by unfold kCl; rw [if_neg h0, if_neg h1, if_neg h2, if_neg h3, if_neg h4, if_neg h5, if_neg h6, if_neg h7, if_neg h8, if_neg h9, if_neg h10, if_neg h11, if_neg h12, if_neg h13, if_neg h14, if_neg h15, if_neg h16, if_neg h17, if_neg h18, if_neg h19, if_neg h20, if_neg h21, if_neg h22, if_neg h23, if_neg h24, if_neg h25, if_neg h26, if_neg h27, if_neg h28, if_neg h29, if_neg h30, if_neg h31, if_neg h32, if_neg h33, if_neg h34, if_neg h35, if_neg h36, if_neg h37, if_pos h38]
    rw [e] at h ⊢
    rw [h38.1, h38.2]
    exact K14_5 mid h
  unfold kCl at h
  rw [if_neg h0, if_neg h1, if_neg h2, if_neg h3, if_neg h4, if_neg h5, if_neg h6, if_neg h7, if_neg h8, if_neg h9, if_neg h10, if_neg h11, if_neg h12, if_neg h13, if_neg h14, if_neg h15, if_neg h16, if_neg h17, if_neg h18, if_neg h19, if_neg h20, if_neg h21, if_neg h22, if_neg h23, if_neg h24, if_neg h25, if_neg h26, if_neg h27, if_neg h28, if_neg h29, if_neg h30, if_neg h31, if_neg h32, if_neg h33, if_neg h34, if_neg h35, if_neg h36, if_neg h37, if_neg h38] at h
  cases h
/-- the fields (class, place, object) of a list stay -/
def yKeep : List (Nat × Nat × Nat) → (Nat → Nat → Int32) → (Nat → Nat → Int32) → Prop
  | [], _, _ => True
  | (_, k, a) :: r, I, I' => I' a k = I a k ∧ yKeep r I I'
def kOk (mid : Nat) : Nat × Nat × Nat → Bool
  | (ci, k, a) => kCl ci k mid && (decide (yt0 a = some (ci + 4, 0)) && (Nat.blt k (yN ci) && yI ci k))
theorem xFrm.fldR {ci k a z z' n n' : Nat} {tg tg' : Nat → yT} {I I' : Nat → Nat → Int32} {R R' : Nat → Nat → Value} (h : xFrm ci k (yH (n, tg, I, R)) (yH (n', tg', I', R'))) (ha : a < n) (ht : tg a = (ci + 4, z)) (ht' : tg' a = (ci + 4, z')) (hN : Nat.blt k (yN ci) = true) (hi : yI ci k = false) : R' a k = R a k := by
  obtain ⟨fs', e1, e2⟩ := h.2 a _ ha (yH_obj ht)
  rw [yH_obj ht'] at e1
  cases e1
  rw [yFs_get (blt_lt hN), yFs_get (blt_lt hN), if_neg (by rw [hi]; decide), if_neg (by rw [hi]; decide)] at e2
  exact Option.some.inj e2
/-- a call that keeps fields of known objects, and what Out.n is -/
theorem yC.keep {mid n : Nat} {as : List Value} {tg : Nat → yT} {I : Nat → Nat → Int32} {R : Nat → Nat → Value} {c s : Nat} {Q : yQ} (L : List (Nat × Nat × Nat)) (hL : L.all (kOk mid) = true) (hO : kCl 13 0 mid = true) (hS : ySh n tg R)
    (h : yC mid as (n, tg, I, R) c s (fun o w' c' s' => ySh w'.1 w'.2.1 w'.2.2.2 ∧ (yKeep L I w'.2.2.1 → w'.2.2.2 93 0 = R 93 0 → Q o w' c' s'))) : yC mid as (n, tg, I, R) c s Q := by
  obtain ⟨m, o, w', c', s', e, hq, hk⟩ := h
  have key : ∀ L' : List (Nat × Nat × Nat), L'.all (kOk mid) = true → yKeep L' I w'.2.2.1 := by
    intro L'
    induction L' with
    | nil => intro _; trivial
    | cons q r ih =>
      intro hL'
      rw [List.all_cons, Bool.and_eq_true] at hL'
      obtain ⟨h1, h2⟩ := hL'
      obtain ⟨ci, k, a⟩ := q
      have h1 : (kCl ci k mid && (decide (yt0 a = some (ci + 4, 0)) && (Nat.blt k (yN ci) && yI ci k))) = true := h1
      simp only [Bool.and_eq_true] at h1
      obtain ⟨h1, h3, h4, h5⟩ := h1
      have h3 := of_decide_eq_true h3
      have h6 : a < 94 := by
        by_cases hl : a < 94
        · exact hl
        · exfalso
          have : yt0L.getD a none = some (ci + 4, 0) := h3
          rw [List.getD_eq_getElem?_getD, List.getElem?_eq_none (by show 94 ≤ _; omega)] at this
          cases this
      exact ⟨xFrm.fld (n' := w'.1) (tg' := w'.2.1) (I' := w'.2.2.1) (R' := w'.2.2.2) (xcall_frm (kT _ _) m m mid as _ _ _ _ _ h1 e) (hS.n (Nat.ble_eq_true_of_le h6)) (hS.t h3) (hq.t h3) h4 h5, ih h2⟩
  refine ⟨m, o, w', c', s', e, hk (key L hL) ?_⟩
  exact xFrm.fldR (n' := w'.1) (tg' := w'.2.1) (I' := w'.2.2.1) (R' := w'.2.2.2) (xcall_frm (kT 13 0) m m mid as _ _ _ _ _ hO e) (hS.n rfl) (hS.t rfl) (hq.t rfl) rfl rfl
