/-! TEXT: how many digits (by a program) -/
section YTZ
variable {n0 n : Nat} {tg0 tg : Nat → yT} {I0 I : Nat → Nat → Int32} {R0 R : Nat → Nat → Value} {c s : Nat} {Q : yQ}
theorem t_size {x : Int32} {w : yS} (hQ : ∀ (v : Int32) (k : Nat), 1 ≤ k → k ≤ 10 → -(yP k) < (if x.toInt < 0 then x.toInt else -x.toInt) → v.toInt = (k : Int) + (if x.toInt < 0 then 1 else 0) → Q (.inl (some (.int v))) w c s) : yC 264 [.int x] w c s Q := by
  have hlo := x.le_toInt
  have hhi := x.toInt_lt
  refine y_in (M := xm_J6_stringSize_0f7a4) (ls := [some _, none, none, none]) rfl rfl rfl ?_
  refine y_iconst rfl ?_
  refine y_istore_n (ls' := [some _, some _, none, none]) rfl rfl rfl ?_
  refine y_iload_n rfl rfl ?_
  refine y_if_lt rfl j_J6_stringSize_0f7a4_11 (fun h_1 => ?_) (fun h_2 => ?_)
  · refine y_bip rfl (by decide) ?_
    refine y_istore_n (ls' := [some _, some _, some _, none]) rfl rfl rfl ?_
    refine y_iconst rfl ?_
    refine y_istore_n (ls' := [some _, some _, some _, some _]) rfl rfl rfl ?_
    refine y_iload_n rfl rfl ?_
    refine y_bip rfl (by decide) ?_
    refine y_icmp_geF rfl (by decide) ?_
    refine y_iload_n rfl rfl ?_
    refine y_iload_n rfl rfl ?_
    refine y_icmp_le rfl j_J6_stringSize_0f7a4_31 (fun g_1 => ?_) (fun g_1 => ?_)
    rotate_left
    · rw [show (Int32.ofInt (-10)).toInt = -10 from by decide] at g_1
      refine y_iload_n rfl rfl ?_
      refine y_iload_n rfl rfl ?_
      refine y_iadd rfl ?_
      refine y_ireturn rfl rfl rfl ?_
      exact hQ _ 1 (by decide) (by decide) (by rw [show yP 1 = 10 from rfl]; split <;> omega) (by rw [show (Int32.ofInt 1 + Int32.ofInt 1).toInt = 2 from by decide]; split <;> omega)
    refine y_bip rfl (by decide) ?_
    refine y_iload_n rfl rfl ?_
    refine y_imul rfl ?_
    rw [show Int32.ofInt 10 * Int32.ofInt (-10) = Int32.ofInt (-100) from by decide]
    refine y_istore_n (ls' := [some _, some _, some _, some _]) rfl rfl rfl ?_
    refine y_iinc (ls' := [some _, some _, some _, some _]) rfl rfl rfl rfl ?_
    rw [show Int32.ofInt 1 + Int32.ofInt 1 = Int32.ofInt 2 from by decide]
    refine y_goto rfl j_J6_stringSize_0f7a4_16 ?_
    refine y_iload_n rfl rfl ?_
    refine y_bip rfl (by decide) ?_
    refine y_icmp_geF rfl (by decide) ?_
    refine y_iload_n rfl rfl ?_
    refine y_iload_n rfl rfl ?_
    refine y_icmp_le rfl j_J6_stringSize_0f7a4_31 (fun g_2 => ?_) (fun g_2 => ?_)
    rotate_left
    · rw [show (Int32.ofInt (-100)).toInt = -100 from by decide] at g_2
      refine y_iload_n rfl rfl ?_
      refine y_iload_n rfl rfl ?_
      refine y_iadd rfl ?_
      refine y_ireturn rfl rfl rfl ?_
      exact hQ _ 2 (by decide) (by decide) (by rw [show yP 2 = 100 from rfl]; split <;> omega) (by rw [show (Int32.ofInt 2 + Int32.ofInt 1).toInt = 3 from by decide]; split <;> omega)
    refine y_bip rfl (by decide) ?_
    refine y_iload_n rfl rfl ?_
    refine y_imul rfl ?_
    rw [show Int32.ofInt 10 * Int32.ofInt (-100) = Int32.ofInt (-1000) from by decide]
    refine y_istore_n (ls' := [some _, some _, some _, some _]) rfl rfl rfl ?_
    refine y_iinc (ls' := [some _, some _, some _, some _]) rfl rfl rfl rfl ?_
    rw [show Int32.ofInt 2 + Int32.ofInt 1 = Int32.ofInt 3 from by decide]
    refine y_goto rfl j_J6_stringSize_0f7a4_16 ?_
    refine y_iload_n rfl rfl ?_
    refine y_bip rfl (by decide) ?_
    refine y_icmp_geF rfl (by decide) ?_
    refine y_iload_n rfl rfl ?_
    refine y_iload_n rfl rfl ?_
    refine y_icmp_le rfl j_J6_stringSize_0f7a4_31 (fun g_3 => ?_) (fun g_3 => ?_)
    rotate_left
    · rw [show (Int32.ofInt (-1000)).toInt = -1000 from by decide] at g_3
      refine y_iload_n rfl rfl ?_
      refine y_iload_n rfl rfl ?_
      refine y_iadd rfl ?_
      refine y_ireturn rfl rfl rfl ?_
      exact hQ _ 3 (by decide) (by decide) (by rw [show yP 3 = 1000 from rfl]; split <;> omega) (by rw [show (Int32.ofInt 3 + Int32.ofInt 1).toInt = 4 from by decide]; split <;> omega)
    refine y_bip rfl (by decide) ?_
    refine y_iload_n rfl rfl ?_
    refine y_imul rfl ?_
    rw [show Int32.ofInt 10 * Int32.ofInt (-1000) = Int32.ofInt (-10000) from by decide]
    refine y_istore_n (ls' := [some _, some _, some _, some _]) rfl rfl rfl ?_
    refine y_iinc (ls' := [some _, some _, some _, some _]) rfl rfl rfl rfl ?_
    rw [show Int32.ofInt 3 + Int32.ofInt 1 = Int32.ofInt 4 from by decide]
    refine y_goto rfl j_J6_stringSize_0f7a4_16 ?_
    refine y_iload_n rfl rfl ?_
    refine y_bip rfl (by decide) ?_
    refine y_icmp_geF rfl (by decide) ?_
    refine y_iload_n rfl rfl ?_
    refine y_iload_n rfl rfl ?_
    refine y_icmp_le rfl j_J6_stringSize_0f7a4_31 (fun g_4 => ?_) (fun g_4 => ?_)
    rotate_left
    · rw [show (Int32.ofInt (-10000)).toInt = -10000 from by decide] at g_4
      refine y_iload_n rfl rfl ?_
      refine y_iload_n rfl rfl ?_
      refine y_iadd rfl ?_
      refine y_ireturn rfl rfl rfl ?_
      exact hQ _ 4 (by decide) (by decide) (by rw [show yP 4 = 10000 from rfl]; split <;> omega) (by rw [show (Int32.ofInt 4 + Int32.ofInt 1).toInt = 5 from by decide]; split <;> omega)
    refine y_bip rfl (by decide) ?_
    refine y_iload_n rfl rfl ?_
    refine y_imul rfl ?_
    rw [show Int32.ofInt 10 * Int32.ofInt (-10000) = Int32.ofInt (-100000) from by decide]
    refine y_istore_n (ls' := [some _, some _, some _, some _]) rfl rfl rfl ?_
    refine y_iinc (ls' := [some _, some _, some _, some _]) rfl rfl rfl rfl ?_
    rw [show Int32.ofInt 4 + Int32.ofInt 1 = Int32.ofInt 5 from by decide]
    refine y_goto rfl j_J6_stringSize_0f7a4_16 ?_
    refine y_iload_n rfl rfl ?_
    refine y_bip rfl (by decide) ?_
    refine y_icmp_geF rfl (by decide) ?_
    refine y_iload_n rfl rfl ?_
    refine y_iload_n rfl rfl ?_
    refine y_icmp_le rfl j_J6_stringSize_0f7a4_31 (fun g_5 => ?_) (fun g_5 => ?_)
    rotate_left
    · rw [show (Int32.ofInt (-100000)).toInt = -100000 from by decide] at g_5
      refine y_iload_n rfl rfl ?_
      refine y_iload_n rfl rfl ?_
      refine y_iadd rfl ?_
      refine y_ireturn rfl rfl rfl ?_
      exact hQ _ 5 (by decide) (by decide) (by rw [show yP 5 = 100000 from rfl]; split <;> omega) (by rw [show (Int32.ofInt 5 + Int32.ofInt 1).toInt = 6 from by decide]; split <;> omega)
    refine y_bip rfl (by decide) ?_
    refine y_iload_n rfl rfl ?_
    refine y_imul rfl ?_
    rw [show Int32.ofInt 10 * Int32.ofInt (-100000) = Int32.ofInt (-1000000) from by decide]
    refine y_istore_n (ls' := [some _, some _, some _, some _]) rfl rfl rfl ?_
    refine y_iinc (ls' := [some _, some _, some _, some _]) rfl rfl rfl rfl ?_
    rw [show Int32.ofInt 5 + Int32.ofInt 1 = Int32.ofInt 6 from by decide]
    refine y_goto rfl j_J6_stringSize_0f7a4_16 ?_
    refine y_iload_n rfl rfl ?_
    refine y_bip rfl (by decide) ?_
    refine y_icmp_geF rfl (by decide) ?_
    refine y_iload_n rfl rfl ?_
    refine y_iload_n rfl rfl ?_
    refine y_icmp_le rfl j_J6_stringSize_0f7a4_31 (fun g_6 => ?_) (fun g_6 => ?_)
    rotate_left
    · rw [show (Int32.ofInt (-1000000)).toInt = -1000000 from by decide] at g_6
      refine y_iload_n rfl rfl ?_
      refine y_iload_n rfl rfl ?_
      refine y_iadd rfl ?_
      refine y_ireturn rfl rfl rfl ?_
      exact hQ _ 6 (by decide) (by decide) (by rw [show yP 6 = 1000000 from rfl]; split <;> omega) (by rw [show (Int32.ofInt 6 + Int32.ofInt 1).toInt = 7 from by decide]; split <;> omega)
    refine y_bip rfl (by decide) ?_
    refine y_iload_n rfl rfl ?_
    refine y_imul rfl ?_
    rw [show Int32.ofInt 10 * Int32.ofInt (-1000000) = Int32.ofInt (-10000000) from by decide]
    refine y_istore_n (ls' := [some _, some _, some _, some _]) rfl rfl rfl ?_
    refine y_iinc (ls' := [some _, some _, some _, some _]) rfl rfl rfl rfl ?_
    rw [show Int32.ofInt 6 + Int32.ofInt 1 = Int32.ofInt 7 from by decide]
    refine y_goto rfl j_J6_stringSize_0f7a4_16 ?_
    refine y_iload_n rfl rfl ?_
    refine y_bip rfl (by decide) ?_
    refine y_icmp_geF rfl (by decide) ?_
    refine y_iload_n rfl rfl ?_
    refine y_iload_n rfl rfl ?_
    refine y_icmp_le rfl j_J6_stringSize_0f7a4_31 (fun g_7 => ?_) (fun g_7 => ?_)
    rotate_left
    · rw [show (Int32.ofInt (-10000000)).toInt = -10000000 from by decide] at g_7
      refine y_iload_n rfl rfl ?_
      refine y_iload_n rfl rfl ?_
      refine y_iadd rfl ?_
      refine y_ireturn rfl rfl rfl ?_
      exact hQ _ 7 (by decide) (by decide) (by rw [show yP 7 = 10000000 from rfl]; split <;> omega) (by rw [show (Int32.ofInt 7 + Int32.ofInt 1).toInt = 8 from by decide]; split <;> omega)
    refine y_bip rfl (by decide) ?_
    refine y_iload_n rfl rfl ?_
    refine y_imul rfl ?_
    rw [show Int32.ofInt 10 * Int32.ofInt (-10000000) = Int32.ofInt (-100000000) from by decide]
    refine y_istore_n (ls' := [some _, some _, some _, some _]) rfl rfl rfl ?_
    refine y_iinc (ls' := [some _, some _, some _, some _]) rfl rfl rfl rfl ?_
    rw [show Int32.ofInt 7 + Int32.ofInt 1 = Int32.ofInt 8 from by decide]
    refine y_goto rfl j_J6_stringSize_0f7a4_16 ?_
    refine y_iload_n rfl rfl ?_
    refine y_bip rfl (by decide) ?_
    refine y_icmp_geF rfl (by decide) ?_
    refine y_iload_n rfl rfl ?_
    refine y_iload_n rfl rfl ?_
    refine y_icmp_le rfl j_J6_stringSize_0f7a4_31 (fun g_8 => ?_) (fun g_8 => ?_)
    rotate_left
    · rw [show (Int32.ofInt (-100000000)).toInt = -100000000 from by decide] at g_8
      refine y_iload_n rfl rfl ?_
      refine y_iload_n rfl rfl ?_
      refine y_iadd rfl ?_
      refine y_ireturn rfl rfl rfl ?_
      exact hQ _ 8 (by decide) (by decide) (by rw [show yP 8 = 100000000 from rfl]; split <;> omega) (by rw [show (Int32.ofInt 8 + Int32.ofInt 1).toInt = 9 from by decide]; split <;> omega)
    refine y_bip rfl (by decide) ?_
    refine y_iload_n rfl rfl ?_
    refine y_imul rfl ?_
    rw [show Int32.ofInt 10 * Int32.ofInt (-100000000) = Int32.ofInt (-1000000000) from by decide]
    refine y_istore_n (ls' := [some _, some _, some _, some _]) rfl rfl rfl ?_
    refine y_iinc (ls' := [some _, some _, some _, some _]) rfl rfl rfl rfl ?_
    rw [show Int32.ofInt 8 + Int32.ofInt 1 = Int32.ofInt 9 from by decide]
    refine y_goto rfl j_J6_stringSize_0f7a4_16 ?_
    refine y_iload_n rfl rfl ?_
    refine y_bip rfl (by decide) ?_
    refine y_icmp_geF rfl (by decide) ?_
    refine y_iload_n rfl rfl ?_
    refine y_iload_n rfl rfl ?_
    refine y_icmp_le rfl j_J6_stringSize_0f7a4_31 (fun g_9 => ?_) (fun g_9 => ?_)
    rotate_left
    · rw [show (Int32.ofInt (-1000000000)).toInt = -1000000000 from by decide] at g_9
      refine y_iload_n rfl rfl ?_
      refine y_iload_n rfl rfl ?_
      refine y_iadd rfl ?_
      refine y_ireturn rfl rfl rfl ?_
      exact hQ _ 9 (by decide) (by decide) (by rw [show yP 9 = 1000000000 from rfl]; split <;> omega) (by rw [show (Int32.ofInt 9 + Int32.ofInt 1).toInt = 10 from by decide]; split <;> omega)
    refine y_bip rfl (by decide) ?_
    refine y_iload_n rfl rfl ?_
    refine y_imul rfl ?_
    rw [show Int32.ofInt 10 * Int32.ofInt (-1000000000) = Int32.ofInt (-1410065408) from by decide]
    refine y_istore_n (ls' := [some _, some _, some _, some _]) rfl rfl rfl ?_
    refine y_iinc (ls' := [some _, some _, some _, some _]) rfl rfl rfl rfl ?_
    rw [show Int32.ofInt 9 + Int32.ofInt 1 = Int32.ofInt 10 from by decide]
    refine y_goto rfl j_J6_stringSize_0f7a4_16 ?_
    refine y_iload_n rfl rfl ?_
    refine y_bip rfl (by decide) ?_
    refine y_icmp_geT rfl j_J6_stringSize_0f7a4_42 (by decide) ?_
    refine y_bip rfl (by decide) ?_
    refine y_iload_n rfl rfl ?_
    refine y_iadd rfl ?_
    refine y_ireturn rfl rfl rfl ?_
    exact hQ _ 10 (by decide) (by decide) (by rw [show yP 10 = 10000000000 from rfl]; split <;> omega) (by rw [show (Int32.ofInt 10 + Int32.ofInt 1).toInt = 11 from by decide]; split <;> omega)
  · refine y_iconst rfl ?_
    refine y_istore_n (ls' := [some _, some _, none, none]) rfl rfl rfl ?_
    refine y_iload_n rfl rfl ?_
    refine y_ineg rfl ?_
    refine y_istore_n (ls' := [some _, some _, none, none]) rfl rfl rfl ?_
    have hng := yneg (x := x) (by omega)
    refine y_bip rfl (by decide) ?_
    refine y_istore_n (ls' := [some _, some _, some _, none]) rfl rfl rfl ?_
    refine y_iconst rfl ?_
    refine y_istore_n (ls' := [some _, some _, some _, some _]) rfl rfl rfl ?_
    refine y_iload_n rfl rfl ?_
    refine y_bip rfl (by decide) ?_
    refine y_icmp_geF rfl (by decide) ?_
    refine y_iload_n rfl rfl ?_
    refine y_iload_n rfl rfl ?_
    refine y_icmp_le rfl j_J6_stringSize_0f7a4_31 (fun g_1 => ?_) (fun g_1 => ?_)
    rotate_left
    · rw [show (Int32.ofInt (-10)).toInt = -10 from by decide] at g_1
      refine y_iload_n rfl rfl ?_
      refine y_iload_n rfl rfl ?_
      refine y_iadd rfl ?_
      refine y_ireturn rfl rfl rfl ?_
      exact hQ _ 1 (by decide) (by decide) (by rw [show yP 1 = 10 from rfl]; split <;> omega) (by rw [show (Int32.ofInt 1 + Int32.ofInt 0).toInt = 1 from by decide]; split <;> omega)
    refine y_bip rfl (by decide) ?_
    refine y_iload_n rfl rfl ?_
    refine y_imul rfl ?_
    rw [show Int32.ofInt 10 * Int32.ofInt (-10) = Int32.ofInt (-100) from by decide]
    refine y_istore_n (ls' := [some _, some _, some _, some _]) rfl rfl rfl ?_
    refine y_iinc (ls' := [some _, some _, some _, some _]) rfl rfl rfl rfl ?_
    rw [show Int32.ofInt 1 + Int32.ofInt 1 = Int32.ofInt 2 from by decide]
    refine y_goto rfl j_J6_stringSize_0f7a4_16 ?_
    refine y_iload_n rfl rfl ?_
    refine y_bip rfl (by decide) ?_
    refine y_icmp_geF rfl (by decide) ?_
    refine y_iload_n rfl rfl ?_
    refine y_iload_n rfl rfl ?_
    refine y_icmp_le rfl j_J6_stringSize_0f7a4_31 (fun g_2 => ?_) (fun g_2 => ?_)
    rotate_left
    · rw [show (Int32.ofInt (-100)).toInt = -100 from by decide] at g_2
      refine y_iload_n rfl rfl ?_
      refine y_iload_n rfl rfl ?_
      refine y_iadd rfl ?_
      refine y_ireturn rfl rfl rfl ?_
      exact hQ _ 2 (by decide) (by decide) (by rw [show yP 2 = 100 from rfl]; split <;> omega) (by rw [show (Int32.ofInt 2 + Int32.ofInt 0).toInt = 2 from by decide]; split <;> omega)
    refine y_bip rfl (by decide) ?_
    refine y_iload_n rfl rfl ?_
    refine y_imul rfl ?_
    rw [show Int32.ofInt 10 * Int32.ofInt (-100) = Int32.ofInt (-1000) from by decide]
    refine y_istore_n (ls' := [some _, some _, some _, some _]) rfl rfl rfl ?_
    refine y_iinc (ls' := [some _, some _, some _, some _]) rfl rfl rfl rfl ?_
    rw [show Int32.ofInt 2 + Int32.ofInt 1 = Int32.ofInt 3 from by decide]
    refine y_goto rfl j_J6_stringSize_0f7a4_16 ?_
    refine y_iload_n rfl rfl ?_
    refine y_bip rfl (by decide) ?_
    refine y_icmp_geF rfl (by decide) ?_
    refine y_iload_n rfl rfl ?_
    refine y_iload_n rfl rfl ?_
    refine y_icmp_le rfl j_J6_stringSize_0f7a4_31 (fun g_3 => ?_) (fun g_3 => ?_)
    rotate_left
    · rw [show (Int32.ofInt (-1000)).toInt = -1000 from by decide] at g_3
      refine y_iload_n rfl rfl ?_
      refine y_iload_n rfl rfl ?_
      refine y_iadd rfl ?_
      refine y_ireturn rfl rfl rfl ?_
      exact hQ _ 3 (by decide) (by decide) (by rw [show yP 3 = 1000 from rfl]; split <;> omega) (by rw [show (Int32.ofInt 3 + Int32.ofInt 0).toInt = 3 from by decide]; split <;> omega)
    refine y_bip rfl (by decide) ?_
    refine y_iload_n rfl rfl ?_
    refine y_imul rfl ?_
    rw [show Int32.ofInt 10 * Int32.ofInt (-1000) = Int32.ofInt (-10000) from by decide]
    refine y_istore_n (ls' := [some _, some _, some _, some _]) rfl rfl rfl ?_
    refine y_iinc (ls' := [some _, some _, some _, some _]) rfl rfl rfl rfl ?_
    rw [show Int32.ofInt 3 + Int32.ofInt 1 = Int32.ofInt 4 from by decide]
    refine y_goto rfl j_J6_stringSize_0f7a4_16 ?_
    refine y_iload_n rfl rfl ?_
    refine y_bip rfl (by decide) ?_
    refine y_icmp_geF rfl (by decide) ?_
    refine y_iload_n rfl rfl ?_
    refine y_iload_n rfl rfl ?_
    refine y_icmp_le rfl j_J6_stringSize_0f7a4_31 (fun g_4 => ?_) (fun g_4 => ?_)
    rotate_left
    · rw [show (Int32.ofInt (-10000)).toInt = -10000 from by decide] at g_4
      refine y_iload_n rfl rfl ?_
      refine y_iload_n rfl rfl ?_
      refine y_iadd rfl ?_
      refine y_ireturn rfl rfl rfl ?_
      exact hQ _ 4 (by decide) (by decide) (by rw [show yP 4 = 10000 from rfl]; split <;> omega) (by rw [show (Int32.ofInt 4 + Int32.ofInt 0).toInt = 4 from by decide]; split <;> omega)
    refine y_bip rfl (by decide) ?_
    refine y_iload_n rfl rfl ?_
    refine y_imul rfl ?_
    rw [show Int32.ofInt 10 * Int32.ofInt (-10000) = Int32.ofInt (-100000) from by decide]
    refine y_istore_n (ls' := [some _, some _, some _, some _]) rfl rfl rfl ?_
    refine y_iinc (ls' := [some _, some _, some _, some _]) rfl rfl rfl rfl ?_
    rw [show Int32.ofInt 4 + Int32.ofInt 1 = Int32.ofInt 5 from by decide]
    refine y_goto rfl j_J6_stringSize_0f7a4_16 ?_
    refine y_iload_n rfl rfl ?_
    refine y_bip rfl (by decide) ?_
    refine y_icmp_geF rfl (by decide) ?_
    refine y_iload_n rfl rfl ?_
    refine y_iload_n rfl rfl ?_
    refine y_icmp_le rfl j_J6_stringSize_0f7a4_31 (fun g_5 => ?_) (fun g_5 => ?_)
    rotate_left
    · rw [show (Int32.ofInt (-100000)).toInt = -100000 from by decide] at g_5
      refine y_iload_n rfl rfl ?_
      refine y_iload_n rfl rfl ?_
      refine y_iadd rfl ?_
      refine y_ireturn rfl rfl rfl ?_
      exact hQ _ 5 (by decide) (by decide) (by rw [show yP 5 = 100000 from rfl]; split <;> omega) (by rw [show (Int32.ofInt 5 + Int32.ofInt 0).toInt = 5 from by decide]; split <;> omega)
    refine y_bip rfl (by decide) ?_
    refine y_iload_n rfl rfl ?_
    refine y_imul rfl ?_
    rw [show Int32.ofInt 10 * Int32.ofInt (-100000) = Int32.ofInt (-1000000) from by decide]
    refine y_istore_n (ls' := [some _, some _, some _, some _]) rfl rfl rfl ?_
    refine y_iinc (ls' := [some _, some _, some _, some _]) rfl rfl rfl rfl ?_
    rw [show Int32.ofInt 5 + Int32.ofInt 1 = Int32.ofInt 6 from by decide]
    refine y_goto rfl j_J6_stringSize_0f7a4_16 ?_
    refine y_iload_n rfl rfl ?_
    refine y_bip rfl (by decide) ?_
    refine y_icmp_geF rfl (by decide) ?_
    refine y_iload_n rfl rfl ?_
    refine y_iload_n rfl rfl ?_
    refine y_icmp_le rfl j_J6_stringSize_0f7a4_31 (fun g_6 => ?_) (fun g_6 => ?_)
    rotate_left
    · rw [show (Int32.ofInt (-1000000)).toInt = -1000000 from by decide] at g_6
      refine y_iload_n rfl rfl ?_
      refine y_iload_n rfl rfl ?_
      refine y_iadd rfl ?_
      refine y_ireturn rfl rfl rfl ?_
      exact hQ _ 6 (by decide) (by decide) (by rw [show yP 6 = 1000000 from rfl]; split <;> omega) (by rw [show (Int32.ofInt 6 + Int32.ofInt 0).toInt = 6 from by decide]; split <;> omega)
    refine y_bip rfl (by decide) ?_
    refine y_iload_n rfl rfl ?_
    refine y_imul rfl ?_
    rw [show Int32.ofInt 10 * Int32.ofInt (-1000000) = Int32.ofInt (-10000000) from by decide]
    refine y_istore_n (ls' := [some _, some _, some _, some _]) rfl rfl rfl ?_
    refine y_iinc (ls' := [some _, some _, some _, some _]) rfl rfl rfl rfl ?_
    rw [show Int32.ofInt 6 + Int32.ofInt 1 = Int32.ofInt 7 from by decide]
    refine y_goto rfl j_J6_stringSize_0f7a4_16 ?_
    refine y_iload_n rfl rfl ?_
    refine y_bip rfl (by decide) ?_
    refine y_icmp_geF rfl (by decide) ?_
    refine y_iload_n rfl rfl ?_
    refine y_iload_n rfl rfl ?_
    refine y_icmp_le rfl j_J6_stringSize_0f7a4_31 (fun g_7 => ?_) (fun g_7 => ?_)
    rotate_left
    · rw [show (Int32.ofInt (-10000000)).toInt = -10000000 from by decide] at g_7
      refine y_iload_n rfl rfl ?_
      refine y_iload_n rfl rfl ?_
      refine y_iadd rfl ?_
      refine y_ireturn rfl rfl rfl ?_
      exact hQ _ 7 (by decide) (by decide) (by rw [show yP 7 = 10000000 from rfl]; split <;> omega) (by rw [show (Int32.ofInt 7 + Int32.ofInt 0).toInt = 7 from by decide]; split <;> omega)
    refine y_bip rfl (by decide) ?_
    refine y_iload_n rfl rfl ?_
    refine y_imul rfl ?_
    rw [show Int32.ofInt 10 * Int32.ofInt (-10000000) = Int32.ofInt (-100000000) from by decide]
    refine y_istore_n (ls' := [some _, some _, some _, some _]) rfl rfl rfl ?_
    refine y_iinc (ls' := [some _, some _, some _, some _]) rfl rfl rfl rfl ?_
    rw [show Int32.ofInt 7 + Int32.ofInt 1 = Int32.ofInt 8 from by decide]
    refine y_goto rfl j_J6_stringSize_0f7a4_16 ?_
    refine y_iload_n rfl rfl ?_
    refine y_bip rfl (by decide) ?_
    refine y_icmp_geF rfl (by decide) ?_
    refine y_iload_n rfl rfl ?_
    refine y_iload_n rfl rfl ?_
    refine y_icmp_le rfl j_J6_stringSize_0f7a4_31 (fun g_8 => ?_) (fun g_8 => ?_)
    rotate_left
    · rw [show (Int32.ofInt (-100000000)).toInt = -100000000 from by decide] at g_8
      refine y_iload_n rfl rfl ?_
      refine y_iload_n rfl rfl ?_
      refine y_iadd rfl ?_
      refine y_ireturn rfl rfl rfl ?_
      exact hQ _ 8 (by decide) (by decide) (by rw [show yP 8 = 100000000 from rfl]; split <;> omega) (by rw [show (Int32.ofInt 8 + Int32.ofInt 0).toInt = 8 from by decide]; split <;> omega)
    refine y_bip rfl (by decide) ?_
    refine y_iload_n rfl rfl ?_
    refine y_imul rfl ?_
    rw [show Int32.ofInt 10 * Int32.ofInt (-100000000) = Int32.ofInt (-1000000000) from by decide]
    refine y_istore_n (ls' := [some _, some _, some _, some _]) rfl rfl rfl ?_
    refine y_iinc (ls' := [some _, some _, some _, some _]) rfl rfl rfl rfl ?_
    rw [show Int32.ofInt 8 + Int32.ofInt 1 = Int32.ofInt 9 from by decide]
    refine y_goto rfl j_J6_stringSize_0f7a4_16 ?_
    refine y_iload_n rfl rfl ?_
    refine y_bip rfl (by decide) ?_
    refine y_icmp_geF rfl (by decide) ?_
    refine y_iload_n rfl rfl ?_
    refine y_iload_n rfl rfl ?_
    refine y_icmp_le rfl j_J6_stringSize_0f7a4_31 (fun g_9 => ?_) (fun g_9 => ?_)
    rotate_left
    · rw [show (Int32.ofInt (-1000000000)).toInt = -1000000000 from by decide] at g_9
      refine y_iload_n rfl rfl ?_
      refine y_iload_n rfl rfl ?_
      refine y_iadd rfl ?_
      refine y_ireturn rfl rfl rfl ?_
      exact hQ _ 9 (by decide) (by decide) (by rw [show yP 9 = 1000000000 from rfl]; split <;> omega) (by rw [show (Int32.ofInt 9 + Int32.ofInt 0).toInt = 9 from by decide]; split <;> omega)
    refine y_bip rfl (by decide) ?_
    refine y_iload_n rfl rfl ?_
    refine y_imul rfl ?_
    rw [show Int32.ofInt 10 * Int32.ofInt (-1000000000) = Int32.ofInt (-1410065408) from by decide]
    refine y_istore_n (ls' := [some _, some _, some _, some _]) rfl rfl rfl ?_
    refine y_iinc (ls' := [some _, some _, some _, some _]) rfl rfl rfl rfl ?_
    rw [show Int32.ofInt 9 + Int32.ofInt 1 = Int32.ofInt 10 from by decide]
    refine y_goto rfl j_J6_stringSize_0f7a4_16 ?_
    refine y_iload_n rfl rfl ?_
    refine y_bip rfl (by decide) ?_
    refine y_icmp_geT rfl j_J6_stringSize_0f7a4_42 (by decide) ?_
    refine y_bip rfl (by decide) ?_
    refine y_iload_n rfl rfl ?_
    refine y_iadd rfl ?_
    refine y_ireturn rfl rfl rfl ?_
    exact hQ _ 10 (by decide) (by decide) (by rw [show yP 10 = 10000000000 from rfl]; split <;> omega) (by rw [show (Int32.ofInt 10 + Int32.ofInt 0).toInt = 10 from by decide]; split <;> omega)
end YTZ
