/-! THE LAW'S WRAPPERS (by g43b.py) -/
section YUG
variable {K n ln : Nat} {tg : Nat → yT} {I : Nat → Nat → Int32} {R : Nat → Nat → Value} {c s : Nat} {Q : yQ}
theorem w_ofPerson (hV : yInv K n tg I R ln) {x1 x2 : Int32} (hQ : ∀ (v : Int32) n1 tg1 I1 R1 c1 s1, yInv K n1 tg1 I1 R1 ln → c1 ≤ c + 15 → s1 ≤ s + 1900 → Q (.inl (some (.int v))) (n1, tg1, I1, R1) c1 s1) : yC 22 [.ref 34, .int x1, .int x2, .ref 93] (n, tg, I, R) c s Q := by
  have hS := hV.1
  refine y_in (M := xm_L_ofPerson) (ls := [some _, some _, some _, some _, none]) rfl rfl rfl ?_
  refine y_aload_n rfl rfl ?_
  refine y_aload_n rfl rfl ?_
  refine y_iload_n rfl rfl ?_
  refine y_iload_n rfl rfl ?_
  refine y_virt rfl rfl rfl rfl rfl (ySh.t hS rfl) (ySh.n hS rfl) ?_
  refine m_ofPerson hV.1 hV.2.1 (fun _ => ?_) (fun _ => ?_) (fun v_ => ?_)
  · refine y_thr rfl j_L_ofPerson_14 ?_
    refine y_astoreR (ls' := [some _, some _, some _, some _, some _]) rfl rfl rfl ?_
    refine y_iconst rfl ?_
    refine y_ireturn rfl rfl rfl ?_
    exact hQ _ _ _ _ _ _ _ hV (by omega) (by omega)
  · refine y_thr rfl j_L_ofPerson_18 ?_
    refine y_astoreR (ls' := [some _, some _, some _, some _, some _]) rfl rfl rfl ?_
    refine y_iconst rfl ?_
    refine y_ireturn rfl rfl rfl ?_
    exact hQ _ _ _ _ _ _ _ hV (by omega) (by omega)
  · refine y_ret1 ?_
    refine y_i2l rfl ?_
    refine y_putR rfl (ySh.t hS rfl) (ySh.n hS rfl) rfl (Nat.le_of_ble_eq_true rfl) rfl rfl ?_
    refine y_goto rfl j_L_ofPerson_22 ?_
    refine y_iconst rfl ?_
    refine y_ireturn rfl rfl rfl ?_
    exact hQ _ _ _ _ _ _ _ hV.out (by omega) (by omega)
theorem w_ofThing (hV : yInv K n tg I R ln) {x1 x2 : Int32} (hQ : ∀ (v : Int32) n1 tg1 I1 R1 c1 s1, yInv K n1 tg1 I1 R1 ln → c1 ≤ c + 15 → s1 ≤ s + 1900 → Q (.inl (some (.int v))) (n1, tg1, I1, R1) c1 s1) : yC 23 [.ref 34, .int x1, .int x2, .ref 93] (n, tg, I, R) c s Q := by
  have hS := hV.1
  refine y_in (M := xm_L_ofThing) (ls := [some _, some _, some _, some _, none]) rfl rfl rfl ?_
  refine y_aload_n rfl rfl ?_
  refine y_aload_n rfl rfl ?_
  refine y_iload_n rfl rfl ?_
  refine y_iload_n rfl rfl ?_
  refine y_virt rfl rfl rfl rfl rfl (ySh.t hS rfl) (ySh.n hS rfl) ?_
  refine m_ofThing hV.1 hV.2.1 (fun _ => ?_) (fun _ => ?_) (fun v_ => ?_)
  · refine y_thr rfl j_L_ofThing_14 ?_
    refine y_astoreR (ls' := [some _, some _, some _, some _, some _]) rfl rfl rfl ?_
    refine y_iconst rfl ?_
    refine y_ireturn rfl rfl rfl ?_
    exact hQ _ _ _ _ _ _ _ hV (by omega) (by omega)
  · refine y_thr rfl j_L_ofThing_18 ?_
    refine y_astoreR (ls' := [some _, some _, some _, some _, some _]) rfl rfl rfl ?_
    refine y_iconst rfl ?_
    refine y_ireturn rfl rfl rfl ?_
    exact hQ _ _ _ _ _ _ _ hV (by omega) (by omega)
  · refine y_ret1 ?_
    refine y_i2l rfl ?_
    refine y_putR rfl (ySh.t hS rfl) (ySh.n hS rfl) rfl (Nat.le_of_ble_eq_true rfl) rfl rfl ?_
    refine y_goto rfl j_L_ofThing_22 ?_
    refine y_iconst rfl ?_
    refine y_ireturn rfl rfl rfl ?_
    exact hQ _ _ _ _ _ _ _ hV.out (by omega) (by omega)
theorem w_ofSale (hV : yInv K n tg I R ln) {x1 x2 : Int32} (hQ : ∀ (v : Int32) n1 tg1 I1 R1 c1 s1, yInv K n1 tg1 I1 R1 ln → c1 ≤ c + 15 → s1 ≤ s + 1900 → Q (.inl (some (.int v))) (n1, tg1, I1, R1) c1 s1) : yC 24 [.ref 34, .int x1, .int x2, .ref 93] (n, tg, I, R) c s Q := by
  have hS := hV.1
  refine y_in (M := xm_L_ofSale) (ls := [some _, some _, some _, some _, none]) rfl rfl rfl ?_
  refine y_aload_n rfl rfl ?_
  refine y_aload_n rfl rfl ?_
  refine y_iload_n rfl rfl ?_
  refine y_iload_n rfl rfl ?_
  refine y_virt rfl rfl rfl rfl rfl (ySh.t hS rfl) (ySh.n hS rfl) ?_
  refine m_ofSale hV.1 hV.2.1 (fun _ => ?_) (fun _ => ?_) (fun v_ => ?_)
  · refine y_thr rfl j_L_ofSale_14 ?_
    refine y_astoreR (ls' := [some _, some _, some _, some _, some _]) rfl rfl rfl ?_
    refine y_iconst rfl ?_
    refine y_ireturn rfl rfl rfl ?_
    exact hQ _ _ _ _ _ _ _ hV (by omega) (by omega)
  · refine y_thr rfl j_L_ofSale_18 ?_
    refine y_astoreR (ls' := [some _, some _, some _, some _, some _]) rfl rfl rfl ?_
    refine y_iconst rfl ?_
    refine y_ireturn rfl rfl rfl ?_
    exact hQ _ _ _ _ _ _ _ hV (by omega) (by omega)
  · refine y_ret1 ?_
    refine y_i2l rfl ?_
    refine y_putR rfl (ySh.t hS rfl) (ySh.n hS rfl) rfl (Nat.le_of_ble_eq_true rfl) rfl rfl ?_
    refine y_goto rfl j_L_ofSale_22 ?_
    refine y_iconst rfl ?_
    refine y_ireturn rfl rfl rfl ?_
    exact hQ _ _ _ _ _ _ _ hV.out (by omega) (by omega)
theorem w_ofLease (hV : yInv K n tg I R ln) {x1 x2 : Int32} (hQ : ∀ (v : Int32) n1 tg1 I1 R1 c1 s1, yInv K n1 tg1 I1 R1 ln → c1 ≤ c + 15 → s1 ≤ s + 1900 → Q (.inl (some (.int v))) (n1, tg1, I1, R1) c1 s1) : yC 25 [.ref 34, .int x1, .int x2, .ref 93] (n, tg, I, R) c s Q := by
  have hS := hV.1
  refine y_in (M := xm_L_ofLease) (ls := [some _, some _, some _, some _, none]) rfl rfl rfl ?_
  refine y_aload_n rfl rfl ?_
  refine y_aload_n rfl rfl ?_
  refine y_iload_n rfl rfl ?_
  refine y_iload_n rfl rfl ?_
  refine y_virt rfl rfl rfl rfl rfl (ySh.t hS rfl) (ySh.n hS rfl) ?_
  refine m_ofLease hV.1 hV.2.1 (fun _ => ?_) (fun _ => ?_) (fun v_ => ?_)
  · refine y_thr rfl j_L_ofLease_14 ?_
    refine y_astoreR (ls' := [some _, some _, some _, some _, some _]) rfl rfl rfl ?_
    refine y_iconst rfl ?_
    refine y_ireturn rfl rfl rfl ?_
    exact hQ _ _ _ _ _ _ _ hV (by omega) (by omega)
  · refine y_thr rfl j_L_ofLease_18 ?_
    refine y_astoreR (ls' := [some _, some _, some _, some _, some _]) rfl rfl rfl ?_
    refine y_iconst rfl ?_
    refine y_ireturn rfl rfl rfl ?_
    exact hQ _ _ _ _ _ _ _ hV (by omega) (by omega)
  · refine y_ret1 ?_
    refine y_i2l rfl ?_
    refine y_putR rfl (ySh.t hS rfl) (ySh.n hS rfl) rfl (Nat.le_of_ble_eq_true rfl) rfl rfl ?_
    refine y_goto rfl j_L_ofLease_22 ?_
    refine y_iconst rfl ?_
    refine y_ireturn rfl rfl rfl ?_
    exact hQ _ _ _ _ _ _ _ hV.out (by omega) (by omega)
theorem w_ofVenture (hV : yInv K n tg I R ln) {x1 x2 x3 : Int32} (hQ : ∀ (v : Int32) n1 tg1 I1 R1 c1 s1, yInv K n1 tg1 I1 R1 ln → c1 ≤ c + 15 → s1 ≤ s + 1900 → Q (.inl (some (.int v))) (n1, tg1, I1, R1) c1 s1) : yC 26 [.ref 34, .int x1, .int x2, .int x3, .ref 93] (n, tg, I, R) c s Q := by
  have hS := hV.1
  refine y_in (M := xm_L_ofVenture) (ls := [some _, some _, some _, some _, some _, none]) rfl rfl rfl ?_
  refine y_aload rfl rfl ?_
  refine y_aload_n rfl rfl ?_
  refine y_iload_n rfl rfl ?_
  refine y_iload_n rfl rfl ?_
  refine y_iload_n rfl rfl ?_
  refine y_virt rfl rfl rfl rfl rfl (ySh.t hS rfl) (ySh.n hS rfl) ?_
  refine m_ofVenture hV.1 hV.2.1 (fun _ => ?_) (fun _ => ?_) (fun v_ => ?_)
  · refine y_thr rfl j_L_ofVenture_16 ?_
    refine y_astoreR (ls' := [some _, some _, some _, some _, some _, some _]) rfl rfl rfl ?_
    refine y_iconst rfl ?_
    refine y_ireturn rfl rfl rfl ?_
    exact hQ _ _ _ _ _ _ _ hV (by omega) (by omega)
  · refine y_thr rfl j_L_ofVenture_20 ?_
    refine y_astoreR (ls' := [some _, some _, some _, some _, some _, some _]) rfl rfl rfl ?_
    refine y_iconst rfl ?_
    refine y_ireturn rfl rfl rfl ?_
    exact hQ _ _ _ _ _ _ _ hV (by omega) (by omega)
  · refine y_ret1 ?_
    refine y_i2l rfl ?_
    refine y_putR rfl (ySh.t hS rfl) (ySh.n hS rfl) rfl (Nat.le_of_ble_eq_true rfl) rfl rfl ?_
    refine y_goto rfl j_L_ofVenture_24 ?_
    refine y_iconst rfl ?_
    refine y_ireturn rfl rfl rfl ?_
    exact hQ _ _ _ _ _ _ _ hV.out (by omega) (by omega)
theorem w_ofFirm (hV : yInv K n tg I R ln) {x1 x2 : Int32} (hQ : ∀ (v : Int32) n1 tg1 I1 R1 c1 s1, yInv K n1 tg1 I1 R1 ln → c1 ≤ c + 15 → s1 ≤ s + 1900 → Q (.inl (some (.int v))) (n1, tg1, I1, R1) c1 s1) : yC 27 [.ref 34, .int x1, .int x2, .ref 93] (n, tg, I, R) c s Q := by
  have hS := hV.1
  refine y_in (M := xm_L_ofFirm) (ls := [some _, some _, some _, some _, none]) rfl rfl rfl ?_
  refine y_aload_n rfl rfl ?_
  refine y_aload_n rfl rfl ?_
  refine y_iload_n rfl rfl ?_
  refine y_iload_n rfl rfl ?_
  refine y_virt rfl rfl rfl rfl rfl (ySh.t hS rfl) (ySh.n hS rfl) ?_
  refine m_ofFirm hV.1 hV.2.1 (fun _ => ?_) (fun _ => ?_) (fun v_ => ?_)
  · refine y_thr rfl j_L_ofFirm_14 ?_
    refine y_astoreR (ls' := [some _, some _, some _, some _, some _]) rfl rfl rfl ?_
    refine y_iconst rfl ?_
    refine y_ireturn rfl rfl rfl ?_
    exact hQ _ _ _ _ _ _ _ hV (by omega) (by omega)
  · refine y_thr rfl j_L_ofFirm_18 ?_
    refine y_astoreR (ls' := [some _, some _, some _, some _, some _]) rfl rfl rfl ?_
    refine y_iconst rfl ?_
    refine y_ireturn rfl rfl rfl ?_
    exact hQ _ _ _ _ _ _ _ hV (by omega) (by omega)
  · refine y_ret1 ?_
    refine y_i2l rfl ?_
    refine y_putR rfl (ySh.t hS rfl) (ySh.n hS rfl) rfl (Nat.le_of_ble_eq_true rfl) rfl rfl ?_
    refine y_goto rfl j_L_ofFirm_22 ?_
    refine y_iconst rfl ?_
    refine y_ireturn rfl rfl rfl ?_
    exact hQ _ _ _ _ _ _ _ hV.out (by omega) (by omega)
theorem w_allowed (hV : yInv K n tg I R ln) {x1 x2 : Int32} (hQ : ∀ (v : Int32) n1 tg1 I1 R1 c1 s1, yInv K n1 tg1 I1 R1 ln → c1 ≤ c + 15 → s1 ≤ s + 1900 → Q (.inl (some (.int v))) (n1, tg1, I1, R1) c1 s1) : yC 28 [.ref 34, .int x1, .int x2, .ref 93] (n, tg, I, R) c s Q := by
  have hS := hV.1
  refine y_in (M := xm_L_allowed) (ls := [some _, some _, some _, some _, none]) rfl rfl rfl ?_
  refine y_aload_n rfl rfl ?_
  refine y_aload_n rfl rfl ?_
  refine y_iload_n rfl rfl ?_
  refine y_iload_n rfl rfl ?_
  refine y_virt rfl rfl rfl rfl rfl (ySh.t hS rfl) (ySh.n hS rfl) ?_
  refine m_allowed hV.1 hV.2.1 ?_ ?_ ?_ ?_
  · refine y_thr rfl j_L_allowed_21 ?_
    refine y_astoreR (ls' := [some _, some _, some _, some _, some _]) rfl rfl rfl ?_
    refine y_iconst rfl ?_
    refine y_ireturn rfl rfl rfl ?_
    exact hQ _ _ _ _ _ _ _ hV (by omega) (by omega)
  · refine y_thr rfl j_L_allowed_25 ?_
    refine y_astoreR (ls' := [some _, some _, some _, some _, some _]) rfl rfl rfl ?_
    refine y_iconst rfl ?_
    refine y_ireturn rfl rfl rfl ?_
    exact hQ _ _ _ _ _ _ _ hV (by omega) (by omega)
  · refine y_ret1 ?_
    refine y_if_eqF rfl (by decide) ?_
    refine y_lconst rfl ?_
    refine y_goto rfl j_L_allowed_15 ?_
    refine y_putR rfl (ySh.t hS rfl) (ySh.n hS rfl) rfl (Nat.le_of_ble_eq_true rfl) rfl rfl ?_
    refine y_goto rfl j_L_allowed_29 ?_
    refine y_iconst rfl ?_
    refine y_ireturn rfl rfl rfl ?_
    exact hQ _ _ _ _ _ _ _ hV.out (by omega) (by omega)
  · refine y_ret1 ?_
    refine y_if_eqT rfl j_L_allowed_14 (by decide) ?_
    refine y_lconst rfl ?_
    refine y_putR rfl (ySh.t hS rfl) (ySh.n hS rfl) rfl (Nat.le_of_ble_eq_true rfl) rfl rfl ?_
    refine y_goto rfl j_L_allowed_29 ?_
    refine y_iconst rfl ?_
    refine y_ireturn rfl rfl rfl ?_
    exact hQ _ _ _ _ _ _ _ hV.out (by omega) (by omega)
theorem w_house (hV : yInv K n tg I R ln) {x1 : Int32} (hQ : ∀ (v : Int32) n1 tg1 I1 R1 c1 s1, yInv K n1 tg1 I1 R1 ln → c1 ≤ c + 15 → s1 ≤ s + 1900 → Q (.inl (some (.int v))) (n1, tg1, I1, R1) c1 s1) : yC 29 [.ref 34, .int x1, .ref 93] (n, tg, I, R) c s Q := by
  have hS := hV.1
  refine y_in (M := xm_L_house) (ls := [some _, some _, some _, none]) rfl rfl rfl ?_
  refine y_aload_n rfl rfl ?_
  refine y_aload_n rfl rfl ?_
  refine y_iload_n rfl rfl ?_
  refine y_virt rfl rfl rfl rfl rfl (ySh.t hS rfl) (ySh.n hS rfl) ?_
  refine m_house hV.1 hV.2.1 (fun _ => ?_) (fun v_ => ?_)
  · refine y_thr rfl j_L_house_13 ?_
    refine y_astore_nR (ls' := [some _, some _, some _, some _]) rfl rfl rfl ?_
    refine y_iconst rfl ?_
    refine y_ireturn rfl rfl rfl ?_
    exact hQ _ _ _ _ _ _ _ hV (by omega) (by omega)
  · refine y_ret1 ?_
    refine y_i2l rfl ?_
    refine y_putR rfl (ySh.t hS rfl) (ySh.n hS rfl) rfl (Nat.le_of_ble_eq_true rfl) rfl rfl ?_
    refine y_goto rfl j_L_house_16 ?_
    refine y_iconst rfl ?_
    refine y_ireturn rfl rfl rfl ?_
    exact hQ _ _ _ _ _ _ _ hV.out (by omega) (by omega)
theorem w_tell (hV : yInv K n tg I R ln) {x1 : Int32} (hQ : ∀ (v : Int32) n1 tg1 I1 R1 c1 s1, yInv K n1 tg1 I1 R1 ln → c1 ≤ c + 15 → s1 ≤ s + 1900 → Q (.inl (some (.int v))) (n1, tg1, I1, R1) c1 s1) : yC 30 [.ref 34, .int x1, .ref 93] (n, tg, I, R) c s Q := by
  have hS := hV.1
  refine y_in (M := xm_L_tell) (ls := [some _, some _, some _, none]) rfl rfl rfl ?_
  refine y_aload_n rfl rfl ?_
  refine y_aload_n rfl rfl ?_
  refine y_iload_n rfl rfl ?_
  refine y_virt rfl rfl rfl rfl rfl (ySh.t hS rfl) (ySh.n hS rfl) ?_
  refine m_tell hV.1 hV.2.1 hV.2.2.2.2.1 ?_ (fun v_ n_ tg_ I_ R_ c_ s_ hX hv_ hc_ hs_ => ?_)
  · refine y_thr rfl j_L_tell_12 ?_
    refine y_astore_nR (ls' := [some _, some _, some _, some _]) rfl rfl rfl ?_
    refine y_iconst rfl ?_
    refine y_ireturn rfl rfl rfl ?_
    exact hQ _ _ _ _ _ _ _ hV (by omega) (by omega)
  · have hS := (hV.x hX).1
    refine y_ret1 ?_
    refine y_putR rfl (ySh.t hS rfl) (ySh.n hS rfl) rfl (Nat.le_of_ble_eq_true rfl) rfl rfl ?_
    refine y_goto rfl j_L_tell_15 ?_
    refine y_iconst rfl ?_
    refine y_ireturn rfl rfl rfl ?_
    exact hQ _ _ _ _ _ _ _ (hV.x hX).out (by omega) (by omega)
theorem w_pillars (hV : yInv K n tg I R ln) {x1 x2 : Int32} (hQ : ∀ (v : Int32) n1 tg1 I1 R1 c1 s1, yInv K n1 tg1 I1 R1 ln → c1 ≤ c + 15 → s1 ≤ s + 1900 → Q (.inl (some (.int v))) (n1, tg1, I1, R1) c1 s1) : yC 31 [.ref 34, .int x1, .int x2, .ref 93] (n, tg, I, R) c s Q := by
  have hS := hV.1
  refine y_in (M := xm_L_pillars) (ls := [some _, some _, some _, some _, none]) rfl rfl rfl ?_
  refine y_aload_n rfl rfl ?_
  refine y_aload_n rfl rfl ?_
  refine y_iload_n rfl rfl ?_
  refine y_iload_n rfl rfl ?_
  refine y_virt rfl rfl rfl rfl rfl (ySh.t hS rfl) (ySh.n hS rfl) ?_
  refine m_pillars hV.1 hV.2.1 ?_ (fun v_ => ?_)
  · refine y_thr rfl j_L_pillars_14 ?_
    refine y_astoreR (ls' := [some _, some _, some _, some _, some _]) rfl rfl rfl ?_
    refine y_iconst rfl ?_
    refine y_ireturn rfl rfl rfl ?_
    exact hQ _ _ _ _ _ _ _ hV (by omega) (by omega)
  · refine y_ret1 ?_
    refine y_i2l rfl ?_
    refine y_putR rfl (ySh.t hS rfl) (ySh.n hS rfl) rfl (Nat.le_of_ble_eq_true rfl) rfl rfl ?_
    refine y_goto rfl j_L_pillars_18 ?_
    refine y_iconst rfl ?_
    refine y_ireturn rfl rfl rfl ?_
    exact hQ _ _ _ _ _ _ _ hV.out (by omega) (by omega)
theorem w_best (hV : yInv K n tg I R ln) {x1 x2 : Int32} (hQ : ∀ (v : Int32) n1 tg1 I1 R1 c1 s1, yInv K n1 tg1 I1 R1 ln → c1 ≤ c + 15 → s1 ≤ s + 1900 → Q (.inl (some (.int v))) (n1, tg1, I1, R1) c1 s1) : yC 32 [.ref 34, .int x1, .int x2, .ref 93] (n, tg, I, R) c s Q := by
  have hS := hV.1
  refine y_in (M := xm_L_best) (ls := [some _, some _, some _, some _, none]) rfl rfl rfl ?_
  refine y_aload_n rfl rfl ?_
  refine y_aload_n rfl rfl ?_
  refine y_iload_n rfl rfl ?_
  refine y_iload_n rfl rfl ?_
  refine y_virt rfl rfl rfl rfl rfl (ySh.t hS rfl) (ySh.n hS rfl) ?_
  refine m_best hV.1 hV.2.1 (fun _ => ?_) (fun v_ => ?_)
  · refine y_thr rfl j_L_best_14 ?_
    refine y_astoreR (ls' := [some _, some _, some _, some _, some _]) rfl rfl rfl ?_
    refine y_iconst rfl ?_
    refine y_ireturn rfl rfl rfl ?_
    exact hQ _ _ _ _ _ _ _ hV (by omega) (by omega)
  · refine y_ret1 ?_
    refine y_i2l rfl ?_
    refine y_putR rfl (ySh.t hS rfl) (ySh.n hS rfl) rfl (Nat.le_of_ble_eq_true rfl) rfl rfl ?_
    refine y_goto rfl j_L_best_18 ?_
    refine y_iconst rfl ?_
    refine y_ireturn rfl rfl rfl ?_
    exact hQ _ _ _ _ _ _ _ hV.out (by omega) (by omega)
theorem w_wouldShare (hV : yInv K n tg I R ln) {x1 x2 : Int32} (hQ : ∀ (v : Int32) n1 tg1 I1 R1 c1 s1, yInv K n1 tg1 I1 R1 ln → c1 ≤ c + 15 → s1 ≤ s + 1900 → Q (.inl (some (.int v))) (n1, tg1, I1, R1) c1 s1) : yC 33 [.ref 34, .int x1, .int x2, .ref 93] (n, tg, I, R) c s Q := by
  have hS := hV.1
  refine y_in (M := xm_L_wouldShare) (ls := [some _, some _, some _, some _, none]) rfl rfl rfl ?_
  refine y_aload_n rfl rfl ?_
  refine y_aload_n rfl rfl ?_
  refine y_iload_n rfl rfl ?_
  refine y_iload_n rfl rfl ?_
  refine y_virt rfl rfl rfl rfl rfl (ySh.t hS rfl) (ySh.n hS rfl) ?_
  refine m_wouldShare hV.1 hV.2.1 ?_ ?_ (fun v_ => ?_)
  · refine y_thr rfl j_L_wouldShare_14 ?_
    refine y_astoreR (ls' := [some _, some _, some _, some _, some _]) rfl rfl rfl ?_
    refine y_iconst rfl ?_
    refine y_ireturn rfl rfl rfl ?_
    exact hQ _ _ _ _ _ _ _ hV (by omega) (by omega)
  · refine y_thr rfl j_L_wouldShare_18 ?_
    refine y_astoreR (ls' := [some _, some _, some _, some _, some _]) rfl rfl rfl ?_
    refine y_iconst rfl ?_
    refine y_ireturn rfl rfl rfl ?_
    exact hQ _ _ _ _ _ _ _ hV (by omega) (by omega)
  · refine y_ret1 ?_
    refine y_i2l rfl ?_
    refine y_putR rfl (ySh.t hS rfl) (ySh.n hS rfl) rfl (Nat.le_of_ble_eq_true rfl) rfl rfl ?_
    refine y_goto rfl j_L_wouldShare_22 ?_
    refine y_iconst rfl ?_
    refine y_ireturn rfl rfl rfl ?_
    exact hQ _ _ _ _ _ _ _ hV.out (by omega) (by omega)
theorem v_person (hS : ySh n tg R) (hC : yCI I) {x1 : Int32} (hE1 : ¬ (0 ≤ x1.toInt ∧ x1.toInt ≤ 9999) → Q (.inl (some (.int (Int32.ofInt 1)))) (n, tg, I, R) (c + 1) (s + 6)) (hE2 : (0 ≤ x1.toInt ∧ x1.toInt ≤ 9999) ∧ (I 38 0).toInt = 8 → Q (.inl (some (.int (Int32.ofInt 2)))) (n, tg, I, R) (c + 1) (s + 6)) (hQ : (0 ≤ x1.toInt ∧ x1.toInt ≤ 9999) ∧ (I 38 0).toInt < 8 → ∀ (v : Int32) (I1 : Nat → Nat → Int32), yCI I1 → yFt I I1 → v = I 38 0 → yGc yTL I1 I → I1 = (upd2 (upd2 I 39 (I 38 0).toInt.toNat x1) 38 0 (I 38 0 + Int32.ofInt 1)) → yKeep [(12, 9, 34), (12, 8, 34), (10, 0, 40), (11, 0, 69), (5, 0, 77), (9, 0, 48), (6, 0, 59)] I I1 → ∀ R1 : Nat → Nat → Value, R1 = upd2 R 93 0 (.long v.toInt64) → Q (.inl (some (.int (Int32.ofInt 0)))) (n, tg, I1, R1) c s) : yC 2 [.ref 34, .int x1, .ref 93] (n, tg, I, R) c s Q := by
  refine y_in (M := xm_L_person) (ls := [some _, some _, some _, none]) rfl rfl rfl ?_
  refine y_aload_n rfl rfl ?_
  refine y_aload_n rfl rfl ?_
  refine y_iload_n rfl rfl ?_
  refine y_virt rfl rfl rfl rfl rfl (ySh.t hS rfl) (ySh.n hS rfl) ?_
  refine yC.keep [(12, 9, 34), (12, 8, 34), (10, 0, 40), (11, 0, 69), (5, 0, 77), (9, 0, 48), (6, 0, 59)] rfl rfl hS ?_
  refine g_person hS hC (fun h_ => ?_) (fun h_ => ?_) (fun h_ v_ I_ p_0 p_1 p_2 p_3 p_4 => ?_)
  · refine ⟨hS, fun _ _ => ?_⟩
    refine y_thr rfl j_L_person_13 ?_
    refine y_astore_nR (ls' := [some _, some _, some _, some _]) rfl rfl rfl ?_
    refine y_iconst rfl ?_
    refine y_ireturn rfl rfl rfl ?_
    exact hE1 h_
  · refine ⟨hS, fun _ _ => ?_⟩
    refine y_thr rfl j_L_person_16 ?_
    refine y_astore_nR (ls' := [some _, some _, some _, some _]) rfl rfl rfl ?_
    refine y_iconst rfl ?_
    refine y_ireturn rfl rfl rfl ?_
    exact hE2 h_
  · refine ⟨hS, fun hB_ _ => ?_⟩
    refine y_ret1 ?_
    refine y_i2l rfl ?_
    refine y_putR rfl (ySh.t hS rfl) (ySh.n hS rfl) rfl (Nat.le_of_ble_eq_true rfl) rfl rfl ?_
    refine y_goto rfl j_L_person_19 ?_
    refine y_iconst rfl ?_
    refine y_ireturn rfl rfl rfl ?_
    exact hQ h_ _ _ p_0 p_1 p_2 p_3 p_4 hB_ _ rfl
theorem v_venture (hS : ySh n tg R) (hC : yCI I) (hE2 : (I 69 0).toInt = 6 → Q (.inl (some (.int (Int32.ofInt 1)))) (n, tg, I, R) (c + 1) (s + 6)) (hQ : (I 69 0).toInt < 6 → ∀ (v : Int32) (I1 : Nat → Nat → Int32), yCI I1 → yFt I I1 → v = I 69 0 → yGc yTL I1 I → I1 = (upd2 I 69 0 (I 69 0 + Int32.ofInt 1)) → yKeep [(12, 9, 34), (12, 8, 34), (8, 0, 38), (10, 0, 40), (5, 0, 77), (9, 0, 48), (6, 0, 59)] I I1 → ∀ R1 : Nat → Nat → Value, R1 = upd2 R 93 0 (.long v.toInt64) → Q (.inl (some (.int (Int32.ofInt 0)))) (n, tg, I1, R1) c s) : yC 12 [.ref 34, .ref 93] (n, tg, I, R) c s Q := by
  refine y_in (M := xm_L_venture) (ls := [some _, some _, none]) rfl rfl rfl ?_
  refine y_aload_n rfl rfl ?_
  refine y_aload_n rfl rfl ?_
  refine y_virt rfl rfl rfl rfl rfl (ySh.t hS rfl) (ySh.n hS rfl) ?_
  refine yC.keep [(12, 9, 34), (12, 8, 34), (8, 0, 38), (10, 0, 40), (5, 0, 77), (9, 0, 48), (6, 0, 59)] rfl rfl hS ?_
  refine g_venture hS hC (fun h_ => ?_) (fun h_ v_ I_ p_0 p_1 p_2 p_3 p_4 => ?_)
  · refine ⟨hS, fun _ _ => ?_⟩
    refine y_thr rfl j_L_venture_12 ?_
    refine y_astore_nR (ls' := [some _, some _, some _]) rfl rfl rfl ?_
    refine y_iconst rfl ?_
    refine y_ireturn rfl rfl rfl ?_
    exact hE2 h_
  · refine ⟨hS, fun hB_ _ => ?_⟩
    refine y_ret1 ?_
    refine y_i2l rfl ?_
    refine y_putR rfl (ySh.t hS rfl) (ySh.n hS rfl) rfl (Nat.le_of_ble_eq_true rfl) rfl rfl ?_
    refine y_goto rfl j_L_venture_15 ?_
    refine y_iconst rfl ?_
    refine y_ireturn rfl rfl rfl ?_
    exact hQ h_ _ _ p_0 p_1 p_2 p_3 p_4 hB_ _ rfl
theorem v_firm (hS : ySh n tg R) (hC : yCI I) {x1 x2 x3 x4 x5 x6 : Int32} (hE1 : ¬ ((1 ≤ x1.toInt ∧ x1.toInt ≤ 999) ∧ (0 ≤ x2.toInt ∧ x2.toInt ≤ 999) ∧ (0 ≤ x3.toInt ∧ x3.toInt ≤ 999) ∧ (0 ≤ x4.toInt ∧ x4.toInt ≤ 999) ∧ (1 ≤ x5.toInt ∧ x5.toInt ≤ 99) ∧ (0 ≤ x6.toInt ∧ x6.toInt ≤ 99)) → Q (.inl (some (.int (Int32.ofInt 1)))) (n, tg, I, R) (c + 1) (s + 6)) (hE2 : ((1 ≤ x1.toInt ∧ x1.toInt ≤ 999) ∧ (0 ≤ x2.toInt ∧ x2.toInt ≤ 999) ∧ (0 ≤ x3.toInt ∧ x3.toInt ≤ 999) ∧ (0 ≤ x4.toInt ∧ x4.toInt ≤ 999) ∧ (1 ≤ x5.toInt ∧ x5.toInt ≤ 99) ∧ (0 ≤ x6.toInt ∧ x6.toInt ≤ 99)) ∧ (I 77 0).toInt = 10 → Q (.inl (some (.int (Int32.ofInt 2)))) (n, tg, I, R) (c + 1) (s + 6)) (hQa : ((1 ≤ x1.toInt ∧ x1.toInt ≤ 999) ∧ (0 ≤ x2.toInt ∧ x2.toInt ≤ 999) ∧ (0 ≤ x3.toInt ∧ x3.toInt ≤ 999) ∧ (0 ≤ x4.toInt ∧ x4.toInt ≤ 999) ∧ (1 ≤ x5.toInt ∧ x5.toInt ≤ 99) ∧ (0 ≤ x6.toInt ∧ x6.toInt ≤ 99)) ∧ (I 77 0).toInt < 10 ∧ ((Int32.ofInt 100 * x2).toInt < (Int32.ofInt 33 * x1).toInt ∧ (Int32.ofInt 100 * x3).toInt < (Int32.ofInt 70 * x1).toInt ∧ (Int32.ofInt 100 * x4).toInt ≤ (Int32.ofInt 5 * x1).toInt) → ∀ (v : Int32) (I1 : Nat → Nat → Int32), yCI I1 → yFt I I1 → v = I 77 0 → I1 = yFiD I x1 x4 x5 x6 (Int32.ofInt 1) → yKeep [(12, 9, 34), (12, 8, 34), (8, 0, 38), (10, 0, 40), (11, 0, 69), (9, 0, 48), (6, 0, 59)] I I1 → ∀ R1 : Nat → Nat → Value, R1 = upd2 R 93 0 (.long v.toInt64) → Q (.inl (some (.int (Int32.ofInt 0)))) (n, tg, I1, R1) c s) (hQb : ((1 ≤ x1.toInt ∧ x1.toInt ≤ 999) ∧ (0 ≤ x2.toInt ∧ x2.toInt ≤ 999) ∧ (0 ≤ x3.toInt ∧ x3.toInt ≤ 999) ∧ (0 ≤ x4.toInt ∧ x4.toInt ≤ 999) ∧ (1 ≤ x5.toInt ∧ x5.toInt ≤ 99) ∧ (0 ≤ x6.toInt ∧ x6.toInt ≤ 99)) ∧ (I 77 0).toInt < 10 ∧ ¬ ((Int32.ofInt 100 * x2).toInt < (Int32.ofInt 33 * x1).toInt ∧ (Int32.ofInt 100 * x3).toInt < (Int32.ofInt 70 * x1).toInt ∧ (Int32.ofInt 100 * x4).toInt ≤ (Int32.ofInt 5 * x1).toInt) → ∀ (v : Int32) (I1 : Nat → Nat → Int32), yCI I1 → yFt I I1 → v = I 77 0 → I1 = yFiD I x1 x4 x5 x6 (Int32.ofInt 0) → yKeep [(12, 9, 34), (12, 8, 34), (8, 0, 38), (10, 0, 40), (11, 0, 69), (9, 0, 48), (6, 0, 59)] I I1 → ∀ R1 : Nat → Nat → Value, R1 = upd2 R 93 0 (.long v.toInt64) → Q (.inl (some (.int (Int32.ofInt 0)))) (n, tg, I1, R1) c s) : yC 18 [.ref 34, .int x1, .int x2, .int x3, .int x4, .int x5, .int x6, .ref 93] (n, tg, I, R) c s Q := by
  refine y_in (M := xm_L_firm) (ls := [some _, some _, some _, some _, some _, some _, some _, some _, none]) rfl rfl rfl ?_
  refine y_aload rfl rfl ?_
  refine y_aload_n rfl rfl ?_
  refine y_iload_n rfl rfl ?_
  refine y_iload_n rfl rfl ?_
  refine y_iload_n rfl rfl ?_
  refine y_iload rfl rfl ?_
  refine y_iload rfl rfl ?_
  refine y_iload rfl rfl ?_
  refine y_virt rfl rfl rfl rfl rfl (ySh.t hS rfl) (ySh.n hS rfl) ?_
  refine yC.keep [(12, 9, 34), (12, 8, 34), (8, 0, 38), (10, 0, 40), (11, 0, 69), (9, 0, 48), (6, 0, 59)] rfl rfl hS ?_
  refine g_firm hS hC (fun h_ => ?_) (fun h_ => ?_) (fun h_ v_ I_ p_0 p_1 p_2 p_3 => ?_) (fun h_ v_ I_ p_0 p_1 p_2 p_3 => ?_)
  · refine ⟨hS, fun _ _ => ?_⟩
    refine y_thr rfl j_L_firm_22 ?_
    refine y_astoreR (ls' := [some _, some _, some _, some _, some _, some _, some _, some _, some _]) rfl rfl rfl ?_
    refine y_iconst rfl ?_
    refine y_ireturn rfl rfl rfl ?_
    exact hE1 h_
  · refine ⟨hS, fun _ _ => ?_⟩
    refine y_thr rfl j_L_firm_26 ?_
    refine y_astoreR (ls' := [some _, some _, some _, some _, some _, some _, some _, some _, some _]) rfl rfl rfl ?_
    refine y_iconst rfl ?_
    refine y_ireturn rfl rfl rfl ?_
    exact hE2 h_
  · refine ⟨hS, fun hB_ _ => ?_⟩
    refine y_ret1 ?_
    refine y_i2l rfl ?_
    refine y_putR rfl (ySh.t hS rfl) (ySh.n hS rfl) rfl (Nat.le_of_ble_eq_true rfl) rfl rfl ?_
    refine y_goto rfl j_L_firm_30 ?_
    refine y_iconst rfl ?_
    refine y_ireturn rfl rfl rfl ?_
    exact hQa h_ _ _ p_0 p_1 p_2 p_3 hB_ _ rfl
  · refine ⟨hS, fun hB_ _ => ?_⟩
    refine y_ret1 ?_
    refine y_i2l rfl ?_
    refine y_putR rfl (ySh.t hS rfl) (ySh.n hS rfl) rfl (Nat.le_of_ble_eq_true rfl) rfl rfl ?_
    refine y_goto rfl j_L_firm_30 ?_
    refine y_iconst rfl ?_
    refine y_ireturn rfl rfl rfl ?_
    exact hQb h_ _ _ p_0 p_1 p_2 p_3 hB_ _ rfl
theorem v_benchmark (hS : ySh n tg R) (hC : yCI I) {x1 : Int32} (hE1 : ¬ (0 ≤ x1.toInt ∧ x1.toInt ≤ 99) → Q (.inl (some (.int (Int32.ofInt 1)))) (n, tg, I, R) (c + 1) (s + 6)) (hQ : (0 ≤ x1.toInt ∧ x1.toInt ≤ 99) → ∀ (v : Int32) (I1 : Nat → Nat → Int32), yCI I1 → yFt I I1 → v = I 34 9 → yGc yTL I1 I → I1 = (upd2 I 34 9 x1) → yKeep [(12, 8, 34), (8, 0, 38), (10, 0, 40), (11, 0, 69), (5, 0, 77), (9, 0, 48), (6, 0, 59)] I I1 → ∀ R1 : Nat → Nat → Value, R1 = upd2 R 93 0 (.long v.toInt64) → Q (.inl (some (.int (Int32.ofInt 0)))) (n, tg, I1, R1) c s) : yC 9 [.ref 34, .int x1, .ref 93] (n, tg, I, R) c s Q := by
  refine y_in (M := xm_L_benchmark) (ls := [some _, some _, some _, none]) rfl rfl rfl ?_
  refine y_aload_n rfl rfl ?_
  refine y_aload_n rfl rfl ?_
  refine y_iload_n rfl rfl ?_
  refine y_virt rfl rfl rfl rfl rfl (ySh.t hS rfl) (ySh.n hS rfl) ?_
  refine yC.keep [(12, 8, 34), (8, 0, 38), (10, 0, 40), (11, 0, 69), (5, 0, 77), (9, 0, 48), (6, 0, 59)] rfl rfl hS ?_
  refine g_benchmark hS hC (fun h_ => ?_) (fun h_ v_ I_ p_0 p_1 p_2 p_3 p_4 => ?_)
  · refine ⟨hS, fun _ _ => ?_⟩
    refine y_thr rfl j_L_benchmark_13 ?_
    refine y_astore_nR (ls' := [some _, some _, some _, some _]) rfl rfl rfl ?_
    refine y_iconst rfl ?_
    refine y_ireturn rfl rfl rfl ?_
    exact hE1 h_
  · refine ⟨hS, fun hB_ _ => ?_⟩
    refine y_ret1 ?_
    refine y_i2l rfl ?_
    refine y_putR rfl (ySh.t hS rfl) (ySh.n hS rfl) rfl (Nat.le_of_ble_eq_true rfl) rfl rfl ?_
    refine y_goto rfl j_L_benchmark_16 ?_
    refine y_iconst rfl ?_
    refine y_ireturn rfl rfl rfl ?_
    exact hQ h_ _ _ p_0 p_1 p_2 p_3 p_4 hB_ _ rfl
theorem v_invest (hS : ySh n tg R) (hC : yCI I) {x1 : Int32} (hT : 0 ≤ (I 77 2).toInt ∧ (I 77 2).toInt < (Int32.ofInt 1 <<< (I 77 0 &&& 31)).toInt) (hE1 : ¬ (0 ≤ x1.toInt ∧ x1.toInt < (Int32.ofInt 1 <<< (I 77 0 &&& 31)).toInt) → Q (.inl (some (.int (Int32.ofInt 1)))) (n, tg, I, R) (c + 1) (s + 6)) (hE2 : (0 ≤ x1.toInt ∧ x1.toInt < (Int32.ofInt 1 <<< (I 77 0 &&& 31)).toInt) ∧ ¬ (x1 &&& (I 77 1 ^^^ Int32.ofInt (-1))).toInt = 0 → Q (.inl (some (.int (Int32.ofInt 2)))) (n, tg, I, R) (c + 1) (s + 6)) (hQ : (0 ≤ x1.toInt ∧ x1.toInt < (Int32.ofInt 1 <<< (I 77 0 &&& 31)).toInt) ∧ (x1 &&& (I 77 1 ^^^ Int32.ofInt (-1))).toInt = 0 → ∀ (v : Int32) (I1 : Nat → Nat → Int32), yCI I1 → yFt I I1 → v = yAddC I (Int32.ofInt 8) (I 81 (I 77 2).toInt.toNat - I 81 x1.toInt.toNat) 39 8 → I1 = (upd2 (yAddC I (Int32.ofInt 8) (I 81 (I 77 2).toInt.toNat - I 81 x1.toInt.toNat)) 77 2 x1) → yKeep [(12, 9, 34), (12, 8, 34), (8, 0, 38), (10, 0, 40), (11, 0, 69), (5, 0, 77), (9, 0, 48), (6, 0, 59)] I I1 → ∀ R1 : Nat → Nat → Value, R1 = upd2 R 93 0 (.long v.toInt64) → Q (.inl (some (.int (Int32.ofInt 0)))) (n, tg, I1, R1) c s) : yC 19 [.ref 34, .int x1, .ref 93] (n, tg, I, R) c s Q := by
  refine y_in (M := xm_L_invest) (ls := [some _, some _, some _, none]) rfl rfl rfl ?_
  refine y_aload_n rfl rfl ?_
  refine y_aload_n rfl rfl ?_
  refine y_iload_n rfl rfl ?_
  refine y_virt rfl rfl rfl rfl rfl (ySh.t hS rfl) (ySh.n hS rfl) ?_
  refine yC.keep [(12, 9, 34), (12, 8, 34), (8, 0, 38), (10, 0, 40), (11, 0, 69), (5, 0, 77), (9, 0, 48), (6, 0, 59)] rfl rfl hS ?_
  refine g_invest hS hC hT (fun h_ => ?_) (fun h_ => ?_) (fun h_ v_ I_ p_0 p_1 p_2 p_3 => ?_)
  · refine ⟨hS, fun _ _ => ?_⟩
    refine y_thr rfl j_L_invest_13 ?_
    refine y_astore_nR (ls' := [some _, some _, some _, some _]) rfl rfl rfl ?_
    refine y_iconst rfl ?_
    refine y_ireturn rfl rfl rfl ?_
    exact hE1 h_
  · refine ⟨hS, fun _ _ => ?_⟩
    refine y_thr rfl j_L_invest_16 ?_
    refine y_astore_nR (ls' := [some _, some _, some _, some _]) rfl rfl rfl ?_
    refine y_iconst rfl ?_
    refine y_ireturn rfl rfl rfl ?_
    exact hE2 h_
  · refine ⟨hS, fun hB_ _ => ?_⟩
    refine y_ret1 ?_
    refine y_i2l rfl ?_
    refine y_putR rfl (ySh.t hS rfl) (ySh.n hS rfl) rfl (Nat.le_of_ble_eq_true rfl) rfl rfl ?_
    refine y_goto rfl j_L_invest_19 ?_
    refine y_iconst rfl ?_
    refine y_ireturn rfl rfl rfl ?_
    exact hQ h_ _ _ p_0 p_1 p_2 p_3 hB_ _ rfl
theorem v_dividend (hS : ySh n tg R) (hC : yCI I) {x1 x2 : Int32} (hT : (0 ≤ x1.toInt ∧ x1.toInt < (I 77 0).toInt) → 1 ≤ (I 78 x1.toInt.toNat).toInt ∧ (I 78 x1.toInt.toNat).toInt ≤ 999) (hE0 : ¬ (0 ≤ x1.toInt ∧ x1.toInt < (I 77 0).toInt) → Q (.inl (some (.int (Int32.ofInt 1)))) (n, tg, I, R) (c + 1) (s + 6)) (hE1 : (0 ≤ x1.toInt ∧ x1.toInt < (I 77 0).toInt) ∧ ¬ (0 ≤ x2.toInt ∧ x2.toInt ≤ 999) → Q (.inl (some (.int (Int32.ofInt 2)))) (n, tg, I, R) (c + 1) (s + 6)) (hE2 : (0 ≤ x1.toInt ∧ x1.toInt < (I 77 0).toInt) ∧ (0 ≤ x2.toInt ∧ x2.toInt ≤ 999) ∧ ¬ ((I 77 2 >>> (x1 &&& 31)) &&& Int32.ofInt 1).toInt = 1 → Q (.inl (some (.int (Int32.ofInt 3)))) (n, tg, I, R) (c + 1) (s + 6)) (hQ : (0 ≤ x1.toInt ∧ x1.toInt < (I 77 0).toInt) ∧ (0 ≤ x2.toInt ∧ x2.toInt ≤ 999) ∧ ((I 77 2 >>> (x1 &&& 31)) &&& Int32.ofInt 1).toInt = 1 → ∀ (v : Int32) (I1 : Nat → Nat → Int32) (t : Int32), yCI I1 → yFt I I1 → t = yTnt (I 78 x1.toInt.toNat) (I 79 x1.toInt.toNat) x2 → v = t → I1 = (upd2 (upd2 (yAddC (yAddC I (Int32.ofInt 8) x2) (Int32.ofInt 8) (-t)) 38 1 (I 38 1 + t)) 80 x1.toInt.toNat (I 80 x1.toInt.toNat + t)) → yKeep [(12, 9, 34), (12, 8, 34), (8, 0, 38), (10, 0, 40), (11, 0, 69), (5, 0, 77), (9, 0, 48), (6, 0, 59)] I I1 → ∀ R1 : Nat → Nat → Value, R1 = upd2 R 93 0 (.long v.toInt64) → Q (.inl (some (.int (Int32.ofInt 0)))) (n, tg, I1, R1) c s) : yC 20 [.ref 34, .int x1, .int x2, .ref 93] (n, tg, I, R) c s Q := by
  refine y_in (M := xm_L_dividend) (ls := [some _, some _, some _, some _, none]) rfl rfl rfl ?_
  refine y_aload_n rfl rfl ?_
  refine y_aload_n rfl rfl ?_
  refine y_iload_n rfl rfl ?_
  refine y_iload_n rfl rfl ?_
  refine y_virt rfl rfl rfl rfl rfl (ySh.t hS rfl) (ySh.n hS rfl) ?_
  refine yC.keep [(12, 9, 34), (12, 8, 34), (8, 0, 38), (10, 0, 40), (11, 0, 69), (5, 0, 77), (9, 0, 48), (6, 0, 59)] rfl rfl hS ?_
  refine g_dividend hS hC hT (fun h_ => ?_) (fun h_ => ?_) (fun h_ => ?_) (fun h_ v_ I_ x_0 p_0 p_1 p_2 p_3 p_4 => ?_)
  · refine ⟨hS, fun _ _ => ?_⟩
    refine y_thr rfl j_L_dividend_14 ?_
    refine y_astoreR (ls' := [some _, some _, some _, some _, some _]) rfl rfl rfl ?_
    refine y_iconst rfl ?_
    refine y_ireturn rfl rfl rfl ?_
    exact hE0 h_
  · refine ⟨hS, fun _ _ => ?_⟩
    refine y_thr rfl j_L_dividend_18 ?_
    refine y_astoreR (ls' := [some _, some _, some _, some _, some _]) rfl rfl rfl ?_
    refine y_iconst rfl ?_
    refine y_ireturn rfl rfl rfl ?_
    exact hE1 h_
  · refine ⟨hS, fun _ _ => ?_⟩
    refine y_thr rfl j_L_dividend_22 ?_
    refine y_astoreR (ls' := [some _, some _, some _, some _, some _]) rfl rfl rfl ?_
    refine y_iconst rfl ?_
    refine y_ireturn rfl rfl rfl ?_
    exact hE2 h_
  · refine ⟨hS, fun hB_ _ => ?_⟩
    refine y_ret1 ?_
    refine y_i2l rfl ?_
    refine y_putR rfl (ySh.t hS rfl) (ySh.n hS rfl) rfl (Nat.le_of_ble_eq_true rfl) rfl rfl ?_
    refine y_goto rfl j_L_dividend_26 ?_
    refine y_iconst rfl ?_
    refine y_ireturn rfl rfl rfl ?_
    exact hQ h_ _ _ _ p_0 p_1 p_2 p_3 p_4 hB_ _ rfl
theorem v_join (hS : ySh n tg R) (hC : yCI I) {x1 x2 x3 x4 : Int32} (hE0 : ¬ ((0 ≤ x1.toInt ∧ x1.toInt < (I 69 0).toInt) ∧ (x2.toInt = -1 ∨ 0 ≤ x2.toInt ∧ x2.toInt < (I 38 0).toInt)) → Q (.inl (some (.int (Int32.ofInt 1)))) (n, tg, I, R) (c + 1) (s + 6)) (hE1 : ((0 ≤ x1.toInt ∧ x1.toInt < (I 69 0).toInt) ∧ (x2.toInt = -1 ∨ 0 ≤ x2.toInt ∧ x2.toInt < (I 38 0).toInt)) ∧ ¬ ((1 ≤ x3.toInt ∧ x3.toInt ≤ 999) ∧ (0 ≤ x4.toInt ∧ x4.toInt ≤ 100)) → Q (.inl (some (.int (Int32.ofInt 2)))) (n, tg, I, R) (c + 1) (s + 6)) (hE2 : ((0 ≤ x1.toInt ∧ x1.toInt < (I 69 0).toInt) ∧ (x2.toInt = -1 ∨ 0 ≤ x2.toInt ∧ x2.toInt < (I 38 0).toInt)) ∧ ((1 ≤ x3.toInt ∧ x3.toInt ≤ 999) ∧ (0 ≤ x4.toInt ∧ x4.toInt ≤ 100)) ∧ ¬ ((I 70 (yAtI x1 (ySeat x2)).toInt.toNat).toInt = 0 ∧ x3.toInt ≤ (I 39 (ySeat x2).toInt.toNat).toInt ∧ (yVs I 72 x1 + x4).toInt ≤ 100) → Q (.inl (some (.int (Int32.ofInt 3)))) (n, tg, I, R) (c + 1) (s + 6)) (hQ : ((0 ≤ x1.toInt ∧ x1.toInt < (I 69 0).toInt) ∧ (x2.toInt = -1 ∨ 0 ≤ x2.toInt ∧ x2.toInt < (I 38 0).toInt)) ∧ ((1 ≤ x3.toInt ∧ x3.toInt ≤ 999) ∧ (0 ≤ x4.toInt ∧ x4.toInt ≤ 100)) ∧ ((I 70 (yAtI x1 (ySeat x2)).toInt.toNat).toInt = 0 ∧ x3.toInt ≤ (I 39 (ySeat x2).toInt.toNat).toInt ∧ (yVs I 72 x1 + x4).toInt ≤ 100) → ∀ (v : Int32) (I1 : Nat → Nat → Int32), yCI I1 → yFt I I1 → v = yVs I1 72 x1 → I1 = (upd2 (upd2 (upd2 (yAddC I (ySeat x2) (-x3)) 70 (yAtI x1 (ySeat x2)).toInt.toNat (Int32.ofInt 1)) 71 (yAtI x1 (ySeat x2)).toInt.toNat x3) 72 (yAtI x1 (ySeat x2)).toInt.toNat x4) → yKeep [(12, 9, 34), (12, 8, 34), (8, 0, 38), (10, 0, 40), (11, 0, 69), (5, 0, 77), (9, 0, 48), (6, 0, 59)] I I1 → ∀ R1 : Nat → Nat → Value, R1 = upd2 R 93 0 (.long v.toInt64) → Q (.inl (some (.int (Int32.ofInt 0)))) (n, tg, I1, R1) c s) : yC 13 [.ref 34, .int x1, .int x2, .int x3, .int x4, .ref 93] (n, tg, I, R) c s Q := by
  refine y_in (M := xm_L_join) (ls := [some _, some _, some _, some _, some _, some _, none]) rfl rfl rfl ?_
  refine y_aload rfl rfl ?_
  refine y_aload_n rfl rfl ?_
  refine y_iload_n rfl rfl ?_
  refine y_iload_n rfl rfl ?_
  refine y_iload_n rfl rfl ?_
  refine y_iload rfl rfl ?_
  refine y_virt rfl rfl rfl rfl rfl (ySh.t hS rfl) (ySh.n hS rfl) ?_
  refine yC.keep [(12, 9, 34), (12, 8, 34), (8, 0, 38), (10, 0, 40), (11, 0, 69), (5, 0, 77), (9, 0, 48), (6, 0, 59)] rfl rfl hS ?_
  refine g_join hS hC (fun h_ => ?_) (fun h_ => ?_) (fun h_ => ?_) (fun h_ v_ I_ p_0 p_1 p_2 p_3 => ?_)
  · refine ⟨hS, fun _ _ => ?_⟩
    refine y_thr rfl j_L_join_18 ?_
    refine y_astoreR (ls' := [some _, some _, some _, some _, some _, some _, some _]) rfl rfl rfl ?_
    refine y_iconst rfl ?_
    refine y_ireturn rfl rfl rfl ?_
    exact hE0 h_
  · refine ⟨hS, fun _ _ => ?_⟩
    refine y_thr rfl j_L_join_22 ?_
    refine y_astoreR (ls' := [some _, some _, some _, some _, some _, some _, some _]) rfl rfl rfl ?_
    refine y_iconst rfl ?_
    refine y_ireturn rfl rfl rfl ?_
    exact hE1 h_
  · refine ⟨hS, fun _ _ => ?_⟩
    refine y_thr rfl j_L_join_26 ?_
    refine y_astoreR (ls' := [some _, some _, some _, some _, some _, some _, some _]) rfl rfl rfl ?_
    refine y_iconst rfl ?_
    refine y_ireturn rfl rfl rfl ?_
    exact hE2 h_
  · refine ⟨hS, fun hB_ _ => ?_⟩
    refine y_ret1 ?_
    refine y_i2l rfl ?_
    refine y_putR rfl (ySh.t hS rfl) (ySh.n hS rfl) rfl (Nat.le_of_ble_eq_true rfl) rfl rfl ?_
    refine y_goto rfl j_L_join_30 ?_
    refine y_iconst rfl ?_
    refine y_ireturn rfl rfl rfl ?_
    exact hQ h_ _ _ p_0 p_1 p_2 p_3 hB_ _ rfl
theorem v_result (hS : ySh n tg R) (hC : yCI I) {x1 x2 x3 : Int32} (hE0 : ¬ ((0 ≤ x1.toInt ∧ x1.toInt < (I 69 0).toInt) ∧ (x3.toInt = -2 ∨ (x3.toInt = -1 ∨ 0 ≤ x3.toInt ∧ x3.toInt < (I 38 0).toInt))) → Q (.inl (some (.int (Int32.ofInt 1)))) (n, tg, I, R) (c + 1) (s + 6)) (hE1 : ((0 ≤ x1.toInt ∧ x1.toInt < (I 69 0).toInt) ∧ (x3.toInt = -2 ∨ (x3.toInt = -1 ∨ 0 ≤ x3.toInt ∧ x3.toInt < (I 38 0).toInt))) ∧ ¬ (-999 ≤ x2.toInt ∧ x2.toInt ≤ 999) → Q (.inl (some (.int (Int32.ofInt 2)))) (n, tg, I, R) (c + 1) (s + 6)) (hE2 : ((0 ≤ x1.toInt ∧ x1.toInt < (I 69 0).toInt) ∧ (x3.toInt = -2 ∨ (x3.toInt = -1 ∨ 0 ≤ x3.toInt ∧ x3.toInt < (I 38 0).toInt))) ∧ (-999 ≤ x2.toInt ∧ x2.toInt ≤ 999) ∧ ¬ (x3.toInt = -2 ∨ ¬ (I 70 (yAtI x1 (ySeat x3)).toInt.toNat).toInt = 0) → Q (.inl (some (.int (Int32.ofInt 3)))) (n, tg, I, R) (c + 1) (s + 6)) (hQa : ((0 ≤ x1.toInt ∧ x1.toInt < (I 69 0).toInt) ∧ (x3.toInt = -2 ∨ (x3.toInt = -1 ∨ 0 ≤ x3.toInt ∧ x3.toInt < (I 38 0).toInt))) ∧ (-999 ≤ x2.toInt ∧ x2.toInt ≤ 999) ∧ (x3.toInt = -2 ∨ ¬ (I 70 (yAtI x1 (ySeat x3)).toInt.toNat).toInt = 0) ∧ 0 ≤ x2.toInt → ∀ (v : Int32) (I1 : Nat → Nat → Int32), yCI I1 → yFt I I1 → v = yVs I1 71 x1 → I1 = yPrD I x1 x2 → yKeep [(12, 9, 34), (12, 8, 34), (8, 0, 38), (10, 0, 40), (11, 0, 69), (5, 0, 77), (9, 0, 48), (6, 0, 59)] I I1 → ∀ R1 : Nat → Nat → Value, R1 = upd2 R 93 0 (.long v.toInt64) → Q (.inl (some (.int (Int32.ofInt 0)))) (n, tg, I1, R1) c s) (hQb : ((0 ≤ x1.toInt ∧ x1.toInt < (I 69 0).toInt) ∧ (x3.toInt = -2 ∨ (x3.toInt = -1 ∨ 0 ≤ x3.toInt ∧ x3.toInt < (I 38 0).toInt))) ∧ (-999 ≤ x2.toInt ∧ x2.toInt ≤ 999) ∧ (x3.toInt = -2 ∨ ¬ (I 70 (yAtI x1 (ySeat x3)).toInt.toNat).toInt = 0) ∧ x2.toInt < 0 ∧ x3.toInt = -2 → ∀ (v : Int32) (I1 : Nat → Nat → Int32), yCI I1 → yFt I I1 → v = yVs I1 71 x1 → I1 = yBlD I x1 (-x2) → yKeep [(12, 9, 34), (12, 8, 34), (8, 0, 38), (10, 0, 40), (11, 0, 69), (5, 0, 77), (9, 0, 48), (6, 0, 59)] I I1 → ∀ R1 : Nat → Nat → Value, R1 = upd2 R 93 0 (.long v.toInt64) → Q (.inl (some (.int (Int32.ofInt 0)))) (n, tg, I1, R1) c s) (hQc : ((0 ≤ x1.toInt ∧ x1.toInt < (I 69 0).toInt) ∧ (x3.toInt = -2 ∨ (x3.toInt = -1 ∨ 0 ≤ x3.toInt ∧ x3.toInt < (I 38 0).toInt))) ∧ (-999 ≤ x2.toInt ∧ x2.toInt ≤ 999) ∧ (x3.toInt = -2 ∨ ¬ (I 70 (yAtI x1 (ySeat x3)).toInt.toNat).toInt = 0) ∧ x2.toInt < 0 ∧ ¬ x3.toInt = -2 → ∀ (v : Int32) (I1 : Nat → Nat → Int32), yCI I1 → yFt I I1 → v = yVs I1 71 x1 → I1 = yAddC I (ySeat x3) x2 → yKeep [(12, 9, 34), (12, 8, 34), (8, 0, 38), (10, 0, 40), (11, 0, 69), (5, 0, 77), (9, 0, 48), (6, 0, 59)] I I1 → ∀ R1 : Nat → Nat → Value, R1 = upd2 R 93 0 (.long v.toInt64) → Q (.inl (some (.int (Int32.ofInt 0)))) (n, tg, I1, R1) c s) : yC 14 [.ref 34, .int x1, .int x2, .int x3, .ref 93] (n, tg, I, R) c s Q := by
  refine y_in (M := xm_L_result) (ls := [some _, some _, some _, some _, some _, none]) rfl rfl rfl ?_
  refine y_aload rfl rfl ?_
  refine y_aload_n rfl rfl ?_
  refine y_iload_n rfl rfl ?_
  refine y_iload_n rfl rfl ?_
  refine y_iload_n rfl rfl ?_
  refine y_virt rfl rfl rfl rfl rfl (ySh.t hS rfl) (ySh.n hS rfl) ?_
  refine yC.keep [(12, 9, 34), (12, 8, 34), (8, 0, 38), (10, 0, 40), (11, 0, 69), (5, 0, 77), (9, 0, 48), (6, 0, 59)] rfl rfl hS ?_
  refine g_result hS hC (fun h_ => ?_) (fun h_ => ?_) (fun h_ => ?_) (fun h_ v_ I_ p_0 p_1 p_2 p_3 => ?_) (fun h_ v_ I_ p_0 p_1 p_2 p_3 => ?_) (fun h_ v_ I_ p_0 p_1 p_2 p_3 => ?_)
  · refine ⟨hS, fun _ _ => ?_⟩
    refine y_thr rfl j_L_result_16 ?_
    refine y_astoreR (ls' := [some _, some _, some _, some _, some _, some _]) rfl rfl rfl ?_
    refine y_iconst rfl ?_
    refine y_ireturn rfl rfl rfl ?_
    exact hE0 h_
  · refine ⟨hS, fun _ _ => ?_⟩
    refine y_thr rfl j_L_result_20 ?_
    refine y_astoreR (ls' := [some _, some _, some _, some _, some _, some _]) rfl rfl rfl ?_
    refine y_iconst rfl ?_
    refine y_ireturn rfl rfl rfl ?_
    exact hE1 h_
  · refine ⟨hS, fun _ _ => ?_⟩
    refine y_thr rfl j_L_result_24 ?_
    refine y_astoreR (ls' := [some _, some _, some _, some _, some _, some _]) rfl rfl rfl ?_
    refine y_iconst rfl ?_
    refine y_ireturn rfl rfl rfl ?_
    exact hE2 h_
  · refine ⟨hS, fun hB_ _ => ?_⟩
    refine y_ret1 ?_
    refine y_i2l rfl ?_
    refine y_putR rfl (ySh.t hS rfl) (ySh.n hS rfl) rfl (Nat.le_of_ble_eq_true rfl) rfl rfl ?_
    refine y_goto rfl j_L_result_28 ?_
    refine y_iconst rfl ?_
    refine y_ireturn rfl rfl rfl ?_
    exact hQa h_ _ _ p_0 p_1 p_2 p_3 hB_ _ rfl
  · refine ⟨hS, fun hB_ _ => ?_⟩
    refine y_ret1 ?_
    refine y_i2l rfl ?_
    refine y_putR rfl (ySh.t hS rfl) (ySh.n hS rfl) rfl (Nat.le_of_ble_eq_true rfl) rfl rfl ?_
    refine y_goto rfl j_L_result_28 ?_
    refine y_iconst rfl ?_
    refine y_ireturn rfl rfl rfl ?_
    exact hQb h_ _ _ p_0 p_1 p_2 p_3 hB_ _ rfl
  · refine ⟨hS, fun hB_ _ => ?_⟩
    refine y_ret1 ?_
    refine y_i2l rfl ?_
    refine y_putR rfl (ySh.t hS rfl) (ySh.n hS rfl) rfl (Nat.le_of_ble_eq_true rfl) rfl rfl ?_
    refine y_goto rfl j_L_result_28 ?_
    refine y_iconst rfl ?_
    refine y_ireturn rfl rfl rfl ?_
    exact hQc h_ _ _ p_0 p_1 p_2 p_3 hB_ _ rfl
theorem v_buyOut (hS : ySh n tg R) (hC : yCI I) {x1 x2 x3 x4 : Int32} (hE0 : ¬ ((0 ≤ x1.toInt ∧ x1.toInt < (I 69 0).toInt) ∧ (x2.toInt = -1 ∨ 0 ≤ x2.toInt ∧ x2.toInt < (I 38 0).toInt) ∧ (x3.toInt = -1 ∨ 0 ≤ x3.toInt ∧ x3.toInt < (I 38 0).toInt)) → Q (.inl (some (.int (Int32.ofInt 1)))) (n, tg, I, R) (c + 1) (s + 6)) (hE1 : ((0 ≤ x1.toInt ∧ x1.toInt < (I 69 0).toInt) ∧ (x2.toInt = -1 ∨ 0 ≤ x2.toInt ∧ x2.toInt < (I 38 0).toInt) ∧ (x3.toInt = -1 ∨ 0 ≤ x3.toInt ∧ x3.toInt < (I 38 0).toInt)) ∧ ¬ (¬ x2.toInt = x3.toInt ∧ (1 ≤ x4.toInt ∧ x4.toInt ≤ 999)) → Q (.inl (some (.int (Int32.ofInt 2)))) (n, tg, I, R) (c + 1) (s + 6)) (hE2 : ((0 ≤ x1.toInt ∧ x1.toInt < (I 69 0).toInt) ∧ (x2.toInt = -1 ∨ 0 ≤ x2.toInt ∧ x2.toInt < (I 38 0).toInt) ∧ (x3.toInt = -1 ∨ 0 ≤ x3.toInt ∧ x3.toInt < (I 38 0).toInt)) ∧ (¬ x2.toInt = x3.toInt ∧ (1 ≤ x4.toInt ∧ x4.toInt ≤ 999)) ∧ ¬ (¬ (I 70 (yAtI x1 (ySeat x2)).toInt.toNat).toInt = 0 ∧ ¬ (I 70 (yAtI x1 (ySeat x3)).toInt.toNat).toInt = 0 ∧ x4.toInt ≤ (I 71 (yAtI x1 (ySeat x2)).toInt.toNat).toInt ∧ x4.toInt ≤ (I 39 (ySeat x3).toInt.toNat).toInt) → Q (.inl (some (.int (Int32.ofInt 3)))) (n, tg, I, R) (c + 1) (s + 6)) (hQ : ((0 ≤ x1.toInt ∧ x1.toInt < (I 69 0).toInt) ∧ (x2.toInt = -1 ∨ 0 ≤ x2.toInt ∧ x2.toInt < (I 38 0).toInt) ∧ (x3.toInt = -1 ∨ 0 ≤ x3.toInt ∧ x3.toInt < (I 38 0).toInt)) ∧ (¬ x2.toInt = x3.toInt ∧ (1 ≤ x4.toInt ∧ x4.toInt ≤ 999)) ∧ (¬ (I 70 (yAtI x1 (ySeat x2)).toInt.toNat).toInt = 0 ∧ ¬ (I 70 (yAtI x1 (ySeat x3)).toInt.toNat).toInt = 0 ∧ x4.toInt ≤ (I 71 (yAtI x1 (ySeat x2)).toInt.toNat).toInt ∧ x4.toInt ≤ (I 39 (ySeat x3).toInt.toNat).toInt) → ∀ (v : Int32) (I1 : Nat → Nat → Int32), yCI I1 → yFt I I1 → v = I1 71 (yAtI x1 (ySeat x2)).toInt.toNat → I1 = (upd2 (upd2 (yAddC (yAddC I (ySeat x3) (-x4)) (ySeat x2) x4) 71 (yAtI x1 (ySeat x2)).toInt.toNat (I 71 (yAtI x1 (ySeat x2)).toInt.toNat - x4)) 71 (yAtI x1 (ySeat x3)).toInt.toNat ((upd2 (yAddC (yAddC I (ySeat x3) (-x4)) (ySeat x2) x4) 71 (yAtI x1 (ySeat x2)).toInt.toNat (I 71 (yAtI x1 (ySeat x2)).toInt.toNat - x4)) 71 (yAtI x1 (ySeat x3)).toInt.toNat + x4)) → yKeep [(12, 9, 34), (12, 8, 34), (8, 0, 38), (10, 0, 40), (11, 0, 69), (5, 0, 77), (9, 0, 48), (6, 0, 59)] I I1 → ∀ R1 : Nat → Nat → Value, R1 = upd2 R 93 0 (.long v.toInt64) → Q (.inl (some (.int (Int32.ofInt 0)))) (n, tg, I1, R1) c s) : yC 15 [.ref 34, .int x1, .int x2, .int x3, .int x4, .ref 93] (n, tg, I, R) c s Q := by
  refine y_in (M := xm_L_buyOut) (ls := [some _, some _, some _, some _, some _, some _, none]) rfl rfl rfl ?_
  refine y_aload rfl rfl ?_
  refine y_aload_n rfl rfl ?_
  refine y_iload_n rfl rfl ?_
  refine y_iload_n rfl rfl ?_
  refine y_iload_n rfl rfl ?_
  refine y_iload rfl rfl ?_
  refine y_virt rfl rfl rfl rfl rfl (ySh.t hS rfl) (ySh.n hS rfl) ?_
  refine yC.keep [(12, 9, 34), (12, 8, 34), (8, 0, 38), (10, 0, 40), (11, 0, 69), (5, 0, 77), (9, 0, 48), (6, 0, 59)] rfl rfl hS ?_
  refine g_buyOut hS hC (fun h_ => ?_) (fun h_ => ?_) (fun h_ => ?_) (fun h_ v_ I_ p_0 p_1 p_2 p_3 => ?_)
  · refine ⟨hS, fun _ _ => ?_⟩
    refine y_thr rfl j_L_buyOut_18 ?_
    refine y_astoreR (ls' := [some _, some _, some _, some _, some _, some _, some _]) rfl rfl rfl ?_
    refine y_iconst rfl ?_
    refine y_ireturn rfl rfl rfl ?_
    exact hE0 h_
  · refine ⟨hS, fun _ _ => ?_⟩
    refine y_thr rfl j_L_buyOut_22 ?_
    refine y_astoreR (ls' := [some _, some _, some _, some _, some _, some _, some _]) rfl rfl rfl ?_
    refine y_iconst rfl ?_
    refine y_ireturn rfl rfl rfl ?_
    exact hE1 h_
  · refine ⟨hS, fun _ _ => ?_⟩
    refine y_thr rfl j_L_buyOut_26 ?_
    refine y_astoreR (ls' := [some _, some _, some _, some _, some _, some _, some _]) rfl rfl rfl ?_
    refine y_iconst rfl ?_
    refine y_ireturn rfl rfl rfl ?_
    exact hE2 h_
  · refine ⟨hS, fun hB_ _ => ?_⟩
    refine y_ret1 ?_
    refine y_i2l rfl ?_
    refine y_putR rfl (ySh.t hS rfl) (ySh.n hS rfl) rfl (Nat.le_of_ble_eq_true rfl) rfl rfl ?_
    refine y_goto rfl j_L_buyOut_30 ?_
    refine y_iconst rfl ?_
    refine y_ireturn rfl rfl rfl ?_
    exact hQ h_ _ _ p_0 p_1 p_2 p_3 hB_ _ rfl
theorem v_deposit (hS : ySh n tg R) (hC : yCI I) {x1 x2 : Int32} (hE0 : ¬ (0 ≤ x1.toInt ∧ x1.toInt < (I 38 0).toInt) → Q (.inl (some (.int (Int32.ofInt 1)))) (n, tg, I, R) (c + 1) (s + 6)) (hE1 : (0 ≤ x1.toInt ∧ x1.toInt < (I 38 0).toInt) ∧ ¬ (¬ x2.toInt = 0 ∧ -9999 ≤ x2.toInt ∧ x2.toInt ≤ 9999) → Q (.inl (some (.int (Int32.ofInt 2)))) (n, tg, I, R) (c + 1) (s + 6)) (hE2 : (0 ≤ x1.toInt ∧ x1.toInt < (I 38 0).toInt) ∧ (¬ x2.toInt = 0 ∧ -9999 ≤ x2.toInt ∧ x2.toInt ≤ 9999) ∧ ¬ ((x2.toInt ≤ 0 ∨ x2.toInt ≤ (I 39 x1.toInt.toNat).toInt) ∧ 0 ≤ (I 75 x1.toInt.toNat + x2).toInt ∧ (I 75 x1.toInt.toNat + x2).toInt ≤ 99999) → Q (.inl (some (.int (Int32.ofInt 3)))) (n, tg, I, R) (c + 1) (s + 6)) (hQ : (0 ≤ x1.toInt ∧ x1.toInt < (I 38 0).toInt) ∧ (¬ x2.toInt = 0 ∧ -9999 ≤ x2.toInt ∧ x2.toInt ≤ 9999) ∧ ((x2.toInt ≤ 0 ∨ x2.toInt ≤ (I 39 x1.toInt.toNat).toInt) ∧ 0 ≤ (I 75 x1.toInt.toNat + x2).toInt ∧ (I 75 x1.toInt.toNat + x2).toInt ≤ 99999) → ∀ (v : Int32) (I1 : Nat → Nat → Int32), yCI I1 → yFt I I1 → v = I 75 x1.toInt.toNat + x2 → yGc yTL I1 I → I1 = (upd2 (yAddC I x1 (-x2)) 75 x1.toInt.toNat (I 75 x1.toInt.toNat + x2)) → yKeep [(12, 9, 34), (12, 8, 34), (8, 0, 38), (10, 0, 40), (11, 0, 69), (5, 0, 77), (9, 0, 48), (6, 0, 59)] I I1 → ∀ R1 : Nat → Nat → Value, R1 = upd2 R 93 0 (.long v.toInt64) → Q (.inl (some (.int (Int32.ofInt 0)))) (n, tg, I1, R1) c s) : yC 16 [.ref 34, .int x1, .int x2, .ref 93] (n, tg, I, R) c s Q := by
  refine y_in (M := xm_L_deposit) (ls := [some _, some _, some _, some _, none]) rfl rfl rfl ?_
  refine y_aload_n rfl rfl ?_
  refine y_aload_n rfl rfl ?_
  refine y_iload_n rfl rfl ?_
  refine y_iload_n rfl rfl ?_
  refine y_virt rfl rfl rfl rfl rfl (ySh.t hS rfl) (ySh.n hS rfl) ?_
  refine yC.keep [(12, 9, 34), (12, 8, 34), (8, 0, 38), (10, 0, 40), (11, 0, 69), (5, 0, 77), (9, 0, 48), (6, 0, 59)] rfl rfl hS ?_
  refine g_deposit hS hC (fun h_ => ?_) (fun h_ => ?_) (fun h_ => ?_) (fun h_ v_ I_ p_0 p_1 p_2 p_3 p_4 => ?_)
  · refine ⟨hS, fun _ _ => ?_⟩
    refine y_thr rfl j_L_deposit_14 ?_
    refine y_astoreR (ls' := [some _, some _, some _, some _, some _]) rfl rfl rfl ?_
    refine y_iconst rfl ?_
    refine y_ireturn rfl rfl rfl ?_
    exact hE0 h_
  · refine ⟨hS, fun _ _ => ?_⟩
    refine y_thr rfl j_L_deposit_18 ?_
    refine y_astoreR (ls' := [some _, some _, some _, some _, some _]) rfl rfl rfl ?_
    refine y_iconst rfl ?_
    refine y_ireturn rfl rfl rfl ?_
    exact hE1 h_
  · refine ⟨hS, fun _ _ => ?_⟩
    refine y_thr rfl j_L_deposit_22 ?_
    refine y_astoreR (ls' := [some _, some _, some _, some _, some _]) rfl rfl rfl ?_
    refine y_iconst rfl ?_
    refine y_ireturn rfl rfl rfl ?_
    exact hE2 h_
  · refine ⟨hS, fun hB_ _ => ?_⟩
    refine y_ret1 ?_
    refine y_i2l rfl ?_
    refine y_putR rfl (ySh.t hS rfl) (ySh.n hS rfl) rfl (Nat.le_of_ble_eq_true rfl) rfl rfl ?_
    refine y_goto rfl j_L_deposit_26 ?_
    refine y_iconst rfl ?_
    refine y_ireturn rfl rfl rfl ?_
    exact hQ h_ _ _ p_0 p_1 p_2 p_3 p_4 hB_ _ rfl
theorem v_share (hS : ySh n tg R) (hC : yCI I) {x1 x2 x3 : Int32} (hE1 : ¬ ((0 ≤ x1.toInt ∧ x1.toInt ≤ 9999) ∧ (0 ≤ x2.toInt ∧ x2.toInt ≤ 999) ∧ (0 ≤ x3.toInt ∧ x3.toInt ≤ 50)) → Q (.inl (some (.int (Int32.ofInt 1)))) (n, tg, I, R) (c + 1) (s + 6)) (hQ : ((0 ≤ x1.toInt ∧ x1.toInt ≤ 9999) ∧ (0 ≤ x2.toInt ∧ x2.toInt ≤ 999) ∧ (0 ≤ x3.toInt ∧ x3.toInt ≤ 50)) → ∀ rest sh g : Int32, rest = x1 - x1 * x3 / Int32.ofInt 100 → sh = ySmo rest x2 (I 74 2) (yBC (I 36 4)).toInt → g = yPoG (upd2 (upd2 (upd2 I 74 3 x2) 74 4 x3) 74 2 (I 74 2 + (rest - sh))) sh (yWsum (upd2 (upd2 (upd2 I 74 3 x2) 74 4 x3) 74 2 (I 74 2 + (rest - sh))) 8) 8 → ∀ (v : Int32) (I1 : Nat → Nat → Int32), yCI I1 → yFt I I1 → v = g → I1 = (upd2 (yAddC (yRec (yPoS sh (yWsum (upd2 (upd2 (upd2 I 74 3 x2) 74 4 x3) 74 2 (I 74 2 + (rest - sh))) 8)) (upd2 (upd2 (upd2 I 74 3 x2) 74 4 x3) 74 2 (I 74 2 + (rest - sh))) 8) (Int32.ofInt 8) (x1 - rest)) 38 1 (I 38 1 + (sh - g))) → yKeep [(12, 9, 34), (12, 8, 34), (8, 0, 38), (10, 0, 40), (11, 0, 69), (5, 0, 77), (9, 0, 48), (6, 0, 59)] I I1 → ∀ R1 : Nat → Nat → Value, R1 = upd2 R 93 0 (.long v.toInt64) → Q (.inl (some (.int (Int32.ofInt 0)))) (n, tg, I1, R1) c s) : yC 17 [.ref 34, .int x1, .int x2, .int x3, .ref 93] (n, tg, I, R) c s Q := by
  refine y_in (M := xm_L_share) (ls := [some _, some _, some _, some _, some _, none]) rfl rfl rfl ?_
  refine y_aload rfl rfl ?_
  refine y_aload_n rfl rfl ?_
  refine y_iload_n rfl rfl ?_
  refine y_iload_n rfl rfl ?_
  refine y_iload_n rfl rfl ?_
  refine y_virt rfl rfl rfl rfl rfl (ySh.t hS rfl) (ySh.n hS rfl) ?_
  refine yC.keep [(12, 9, 34), (12, 8, 34), (8, 0, 38), (10, 0, 40), (11, 0, 69), (5, 0, 77), (9, 0, 48), (6, 0, 59)] rfl rfl hS ?_
  refine g_share hS hC (fun h_ => ?_) (fun h_ y_rest y_sh y_g z_0 z_1 z_2 v_ I_ p_0 p_1 p_2 p_3 => ?_)
  · refine ⟨hS, fun _ _ => ?_⟩
    refine y_thr rfl j_L_share_16 ?_
    refine y_astoreR (ls' := [some _, some _, some _, some _, some _, some _]) rfl rfl rfl ?_
    refine y_iconst rfl ?_
    refine y_ireturn rfl rfl rfl ?_
    exact hE1 h_
  · refine ⟨hS, fun hB_ _ => ?_⟩
    refine y_ret1 ?_
    refine y_i2l rfl ?_
    refine y_putR rfl (ySh.t hS rfl) (ySh.n hS rfl) rfl (Nat.le_of_ble_eq_true rfl) rfl rfl ?_
    refine y_goto rfl j_L_share_20 ?_
    refine y_iconst rfl ?_
    refine y_ireturn rfl rfl rfl ?_
    exact hQ h_ _ _ _ z_0 z_1 z_2 _ _ p_0 p_1 p_2 p_3 hB_ _ rfl
theorem v_thing (hS : ySh n tg R) (hC : yCI I) {x1 x2 : Int32} (hE0 : ¬ (x2.toInt = -1 ∨ 0 ≤ x2.toInt ∧ x2.toInt < (I 38 0).toInt) → Q (.inl (some (.int (Int32.ofInt 1)))) (n, tg, I, R) (c + 1) (s + 6)) (hE1 : (x2.toInt = -1 ∨ 0 ≤ x2.toInt ∧ x2.toInt < (I 38 0).toInt) ∧ ¬ (1 ≤ x1.toInt ∧ x1.toInt ≤ 999) → Q (.inl (some (.int (Int32.ofInt 2)))) (n, tg, I, R) (c + 1) (s + 6)) (hE2 : (x2.toInt = -1 ∨ 0 ≤ x2.toInt ∧ x2.toInt < (I 38 0).toInt) ∧ (1 ≤ x1.toInt ∧ x1.toInt ≤ 999) ∧ (I 40 0).toInt = 16 → Q (.inl (some (.int (Int32.ofInt 3)))) (n, tg, I, R) (c + 1) (s + 6)) (hQ : (x2.toInt = -1 ∨ 0 ≤ x2.toInt ∧ x2.toInt < (I 38 0).toInt) ∧ (1 ≤ x1.toInt ∧ x1.toInt ≤ 999) ∧ (I 40 0).toInt < 16 → ∀ (v : Int32) (I1 : Nat → Nat → Int32) (own : Int32), yCI I1 → yFt I I1 → (x2.toInt = -1 ∧ own = Int32.ofInt 9 ∨ ¬ x2.toInt = -1 ∧ own = x2) → v = I 40 0 → yGc yTL I1 (upd2 (upd2 (upd2 (upd2 (upd2 (upd2 I 41 (I 40 0).toInt.toNat x1) 42 (I 40 0).toInt.toNat own) 43 (I 40 0).toInt.toNat (Int32.ofInt 1)) 46 (I 40 0).toInt.toNat (Int32.ofInt (-1))) 47 (I 40 0).toInt.toNat (Int32.ofInt (-1))) 40 0 (I 40 0 + Int32.ofInt 1)) → I1 = (upd2 (upd2 (upd2 (upd2 (upd2 (upd2 I 41 (I 40 0).toInt.toNat x1) 42 (I 40 0).toInt.toNat own) 43 (I 40 0).toInt.toNat (Int32.ofInt 1)) 46 (I 40 0).toInt.toNat (Int32.ofInt (-1))) 47 (I 40 0).toInt.toNat (Int32.ofInt (-1))) 40 0 (I 40 0 + Int32.ofInt 1)) → yKeep [(12, 9, 34), (12, 8, 34), (8, 0, 38), (11, 0, 69), (5, 0, 77), (9, 0, 48), (6, 0, 59)] I I1 → ∀ R1 : Nat → Nat → Value, R1 = upd2 R 93 0 (.long v.toInt64) → Q (.inl (some (.int (Int32.ofInt 0)))) (n, tg, I1, R1) c s) : yC 3 [.ref 34, .int x1, .int x2, .ref 93] (n, tg, I, R) c s Q := by
  refine y_in (M := xm_L_thing) (ls := [some _, some _, some _, some _, none]) rfl rfl rfl ?_
  refine y_aload_n rfl rfl ?_
  refine y_aload_n rfl rfl ?_
  refine y_iload_n rfl rfl ?_
  refine y_iload_n rfl rfl ?_
  refine y_virt rfl rfl rfl rfl rfl (ySh.t hS rfl) (ySh.n hS rfl) ?_
  refine yC.keep [(12, 9, 34), (12, 8, 34), (8, 0, 38), (11, 0, 69), (5, 0, 77), (9, 0, 48), (6, 0, 59)] rfl rfl hS ?_
  refine g_thing hS hC (fun h_ => ?_) (fun h_ => ?_) (fun h_ => ?_) (fun h_ v_ I_ x_0 p_0 p_1 p_2 p_3 p_4 p_5 => ?_)
  · refine ⟨hS, fun _ _ => ?_⟩
    refine y_thr rfl j_L_thing_14 ?_
    refine y_astoreR (ls' := [some _, some _, some _, some _, some _]) rfl rfl rfl ?_
    refine y_iconst rfl ?_
    refine y_ireturn rfl rfl rfl ?_
    exact hE0 h_
  · refine ⟨hS, fun _ _ => ?_⟩
    refine y_thr rfl j_L_thing_18 ?_
    refine y_astoreR (ls' := [some _, some _, some _, some _, some _]) rfl rfl rfl ?_
    refine y_iconst rfl ?_
    refine y_ireturn rfl rfl rfl ?_
    exact hE1 h_
  · refine ⟨hS, fun _ _ => ?_⟩
    refine y_thr rfl j_L_thing_22 ?_
    refine y_astoreR (ls' := [some _, some _, some _, some _, some _]) rfl rfl rfl ?_
    refine y_iconst rfl ?_
    refine y_ireturn rfl rfl rfl ?_
    exact hE2 h_
  · refine ⟨hS, fun hB_ _ => ?_⟩
    refine y_ret1 ?_
    refine y_i2l rfl ?_
    refine y_putR rfl (ySh.t hS rfl) (ySh.n hS rfl) rfl (Nat.le_of_ble_eq_true rfl) rfl rfl ?_
    refine y_goto rfl j_L_thing_26 ?_
    refine y_iconst rfl ?_
    refine y_ireturn rfl rfl rfl ?_
    exact hQ h_ _ _ _ p_0 p_1 p_2 p_3 p_4 p_5 hB_ _ rfl
theorem v_buy (hS : ySh n tg R) (hC : yCI I) {x1 : Int32} (hE0 : ¬ (0 ≤ x1.toInt ∧ x1.toInt < (I 40 0).toInt) → Q (.inl (some (.int (Int32.ofInt 1)))) (n, tg, I, R) (c + 1) (s + 6)) (hE2 : (0 ≤ x1.toInt ∧ x1.toInt < (I 40 0).toInt) ∧ ¬ (¬ (I 42 x1.toInt.toNat).toInt = 8 ∧ (I 44 x1.toInt.toNat).toInt = 0 ∧ (I 47 x1.toInt.toNat).toInt = -1) → Q (.inl (some (.int (Int32.ofInt 2)))) (n, tg, I, R) (c + 1) (s + 6)) (hQ : (0 ≤ x1.toInt ∧ x1.toInt < (I 40 0).toInt) ∧ (¬ (I 42 x1.toInt.toNat).toInt = 8 ∧ (I 44 x1.toInt.toNat).toInt = 0 ∧ (I 47 x1.toInt.toNat).toInt = -1) → ∀ (v : Int32) (I1 : Nat → Nat → Int32), yCI I1 → yFt I I1 → v = I 41 x1.toInt.toNat → yGc yTL I1 (upd2 (upd2 (upd2 (upd2 I 45 x1.toInt.toNat (I 41 x1.toInt.toNat)) 46 x1.toInt.toNat (I 42 x1.toInt.toNat)) 42 x1.toInt.toNat (Int32.ofInt 8)) 43 x1.toInt.toNat (Int32.ofInt 0)) → I1 = (upd2 (upd2 (upd2 (upd2 (yAddC (yAddC I (Int32.ofInt 8) (-(I 41 x1.toInt.toNat))) (I 42 x1.toInt.toNat) (I 41 x1.toInt.toNat)) 45 x1.toInt.toNat (I 41 x1.toInt.toNat)) 46 x1.toInt.toNat (I 42 x1.toInt.toNat)) 42 x1.toInt.toNat (Int32.ofInt 8)) 43 x1.toInt.toNat (Int32.ofInt 0)) → yKeep [(12, 9, 34), (12, 8, 34), (8, 0, 38), (10, 0, 40), (11, 0, 69), (5, 0, 77), (9, 0, 48), (6, 0, 59)] I I1 → ∀ R1 : Nat → Nat → Value, R1 = upd2 R 93 0 (.long v.toInt64) → Q (.inl (some (.int (Int32.ofInt 0)))) (n, tg, I1, R1) c s) : yC 4 [.ref 34, .int x1, .ref 93] (n, tg, I, R) c s Q := by
  refine y_in (M := xm_L_buy) (ls := [some _, some _, some _, none]) rfl rfl rfl ?_
  refine y_aload_n rfl rfl ?_
  refine y_aload_n rfl rfl ?_
  refine y_iload_n rfl rfl ?_
  refine y_virt rfl rfl rfl rfl rfl (ySh.t hS rfl) (ySh.n hS rfl) ?_
  refine yC.keep [(12, 9, 34), (12, 8, 34), (8, 0, 38), (10, 0, 40), (11, 0, 69), (5, 0, 77), (9, 0, 48), (6, 0, 59)] rfl rfl hS ?_
  refine g_buy hS hC (fun h_ => ?_) (fun h_ => ?_) (fun h_ v_ I_ p_0 p_1 p_2 p_3 p_4 => ?_)
  · refine ⟨hS, fun _ _ => ?_⟩
    refine y_thr rfl j_L_buy_13 ?_
    refine y_astore_nR (ls' := [some _, some _, some _, some _]) rfl rfl rfl ?_
    refine y_iconst rfl ?_
    refine y_ireturn rfl rfl rfl ?_
    exact hE0 h_
  · refine ⟨hS, fun _ _ => ?_⟩
    refine y_thr rfl j_L_buy_16 ?_
    refine y_astore_nR (ls' := [some _, some _, some _, some _]) rfl rfl rfl ?_
    refine y_iconst rfl ?_
    refine y_ireturn rfl rfl rfl ?_
    exact hE2 h_
  · refine ⟨hS, fun hB_ _ => ?_⟩
    refine y_ret1 ?_
    refine y_i2l rfl ?_
    refine y_putR rfl (ySh.t hS rfl) (ySh.n hS rfl) rfl (Nat.le_of_ble_eq_true rfl) rfl rfl ?_
    refine y_goto rfl j_L_buy_19 ?_
    refine y_iconst rfl ?_
    refine y_ireturn rfl rfl rfl ?_
    exact hQ h_ _ _ p_0 p_1 p_2 p_3 p_4 hB_ _ rfl
theorem v_take (hS : ySh n tg R) (hC : yCI I) {x1 : Int32} (hE0 : ¬ (0 ≤ x1.toInt ∧ x1.toInt < (I 40 0).toInt) → Q (.inl (some (.int (Int32.ofInt 1)))) (n, tg, I, R) (c + 1) (s + 6)) (hE2 : (0 ≤ x1.toInt ∧ x1.toInt < (I 40 0).toInt) ∧ ¬ ((I 42 x1.toInt.toNat).toInt = 8 ∧ (I 43 x1.toInt.toNat).toInt = 0) → Q (.inl (some (.int (Int32.ofInt 2)))) (n, tg, I, R) (c + 1) (s + 6)) (hQ : (0 ≤ x1.toInt ∧ x1.toInt < (I 40 0).toInt) ∧ ((I 42 x1.toInt.toNat).toInt = 8 ∧ (I 43 x1.toInt.toNat).toInt = 0) → ∀ (v : Int32) (I1 : Nat → Nat → Int32), yCI I1 → yFt I I1 → v = yFz (fun j : Nat => if (I1 42 j).toInt = 8 ∧ ¬ (I1 43 j).toInt = 0 then Int32.ofInt 1 else Int32.ofInt 0) (I1 40 0).toInt.toNat → yGc yTL I1 (upd2 I 43 x1.toInt.toNat (Int32.ofInt 1)) → I1 = (upd2 I 43 x1.toInt.toNat (Int32.ofInt 1)) → yKeep [(12, 9, 34), (12, 8, 34), (8, 0, 38), (10, 0, 40), (11, 0, 69), (5, 0, 77), (9, 0, 48), (6, 0, 59)] I I1 → ∀ R1 : Nat → Nat → Value, R1 = upd2 R 93 0 (.long v.toInt64) → Q (.inl (some (.int (Int32.ofInt 0)))) (n, tg, I1, R1) c s) : yC 5 [.ref 34, .int x1, .ref 93] (n, tg, I, R) c s Q := by
  refine y_in (M := xm_L_take) (ls := [some _, some _, some _, none]) rfl rfl rfl ?_
  refine y_aload_n rfl rfl ?_
  refine y_aload_n rfl rfl ?_
  refine y_iload_n rfl rfl ?_
  refine y_virt rfl rfl rfl rfl rfl (ySh.t hS rfl) (ySh.n hS rfl) ?_
  refine yC.keep [(12, 9, 34), (12, 8, 34), (8, 0, 38), (10, 0, 40), (11, 0, 69), (5, 0, 77), (9, 0, 48), (6, 0, 59)] rfl rfl hS ?_
  refine g_take hS hC (fun h_ => ?_) (fun h_ => ?_) (fun h_ v_ I_ p_0 p_1 p_2 p_3 p_4 => ?_)
  · refine ⟨hS, fun _ _ => ?_⟩
    refine y_thr rfl j_L_take_13 ?_
    refine y_astore_nR (ls' := [some _, some _, some _, some _]) rfl rfl rfl ?_
    refine y_iconst rfl ?_
    refine y_ireturn rfl rfl rfl ?_
    exact hE0 h_
  · refine ⟨hS, fun _ _ => ?_⟩
    refine y_thr rfl j_L_take_16 ?_
    refine y_astore_nR (ls' := [some _, some _, some _, some _]) rfl rfl rfl ?_
    refine y_iconst rfl ?_
    refine y_ireturn rfl rfl rfl ?_
    exact hE2 h_
  · refine ⟨hS, fun hB_ _ => ?_⟩
    refine y_ret1 ?_
    refine y_i2l rfl ?_
    refine y_putR rfl (ySh.t hS rfl) (ySh.n hS rfl) rfl (Nat.le_of_ble_eq_true rfl) rfl rfl ?_
    refine y_goto rfl j_L_take_19 ?_
    refine y_iconst rfl ?_
    refine y_ireturn rfl rfl rfl ?_
    exact hQ h_ _ _ p_0 p_1 p_2 p_3 p_4 hB_ _ rfl
theorem v_ruin (hS : ySh n tg R) (hC : yCI I) {x1 : Int32} (hE0 : ¬ (0 ≤ x1.toInt ∧ x1.toInt < (I 40 0).toInt) → Q (.inl (some (.int (Int32.ofInt 1)))) (n, tg, I, R) (c + 1) (s + 6)) (hE2 : (0 ≤ x1.toInt ∧ x1.toInt < (I 40 0).toInt) ∧ ¬ (I 44 x1.toInt.toNat).toInt = 0 → Q (.inl (some (.int (Int32.ofInt 2)))) (n, tg, I, R) (c + 1) (s + 6)) (hQa : (0 ≤ x1.toInt ∧ x1.toInt < (I 40 0).toInt) ∧ (I 44 x1.toInt.toNat).toInt = 0 ∧ ¬ (0 ≤ (I 47 x1.toInt.toNat).toInt ∧ (I 47 x1.toInt.toNat).toInt < (I 59 0).toInt) → ∀ (v : Int32) (I1 : Nat → Nat → Int32), yCI I1 → yFt I I1 → v = I 41 x1.toInt.toNat → yGc yTL I1 (upd2 (upd2 I 47 x1.toInt.toNat (Int32.ofInt (-1))) 44 x1.toInt.toNat (Int32.ofInt 1)) → I1 = (upd2 (upd2 I 47 x1.toInt.toNat (Int32.ofInt (-1))) 44 x1.toInt.toNat (Int32.ofInt 1)) → yKeep [(12, 9, 34), (12, 8, 34), (8, 0, 38), (10, 0, 40), (11, 0, 69), (5, 0, 77), (9, 0, 48), (6, 0, 59)] I I1 → ∀ R1 : Nat → Nat → Value, R1 = upd2 R 93 0 (.long v.toInt64) → Q (.inl (some (.int (Int32.ofInt 0)))) (n, tg, I1, R1) c s) (hQb : (0 ≤ x1.toInt ∧ x1.toInt < (I 40 0).toInt) ∧ (I 44 x1.toInt.toNat).toInt = 0 ∧ (0 ≤ (I 47 x1.toInt.toNat).toInt ∧ (I 47 x1.toInt.toNat).toInt < (I 59 0).toInt) → ∀ (v : Int32) (I1 : Nat → Nat → Int32), yCI I1 → yFt I I1 → v = I 41 x1.toInt.toNat → yGc yTL I1 (upd2 (upd2 (upd2 I 65 (I 47 x1.toInt.toNat).toInt.toNat (Int32.ofInt 1)) 47 x1.toInt.toNat (Int32.ofInt (-1))) 44 x1.toInt.toNat (Int32.ofInt 1)) → I1 = (upd2 (upd2 (upd2 I 65 (I 47 x1.toInt.toNat).toInt.toNat (Int32.ofInt 1)) 47 x1.toInt.toNat (Int32.ofInt (-1))) 44 x1.toInt.toNat (Int32.ofInt 1)) → yKeep [(12, 9, 34), (12, 8, 34), (8, 0, 38), (10, 0, 40), (11, 0, 69), (5, 0, 77), (9, 0, 48), (6, 0, 59)] I I1 → ∀ R1 : Nat → Nat → Value, R1 = upd2 R 93 0 (.long v.toInt64) → Q (.inl (some (.int (Int32.ofInt 0)))) (n, tg, I1, R1) c s) : yC 6 [.ref 34, .int x1, .ref 93] (n, tg, I, R) c s Q := by
  refine y_in (M := xm_L_ruin) (ls := [some _, some _, some _, none]) rfl rfl rfl ?_
  refine y_aload_n rfl rfl ?_
  refine y_aload_n rfl rfl ?_
  refine y_iload_n rfl rfl ?_
  refine y_virt rfl rfl rfl rfl rfl (ySh.t hS rfl) (ySh.n hS rfl) ?_
  refine yC.keep [(12, 9, 34), (12, 8, 34), (8, 0, 38), (10, 0, 40), (11, 0, 69), (5, 0, 77), (9, 0, 48), (6, 0, 59)] rfl rfl hS ?_
  refine g_ruin hS hC (fun h_ => ?_) (fun h_ => ?_) (fun h_ v_ I_ p_0 p_1 p_2 p_3 p_4 => ?_) (fun h_ v_ I_ p_0 p_1 p_2 p_3 p_4 => ?_)
  · refine ⟨hS, fun _ _ => ?_⟩
    refine y_thr rfl j_L_ruin_13 ?_
    refine y_astore_nR (ls' := [some _, some _, some _, some _]) rfl rfl rfl ?_
    refine y_iconst rfl ?_
    refine y_ireturn rfl rfl rfl ?_
    exact hE0 h_
  · refine ⟨hS, fun _ _ => ?_⟩
    refine y_thr rfl j_L_ruin_16 ?_
    refine y_astore_nR (ls' := [some _, some _, some _, some _]) rfl rfl rfl ?_
    refine y_iconst rfl ?_
    refine y_ireturn rfl rfl rfl ?_
    exact hE2 h_
  · refine ⟨hS, fun hB_ _ => ?_⟩
    refine y_ret1 ?_
    refine y_i2l rfl ?_
    refine y_putR rfl (ySh.t hS rfl) (ySh.n hS rfl) rfl (Nat.le_of_ble_eq_true rfl) rfl rfl ?_
    refine y_goto rfl j_L_ruin_19 ?_
    refine y_iconst rfl ?_
    refine y_ireturn rfl rfl rfl ?_
    exact hQa h_ _ _ p_0 p_1 p_2 p_3 p_4 hB_ _ rfl
  · refine ⟨hS, fun hB_ _ => ?_⟩
    refine y_ret1 ?_
    refine y_i2l rfl ?_
    refine y_putR rfl (ySh.t hS rfl) (ySh.n hS rfl) rfl (Nat.le_of_ble_eq_true rfl) rfl rfl ?_
    refine y_goto rfl j_L_ruin_19 ?_
    refine y_iconst rfl ?_
    refine y_ireturn rfl rfl rfl ?_
    exact hQb h_ _ _ p_0 p_1 p_2 p_3 p_4 hB_ _ rfl
theorem v_sell (hS : ySh n tg R) (hC : yCI I) {x1 x2 x3 x4 : Int32} (hE0 : ¬ ((0 ≤ x1.toInt ∧ x1.toInt < (I 40 0).toInt) ∧ (0 ≤ x2.toInt ∧ x2.toInt < (I 38 0).toInt)) → Q (.inl (some (.int (Int32.ofInt 1)))) (n, tg, I, R) (c + 1) (s + 6)) (hE1 : ((0 ≤ x1.toInt ∧ x1.toInt < (I 40 0).toInt) ∧ (0 ≤ x2.toInt ∧ x2.toInt < (I 38 0).toInt)) ∧ ¬ ((0 ≤ x3.toInt ∧ x3.toInt ≤ 99) ∧ (1 ≤ x4.toInt ∧ x4.toInt ≤ 12)) → Q (.inl (some (.int (Int32.ofInt 2)))) (n, tg, I, R) (c + 1) (s + 6)) (hE2 : ((0 ≤ x1.toInt ∧ x1.toInt < (I 40 0).toInt) ∧ (0 ≤ x2.toInt ∧ x2.toInt < (I 38 0).toInt)) ∧ ((0 ≤ x3.toInt ∧ x3.toInt ≤ 99) ∧ (1 ≤ x4.toInt ∧ x4.toInt ≤ 12)) ∧ ¬ ((I 48 0).toInt < 12 ∧ (I 47 x1.toInt.toNat).toInt = -1) → Q (.inl (some (.int (Int32.ofInt 3)))) (n, tg, I, R) (c + 1) (s + 6)) (hQa : ((0 ≤ x1.toInt ∧ x1.toInt < (I 40 0).toInt) ∧ (0 ≤ x2.toInt ∧ x2.toInt < (I 38 0).toInt)) ∧ ((0 ≤ x3.toInt ∧ x3.toInt ≤ 99) ∧ (1 ≤ x4.toInt ∧ x4.toInt ≤ 12)) ∧ ((I 48 0).toInt < 12 ∧ (I 47 x1.toInt.toNat).toInt = -1) → ∀ (v : Int32) (I1 : Nat → Nat → Int32) (ms : Int32), yCI I1 → yFt I I1 → ms.toInt = yMs (I 42 x1.toInt.toNat).toInt (I 43 x1.toInt.toNat).toInt (yBC (I 36 0)).toInt (I 44 x1.toInt.toNat).toInt (I 46 x1.toInt.toNat).toInt x2.toInt → v = I 48 0 → ms.toInt = 0 → yGc yTL I1 (upd2 (upd2 (upd2 (upd2 (upd2 (upd2 (upd2 (upd2 (upd2 (upd2 I 49 (I 48 0).toInt.toNat x1) 50 (I 48 0).toInt.toNat x2) 51 (I 48 0).toInt.toNat x3) 52 (I 48 0).toInt.toNat (I 45 x1.toInt.toNat + I 45 x1.toInt.toNat * x3 / Int32.ofInt 100)) 53 (I 48 0).toInt.toNat ms) 54 (I 48 0).toInt.toNat x4) 56 (I 48 0).toInt.toNat (I 34 8)) 48 0 (I 48 0 + Int32.ofInt 1)) 42 x1.toInt.toNat x2) 43 x1.toInt.toNat (Int32.ofInt 1)) → I1 = (upd2 (upd2 (upd2 (upd2 (upd2 (upd2 (upd2 (upd2 (upd2 (upd2 I 49 (I 48 0).toInt.toNat x1) 50 (I 48 0).toInt.toNat x2) 51 (I 48 0).toInt.toNat x3) 52 (I 48 0).toInt.toNat (I 45 x1.toInt.toNat + I 45 x1.toInt.toNat * x3 / Int32.ofInt 100)) 53 (I 48 0).toInt.toNat ms) 54 (I 48 0).toInt.toNat x4) 56 (I 48 0).toInt.toNat (I 34 8)) 48 0 (I 48 0 + Int32.ofInt 1)) 42 x1.toInt.toNat x2) 43 x1.toInt.toNat (Int32.ofInt 1)) → yKeep [(12, 9, 34), (12, 8, 34), (8, 0, 38), (10, 0, 40), (11, 0, 69), (5, 0, 77), (6, 0, 59)] I I1 → ∀ R1 : Nat → Nat → Value, R1 = upd2 R 93 0 (.long v.toInt64) → Q (.inl (some (.int (Int32.ofInt 0)))) (n, tg, I1, R1) c s) (hQb : ((0 ≤ x1.toInt ∧ x1.toInt < (I 40 0).toInt) ∧ (0 ≤ x2.toInt ∧ x2.toInt < (I 38 0).toInt)) ∧ ((0 ≤ x3.toInt ∧ x3.toInt ≤ 99) ∧ (1 ≤ x4.toInt ∧ x4.toInt ≤ 12)) ∧ ((I 48 0).toInt < 12 ∧ (I 47 x1.toInt.toNat).toInt = -1) → ∀ (v : Int32) (I1 : Nat → Nat → Int32) (ms : Int32), yCI I1 → yFt I I1 → ms.toInt = yMs (I 42 x1.toInt.toNat).toInt (I 43 x1.toInt.toNat).toInt (yBC (I 36 0)).toInt (I 44 x1.toInt.toNat).toInt (I 46 x1.toInt.toNat).toInt x2.toInt → v = I 48 0 → ¬ ms.toInt = 0 → yGc yTL I1 (upd2 (upd2 (upd2 (upd2 (upd2 (upd2 (upd2 (upd2 I 49 (I 48 0).toInt.toNat x1) 50 (I 48 0).toInt.toNat x2) 51 (I 48 0).toInt.toNat x3) 52 (I 48 0).toInt.toNat (I 45 x1.toInt.toNat + I 45 x1.toInt.toNat * x3 / Int32.ofInt 100)) 53 (I 48 0).toInt.toNat ms) 54 (I 48 0).toInt.toNat x4) 56 (I 48 0).toInt.toNat (I 34 8)) 48 0 (I 48 0 + Int32.ofInt 1)) → I1 = (upd2 (upd2 (upd2 (upd2 (upd2 (upd2 (upd2 (upd2 I 49 (I 48 0).toInt.toNat x1) 50 (I 48 0).toInt.toNat x2) 51 (I 48 0).toInt.toNat x3) 52 (I 48 0).toInt.toNat (I 45 x1.toInt.toNat + I 45 x1.toInt.toNat * x3 / Int32.ofInt 100)) 53 (I 48 0).toInt.toNat ms) 54 (I 48 0).toInt.toNat x4) 56 (I 48 0).toInt.toNat (I 34 8)) 48 0 (I 48 0 + Int32.ofInt 1)) → yKeep [(12, 9, 34), (12, 8, 34), (8, 0, 38), (10, 0, 40), (11, 0, 69), (5, 0, 77), (6, 0, 59)] I I1 → ∀ R1 : Nat → Nat → Value, R1 = upd2 R 93 0 (.long v.toInt64) → Q (.inl (some (.int (Int32.ofInt 0)))) (n, tg, I1, R1) c s) : yC 7 [.ref 34, .int x1, .int x2, .int x3, .int x4, .ref 93] (n, tg, I, R) c s Q := by
  refine y_in (M := xm_L_sell) (ls := [some _, some _, some _, some _, some _, some _, none]) rfl rfl rfl ?_
  refine y_aload rfl rfl ?_
  refine y_aload_n rfl rfl ?_
  refine y_iload_n rfl rfl ?_
  refine y_iload_n rfl rfl ?_
  refine y_iload_n rfl rfl ?_
  refine y_iload rfl rfl ?_
  refine y_virt rfl rfl rfl rfl rfl (ySh.t hS rfl) (ySh.n hS rfl) ?_
  refine yC.keep [(12, 9, 34), (12, 8, 34), (8, 0, 38), (10, 0, 40), (11, 0, 69), (5, 0, 77), (6, 0, 59)] rfl rfl hS ?_
  refine g_sell hS hC (fun h_ => ?_) (fun h_ => ?_) (fun h_ => ?_) (fun h_ v_ I_ x_0 p_0 p_1 p_2 p_3 p_4 p_5 p_6 => ?_) (fun h_ v_ I_ x_0 p_0 p_1 p_2 p_3 p_4 p_5 p_6 => ?_)
  · refine ⟨hS, fun _ _ => ?_⟩
    refine y_thr rfl j_L_sell_18 ?_
    refine y_astoreR (ls' := [some _, some _, some _, some _, some _, some _, some _]) rfl rfl rfl ?_
    refine y_iconst rfl ?_
    refine y_ireturn rfl rfl rfl ?_
    exact hE0 h_
  · refine ⟨hS, fun _ _ => ?_⟩
    refine y_thr rfl j_L_sell_22 ?_
    refine y_astoreR (ls' := [some _, some _, some _, some _, some _, some _, some _]) rfl rfl rfl ?_
    refine y_iconst rfl ?_
    refine y_ireturn rfl rfl rfl ?_
    exact hE1 h_
  · refine ⟨hS, fun _ _ => ?_⟩
    refine y_thr rfl j_L_sell_26 ?_
    refine y_astoreR (ls' := [some _, some _, some _, some _, some _, some _, some _]) rfl rfl rfl ?_
    refine y_iconst rfl ?_
    refine y_ireturn rfl rfl rfl ?_
    exact hE2 h_
  · refine ⟨hS, fun hB_ _ => ?_⟩
    refine y_ret1 ?_
    refine y_i2l rfl ?_
    refine y_putR rfl (ySh.t hS rfl) (ySh.n hS rfl) rfl (Nat.le_of_ble_eq_true rfl) rfl rfl ?_
    refine y_goto rfl j_L_sell_30 ?_
    refine y_iconst rfl ?_
    refine y_ireturn rfl rfl rfl ?_
    exact hQa h_ _ _ _ p_0 p_1 p_2 p_3 p_4 p_5 p_6 hB_ _ rfl
  · refine ⟨hS, fun hB_ _ => ?_⟩
    refine y_ret1 ?_
    refine y_i2l rfl ?_
    refine y_putR rfl (ySh.t hS rfl) (ySh.n hS rfl) rfl (Nat.le_of_ble_eq_true rfl) rfl rfl ?_
    refine y_goto rfl j_L_sell_30 ?_
    refine y_iconst rfl ?_
    refine y_ireturn rfl rfl rfl ?_
    exact hQb h_ _ _ _ p_0 p_1 p_2 p_3 p_4 p_5 p_6 hB_ _ rfl
theorem v_lease (hS : ySh n tg R) (hC : yCI I) {x1 x2 x3 x4 : Int32} (hE0 : ¬ ((0 ≤ x1.toInt ∧ x1.toInt < (I 40 0).toInt) ∧ (0 ≤ x2.toInt ∧ x2.toInt < (I 38 0).toInt)) → Q (.inl (some (.int (Int32.ofInt 1)))) (n, tg, I, R) (c + 1) (s + 6)) (hE1 : ((0 ≤ x1.toInt ∧ x1.toInt < (I 40 0).toInt) ∧ (0 ≤ x2.toInt ∧ x2.toInt < (I 38 0).toInt)) ∧ ¬ ((0 ≤ x3.toInt ∧ x3.toInt ≤ 99) ∧ (0 ≤ x4.toInt ∧ x4.toInt ≤ 99) ∧ x3.toInt ≤ x4.toInt) → Q (.inl (some (.int (Int32.ofInt 2)))) (n, tg, I, R) (c + 1) (s + 6)) (hE2 : ((0 ≤ x1.toInt ∧ x1.toInt < (I 40 0).toInt) ∧ (0 ≤ x2.toInt ∧ x2.toInt < (I 38 0).toInt)) ∧ ((0 ≤ x3.toInt ∧ x3.toInt ≤ 99) ∧ (0 ≤ x4.toInt ∧ x4.toInt ≤ 99) ∧ x3.toInt ≤ x4.toInt) ∧ ¬ ((I 59 0).toInt < 8 ∧ ((I 42 x1.toInt.toNat).toInt = 8 ∧ ¬ (I 43 x1.toInt.toNat).toInt = 0 ∧ (I 44 x1.toInt.toNat).toInt = 0 ∧ (I 47 x1.toInt.toNat).toInt = -1 ∧ (¬ (I 46 x1.toInt.toNat).toInt = x2.toInt ∨ 3 ≤ (yBC (I 36 3)).toInt))) → Q (.inl (some (.int (Int32.ofInt 3)))) (n, tg, I, R) (c + 1) (s + 6)) (hQ : ((0 ≤ x1.toInt ∧ x1.toInt < (I 40 0).toInt) ∧ (0 ≤ x2.toInt ∧ x2.toInt < (I 38 0).toInt)) ∧ ((0 ≤ x3.toInt ∧ x3.toInt ≤ 99) ∧ (0 ≤ x4.toInt ∧ x4.toInt ≤ 99) ∧ x3.toInt ≤ x4.toInt) ∧ ((I 59 0).toInt < 8 ∧ ((I 42 x1.toInt.toNat).toInt = 8 ∧ ¬ (I 43 x1.toInt.toNat).toInt = 0 ∧ (I 44 x1.toInt.toNat).toInt = 0 ∧ (I 47 x1.toInt.toNat).toInt = -1 ∧ (¬ (I 46 x1.toInt.toNat).toInt = x2.toInt ∨ 3 ≤ (yBC (I 36 3)).toInt))) → ∀ (v : Int32) (I1 : Nat → Nat → Int32), yCI I1 → yFt I I1 → v = I 59 0 → yGc yTL I1 (upd2 (upd2 (upd2 (upd2 (upd2 (upd2 (upd2 (upd2 I 60 (I 59 0).toInt.toNat x1) 61 (I 59 0).toInt.toNat (I 41 x1.toInt.toNat)) 62 (I 59 0).toInt.toNat x2) 63 (I 59 0).toInt.toNat x3) 64 (I 59 0).toInt.toNat x4) 66 (I 59 0).toInt.toNat (I 34 8 + Int32.ofInt 30)) 59 0 (I 59 0 + Int32.ofInt 1)) 47 x1.toInt.toNat (I 59 0)) → I1 = (upd2 (upd2 (upd2 (upd2 (upd2 (upd2 (upd2 (upd2 I 60 (I 59 0).toInt.toNat x1) 61 (I 59 0).toInt.toNat (I 41 x1.toInt.toNat)) 62 (I 59 0).toInt.toNat x2) 63 (I 59 0).toInt.toNat x3) 64 (I 59 0).toInt.toNat x4) 66 (I 59 0).toInt.toNat (I 34 8 + Int32.ofInt 30)) 59 0 (I 59 0 + Int32.ofInt 1)) 47 x1.toInt.toNat (I 59 0)) → yKeep [(12, 9, 34), (12, 8, 34), (8, 0, 38), (10, 0, 40), (11, 0, 69), (5, 0, 77), (9, 0, 48)] I I1 → ∀ R1 : Nat → Nat → Value, R1 = upd2 R 93 0 (.long v.toInt64) → Q (.inl (some (.int (Int32.ofInt 0)))) (n, tg, I1, R1) c s) : yC 10 [.ref 34, .int x1, .int x2, .int x3, .int x4, .ref 93] (n, tg, I, R) c s Q := by
  refine y_in (M := xm_L_lease) (ls := [some _, some _, some _, some _, some _, some _, none]) rfl rfl rfl ?_
  refine y_aload rfl rfl ?_
  refine y_aload_n rfl rfl ?_
  refine y_iload_n rfl rfl ?_
  refine y_iload_n rfl rfl ?_
  refine y_iload_n rfl rfl ?_
  refine y_iload rfl rfl ?_
  refine y_virt rfl rfl rfl rfl rfl (ySh.t hS rfl) (ySh.n hS rfl) ?_
  refine yC.keep [(12, 9, 34), (12, 8, 34), (8, 0, 38), (10, 0, 40), (11, 0, 69), (5, 0, 77), (9, 0, 48)] rfl rfl hS ?_
  refine g_lease hS hC (fun h_ => ?_) (fun h_ => ?_) (fun h_ => ?_) (fun h_ v_ I_ p_0 p_1 p_2 p_3 p_4 => ?_)
  · refine ⟨hS, fun _ _ => ?_⟩
    refine y_thr rfl j_L_lease_18 ?_
    refine y_astoreR (ls' := [some _, some _, some _, some _, some _, some _, some _]) rfl rfl rfl ?_
    refine y_iconst rfl ?_
    refine y_ireturn rfl rfl rfl ?_
    exact hE0 h_
  · refine ⟨hS, fun _ _ => ?_⟩
    refine y_thr rfl j_L_lease_22 ?_
    refine y_astoreR (ls' := [some _, some _, some _, some _, some _, some _, some _]) rfl rfl rfl ?_
    refine y_iconst rfl ?_
    refine y_ireturn rfl rfl rfl ?_
    exact hE1 h_
  · refine ⟨hS, fun _ _ => ?_⟩
    refine y_thr rfl j_L_lease_26 ?_
    refine y_astoreR (ls' := [some _, some _, some _, some _, some _, some _, some _]) rfl rfl rfl ?_
    refine y_iconst rfl ?_
    refine y_ireturn rfl rfl rfl ?_
    exact hE2 h_
  · refine ⟨hS, fun hB_ _ => ?_⟩
    refine y_ret1 ?_
    refine y_i2l rfl ?_
    refine y_putR rfl (ySh.t hS rfl) (ySh.n hS rfl) rfl (Nat.le_of_ble_eq_true rfl) rfl rfl ?_
    refine y_goto rfl j_L_lease_30 ?_
    refine y_iconst rfl ?_
    refine y_ireturn rfl rfl rfl ?_
    exact hQ h_ _ _ p_0 p_1 p_2 p_3 p_4 hB_ _ rfl
theorem v_end (hS : ySh n tg R) (hC : yCI I) {x1 x2 : Int32} (hT : (0 ≤ x1.toInt ∧ x1.toInt < (I 59 0).toInt) ∧ (I 65 x1.toInt.toNat).toInt = 0 → 0 ≤ (I 60 x1.toInt.toNat).toInt ∧ (I 60 x1.toInt.toNat).toInt < (I 40 0).toInt) (hE0 : ¬ (0 ≤ x1.toInt ∧ x1.toInt < (I 59 0).toInt) → Q (.inl (some (.int (Int32.ofInt 1)))) (n, tg, I, R) (c + 1) (s + 6)) (hE2 : (0 ≤ x1.toInt ∧ x1.toInt < (I 59 0).toInt) ∧ ¬ (I 65 x1.toInt.toNat).toInt = 0 → Q (.inl (some (.int (Int32.ofInt 2)))) (n, tg, I, R) (c + 1) (s + 6)) (hQa : (0 ≤ x1.toInt ∧ x1.toInt < (I 59 0).toInt) ∧ (I 65 x1.toInt.toNat).toInt = 0 ∧ x2.toInt = 0 → ∀ (v : Int32) (I1 : Nat → Nat → Int32), yCI I1 → yFt I I1 → v = I 67 x1.toInt.toNat → yGc yTL I1 (upd2 (upd2 I 65 x1.toInt.toNat (Int32.ofInt 1)) 47 (I 60 x1.toInt.toNat).toInt.toNat (Int32.ofInt (-1))) → I1 = (upd2 (upd2 I 65 x1.toInt.toNat (Int32.ofInt 1)) 47 (I 60 x1.toInt.toNat).toInt.toNat (Int32.ofInt (-1))) → yKeep [(12, 9, 34), (12, 8, 34), (8, 0, 38), (10, 0, 40), (11, 0, 69), (5, 0, 77), (9, 0, 48), (6, 0, 59)] I I1 → ∀ R1 : Nat → Nat → Value, R1 = upd2 R 93 0 (.long v.toInt64) → Q (.inl (some (.int (Int32.ofInt 0)))) (n, tg, I1, R1) c s) (hQb : (0 ≤ x1.toInt ∧ x1.toInt < (I 59 0).toInt) ∧ (I 65 x1.toInt.toNat).toInt = 0 ∧ ¬ x2.toInt = 0 → ∀ (v : Int32) (I1 : Nat → Nat → Int32), yCI I1 → yFt I I1 → v = I 67 x1.toInt.toNat → yGc yTL I1 (upd2 (upd2 (upd2 (upd2 I 65 x1.toInt.toNat (Int32.ofInt 1)) 47 (I 60 x1.toInt.toNat).toInt.toNat (Int32.ofInt (-1))) 42 (I 60 x1.toInt.toNat).toInt.toNat (I 62 x1.toInt.toNat)) 43 (I 60 x1.toInt.toNat).toInt.toNat (Int32.ofInt 1)) → I1 = (upd2 (upd2 (upd2 (upd2 I 65 x1.toInt.toNat (Int32.ofInt 1)) 47 (I 60 x1.toInt.toNat).toInt.toNat (Int32.ofInt (-1))) 42 (I 60 x1.toInt.toNat).toInt.toNat (I 62 x1.toInt.toNat)) 43 (I 60 x1.toInt.toNat).toInt.toNat (Int32.ofInt 1)) → yKeep [(12, 9, 34), (12, 8, 34), (8, 0, 38), (10, 0, 40), (11, 0, 69), (5, 0, 77), (9, 0, 48), (6, 0, 59)] I I1 → ∀ R1 : Nat → Nat → Value, R1 = upd2 R 93 0 (.long v.toInt64) → Q (.inl (some (.int (Int32.ofInt 0)))) (n, tg, I1, R1) c s) : yC 11 [.ref 34, .int x1, .int x2, .ref 93] (n, tg, I, R) c s Q := by
  refine y_in (M := xm_L_end) (ls := [some _, some _, some _, some _, none]) rfl rfl rfl ?_
  refine y_aload_n rfl rfl ?_
  refine y_aload_n rfl rfl ?_
  refine y_iload_n rfl rfl ?_
  refine y_iload_n rfl rfl ?_
  refine y_virt rfl rfl rfl rfl rfl (ySh.t hS rfl) (ySh.n hS rfl) ?_
  refine yC.keep [(12, 9, 34), (12, 8, 34), (8, 0, 38), (10, 0, 40), (11, 0, 69), (5, 0, 77), (9, 0, 48), (6, 0, 59)] rfl rfl hS ?_
  refine g_end hS hC hT (fun h_ => ?_) (fun h_ => ?_) (fun h_ v_ I_ p_0 p_1 p_2 p_3 p_4 => ?_) (fun h_ v_ I_ p_0 p_1 p_2 p_3 p_4 => ?_)
  · refine ⟨hS, fun _ _ => ?_⟩
    refine y_thr rfl j_L_end_14 ?_
    refine y_astoreR (ls' := [some _, some _, some _, some _, some _]) rfl rfl rfl ?_
    refine y_iconst rfl ?_
    refine y_ireturn rfl rfl rfl ?_
    exact hE0 h_
  · refine ⟨hS, fun _ _ => ?_⟩
    refine y_thr rfl j_L_end_18 ?_
    refine y_astoreR (ls' := [some _, some _, some _, some _, some _]) rfl rfl rfl ?_
    refine y_iconst rfl ?_
    refine y_ireturn rfl rfl rfl ?_
    exact hE2 h_
  · refine ⟨hS, fun hB_ _ => ?_⟩
    refine y_ret1 ?_
    refine y_i2l rfl ?_
    refine y_putR rfl (ySh.t hS rfl) (ySh.n hS rfl) rfl (Nat.le_of_ble_eq_true rfl) rfl rfl ?_
    refine y_goto rfl j_L_end_22 ?_
    refine y_iconst rfl ?_
    refine y_ireturn rfl rfl rfl ?_
    exact hQa h_ _ _ p_0 p_1 p_2 p_3 p_4 hB_ _ rfl
  · refine ⟨hS, fun hB_ _ => ?_⟩
    refine y_ret1 ?_
    refine y_i2l rfl ?_
    refine y_putR rfl (ySh.t hS rfl) (ySh.n hS rfl) rfl (Nat.le_of_ble_eq_true rfl) rfl rfl ?_
    refine y_goto rfl j_L_end_22 ?_
    refine y_iconst rfl ?_
    refine y_ireturn rfl rfl rfl ?_
    exact hQb h_ _ _ p_0 p_1 p_2 p_3 p_4 hB_ _ rfl
theorem v_pay (hS : ySh n tg R) (hC : yCI I) {x1 : Int32} (hT : (0 ≤ x1.toInt ∧ x1.toInt < (I 48 0).toInt) → ((1 ≤ (I 54 x1.toInt.toNat).toInt ∧ (I 54 x1.toInt.toNat).toInt ≤ 12 ∧ 0 ≤ (I 55 x1.toInt.toNat).toInt ∧ (I 55 x1.toInt.toNat).toInt ≤ 12) ∧ 0 ≤ (I 51 x1.toInt.toNat).toInt ∧ (I 51 x1.toInt.toNat).toInt ≤ 99 ∧ 0 ≤ (I 52 x1.toInt.toNat).toInt ∧ (I 52 x1.toInt.toNat).toInt ≤ 2000)) (hE0 : ¬ (0 ≤ x1.toInt ∧ x1.toInt < (I 48 0).toInt) → Q (.inl (some (.int (Int32.ofInt 1)))) (n, tg, I, R) (c + 1) (s + 6)) (hE2 : (0 ≤ x1.toInt ∧ x1.toInt < (I 48 0).toInt) ∧ ¬ ((I 53 x1.toInt.toNat).toInt = 0 ∧ (I 55 x1.toInt.toNat).toInt < (I 54 x1.toInt.toNat).toInt) → Q (.inl (some (.int (Int32.ofInt 2)))) (n, tg, I, R) (c + 1) (s + 6)) (hQ : (0 ≤ x1.toInt ∧ x1.toInt < (I 48 0).toInt) ∧ ((I 53 x1.toInt.toNat).toInt = 0 ∧ (I 55 x1.toInt.toNat).toInt < (I 54 x1.toInt.toNat).toInt) → ∀ (v : Int32) (I1 : Nat → Nat → Int32) (pt : Int32) (fe : Int32) (re : Int32), yCI I1 → yFt I I1 → pt = yPa (I 52 x1.toInt.toNat) (I 54 x1.toInt.toNat) (I 55 x1.toInt.toNat) → fe = yFe (I 34 8 - (I 56 x1.toInt.toNat + Int32.ofInt 30 * (I 55 x1.toInt.toNat + Int32.ofInt 1))) pt (yBC (I 36 2)).toInt → re = yRb (I 34 8 - (I 56 x1.toInt.toNat + Int32.ofInt 30 * (I 55 x1.toInt.toNat + Int32.ofInt 1))) pt (I 51 x1.toInt.toNat) (yBC (I 36 1)).toInt → v = pt - re → yGc yTL I1 (upd2 (upd2 (upd2 I 55 x1.toInt.toNat (I 55 x1.toInt.toNat + Int32.ofInt 1)) 57 x1.toInt.toNat (I 57 x1.toInt.toNat + fe)) 58 x1.toInt.toNat (I 58 x1.toInt.toNat + re)) → I1 = (upd2 (upd2 (upd2 (upd2 (yAddC (yAddC (yAddC I (I 50 x1.toInt.toNat) (-(pt - re))) (Int32.ofInt 8) (pt - re)) (I 50 x1.toInt.toNat) (-fe)) 38 1 (I 38 1 + fe)) 55 x1.toInt.toNat (I 55 x1.toInt.toNat + Int32.ofInt 1)) 57 x1.toInt.toNat (I 57 x1.toInt.toNat + fe)) 58 x1.toInt.toNat (I 58 x1.toInt.toNat + re)) → yKeep [(12, 9, 34), (12, 8, 34), (8, 0, 38), (10, 0, 40), (11, 0, 69), (5, 0, 77), (9, 0, 48), (6, 0, 59)] I I1 → ∀ R1 : Nat → Nat → Value, R1 = upd2 R 93 0 (.long v.toInt64) → Q (.inl (some (.int (Int32.ofInt 0)))) (n, tg, I1, R1) c s) : yC 8 [.ref 34, .int x1, .ref 93] (n, tg, I, R) c s Q := by
  refine y_in (M := xm_L_pay) (ls := [some _, some _, some _, none]) rfl rfl rfl ?_
  refine y_aload_n rfl rfl ?_
  refine y_aload_n rfl rfl ?_
  refine y_iload_n rfl rfl ?_
  refine y_virt rfl rfl rfl rfl rfl (ySh.t hS rfl) (ySh.n hS rfl) ?_
  refine yC.keep [(12, 9, 34), (12, 8, 34), (8, 0, 38), (10, 0, 40), (11, 0, 69), (5, 0, 77), (9, 0, 48), (6, 0, 59)] rfl rfl hS ?_
  refine g_pay hS hC hT (fun h_ => ?_) (fun h_ => ?_) (fun h_ v_ I_ x_0 x_1 x_2 p_0 p_1 p_2 p_3 p_4 p_5 p_6 p_7 => ?_)
  · refine ⟨hS, fun _ _ => ?_⟩
    refine y_thr rfl j_L_pay_13 ?_
    refine y_astore_nR (ls' := [some _, some _, some _, some _]) rfl rfl rfl ?_
    refine y_iconst rfl ?_
    refine y_ireturn rfl rfl rfl ?_
    exact hE0 h_
  · refine ⟨hS, fun _ _ => ?_⟩
    refine y_thr rfl j_L_pay_16 ?_
    refine y_astore_nR (ls' := [some _, some _, some _, some _]) rfl rfl rfl ?_
    refine y_iconst rfl ?_
    refine y_ireturn rfl rfl rfl ?_
    exact hE2 h_
  · refine ⟨hS, fun hB_ _ => ?_⟩
    refine y_ret1 ?_
    refine y_i2l rfl ?_
    refine y_putR rfl (ySh.t hS rfl) (ySh.n hS rfl) rfl (Nat.le_of_ble_eq_true rfl) rfl rfl ?_
    refine y_goto rfl j_L_pay_19 ?_
    refine y_iconst rfl ?_
    refine y_ireturn rfl rfl rfl ?_
    exact hQ h_ _ _ _ _ _ p_0 p_1 p_2 p_3 p_4 p_5 p_6 p_7 hB_ _ rfl
theorem v_pass (hS : ySh n tg R) (hC : yCI I) {x1 : Int32} (hE1 : ¬ (1 ≤ x1.toInt ∧ x1.toInt ≤ 400) → Q (.inl (some (.int (Int32.ofInt 1)))) (n, tg, I, R) (c + 1) (s + 6)) (hE2 : (1 ≤ x1.toInt ∧ x1.toInt ≤ 400) ∧ 4000 < (I 34 8).toInt + x1.toInt → Q (.inl (some (.int (Int32.ofInt 2)))) (n, tg, I, R) (c + 1) (s + 6)) (hQ : (1 ≤ x1.toInt ∧ x1.toInt ≤ 400) ∧ (I 34 8).toInt + x1.toInt ≤ 4000 → ∀ (v : Int32) (I1 : Nat → Nat → Int32), yCI I1 → yFt I I1 → v.toInt = (I 34 8).toInt + x1.toInt → I1 = yRec yDy I x1.toInt.toNat → yKeep [(12, 9, 34), (8, 0, 38), (10, 0, 40), (11, 0, 69), (5, 0, 77), (9, 0, 48), (6, 0, 59)] I I1 → ∀ R1 : Nat → Nat → Value, R1 = upd2 R 93 0 (.long v.toInt64) → Q (.inl (some (.int (Int32.ofInt 0)))) (n, tg, I1, R1) c s) : yC 21 [.ref 34, .int x1, .ref 93] (n, tg, I, R) c s Q := by
  refine y_in (M := xm_L_pass) (ls := [some _, some _, some _, none]) rfl rfl rfl ?_
  refine y_aload_n rfl rfl ?_
  refine y_aload_n rfl rfl ?_
  refine y_iload_n rfl rfl ?_
  refine y_virt rfl rfl rfl rfl rfl (ySh.t hS rfl) (ySh.n hS rfl) ?_
  refine yC.keep [(12, 9, 34), (8, 0, 38), (10, 0, 40), (11, 0, 69), (5, 0, 77), (9, 0, 48), (6, 0, 59)] rfl rfl hS ?_
  refine g_pass hS hC (fun h_ => ?_) (fun h_ => ?_) (fun h_ v_ I_ p_0 p_1 p_2 p_3 => ?_)
  · refine ⟨hS, fun _ _ => ?_⟩
    refine y_thr rfl j_L_pass_13 ?_
    refine y_astore_nR (ls' := [some _, some _, some _, some _]) rfl rfl rfl ?_
    refine y_iconst rfl ?_
    refine y_ireturn rfl rfl rfl ?_
    exact hE1 h_
  · refine ⟨hS, fun _ _ => ?_⟩
    refine y_thr rfl j_L_pass_16 ?_
    refine y_astore_nR (ls' := [some _, some _, some _, some _]) rfl rfl rfl ?_
    refine y_iconst rfl ?_
    refine y_ireturn rfl rfl rfl ?_
    exact hE2 h_
  · refine ⟨hS, fun hB_ _ => ?_⟩
    refine y_ret1 ?_
    refine y_i2l rfl ?_
    refine y_putR rfl (ySh.t hS rfl) (ySh.n hS rfl) rfl (Nat.le_of_ble_eq_true rfl) rfl rfl ?_
    refine y_goto rfl j_L_pass_19 ?_
    refine y_iconst rfl ?_
    refine y_ireturn rfl rfl rfl ?_
    exact hQ h_ _ _ p_0 p_1 p_2 p_3 hB_ _ rfl
end YUG
