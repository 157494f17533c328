theorem J_getsN {l : Launch} {y : fr_M} {I : List Nat} {v : fr_V} {u : fr_U} {Q : Option Value → fr_V → fr_U → Prop} {pc : Nat} {lv : List (Nat × Value)} {st : List Value} {idx : Nat} {C9 n9 d9 host : String} {x : Value} (dd : decode y.2.1 pc = .ok (.getstatic idx, 3)) (hw : ∀ U : State, fr_N U → va_Nw (.fieldLinkNest y.1.cls idx C9 n9 d9 host) U) (hz : ∀ (L : Nat → Nat) (A : Nat → Prop) (U : State) (H : Heap), fr_X L A U H → va_Z C9 n9 d9 (cv L x) A U H) (kk : J l y I v u (pc + 3) lv (x :: st) Q) : J l y I v u pc lv st Q := by
  intro L cA D p e s m args below meth c H locs ls C hP hD hS hl
  have hX := C.2.2.2.2.2.2.2.1
  exact va_getsN C.1 C.2.1 (hz L _ s s.heap hX) hS C.2.2.2.2.1 (va_Nw.use rfl (hw s hX.2.2.2.2.2.2.2.2.2)) (fun _ h9 => h9) dd (kk L cA D p e s m args below meth c H locs ls C hP hD hS hl)
def f_setting10 (v : fr_V) (x1 : Int32) : Int32 := if (v 13 x1.toNatClampNeg) = (-1) then fr_us x1.toNatClampNeg else v 13 x1.toNatClampNeg
theorem k_X0_setting10 {l : Launch} {I : List Nat} (hI : fr_I I) (v : fr_V) (u : fr_U) (x1 : Int32) (h1 : vp_in x1 4) : Con l mX0_setting I v u [.ref 10, .int x1] (QI v u (fun a => a = f_setting10 v x1)) := by
  refine Con.of (by decide) (Nat.le_of_ble_eq_true rfl) ?_
  show J l mX0_setting I v u 0 [(0, .ref 10), (1, .int x1)] [] _
  refine J_aload_n dX0_setting_0 rfl 0 rfl ?_
  refine J_getr (ci := 0) (j := 2) (t := 13) dX0_setting_1 fl_X0_21 (i10 hI) rfl rfl rfl ?_
  refine J_iload_n dX0_setting_4 rfl 1 rfl ?_
  refine J_iale (x := v 13 x1.toNatClampNeg) dX0_setting_5 (i13 hI) rfl (by first | assumption | exact vp_in_nI (by omega) (by omega)) rfl ?_
  refine J_iconst (x := (-1)) dX0_setting_6 (by decide) ?_
  refine J_icmp_ne (tgt := 18) dX0_setting_7 (by decide) (fun c1 => ?_) (fun c1 => ?_)
  · refine J_aload_n dX0_setting_18 rfl 0 rfl ?_
    refine J_getr (ci := 0) (j := 2) (t := 13) dX0_setting_19 fl_X0_21 (i10 hI) rfl rfl rfl ?_
    refine J_iload_n dX0_setting_22 rfl 1 rfl ?_
    refine J_iale (x := v 13 x1.toNatClampNeg) dX0_setting_23 (i13 hI) rfl (by first | assumption | exact vp_in_nI (by omega) (by omega)) rfl ?_
    exact J_iret dX0_setting_24 rfl ⟨_, rfl, rfl, rfl, by unfold f_setting10; rw [if_neg c1]⟩
  · refine J_getsN (x := .ref 3200) dX0_setting_10 (fun U h => h.2.1) x_us ?_
    refine J_iload_n dX0_setting_13 rfl 1 rfl ?_
    refine J_tald dX0_setting_14 (by first | assumption | exact vp_in_nI (by omega) (by omega)) ?_
    refine J_goto (tgt := 24) dX0_setting_15 (by decide) ?_
    exact J_iret dX0_setting_24 rfl ⟨_, rfl, rfl, rfl, by unfold f_setting10; rw [if_pos c1]⟩
def f_setting20 (v : fr_V) (x1 : Int32) : Int32 := if (v 23 x1.toNatClampNeg) = (-1) then fr_us x1.toNatClampNeg else v 23 x1.toNatClampNeg
theorem k_X0_setting20 {l : Launch} {I : List Nat} (hI : fr_I I) (v : fr_V) (u : fr_U) (x1 : Int32) (h1 : vp_in x1 4) : Con l mX0_setting I v u [.ref 20, .int x1] (QI v u (fun a => a = f_setting20 v x1)) := by
  refine Con.of (by decide) (Nat.le_of_ble_eq_true rfl) ?_
  show J l mX0_setting I v u 0 [(0, .ref 20), (1, .int x1)] [] _
  refine J_aload_n dX0_setting_0 rfl 0 rfl ?_
  refine J_getr (ci := 0) (j := 2) (t := 23) dX0_setting_1 fl_X0_21 (i20 hI) rfl rfl rfl ?_
  refine J_iload_n dX0_setting_4 rfl 1 rfl ?_
  refine J_iale (x := v 23 x1.toNatClampNeg) dX0_setting_5 (i23 hI) rfl (by first | assumption | exact vp_in_nI (by omega) (by omega)) rfl ?_
  refine J_iconst (x := (-1)) dX0_setting_6 (by decide) ?_
  refine J_icmp_ne (tgt := 18) dX0_setting_7 (by decide) (fun c1 => ?_) (fun c1 => ?_)
  · refine J_aload_n dX0_setting_18 rfl 0 rfl ?_
    refine J_getr (ci := 0) (j := 2) (t := 23) dX0_setting_19 fl_X0_21 (i20 hI) rfl rfl rfl ?_
    refine J_iload_n dX0_setting_22 rfl 1 rfl ?_
    refine J_iale (x := v 23 x1.toNatClampNeg) dX0_setting_23 (i23 hI) rfl (by first | assumption | exact vp_in_nI (by omega) (by omega)) rfl ?_
    exact J_iret dX0_setting_24 rfl ⟨_, rfl, rfl, rfl, by unfold f_setting20; rw [if_neg c1]⟩
  · refine J_getsN (x := .ref 3200) dX0_setting_10 (fun U h => h.2.1) x_us ?_
    refine J_iload_n dX0_setting_13 rfl 1 rfl ?_
    refine J_tald dX0_setting_14 (by first | assumption | exact vp_in_nI (by omega) (by omega)) ?_
    refine J_goto (tgt := 24) dX0_setting_15 (by decide) ?_
    exact J_iret dX0_setting_24 rfl ⟨_, rfl, rfl, rfl, by unfold f_setting20; rw [if_pos c1]⟩
def f_clear10 (v : fr_V) : fr_V := upA (up2 v 10 1 0) 13 (fl (-1) (v 13) 4)
theorem k_X0_clear10 {l : Launch} {I : List Nat} (hI : fr_I I) (v : fr_V) (u : fr_U) : Con l mX0_clear I v u [.ref 10] (QN u (fun a => a = f_clear10 v)) := by
  refine Con.of (by decide) (Nat.le_of_ble_eq_true rfl) ?_
  show J l mX0_clear I v u 0 [(0, .ref 10)] [] _
  refine J_aload_n dX0_clear_0 rfl 0 rfl ?_
  refine J_iconst (x := 0) dX0_clear_1 (by decide) ?_
  refine J_puti (ci := 0) (j := 1) dX0_clear_2 fl_X0_28 (i10 hI) rfl rfl (fun q h => by cases h; rfl) rfl ?_
  refine J_aload_n dX0_clear_5 rfl 0 rfl ?_
  refine J_getr (ci := 0) (j := 2) (t := 13) dX0_clear_6 fl_X0_21 (i10 hI) rfl rfl rfl ?_
  refine J_iconst (x := (-1)) dX0_clear_9 (by decide) ?_
  refine J_eSN (z := mJ7_fill_53178) (As := [.ref 13, .int (-1)]) (rest := []) (w := upA (up2 v 10 1 0) 13 (fl (-1) (v 13) 4)) dX0_clear_10 ml_X0_32 ok_J7_fill_53178 iv_J7_fill_53178 (by decide) rfl rfl (Nat.le_of_ble_eq_true rfl) (k_fill hI (up2 v 10 1 0) u 13 4 (i13 hI) rfl (by omega) (-1)) ?_
  exact J_vret dX0_clear_13 rfl ⟨rfl, rfl, rfl⟩
def f_clear20 (v : fr_V) : fr_V := upA (up2 v 20 1 0) 23 (fl (-1) (v 23) 4)
theorem k_X0_clear20 {l : Launch} {I : List Nat} (hI : fr_I I) (v : fr_V) (u : fr_U) : Con l mX0_clear I v u [.ref 20] (QN u (fun a => a = f_clear20 v)) := by
  refine Con.of (by decide) (Nat.le_of_ble_eq_true rfl) ?_
  show J l mX0_clear I v u 0 [(0, .ref 20)] [] _
  refine J_aload_n dX0_clear_0 rfl 0 rfl ?_
  refine J_iconst (x := 0) dX0_clear_1 (by decide) ?_
  refine J_puti (ci := 0) (j := 1) dX0_clear_2 fl_X0_28 (i20 hI) rfl rfl (fun q h => by cases h; rfl) rfl ?_
  refine J_aload_n dX0_clear_5 rfl 0 rfl ?_
  refine J_getr (ci := 0) (j := 2) (t := 23) dX0_clear_6 fl_X0_21 (i20 hI) rfl rfl rfl ?_
  refine J_iconst (x := (-1)) dX0_clear_9 (by decide) ?_
  refine J_eSN (z := mJ7_fill_53178) (As := [.ref 23, .int (-1)]) (rest := []) (w := upA (up2 v 20 1 0) 23 (fl (-1) (v 23) 4)) dX0_clear_10 ml_X0_32 ok_J7_fill_53178 iv_J7_fill_53178 (by decide) rfl rfl (Nat.le_of_ble_eq_true rfl) (k_fill hI (up2 v 20 1 0) u 23 4 (i23 hI) rfl (by omega) (-1)) ?_
  exact J_vret dX0_clear_13 rfl ⟨rfl, rfl, rfl⟩
def f_X10_groupOf (v : fr_V) (x0 : Int32) : Int32 := (if 0 < (if (x0 / 10) < 9 then (x0 / 10) else 9) then (if (x0 / 10) < 9 then (x0 / 10) else 9) else 0)
theorem k_X10_groupOf {l : Launch} {I : List Nat} (hI : fr_I I) (v : fr_V) (u : fr_U) (x0 : Int32) : Con l mX10_groupOf I v u [.int x0] (QI v u (fun a => a = f_X10_groupOf v x0)) := by
  refine Con.of (by decide) (Nat.le_of_ble_eq_true rfl) ?_
  show J l mX10_groupOf I v u 0 [(0, .int x0)] [] _
  refine J_iconst (x := 0) dX10_groupOf_0 (by decide) ?_
  refine J_bipush (x := 9) dX10_groupOf_1 (by decide) ?_
  refine J_iload_n dX10_groupOf_3 rfl 0 rfl ?_
  refine J_bipush (x := 10) dX10_groupOf_4 (by decide) ?_
  refine J_idiv dX10_groupOf_6 (by decide) ?_
  refine J_mmin dX10_groupOf_7 ml_X10_295 (by decide) (Nat.le_of_ble_eq_true rfl) ?_
  refine J_mmax dX10_groupOf_10 ml_X10_300 (by decide) (Nat.le_of_ble_eq_true rfl) ?_
  exact J_iret dX10_groupOf_13 rfl ⟨_, rfl, rfl, rfl, rfl⟩
theorem cn_X10_229 : Cond.constant RX10 229 (99999) ∈ gt := gt_mem (tb4 _ (List.mem_of_getElem? (i := 171) (by decide +kernel))) rfl
theorem cn_X10_232 : Cond.constant RX10 232 (-2147483648) ∈ gt := gt_mem (tb4 _ (List.mem_of_getElem? (i := 172) (by decide +kernel))) rfl
theorem cn_X11_320 : Cond.constant RX11 320 (99999) ∈ gt := gt_mem (tb7 _ (List.mem_of_getElem? (i := 56) (by decide +kernel))) rfl
theorem cn_X11_321 : Cond.constant RX11 321 (-2147483648) ∈ gt := gt_mem (tb7 _ (List.mem_of_getElem? (i := 57) (by decide +kernel))) rfl
theorem cn_X2_37 : Cond.constant RX2 37 (-2147483648) ∈ gt := gt_mem (tb4 _ (List.mem_of_getElem? (i := 193) (by decide +kernel))) rfl
theorem cn_X6_123 : Cond.constant RX6 123 (100000) ∈ gt := gt_mem (tb2 _ (List.mem_of_getElem? (i := 238) (by decide +kernel))) rfl
theorem cl_X10_255 : Cond.constantLong RX10 255 (-1) ∈ gt := gt_mem (tb4 _ (List.mem_of_getElem? (i := 211) (by decide +kernel))) rfl
theorem cl_X10_282 : Cond.constantLong RX10 282 (2) ∈ gt := gt_mem (tb5 _ (List.mem_of_getElem? (i := 1) (by decide +kernel))) rfl
theorem cl_X10_287 : Cond.constantLong RX10 287 (100) ∈ gt := gt_mem (tb5 _ (List.mem_of_getElem? (i := 2) (by decide +kernel))) rfl
theorem cl_X11_336 : Cond.constantLong RX11 336 (2) ∈ gt := gt_mem (tb7 _ (List.mem_of_getElem? (i := 86) (by decide +kernel))) rfl
theorem cl_X11_338 : Cond.constantLong RX11 338 (100) ∈ gt := gt_mem (tb7 _ (List.mem_of_getElem? (i := 87) (by decide +kernel))) rfl
