theorem lim_in {x a : Int32} {n m : Nat} (hn : a = nI n) (h : n ≤ m) (hm : m < 2 ^ 31) (h1 : ¬ x < 0) (h2 : ¬ a ≤ x) : vp_in x m := by
  obtain ⟨j, hj, rfl⟩ := nI_of h1
  have hj2 : j < n := by rw [hn] at h2; exact nz_nle (by omega) hj h2
  exact vp_in_nI (by omega) hm
theorem lim_ne {v : fr_V} {x : Int32} {k : Nat} (c : ¬ (if x < 0 then (0 : Int32) else if v 1100 k ≤ x then 0 else 1) = 0) : ¬ x < 0 ∧ ¬ v 1100 k ≤ x := by
  by_cases h1 : x < 0
  · rw [if_pos h1] at c; exact absurd rfl c
  · by_cases h2 : v 1100 k ≤ x
    · rw [if_neg h1, if_pos h2] at c; exact absurd rfl c
    · exact ⟨h1, h2⟩
theorem lf_in {v : fr_V} {x : Int32} {n : Nat} (hL : v 1100 4 = nI n) (hL2 : n ≤ 12) (c : ¬ f_X11_isLife v x = 0) : vp_in x 12 := lim_in hL hL2 (by omega) (lim_ne (v := v) (k := 4) c).1 (lim_ne (v := v) (k := 4) c).2
theorem rt_in {v : fr_V} {x : Int32} {n : Nat} (hR : v 1100 7 = nI n) (hR2 : n ≤ 16) (c : ¬ f_X11_isRent v x = 0) : vp_in x 16 := lim_in hR hR2 (by omega) (lim_ne (v := v) (k := 7) c).1 (lim_ne (v := v) (k := 7) c).2
theorem nt_in {x : Int32} {N : Nat} (hN : x = nI N) (h : N ≤ 60) (c : ¬ x = 60) : vp_in x 60 := by
  rw [hN]
  exact vp_in_nI (Nat.lt_of_le_of_ne h (fun e => c (by rw [hN, e]; rfl))) (by omega)
theorem lv_in {x : Int32} {n : Nat} (hL : x = nI n) (h : n ≤ 12) (c : ¬ x = 12) : vp_in x 12 := by
  rw [hL]
  exact vp_in_nI (Nat.lt_of_le_of_ne h (fun e => c (by rw [hL, e]; rfl))) (by omega)
theorem isIn_ne {v : fr_V} {x a b : Int32} (c : ¬ f_X11_isIn v x a b = 0) : ¬ x < a ∧ ¬ b < x := by
  unfold f_X11_isIn at c
  by_cases h1 : x < a
  · rw [if_pos h1] at c; exact absurd rfl c
  · by_cases h2 : b < x
    · rw [if_neg h1, if_pos h2] at c; exact absurd rfl c
    · exact ⟨h1, h2⟩
theorem rng_of {x : Int32} {m : Nat} (hm : m < 2 ^ 31) (h1 : ¬ x < 0) (h2 : ¬ nI m < x) : ∃ j, j ≤ m ∧ x = nI j := by
  obtain ⟨j, hj, rfl⟩ := nI_of h1
  refine ⟨j, Nat.le_of_not_lt (fun h => h2 (nI_lt h hj)), rfl⟩
theorem tb_in {v w : fr_V} {x z : Int32} (c1 : ¬ f_X11_isIn v x 0 3 = 0) (c2 : ¬ f_X11_isIn w z 0 9 = 0) : vp_in (10 * x + z) 40 := by
  obtain ⟨i, hi, rfl⟩ := rng_of (m := 3) (by omega) (isIn_ne c1).1 (isIn_ne c1).2
  obtain ⟨j, hj, rfl⟩ := rng_of (m := 9) (by omega) (isIn_ne c2).1 (isIn_ne c2).2
  show vp_in (nI 10 * nI i + nI j) 40
  rw [pk_mul, nI_add]
  exact vp_in_nI (by omega) (by omega)
def f_X11_isDue (v : fr_V) (x1 x2 : Int32) : Int32 := if x2 ≤ (v 1109 x1.toNatClampNeg) then 0 else if (f_X11_lives v  (v 1111 x1.toNatClampNeg) x2) = 0 then (if (f_X11_lives v  (v 1112 x1.toNatClampNeg) x2) = 0 then 0 else 1) else 1
theorem k_X11_isDue {l : Launch} {I : List Nat} (hI : fr_I I) (v : fr_V) (u : fr_U) (x1 x2 : Int32) (h1 : vp_in x1 16) (h2 : ¬ v 1111 x1.toNatClampNeg = (-1) → vp_in (v 1111 x1.toNatClampNeg) 12) (h3 : ¬ v 1112 x1.toNatClampNeg = (-1) → vp_in (v 1112 x1.toNatClampNeg) 12) : Con l mX11_isDue I v u [.ref 1100, .int x1, .int x2] (QI v u (fun a => a = f_X11_isDue v x1 x2)) := by
  refine Con.of (by decide) (Nat.le_of_ble_eq_true rfl) ?_
  show J l mX11_isDue I v u 0 [(0, .ref 1100), (1, .int x1), (2, .int x2)] [] _
  refine J_iload_n dX11_isDue_0 rfl 2 rfl ?_
  refine J_aload_n dX11_isDue_1 rfl 0 rfl ?_
  refine J_getr (ci := 11) (j := 8) (t := 1109) dX11_isDue_2 fl_X11_19 (i1100 hI) rfl rfl rfl ?_
  refine J_iload_n dX11_isDue_5 rfl 1 rfl ?_
  refine J_iale (x := v 1109 x1.toNatClampNeg) dX11_isDue_6 (i1109 hI) rfl (by first | assumption | exact vp_in_nI (by omega) (by omega)) rfl ?_
  refine J_icmp_le (tgt := 42) dX11_isDue_7 (by decide) (fun c1 => ?_) (fun c1 => ?_)
  · refine J_iconst (x := 0) dX11_isDue_42 (by decide) ?_
    exact J_zret dX11_isDue_43 rfl (by decide) ⟨_, rfl, rfl, rfl, by unfold f_X11_isDue; rw [if_pos c1]⟩
  · refine J_aload_n dX11_isDue_10 rfl 0 rfl ?_
    refine J_aload_n dX11_isDue_11 rfl 0 rfl ?_
    refine J_getr (ci := 11) (j := 10) (t := 1111) dX11_isDue_12 fl_X11_25 (i1100 hI) rfl rfl rfl ?_
    refine J_iload_n dX11_isDue_15 rfl 1 rfl ?_
    refine J_iale (x := v 1111 x1.toNatClampNeg) dX11_isDue_16 (i1111 hI) rfl (by first | assumption | exact vp_in_nI (by omega) (by omega)) rfl ?_
    refine J_iload_n dX11_isDue_17 rfl 2 rfl ?_
    refine J_eVI (z := mX11_lives) (As := [.int (v 1111 x1.toNatClampNeg), .int x2]) (rest := []) (ci := 11) (x := f_X11_lives v  (v 1111 x1.toNatClampNeg) x2) dX11_isDue_18 ml_X11_264 ok_X11_lives iv_X11_lives (by decide) (i1100 hI) rfl rfl rfl rfl (Nat.le_of_ble_eq_true rfl) (k_X11_lives hI v u _ _ (by first | assumption | exact lf_in hL hL2 (by assumption) | exact rt_in hR hR2 (by assumption) | exact nt_in hN hW.1 (by assumption))) ?_
    refine J_if_ne (tgt := 38) dX11_isDue_21 (by decide) (fun c2 => ?_) (fun c2 => ?_)
    · refine J_iconst (x := 1) dX11_isDue_38 (by decide) ?_
      refine J_goto (tgt := 43) dX11_isDue_39 (by decide) ?_
      exact J_zret dX11_isDue_43 rfl (by decide) ⟨_, rfl, rfl, rfl, by unfold f_X11_isDue; rw [if_neg c1, if_neg c2]⟩
    · refine J_aload_n dX11_isDue_24 rfl 0 rfl ?_
      refine J_aload_n dX11_isDue_25 rfl 0 rfl ?_
      refine J_getr (ci := 11) (j := 11) (t := 1112) dX11_isDue_26 fl_X11_28 (i1100 hI) rfl rfl rfl ?_
      refine J_iload_n dX11_isDue_29 rfl 1 rfl ?_
      refine J_iale (x := v 1112 x1.toNatClampNeg) dX11_isDue_30 (i1112 hI) rfl (by first | assumption | exact vp_in_nI (by omega) (by omega)) rfl ?_
      refine J_iload_n dX11_isDue_31 rfl 2 rfl ?_
      refine J_eVI (z := mX11_lives) (As := [.int (v 1112 x1.toNatClampNeg), .int x2]) (rest := []) (ci := 11) (x := f_X11_lives v  (v 1112 x1.toNatClampNeg) x2) dX11_isDue_32 ml_X11_264 ok_X11_lives iv_X11_lives (by decide) (i1100 hI) rfl rfl rfl rfl (Nat.le_of_ble_eq_true rfl) (k_X11_lives hI v u _ _ (by first | assumption | exact lf_in hL hL2 (by assumption) | exact rt_in hR hR2 (by assumption) | exact nt_in hN hW.1 (by assumption))) ?_
      refine J_if_eq (tgt := 42) dX11_isDue_35 (by decide) (fun c3 => ?_) (fun c3 => ?_)
      · refine J_iconst (x := 0) dX11_isDue_42 (by decide) ?_
        exact J_zret dX11_isDue_43 rfl (by decide) ⟨_, rfl, rfl, rfl, by unfold f_X11_isDue; rw [if_neg c1, if_pos c2, if_pos c3]⟩
      · refine J_iconst (x := 1) dX11_isDue_38 (by decide) ?_
        refine J_goto (tgt := 43) dX11_isDue_39 (by decide) ?_
        exact J_zret dX11_isDue_43 rfl (by decide) ⟨_, rfl, rfl, rfl, by unfold f_X11_isDue; rw [if_neg c1, if_pos c2, if_neg c3]⟩
def f_X11_liveOf (v : fr_V) (x1 x2 : Int32) : Int32 := v 1152 (((10 * (v 1107 x1.toNatClampNeg)) + (f_X11_groupOf v  x2)).toNatClampNeg)
theorem k_X11_liveOf {l : Launch} {I : List Nat} (hI : fr_I I) (v : fr_V) (u : fr_U) (x1 x2 : Int32) (h1 : vp_in x1 12) (h2 : vp_in (10 * v 1107 x1.toNatClampNeg + f_X11_groupOf v x2) 40) : Con l mX11_liveOf I v u [.ref 1100, .int x1, .int x2] (QI v u (fun a => a = f_X11_liveOf v x1 x2)) := by
  refine Con.of (by decide) (Nat.le_of_ble_eq_true rfl) ?_
  show J l mX11_liveOf I v u 0 [(0, .ref 1100), (1, .int x1), (2, .int x2)] [] _
  refine J_aload_n dX11_liveOf_0 rfl 0 rfl ?_
  refine J_getr (ci := 11) (j := 51) (t := 1152) dX11_liveOf_1 fl_X11_105 (i1100 hI) rfl rfl rfl ?_
  refine J_bipush (x := 10) dX11_liveOf_4 (by decide) ?_
  refine J_aload_n dX11_liveOf_6 rfl 0 rfl ?_
  refine J_getr (ci := 11) (j := 6) (t := 1107) dX11_liveOf_7 fl_X11_16 (i1100 hI) rfl rfl rfl ?_
  refine J_iload_n dX11_liveOf_10 rfl 1 rfl ?_
  refine J_iale (x := v 1107 x1.toNatClampNeg) dX11_liveOf_11 (i1107 hI) rfl (by first | assumption | exact vp_in_nI (by omega) (by omega)) rfl ?_
  refine J_imul dX11_liveOf_12 ?_
  refine J_iload_n dX11_liveOf_13 rfl 2 rfl ?_
  refine J_eSI (z := mX11_groupOf) (As := [.int x2]) (rest := [.int (10 * (v 1107 x1.toNatClampNeg)), .ref 1152]) (x := f_X11_groupOf v  x2) dX11_liveOf_14 ml_X11_299 ok_X11_groupOf iv_X11_groupOf (by decide) rfl rfl (Nat.le_of_ble_eq_true rfl) (k_X11_groupOf hI v u _ ) ?_
  refine J_iadd dX11_liveOf_17 ?_
  refine J_iale (x := v 1152 (((10 * (v 1107 x1.toNatClampNeg)) + (f_X11_groupOf v  x2)).toNatClampNeg)) dX11_liveOf_18 (i1152 hI) rfl (by first | assumption | exact vp_in_nI (by omega) (by omega)) rfl ?_
  exact J_iret dX11_liveOf_19 rfl ⟨_, rfl, rfl, rfl, rfl⟩
def f_X11_yearBack (v : fr_V) (x1 x2 : Int32) : Int32 := ((((1000 + x1) * x2) / 1000) * (v 1141 2)) / ((v 1141 2) + 1)
theorem k_X11_yearBack {l : Launch} {I : List Nat} (hI : fr_I I) (v : fr_V) (u : fr_U) (x1 x2 : Int32) (h1 : ¬ v 1141 2 + 1 = 0) : Con l mX11_yearBack I v u [.ref 1100, .int x1, .int x2] (QI v u (fun a => a = f_X11_yearBack v x1 x2)) := by
  refine Con.of (by decide) (Nat.le_of_ble_eq_true rfl) ?_
  show J l mX11_yearBack I v u 0 [(0, .ref 1100), (1, .int x1), (2, .int x2)] [] _
  refine J_sipush (x := 1000) dX11_yearBack_0 (by decide) ?_
  refine J_iload_n dX11_yearBack_3 rfl 1 rfl ?_
  refine J_iadd dX11_yearBack_4 ?_
  refine J_iload_n dX11_yearBack_5 rfl 2 rfl ?_
  refine J_imul dX11_yearBack_6 ?_
  refine J_sipush (x := 1000) dX11_yearBack_7 (by decide) ?_
  refine J_idiv dX11_yearBack_10 (by decide) ?_
  refine J_aload_n dX11_yearBack_11 rfl 0 rfl ?_
  refine J_getr (ci := 11) (j := 40) (t := 1141) dX11_yearBack_12 fl_X11_86 (i1100 hI) rfl rfl rfl ?_
  refine J_iconst (x := 2) dX11_yearBack_15 (by decide) ?_
  refine J_iale (x := v 1141 2) dX11_yearBack_16 (i1141 hI) rfl (ix_in (j := 2) rfl (by omega) (by omega)) ((congrArg _ (ix_cl (j := 2) rfl (by omega))).trans rfl) ?_
  refine J_imul dX11_yearBack_17 ?_
  refine J_aload_n dX11_yearBack_18 rfl 0 rfl ?_
  refine J_getr (ci := 11) (j := 40) (t := 1141) dX11_yearBack_19 fl_X11_86 (i1100 hI) rfl rfl rfl ?_
  refine J_iconst (x := 2) dX11_yearBack_22 (by decide) ?_
  refine J_iale (x := v 1141 2) dX11_yearBack_23 (i1141 hI) rfl (ix_in (j := 2) rfl (by omega) (by omega)) ((congrArg _ (ix_cl (j := 2) rfl (by omega))).trans rfl) ?_
  refine J_iconst (x := 1) dX11_yearBack_24 (by decide) ?_
  refine J_iadd dX11_yearBack_25 ?_
  refine J_idiv dX11_yearBack_26 h1 ?_
  exact J_iret dX11_yearBack_27 rfl ⟨_, rfl, rfl, rfl, rfl⟩
def f_X11_living (v : fr_V) (x1 : Int32) : Int32 := if x1 = (-1) then (-1) else if (v 1146 x1.toNatClampNeg) = (-1) then (if (f_X11_ageIn v  x1 (v 1100 3)) ≤ 99 then x1 else (-1)) else (-1)
theorem k_X11_living {l : Launch} {I : List Nat} (hI : fr_I I) (v : fr_V) (u : fr_U) (x1 : Int32) (h1 : ¬ x1 = (-1) → vp_in x1 12) : Con l mX11_living I v u [.ref 1100, .int x1] (QI v u (fun a => a = f_X11_living v x1)) := by
  refine Con.of (by decide) (Nat.le_of_ble_eq_true rfl) ?_
  show J l mX11_living I v u 0 [(0, .ref 1100), (1, .int x1)] [] _
  refine J_iload_n dX11_living_0 rfl 1 rfl ?_
  refine J_iconst (x := (-1)) dX11_living_1 (by decide) ?_
  refine J_icmp_eq (tgt := 29) dX11_living_2 (by decide) (fun c1 => ?_) (fun c1 => ?_)
  · refine J_iconst (x := (-1)) dX11_living_29 (by decide) ?_
    refine J_goto (tgt := 34) dX11_living_30 (by decide) ?_
    exact J_iret dX11_living_34 rfl ⟨_, rfl, rfl, rfl, by unfold f_X11_living; rw [if_pos c1]⟩
  · refine J_aload_n dX11_living_5 rfl 0 rfl ?_
    refine J_getr (ci := 11) (j := 45) (t := 1146) dX11_living_6 fl_X11_96 (i1100 hI) rfl rfl rfl ?_
    refine J_iload_n dX11_living_9 rfl 1 rfl ?_
    refine J_iale (x := v 1146 x1.toNatClampNeg) dX11_living_10 (i1146 hI) rfl (h1 (by assumption)) rfl ?_
    refine J_iconst (x := (-1)) dX11_living_11 (by decide) ?_
    refine J_icmp_ne (tgt := 29) dX11_living_12 (by decide) (fun c2 => ?_) (fun c2 => ?_)
    · refine J_iconst (x := (-1)) dX11_living_29 (by decide) ?_
      refine J_goto (tgt := 34) dX11_living_30 (by decide) ?_
      exact J_iret dX11_living_34 rfl ⟨_, rfl, rfl, rfl, by unfold f_X11_living; rw [if_neg c1, if_neg c2]⟩
    · refine J_aload_n dX11_living_15 rfl 0 rfl ?_
      refine J_iload_n dX11_living_16 rfl 1 rfl ?_
      refine J_aload_n dX11_living_17 rfl 0 rfl ?_
      refine J_gete (ci := 11) (j := 3) (x := v 1100 3) dX11_living_18 fl_X11_208 (i1100 hI) rfl rfl rfl ?_
      refine J_eVI (z := mX11_ageIn) (As := [.int x1, .int (v 1100 3)]) (rest := []) (ci := 11) (x := f_X11_ageIn v  x1 (v 1100 3)) dX11_living_21 ml_X11_214 ok_X11_ageIn iv_X11_ageIn (by decide) (i1100 hI) rfl rfl rfl rfl (Nat.le_of_ble_eq_true rfl) (k_X11_ageIn hI v u _ _ (h1 (by assumption))) ?_
      refine J_bipush (x := 99) dX11_living_24 (by decide) ?_
      refine J_icmp_le (tgt := 33) dX11_living_26 (by decide) (fun c3 => ?_) (fun c3 => ?_)
      · refine J_iload_n dX11_living_33 rfl 1 rfl ?_
        exact J_iret dX11_living_34 rfl ⟨_, rfl, rfl, rfl, by unfold f_X11_living; rw [if_neg c1, if_pos c2, if_pos c3]⟩
      · refine J_iconst (x := (-1)) dX11_living_29 (by decide) ?_
        refine J_goto (tgt := 34) dX11_living_30 (by decide) ?_
        exact J_iret dX11_living_34 rfl ⟨_, rfl, rfl, rfl, by unfold f_X11_living; rw [if_neg c1, if_pos c2, if_neg c3]⟩
def f_X11_note (v : fr_V) (x1 x2 x3 : Int32) : Int32 × fr_V := if (v 1100 16) = 60 then ((-1), up2 v 1100 2 0) else if (f_X11_isLife (up2 v 1100 2 0)  x1) = 0 then ((-1), up2 v 1100 2 0) else if (f_X11_isIn (up2 v 1100 2 0)  x2 0 (v 1100 3)) = 0 then ((-1), up2 v 1100 2 0) else if x3 = 0 then ((f_X11_told (up2 v 1100 2 0)  0 x1 x2).1, (f_X11_told (up2 v 1100 2 0)  0 x1 x2).2) else ((f_X11_told (up2 v 1100 2 0)  1 x1 x2).1, (f_X11_told (up2 v 1100 2 0)  1 x1 x2).2)
theorem k_X11_note {l : Launch} {I : List Nat} (hI : fr_I I) (v : fr_V) (u : fr_U) (x1 x2 x3 : Int32) (N : Nat) (hN : v 1100 16 = nI N) (hW : nt_ok (v 1118) (v 1119) N) : Con l mX11_note I v u [.ref 1100, .int x1, .int x2, .int x3] (QX u (fun a b => a = (f_X11_note v x1 x2 x3).1 ∧ b = (f_X11_note v x1 x2 x3).2)) := by
  refine Con.of (by decide) (Nat.le_of_ble_eq_true rfl) ?_
  show J l mX11_note I v u 0 [(0, .ref 1100), (1, .int x1), (2, .int x2), (3, .int x3)] [] _
  refine J_aload_n dX11_note_0 rfl 0 rfl ?_
  refine J_iconst (x := 0) dX11_note_1 (by decide) ?_
  refine J_puti (ci := 11) (j := 2) dX11_note_2 fl_X11_129 (i1100 hI) rfl rfl (fun q h => by cases h; rfl) rfl ?_
  refine J_aload_n dX11_note_5 rfl 0 rfl ?_
  refine J_gete (ci := 11) (j := 16) (x := v 1100 16) dX11_note_6 fl_X11_252 (i1100 hI) rfl rfl rfl ?_
  refine J_bipush (x := 60) dX11_note_9 (by decide) ?_
  refine J_icmp_eq (tgt := 34) dX11_note_11 (by decide) (fun c1 => ?_) (fun c1 => ?_)
  · refine J_iconst (x := (-1)) dX11_note_34 (by decide) ?_
    refine J_goto (tgt := 53) dX11_note_35 (by decide) ?_
    exact J_iret dX11_note_53 rfl ⟨_, rfl, rfl, by unfold f_X11_note; rw [if_pos c1], by unfold f_X11_note; rw [if_pos c1]⟩
  · refine J_aload_n dX11_note_14 rfl 0 rfl ?_
    refine J_iload_n dX11_note_15 rfl 1 rfl ?_
    refine J_eVI (z := mX11_isLife) (As := [.int x1]) (rest := []) (ci := 11) (x := f_X11_isLife (up2 v 1100 2 0)  x1) dX11_note_16 ml_X11_221 ok_X11_isLife iv_X11_isLife (by decide) (i1100 hI) rfl rfl rfl rfl (Nat.le_of_ble_eq_true rfl) (k_X11_isLife hI (up2 v 1100 2 0) u _ ) ?_
    refine J_if_eq (tgt := 34) dX11_note_19 (by decide) (fun c2 => ?_) (fun c2 => ?_)
    · refine J_iconst (x := (-1)) dX11_note_34 (by decide) ?_
      refine J_goto (tgt := 53) dX11_note_35 (by decide) ?_
      exact J_iret dX11_note_53 rfl ⟨_, rfl, rfl, by unfold f_X11_note; rw [if_neg c1, if_pos c2], by unfold f_X11_note; rw [if_neg c1, if_pos c2]⟩
    · refine J_iload_n dX11_note_22 rfl 2 rfl ?_
      refine J_iconst (x := 0) dX11_note_23 (by decide) ?_
      refine J_aload_n dX11_note_24 rfl 0 rfl ?_
      refine J_gete (ci := 11) (j := 3) (x := v 1100 3) dX11_note_25 fl_X11_208 (i1100 hI) rfl rfl rfl ?_
      refine J_eSI (z := mX11_isIn) (As := [.int x2, .int 0, .int (v 1100 3)]) (rest := []) (x := f_X11_isIn (up2 v 1100 2 0)  x2 0 (v 1100 3)) dX11_note_28 ml_X11_204 ok_X11_isIn iv_X11_isIn (by decide) rfl rfl (Nat.le_of_ble_eq_true rfl) (k_X11_isIn hI (up2 v 1100 2 0) u _ _ _ ) ?_
      refine J_if_ne (tgt := 38) dX11_note_31 (by decide) (fun c3 => ?_) (fun c3 => ?_)
      · refine J_aload_n dX11_note_38 rfl 0 rfl ?_
        refine J_iload_n dX11_note_39 rfl 3 rfl ?_
        refine J_if_eq (tgt := 47) dX11_note_40 (by decide) (fun c4 => ?_) (fun c4 => ?_)
        · refine J_iconst (x := 0) dX11_note_47 (by decide) ?_
          refine J_iload_n dX11_note_48 rfl 1 rfl ?_
          refine J_iload_n dX11_note_49 rfl 2 rfl ?_
          refine J_eVX (z := mX11_told) (As := [.int 0, .int x1, .int x2]) (rest := []) (ci := 11) (x := (f_X11_told (up2 v 1100 2 0)  0 x1 x2).1) (w := (f_X11_told (up2 v 1100 2 0)  0 x1 x2).2) dX11_note_50 ml_X11_255 ok_X11_told iv_X11_told (by decide) (i1100 hI) rfl rfl rfl rfl (Nat.le_of_ble_eq_true rfl) (k_X11_told hI (up2 v 1100 2 0) u _ _ _ (by first | assumption | exact lf_in hL hL2 (by assumption) | exact rt_in hR hR2 (by assumption) | exact nt_in hN hW.1 (by assumption))) ?_
          exact J_iret dX11_note_53 rfl ⟨_, rfl, rfl, by unfold f_X11_note; rw [if_neg c1, if_neg c2, if_neg c3, if_pos c4], by unfold f_X11_note; rw [if_neg c1, if_neg c2, if_neg c3, if_pos c4]⟩
        · refine J_iconst (x := 1) dX11_note_43 (by decide) ?_
          refine J_goto (tgt := 48) dX11_note_44 (by decide) ?_
          refine J_iload_n dX11_note_48 rfl 1 rfl ?_
          refine J_iload_n dX11_note_49 rfl 2 rfl ?_
          refine J_eVX (z := mX11_told) (As := [.int 1, .int x1, .int x2]) (rest := []) (ci := 11) (x := (f_X11_told (up2 v 1100 2 0)  1 x1 x2).1) (w := (f_X11_told (up2 v 1100 2 0)  1 x1 x2).2) dX11_note_50 ml_X11_255 ok_X11_told iv_X11_told (by decide) (i1100 hI) rfl rfl rfl rfl (Nat.le_of_ble_eq_true rfl) (k_X11_told hI (up2 v 1100 2 0) u _ _ _ (by first | assumption | exact lf_in hL hL2 (by assumption) | exact rt_in hR hR2 (by assumption) | exact nt_in hN hW.1 (by assumption))) ?_
          exact J_iret dX11_note_53 rfl ⟨_, rfl, rfl, by unfold f_X11_note; rw [if_neg c1, if_neg c2, if_neg c3, if_neg c4], by unfold f_X11_note; rw [if_neg c1, if_neg c2, if_neg c3, if_neg c4]⟩
      · refine J_iconst (x := (-1)) dX11_note_34 (by decide) ?_
        refine J_goto (tgt := 53) dX11_note_35 (by decide) ?_
        exact J_iret dX11_note_53 rfl ⟨_, rfl, rfl, by unfold f_X11_note; rw [if_neg c1, if_neg c2, if_pos c3], by unfold f_X11_note; rw [if_neg c1, if_neg c2, if_pos c3]⟩
def f_X11_strike (v : fr_V) (x1 : Int32) : Int32 × fr_V := if (v 1100 16) = 60 then ((-1), up2 v 1100 2 0) else if x1 < 0 then ((-1), up2 v 1100 2 0) else if x1 < (v 1100 16) then ((f_X11_told (up2 v 1100 2 0)  2 x1 0).1, (f_X11_told (up2 v 1100 2 0)  2 x1 0).2) else ((-1), up2 v 1100 2 0)
theorem k_X11_strike {l : Launch} {I : List Nat} (hI : fr_I I) (v : fr_V) (u : fr_U) (x1 : Int32) (N : Nat) (hN : v 1100 16 = nI N) (hW : nt_ok (v 1118) (v 1119) N) : Con l mX11_strike I v u [.ref 1100, .int x1] (QX u (fun a b => a = (f_X11_strike v x1).1 ∧ b = (f_X11_strike v x1).2)) := by
  refine Con.of (by decide) (Nat.le_of_ble_eq_true rfl) ?_
  show J l mX11_strike I v u 0 [(0, .ref 1100), (1, .int x1)] [] _
  refine J_aload_n dX11_strike_0 rfl 0 rfl ?_
  refine J_iconst (x := 0) dX11_strike_1 (by decide) ?_
  refine J_puti (ci := 11) (j := 2) dX11_strike_2 fl_X11_129 (i1100 hI) rfl rfl (fun q h => by cases h; rfl) rfl ?_
  refine J_aload_n dX11_strike_5 rfl 0 rfl ?_
  refine J_gete (ci := 11) (j := 16) (x := v 1100 16) dX11_strike_6 fl_X11_252 (i1100 hI) rfl rfl rfl ?_
  refine J_bipush (x := 60) dX11_strike_9 (by decide) ?_
  refine J_icmp_eq (tgt := 26) dX11_strike_11 (by decide) (fun c1 => ?_) (fun c1 => ?_)
  · refine J_iconst (x := (-1)) dX11_strike_26 (by decide) ?_
    refine J_goto (tgt := 37) dX11_strike_27 (by decide) ?_
    exact J_iret dX11_strike_37 rfl ⟨_, rfl, rfl, by unfold f_X11_strike; rw [if_pos c1], by unfold f_X11_strike; rw [if_pos c1]⟩
  · refine J_iload_n dX11_strike_14 rfl 1 rfl ?_
    refine J_if_lt (tgt := 26) dX11_strike_15 (by decide) (fun c2 => ?_) (fun c2 => ?_)
    · refine J_iconst (x := (-1)) dX11_strike_26 (by decide) ?_
      refine J_goto (tgt := 37) dX11_strike_27 (by decide) ?_
      exact J_iret dX11_strike_37 rfl ⟨_, rfl, rfl, by unfold f_X11_strike; rw [if_neg c1, if_pos c2], by unfold f_X11_strike; rw [if_neg c1, if_pos c2]⟩
    · refine J_iload_n dX11_strike_18 rfl 1 rfl ?_
      refine J_aload_n dX11_strike_19 rfl 0 rfl ?_
      refine J_gete (ci := 11) (j := 16) (x := v 1100 16) dX11_strike_20 fl_X11_252 (i1100 hI) rfl rfl rfl ?_
      refine J_icmp_lt (tgt := 30) dX11_strike_23 (by decide) (fun c3 => ?_) (fun c3 => ?_)
      · refine J_aload_n dX11_strike_30 rfl 0 rfl ?_
        refine J_iconst (x := 2) dX11_strike_31 (by decide) ?_
        refine J_iload_n dX11_strike_32 rfl 1 rfl ?_
        refine J_iconst (x := 0) dX11_strike_33 (by decide) ?_
        refine J_eVX (z := mX11_told) (As := [.int 2, .int x1, .int 0]) (rest := []) (ci := 11) (x := (f_X11_told (up2 v 1100 2 0)  2 x1 0).1) (w := (f_X11_told (up2 v 1100 2 0)  2 x1 0).2) dX11_strike_34 ml_X11_255 ok_X11_told iv_X11_told (by decide) (i1100 hI) rfl rfl rfl rfl (Nat.le_of_ble_eq_true rfl) (k_X11_told hI (up2 v 1100 2 0) u _ _ _ (by first | assumption | exact lf_in hL hL2 (by assumption) | exact rt_in hR hR2 (by assumption) | exact nt_in hN hW.1 (by assumption))) ?_
        exact J_iret dX11_strike_37 rfl ⟨_, rfl, rfl, by unfold f_X11_strike; rw [if_neg c1, if_neg c2, if_pos c3], by unfold f_X11_strike; rw [if_neg c1, if_neg c2, if_pos c3]⟩
      · refine J_iconst (x := (-1)) dX11_strike_26 (by decide) ?_
        refine J_goto (tgt := 37) dX11_strike_27 (by decide) ?_
        exact J_iret dX11_strike_37 rfl ⟨_, rfl, rfl, by unfold f_X11_strike; rw [if_neg c1, if_neg c2, if_neg c3], by unfold f_X11_strike; rw [if_neg c1, if_neg c2, if_neg c3]⟩
def f_X11_dead (v : fr_V) (N : Nat) (x1 x2 : Int32) : Int32 × fr_V := if (f_X11_isLife (up2 v 1100 2 0)  x1) = 0 then ((-2), up2 v 1100 2 0) else if (f_X11_isHalf (up2 v 1100 2 0)  x2) = 0 then ((-2), up2 v 1100 2 0) else ((f_know (up2 v 1100 2 0) N x2) 1146 x1.toNatClampNeg, (f_know (up2 v 1100 2 0) N x2))
theorem k_X11_dead {l : Launch} {I : List Nat} (hI : fr_I I) (v : fr_V) (u : fr_U) (N : Nat) (x1 x2 : Int32) (hN : v 1100 16 = nI N) (hW : nt_ok (v 1118) (v 1119) N) (n : Nat) (hL : v 1100 4 = nI n) (hL2 : n ≤ 12) : Con l mX11_dead I v u [.ref 1100, .int x1, .int x2] (QX u (fun a b => a = (f_X11_dead v N x1 x2).1 ∧ b = (f_X11_dead v N x1 x2).2)) := by
  refine Con.of (by decide) (Nat.le_of_ble_eq_true rfl) ?_
  show J l mX11_dead I v u 0 [(0, .ref 1100), (1, .int x1), (2, .int x2)] [] _
  refine J_aload_n dX11_dead_0 rfl 0 rfl ?_
  refine J_iconst (x := 0) dX11_dead_1 (by decide) ?_
  refine J_puti (ci := 11) (j := 2) dX11_dead_2 fl_X11_129 (i1100 hI) rfl rfl (fun q h => by cases h; rfl) rfl ?_
  refine J_aload_n dX11_dead_5 rfl 0 rfl ?_
  refine J_iload_n dX11_dead_6 rfl 1 rfl ?_
  refine J_eVI (z := mX11_isLife) (As := [.int x1]) (rest := []) (ci := 11) (x := f_X11_isLife (up2 v 1100 2 0)  x1) dX11_dead_7 ml_X11_221 ok_X11_isLife iv_X11_isLife (by decide) (i1100 hI) rfl rfl rfl rfl (Nat.le_of_ble_eq_true rfl) (k_X11_isLife hI (up2 v 1100 2 0) u _ ) ?_
  refine J_if_eq (tgt := 20) dX11_dead_10 (by decide) (fun c1 => ?_) (fun c1 => ?_)
  · refine J_bipush (x := (-2)) dX11_dead_20 (by decide) ?_
    exact J_iret dX11_dead_22 rfl ⟨_, rfl, rfl, by unfold f_X11_dead; rw [if_pos c1], by unfold f_X11_dead; rw [if_pos c1]⟩
  · refine J_iload_n dX11_dead_13 rfl 2 rfl ?_
    refine J_eSI (z := mX11_isHalf) (As := [.int x2]) (rest := []) (x := f_X11_isHalf (up2 v 1100 2 0)  x2) dX11_dead_14 ml_X11_249 ok_X11_isHalf iv_X11_isHalf (by decide) rfl rfl (Nat.le_of_ble_eq_true rfl) (k_X11_isHalf hI (up2 v 1100 2 0) u _ ) ?_
    refine J_if_ne (tgt := 23) dX11_dead_17 (by decide) (fun c2 => ?_) (fun c2 => ?_)
    · refine J_aload_n dX11_dead_23 rfl 0 rfl ?_
      refine J_iload_n dX11_dead_24 rfl 2 rfl ?_
      refine J_eVN (z := mX11_know) (As := [.int x2]) (rest := []) (ci := 11) (w := (f_know (up2 v 1100 2 0) N x2)) dX11_dead_25 ml_X11_257 ok_X11_know iv_X11_know (by decide) (i1100 hI) rfl rfl rfl rfl (Nat.le_of_ble_eq_true rfl) (k_X11_know hI (up2 v 1100 2 0) u _ N hN hW) ?_
      refine J_aload_n dX11_dead_28 rfl 0 rfl ?_
      refine J_getr (ci := 11) (j := 45) (t := 1146) dX11_dead_29 fl_X11_96 (i1100 hI) rfl rfl rfl ?_
      refine J_iload_n dX11_dead_32 rfl 1 rfl ?_
      refine J_iale (x := (f_know (up2 v 1100 2 0) N x2) 1146 x1.toNatClampNeg) dX11_dead_33 (i1146 hI) rfl (lf_in hL hL2 (by assumption)) rfl ?_
      exact J_iret dX11_dead_34 rfl ⟨_, rfl, rfl, by unfold f_X11_dead; rw [if_neg c1, if_neg c2], by unfold f_X11_dead; rw [if_neg c1, if_neg c2]⟩
    · refine J_bipush (x := (-2)) dX11_dead_20 (by decide) ?_
      exact J_iret dX11_dead_22 rfl ⟨_, rfl, rfl, by unfold f_X11_dead; rw [if_neg c1, if_pos c2], by unfold f_X11_dead; rw [if_neg c1, if_pos c2]⟩
def f_X11_life (v : fr_V) (x1 x2 : Int32) : Int32 × fr_V := if (v 1100 4) = 12 then ((-1), up2 v 1100 2 0) else if (f_X11_isIn (up2 v 1100 2 0)  x1 (-160) (v 1100 3)) = 0 then ((-1), up2 v 1100 2 0) else if (f_X11_isIn (up2 v 1100 2 0)  x2 0 3) = 0 then ((-1), up2 v 1100 2 0) else (((v 1100 4) + 1) - 1, up2 (up2 (up2 (up2 v 1100 2 0) 1106 ((v 1100 4).toNatClampNeg) x1) 1107 ((v 1100 4).toNatClampNeg) x2) 1100 4 ((v 1100 4) + 1))
theorem k_X11_life {l : Launch} {I : List Nat} (hI : fr_I I) (v : fr_V) (u : fr_U) (x1 x2 : Int32) (n : Nat) (hL : v 1100 4 = nI n) (hL2 : n ≤ 12) : Con l mX11_life I v u [.ref 1100, .int x1, .int x2] (QX u (fun a b => a = (f_X11_life v x1 x2).1 ∧ b = (f_X11_life v x1 x2).2)) := by
  refine Con.of (by decide) (Nat.le_of_ble_eq_true rfl) ?_
  show J l mX11_life I v u 0 [(0, .ref 1100), (1, .int x1), (2, .int x2)] [] _
  refine J_aload_n dX11_life_0 rfl 0 rfl ?_
  refine J_iconst (x := 0) dX11_life_1 (by decide) ?_
  refine J_puti (ci := 11) (j := 2) dX11_life_2 fl_X11_129 (i1100 hI) rfl rfl (fun q h => by cases h; rfl) rfl ?_
  refine J_aload_n dX11_life_5 rfl 0 rfl ?_
  refine J_gete (ci := 11) (j := 4) (x := v 1100 4) dX11_life_6 fl_X11_211 (i1100 hI) rfl rfl rfl ?_
  refine J_bipush (x := 12) dX11_life_9 (by decide) ?_
  refine J_icmp_eq (tgt := 37) dX11_life_11 (by decide) (fun c1 => ?_) (fun c1 => ?_)
  · refine J_iconst (x := (-1)) dX11_life_37 (by decide) ?_
    exact J_iret dX11_life_38 rfl ⟨_, rfl, rfl, by unfold f_X11_life; rw [if_pos c1], by unfold f_X11_life; rw [if_pos c1]⟩
  · refine J_iload_n dX11_life_14 rfl 1 rfl ?_
    refine J_sipush (x := (-160)) dX11_life_15 (by decide) ?_
    refine J_aload_n dX11_life_18 rfl 0 rfl ?_
    refine J_gete (ci := 11) (j := 3) (x := v 1100 3) dX11_life_19 fl_X11_208 (i1100 hI) rfl rfl rfl ?_
    refine J_eSI (z := mX11_isIn) (As := [.int x1, .int (-160), .int (v 1100 3)]) (rest := []) (x := f_X11_isIn (up2 v 1100 2 0)  x1 (-160) (v 1100 3)) dX11_life_22 ml_X11_204 ok_X11_isIn iv_X11_isIn (by decide) rfl rfl (Nat.le_of_ble_eq_true rfl) (k_X11_isIn hI (up2 v 1100 2 0) u _ _ _ ) ?_
    refine J_if_eq (tgt := 37) dX11_life_25 (by decide) (fun c2 => ?_) (fun c2 => ?_)
    · refine J_iconst (x := (-1)) dX11_life_37 (by decide) ?_
      exact J_iret dX11_life_38 rfl ⟨_, rfl, rfl, by unfold f_X11_life; rw [if_neg c1, if_pos c2], by unfold f_X11_life; rw [if_neg c1, if_pos c2]⟩
    · refine J_iload_n dX11_life_28 rfl 2 rfl ?_
      refine J_iconst (x := 0) dX11_life_29 (by decide) ?_
      refine J_iconst (x := 3) dX11_life_30 (by decide) ?_
      refine J_eSI (z := mX11_isIn) (As := [.int x2, .int 0, .int 3]) (rest := []) (x := f_X11_isIn (up2 v 1100 2 0)  x2 0 3) dX11_life_31 ml_X11_204 ok_X11_isIn iv_X11_isIn (by decide) rfl rfl (Nat.le_of_ble_eq_true rfl) (k_X11_isIn hI (up2 v 1100 2 0) u _ _ _ ) ?_
      refine J_if_ne (tgt := 39) dX11_life_34 (by decide) (fun c3 => ?_) (fun c3 => ?_)
      · refine J_aload_n dX11_life_39 rfl 0 rfl ?_
        refine J_getr (ci := 11) (j := 5) (t := 1106) dX11_life_40 fl_X11_13 (i1100 hI) rfl rfl rfl ?_
        refine J_aload_n dX11_life_43 rfl 0 rfl ?_
        refine J_gete (ci := 11) (j := 4) (x := v 1100 4) dX11_life_44 fl_X11_211 (i1100 hI) rfl rfl rfl ?_
        refine J_iload_n dX11_life_47 rfl 1 rfl ?_
        refine J_iast dX11_life_48 (i1106 hI) rfl (lv_in hL hL2 (by assumption)) ?_
        refine J_aload_n dX11_life_49 rfl 0 rfl ?_
        refine J_getr (ci := 11) (j := 6) (t := 1107) dX11_life_50 fl_X11_16 (i1100 hI) rfl rfl rfl ?_
        refine J_aload_n dX11_life_53 rfl 0 rfl ?_
        refine J_gete (ci := 11) (j := 4) (x := v 1100 4) dX11_life_54 fl_X11_211 (i1100 hI) rfl rfl rfl ?_
        refine J_iload_n dX11_life_57 rfl 2 rfl ?_
        refine J_iast dX11_life_58 (i1107 hI) rfl (lv_in hL hL2 (by assumption)) ?_
        refine J_aload_n dX11_life_59 rfl 0 rfl ?_
        refine J_dup dX11_life_60 rfl ?_
        refine J_gete (ci := 11) (j := 4) (x := v 1100 4) dX11_life_61 fl_X11_211 (i1100 hI) rfl rfl rfl ?_
        refine J_iconst (x := 1) dX11_life_64 (by decide) ?_
        refine J_iadd dX11_life_65 ?_
        refine J_puti (ci := 11) (j := 4) dX11_life_66 fl_X11_211 (i1100 hI) rfl rfl (fun q h => by cases h; rfl) rfl ?_
        refine J_aload_n dX11_life_69 rfl 0 rfl ?_
        refine J_gete (ci := 11) (j := 4) (x := (v 1100 4) + 1) dX11_life_70 fl_X11_211 (i1100 hI) rfl rfl rfl ?_
        refine J_iconst (x := 1) dX11_life_73 (by decide) ?_
        refine J_isub dX11_life_74 ?_
        exact J_iret dX11_life_75 rfl ⟨_, rfl, rfl, by unfold f_X11_life; rw [if_neg c1, if_neg c2, if_neg c3], by unfold f_X11_life; rw [if_neg c1, if_neg c2, if_neg c3]⟩
      · refine J_iconst (x := (-1)) dX11_life_37 (by decide) ?_
        exact J_iret dX11_life_38 rfl ⟨_, rfl, rfl, by unfold f_X11_life; rw [if_neg c1, if_neg c2, if_pos c3], by unfold f_X11_life; rw [if_neg c1, if_neg c2, if_pos c3]⟩
def f_X11_named (v : fr_V) (x1 : Int32) : Int32 × fr_V := if (v 1100 52) = 0 then ((-1), up2 v 1100 2 0) else if (f_X11_isLife (up2 v 1100 2 0)  x1) = 0 then ((-1), up2 v 1100 2 0) else (v 1154 x1.toNatClampNeg, up2 v 1100 2 0)
theorem k_X11_named {l : Launch} {I : List Nat} (hI : fr_I I) (v : fr_V) (u : fr_U) (x1 : Int32) (n : Nat) (hL : v 1100 4 = nI n) (hL2 : n ≤ 12) : Con l mX11_named I v u [.ref 1100, .int x1] (QX u (fun a b => a = (f_X11_named v x1).1 ∧ b = (f_X11_named v x1).2)) := by
  refine Con.of (by decide) (Nat.le_of_ble_eq_true rfl) ?_
  show J l mX11_named I v u 0 [(0, .ref 1100), (1, .int x1)] [] _
  refine J_aload_n dX11_named_0 rfl 0 rfl ?_
  refine J_iconst (x := 0) dX11_named_1 (by decide) ?_
  refine J_puti (ci := 11) (j := 2) dX11_named_2 fl_X11_129 (i1100 hI) rfl rfl (fun q h => by cases h; rfl) rfl ?_
  refine J_aload_n dX11_named_5 rfl 0 rfl ?_
  refine J_gete (ci := 11) (j := 52) (x := v 1100 52) dX11_named_6 fl_X11_322 (i1100 hI) rfl rfl rfl ?_
  refine J_if_eq (tgt := 29) dX11_named_9 (by decide) (fun c1 => ?_) (fun c1 => ?_)
  · refine J_iconst (x := (-1)) dX11_named_29 (by decide) ?_
    exact J_iret dX11_named_30 rfl ⟨_, rfl, rfl, by unfold f_X11_named; rw [if_pos c1], by unfold f_X11_named; rw [if_pos c1]⟩
  · refine J_aload_n dX11_named_12 rfl 0 rfl ?_
    refine J_iload_n dX11_named_13 rfl 1 rfl ?_
    refine J_eVI (z := mX11_isLife) (As := [.int x1]) (rest := []) (ci := 11) (x := f_X11_isLife (up2 v 1100 2 0)  x1) dX11_named_14 ml_X11_221 ok_X11_isLife iv_X11_isLife (by decide) (i1100 hI) rfl rfl rfl rfl (Nat.le_of_ble_eq_true rfl) (k_X11_isLife hI (up2 v 1100 2 0) u _ ) ?_
    refine J_if_eq (tgt := 29) dX11_named_17 (by decide) (fun c2 => ?_) (fun c2 => ?_)
    · refine J_iconst (x := (-1)) dX11_named_29 (by decide) ?_
      exact J_iret dX11_named_30 rfl ⟨_, rfl, rfl, by unfold f_X11_named; rw [if_neg c1, if_pos c2], by unfold f_X11_named; rw [if_neg c1, if_pos c2]⟩
    · refine J_aload_n dX11_named_20 rfl 0 rfl ?_
      refine J_getr (ci := 11) (j := 53) (t := 1154) dX11_named_21 fl_X11_108 (i1100 hI) rfl rfl rfl ?_
      refine J_iload_n dX11_named_24 rfl 1 rfl ?_
      refine J_iale (x := v 1154 x1.toNatClampNeg) dX11_named_25 (i1154 hI) rfl (lf_in hL hL2 (by assumption)) rfl ?_
      refine J_goto (tgt := 30) dX11_named_26 (by decide) ?_
      exact J_iret dX11_named_30 rfl ⟨_, rfl, rfl, by unfold f_X11_named; rw [if_neg c1, if_neg c2], by unfold f_X11_named; rw [if_neg c1, if_neg c2]⟩
def f_X11_sold (v : fr_V) (x1 x2 x3 : Int32) : Int32 × fr_V := if (f_X11_isIn (up2 v 1100 2 0)  x1 0 3) = 0 then (0, up2 v 1100 2 0) else if (f_X11_isIn (up2 v 1100 2 0)  x2 0 9) = 0 then (0, up2 v 1100 2 0) else if (f_X11_isIn (up2 v 1100 2 0)  x3 0 1000) = 0 then (0, up2 v 1100 2 0) else (1, up2 (up2 v 1100 2 0) 1122 (((10 * x1) + x2).toNatClampNeg) x3)
theorem k_X11_sold {l : Launch} {I : List Nat} (hI : fr_I I) (v : fr_V) (u : fr_U) (x1 x2 x3 : Int32) : Con l mX11_sold I v u [.ref 1100, .int x1, .int x2, .int x3] (QX u (fun a b => a = (f_X11_sold v x1 x2 x3).1 ∧ b = (f_X11_sold v x1 x2 x3).2)) := by
  refine Con.of (by decide) (Nat.le_of_ble_eq_true rfl) ?_
  show J l mX11_sold I v u 0 [(0, .ref 1100), (1, .int x1), (2, .int x2), (3, .int x3)] [] _
  refine J_aload_n dX11_sold_0 rfl 0 rfl ?_
  refine J_iconst (x := 0) dX11_sold_1 (by decide) ?_
  refine J_puti (ci := 11) (j := 2) dX11_sold_2 fl_X11_129 (i1100 hI) rfl rfl (fun q h => by cases h; rfl) rfl ?_
  refine J_iload_n dX11_sold_5 rfl 1 rfl ?_
  refine J_iconst (x := 0) dX11_sold_6 (by decide) ?_
  refine J_iconst (x := 3) dX11_sold_7 (by decide) ?_
  refine J_eSI (z := mX11_isIn) (As := [.int x1, .int 0, .int 3]) (rest := []) (x := f_X11_isIn (up2 v 1100 2 0)  x1 0 3) dX11_sold_8 ml_X11_204 ok_X11_isIn iv_X11_isIn (by decide) rfl rfl (Nat.le_of_ble_eq_true rfl) (k_X11_isIn hI (up2 v 1100 2 0) u _ _ _ ) ?_
  refine J_if_eq (tgt := 35) dX11_sold_11 (by decide) (fun c1 => ?_) (fun c1 => ?_)
  · refine J_iconst (x := 0) dX11_sold_35 (by decide) ?_
    exact J_zret dX11_sold_36 rfl (by decide) ⟨_, rfl, rfl, by unfold f_X11_sold; rw [if_pos c1], by unfold f_X11_sold; rw [if_pos c1]⟩
  · refine J_iload_n dX11_sold_14 rfl 2 rfl ?_
    refine J_iconst (x := 0) dX11_sold_15 (by decide) ?_
    refine J_bipush (x := 9) dX11_sold_16 (by decide) ?_
    refine J_eSI (z := mX11_isIn) (As := [.int x2, .int 0, .int 9]) (rest := []) (x := f_X11_isIn (up2 v 1100 2 0)  x2 0 9) dX11_sold_18 ml_X11_204 ok_X11_isIn iv_X11_isIn (by decide) rfl rfl (Nat.le_of_ble_eq_true rfl) (k_X11_isIn hI (up2 v 1100 2 0) u _ _ _ ) ?_
    refine J_if_eq (tgt := 35) dX11_sold_21 (by decide) (fun c2 => ?_) (fun c2 => ?_)
    · refine J_iconst (x := 0) dX11_sold_35 (by decide) ?_
      exact J_zret dX11_sold_36 rfl (by decide) ⟨_, rfl, rfl, by unfold f_X11_sold; rw [if_neg c1, if_pos c2], by unfold f_X11_sold; rw [if_neg c1, if_pos c2]⟩
    · refine J_iload_n dX11_sold_24 rfl 3 rfl ?_
      refine J_iconst (x := 0) dX11_sold_25 (by decide) ?_
      refine J_sipush (x := 1000) dX11_sold_26 (by decide) ?_
      refine J_eSI (z := mX11_isIn) (As := [.int x3, .int 0, .int 1000]) (rest := []) (x := f_X11_isIn (up2 v 1100 2 0)  x3 0 1000) dX11_sold_29 ml_X11_204 ok_X11_isIn iv_X11_isIn (by decide) rfl rfl (Nat.le_of_ble_eq_true rfl) (k_X11_isIn hI (up2 v 1100 2 0) u _ _ _ ) ?_
      refine J_if_ne (tgt := 37) dX11_sold_32 (by decide) (fun c3 => ?_) (fun c3 => ?_)
      · refine J_aload_n dX11_sold_37 rfl 0 rfl ?_
        refine J_getr (ci := 11) (j := 21) (t := 1122) dX11_sold_38 fl_X11_52 (i1100 hI) rfl rfl rfl ?_
        refine J_bipush (x := 10) dX11_sold_41 (by decide) ?_
        refine J_iload_n dX11_sold_43 rfl 1 rfl ?_
        refine J_imul dX11_sold_44 ?_
        refine J_iload_n dX11_sold_45 rfl 2 rfl ?_
        refine J_iadd dX11_sold_46 ?_
        refine J_iload_n dX11_sold_47 rfl 3 rfl ?_
        refine J_iast dX11_sold_48 (i1122 hI) rfl (tb_in (by assumption) (by assumption)) ?_
        refine J_iconst (x := 1) dX11_sold_49 (by decide) ?_
        exact J_zret dX11_sold_50 rfl (by decide) ⟨_, rfl, rfl, by unfold f_X11_sold; rw [if_neg c1, if_neg c2, if_neg c3], by unfold f_X11_sold; rw [if_neg c1, if_neg c2, if_neg c3]⟩
      · refine J_iconst (x := 0) dX11_sold_35 (by decide) ?_
        exact J_zret dX11_sold_36 rfl (by decide) ⟨_, rfl, rfl, by unfold f_X11_sold; rw [if_neg c1, if_neg c2, if_pos c3], by unfold f_X11_sold; rw [if_neg c1, if_neg c2, if_pos c3]⟩
def f_X11_lived (v : fr_V) (x1 x2 x3 : Int32) : Int32 := if (v 1100 49) = 0 then v 1122 (((10 * x1) + x2).toNatClampNeg) else if 0 ≤ ((v 1100 50) + x3) then (if ((v 1100 50) + x3) ≤ (v 1100 49) then (1000 * ((v 1100 49) - ((v 1100 50) + x3))) / (v 1100 49) else (1000 * ((v 1100 49) - (v 1100 49))) / (v 1100 49)) else (1000 * ((v 1100 49) - 0)) / (v 1100 49)
theorem k_X11_lived {l : Launch} {I : List Nat} (hI : fr_I I) (v : fr_V) (u : fr_U) (x1 x2 x3 : Int32) (h1 : vp_in (10 * x1 + x2) 40) : Con l mX11_lived I v u [.ref 1100, .int x1, .int x2, .int x3] (QI v u (fun a => a = f_X11_lived v x1 x2 x3)) := by
  refine Con.of (by decide) (Nat.le_of_ble_eq_true rfl) ?_
  show J l mX11_lived I v u 0 [(0, .ref 1100), (1, .int x1), (2, .int x2), (3, .int x3)] [] _
  refine J_aload_n dX11_lived_0 rfl 0 rfl ?_
  refine J_gete (ci := 11) (j := 49) (x := v 1100 49) dX11_lived_1 fl_X11_286 (i1100 hI) rfl rfl rfl ?_
  refine J_if_ne (tgt := 19) dX11_lived_4 (by decide) (fun c1 => ?_) (fun c1 => ?_)
  · refine J_aload_n dX11_lived_19 rfl 0 rfl ?_
    refine J_gete (ci := 11) (j := 50) (x := v 1100 50) dX11_lived_20 fl_X11_289 (i1100 hI) rfl rfl rfl ?_
    refine J_iload_n dX11_lived_23 rfl 3 rfl ?_
    refine J_iadd dX11_lived_24 ?_
    refine J_istore (lv' := [(4, .int ((v 1100 50) + x3)), (0, .ref 1100), (1, .int x1), (2, .int x2), (3, .int x3)]) dX11_lived_25 (by decide) rfl ?_
    refine J_iload dX11_lived_27 0 rfl ?_
    refine J_if_ge (tgt := 36) dX11_lived_29 (by decide) (fun c2 => ?_) (fun c2 => ?_)
    · refine J_iload dX11_lived_36 0 rfl ?_
      refine J_aload_n dX11_lived_38 rfl 1 rfl ?_
      refine J_gete (ci := 11) (j := 49) (x := v 1100 49) dX11_lived_39 fl_X11_286 (i1100 hI) rfl rfl rfl ?_
      refine J_icmp_le (tgt := 52) dX11_lived_42 (by decide) (fun c3 => ?_) (fun c3 => ?_)
      · refine J_iload dX11_lived_52 0 rfl ?_
        refine J_istore (lv' := [(4, .int ((v 1100 50) + x3)), (0, .ref 1100), (1, .int x1), (2, .int x2), (3, .int x3)]) dX11_lived_54 (by decide) rfl ?_
        refine J_sipush (x := 1000) dX11_lived_56 (by decide) ?_
        refine J_aload_n dX11_lived_59 rfl 1 rfl ?_
        refine J_gete (ci := 11) (j := 49) (x := v 1100 49) dX11_lived_60 fl_X11_286 (i1100 hI) rfl rfl rfl ?_
        refine J_iload dX11_lived_63 0 rfl ?_
        refine J_isub dX11_lived_65 ?_
        refine J_imul dX11_lived_66 ?_
        refine J_aload_n dX11_lived_67 rfl 1 rfl ?_
        refine J_gete (ci := 11) (j := 49) (x := v 1100 49) dX11_lived_68 fl_X11_286 (i1100 hI) rfl rfl rfl ?_
        refine J_idiv dX11_lived_71 (by assumption) ?_
        exact J_iret dX11_lived_72 rfl ⟨_, rfl, rfl, rfl, by unfold f_X11_lived; rw [if_neg c1, if_pos c2, if_pos c3]⟩
      · refine J_aload_n dX11_lived_45 rfl 1 rfl ?_
        refine J_gete (ci := 11) (j := 49) (x := v 1100 49) dX11_lived_46 fl_X11_286 (i1100 hI) rfl rfl rfl ?_
        refine J_goto (tgt := 54) dX11_lived_49 (by decide) ?_
        refine J_istore (lv' := [(4, .int (v 1100 49)), (0, .ref 1100), (1, .int x1), (2, .int x2), (3, .int x3)]) dX11_lived_54 (by decide) rfl ?_
        refine J_sipush (x := 1000) dX11_lived_56 (by decide) ?_
        refine J_aload_n dX11_lived_59 rfl 1 rfl ?_
        refine J_gete (ci := 11) (j := 49) (x := v 1100 49) dX11_lived_60 fl_X11_286 (i1100 hI) rfl rfl rfl ?_
        refine J_iload dX11_lived_63 0 rfl ?_
        refine J_isub dX11_lived_65 ?_
        refine J_imul dX11_lived_66 ?_
        refine J_aload_n dX11_lived_67 rfl 1 rfl ?_
        refine J_gete (ci := 11) (j := 49) (x := v 1100 49) dX11_lived_68 fl_X11_286 (i1100 hI) rfl rfl rfl ?_
        refine J_idiv dX11_lived_71 (by assumption) ?_
        exact J_iret dX11_lived_72 rfl ⟨_, rfl, rfl, rfl, by unfold f_X11_lived; rw [if_neg c1, if_pos c2, if_neg c3]⟩
    · refine J_iconst (x := 0) dX11_lived_32 (by decide) ?_
      refine J_goto (tgt := 54) dX11_lived_33 (by decide) ?_
      refine J_istore (lv' := [(4, .int 0), (0, .ref 1100), (1, .int x1), (2, .int x2), (3, .int x3)]) dX11_lived_54 (by decide) rfl ?_
      refine J_sipush (x := 1000) dX11_lived_56 (by decide) ?_
      refine J_aload_n dX11_lived_59 rfl 1 rfl ?_
      refine J_gete (ci := 11) (j := 49) (x := v 1100 49) dX11_lived_60 fl_X11_286 (i1100 hI) rfl rfl rfl ?_
      refine J_iload dX11_lived_63 0 rfl ?_
      refine J_isub dX11_lived_65 ?_
      refine J_imul dX11_lived_66 ?_
      refine J_aload_n dX11_lived_67 rfl 1 rfl ?_
      refine J_gete (ci := 11) (j := 49) (x := v 1100 49) dX11_lived_68 fl_X11_286 (i1100 hI) rfl rfl rfl ?_
      refine J_idiv dX11_lived_71 (by assumption) ?_
      exact J_iret dX11_lived_72 rfl ⟨_, rfl, rfl, rfl, by unfold f_X11_lived; rw [if_neg c1, if_neg c2]⟩
  · refine J_aload_n dX11_lived_7 rfl 0 rfl ?_
    refine J_getr (ci := 11) (j := 21) (t := 1122) dX11_lived_8 fl_X11_52 (i1100 hI) rfl rfl rfl ?_
    refine J_bipush (x := 10) dX11_lived_11 (by decide) ?_
    refine J_iload_n dX11_lived_13 rfl 1 rfl ?_
    refine J_imul dX11_lived_14 ?_
    refine J_iload_n dX11_lived_15 rfl 2 rfl ?_
    refine J_iadd dX11_lived_16 ?_
    refine J_iale (x := v 1122 (((10 * x1) + x2).toNatClampNeg)) dX11_lived_17 (i1122 hI) rfl (by first | assumption | exact vp_in_nI (by omega) (by omega)) rfl ?_
    exact J_iret dX11_lived_18 rfl ⟨_, rfl, rfl, rfl, by unfold f_X11_lived; rw [if_pos c1]⟩
