def f_X11_isIn (v : fr_V) (x0 x1 x2 : Int32) : Int32 := if x0 < x1 then 0 else if x2 < x0 then 0 else 1
theorem k_X11_isIn {l : Launch} {I : List Nat} (hI : fr_I I) (v : fr_V) (u : fr_U) (x0 x1 x2 : Int32) : Con l mX11_isIn I v u [.int x0, .int x1, .int x2] (QI v u (fun a => a = f_X11_isIn v x0 x1 x2)) := by
  refine Con.of (by decide) (Nat.le_of_ble_eq_true rfl) ?_
  show J l mX11_isIn I v u 0 [(0, .int x0), (1, .int x1), (2, .int x2)] [] _
  refine J_iload_n dX11_isIn_0 rfl 0 rfl ?_
  refine J_iload_n dX11_isIn_1 rfl 1 rfl ?_
  refine J_icmp_lt (tgt := 14) dX11_isIn_2 (by decide) (fun c1 => ?_) (fun c1 => ?_)
  · refine J_iconst (x := 0) dX11_isIn_14 (by decide) ?_
    exact J_zret dX11_isIn_15 rfl (by decide) ⟨_, rfl, rfl, rfl, by unfold f_X11_isIn; rw [if_pos c1]⟩
  · refine J_iload_n dX11_isIn_5 rfl 0 rfl ?_
    refine J_iload_n dX11_isIn_6 rfl 2 rfl ?_
    refine J_icmp_gt (tgt := 14) dX11_isIn_7 (by decide) (fun c2 => ?_) (fun c2 => ?_)
    · refine J_iconst (x := 0) dX11_isIn_14 (by decide) ?_
      exact J_zret dX11_isIn_15 rfl (by decide) ⟨_, rfl, rfl, rfl, by unfold f_X11_isIn; rw [if_neg c1, if_pos c2]⟩
    · refine J_iconst (x := 1) dX11_isIn_10 (by decide) ?_
      refine J_goto (tgt := 15) dX11_isIn_11 (by decide) ?_
      exact J_zret dX11_isIn_15 rfl (by decide) ⟨_, rfl, rfl, rfl, by unfold f_X11_isIn; rw [if_neg c1, if_neg c2]⟩
def f_X11_isHalf (v : fr_V) (x0 : Int32) : Int32 := if x0 < 0 then 0 else if 79 < x0 then 0 else 1
theorem k_X11_isHalf {l : Launch} {I : List Nat} (hI : fr_I I) (v : fr_V) (u : fr_U) (x0 : Int32) : Con l mX11_isHalf I v u [.int x0] (QI v u (fun a => a = f_X11_isHalf v x0)) := by
  refine Con.of (by decide) (Nat.le_of_ble_eq_true rfl) ?_
  show J l mX11_isHalf I v u 0 [(0, .int x0)] [] _
  refine J_iload_n dX11_isHalf_0 rfl 0 rfl ?_
  refine J_if_lt (tgt := 14) dX11_isHalf_1 (by decide) (fun c1 => ?_) (fun c1 => ?_)
  · refine J_iconst (x := 0) dX11_isHalf_14 (by decide) ?_
    exact J_zret dX11_isHalf_15 rfl (by decide) ⟨_, rfl, rfl, rfl, by unfold f_X11_isHalf; rw [if_pos c1]⟩
  · refine J_iload_n dX11_isHalf_4 rfl 0 rfl ?_
    refine J_bipush (x := 79) dX11_isHalf_5 (by decide) ?_
    refine J_icmp_gt (tgt := 14) dX11_isHalf_7 (by decide) (fun c2 => ?_) (fun c2 => ?_)
    · refine J_iconst (x := 0) dX11_isHalf_14 (by decide) ?_
      exact J_zret dX11_isHalf_15 rfl (by decide) ⟨_, rfl, rfl, rfl, by unfold f_X11_isHalf; rw [if_neg c1, if_pos c2]⟩
    · refine J_iconst (x := 1) dX11_isHalf_10 (by decide) ?_
      refine J_goto (tgt := 15) dX11_isHalf_11 (by decide) ?_
      exact J_zret dX11_isHalf_15 rfl (by decide) ⟨_, rfl, rfl, rfl, by unfold f_X11_isHalf; rw [if_neg c1, if_neg c2]⟩
def f_X11_isHolder (v : fr_V) (x0 : Int32) : Int32 := if x0 < 0 then 0 else if 8 ≤ x0 then 0 else 1
theorem k_X11_isHolder {l : Launch} {I : List Nat} (hI : fr_I I) (v : fr_V) (u : fr_U) (x0 : Int32) : Con l mX11_isHolder I v u [.int x0] (QI v u (fun a => a = f_X11_isHolder v x0)) := by
  refine Con.of (by decide) (Nat.le_of_ble_eq_true rfl) ?_
  show J l mX11_isHolder I v u 0 [(0, .int x0)] [] _
  refine J_iload_n dX11_isHolder_0 rfl 0 rfl ?_
  refine J_if_lt (tgt := 14) dX11_isHolder_1 (by decide) (fun c1 => ?_) (fun c1 => ?_)
  · refine J_iconst (x := 0) dX11_isHolder_14 (by decide) ?_
    exact J_zret dX11_isHolder_15 rfl (by decide) ⟨_, rfl, rfl, rfl, by unfold f_X11_isHolder; rw [if_pos c1]⟩
  · refine J_iload_n dX11_isHolder_4 rfl 0 rfl ?_
    refine J_bipush (x := 8) dX11_isHolder_5 (by decide) ?_
    refine J_icmp_ge (tgt := 14) dX11_isHolder_7 (by decide) (fun c2 => ?_) (fun c2 => ?_)
    · refine J_iconst (x := 0) dX11_isHolder_14 (by decide) ?_
      exact J_zret dX11_isHolder_15 rfl (by decide) ⟨_, rfl, rfl, rfl, by unfold f_X11_isHolder; rw [if_neg c1, if_pos c2]⟩
    · refine J_iconst (x := 1) dX11_isHolder_10 (by decide) ?_
      refine J_goto (tgt := 15) dX11_isHolder_11 (by decide) ?_
      exact J_zret dX11_isHolder_15 rfl (by decide) ⟨_, rfl, rfl, rfl, by unfold f_X11_isHolder; rw [if_neg c1, if_neg c2]⟩
def f_X11_groupOf (v : fr_V) (x0 : Int32) : Int32 := if x0 ≤ 99 then x0 / 10 else 9
theorem k_X11_groupOf {l : Launch} {I : List Nat} (hI : fr_I I) (v : fr_V) (u : fr_U) (x0 : Int32) : Con l mX11_groupOf I v u [.int x0] (QI v u (fun a => a = f_X11_groupOf v x0)) := by
  refine Con.of (by decide) (Nat.le_of_ble_eq_true rfl) ?_
  show J l mX11_groupOf I v u 0 [(0, .int x0)] [] _
  refine J_iload_n dX11_groupOf_0 rfl 0 rfl ?_
  refine J_bipush (x := 99) dX11_groupOf_1 (by decide) ?_
  refine J_icmp_le (tgt := 11) dX11_groupOf_3 (by decide) (fun c1 => ?_) (fun c1 => ?_)
  · refine J_iload_n dX11_groupOf_11 rfl 0 rfl ?_
    refine J_bipush (x := 10) dX11_groupOf_12 (by decide) ?_
    refine J_idiv dX11_groupOf_14 (by decide) ?_
    exact J_iret dX11_groupOf_15 rfl ⟨_, rfl, rfl, rfl, by unfold f_X11_groupOf; rw [if_pos c1]⟩
  · refine J_bipush (x := 9) dX11_groupOf_6 (by decide) ?_
    refine J_goto (tgt := 15) dX11_groupOf_8 (by decide) ?_
    exact J_iret dX11_groupOf_15 rfl ⟨_, rfl, rfl, rfl, by unfold f_X11_groupOf; rw [if_neg c1]⟩
def f_X11_isLife (v : fr_V) (x1 : Int32) : Int32 := if x1 < 0 then 0 else if (v 1100 4) ≤ x1 then 0 else 1
theorem k_X11_isLife {l : Launch} {I : List Nat} (hI : fr_I I) (v : fr_V) (u : fr_U) (x1 : Int32) : Con l mX11_isLife I v u [.ref 1100, .int x1] (QI v u (fun a => a = f_X11_isLife v x1)) := by
  refine Con.of (by decide) (Nat.le_of_ble_eq_true rfl) ?_
  show J l mX11_isLife I v u 0 [(0, .ref 1100), (1, .int x1)] [] _
  refine J_iload_n dX11_isLife_0 rfl 1 rfl ?_
  refine J_if_lt (tgt := 16) dX11_isLife_1 (by decide) (fun c1 => ?_) (fun c1 => ?_)
  · refine J_iconst (x := 0) dX11_isLife_16 (by decide) ?_
    exact J_zret dX11_isLife_17 rfl (by decide) ⟨_, rfl, rfl, rfl, by unfold f_X11_isLife; rw [if_pos c1]⟩
  · refine J_iload_n dX11_isLife_4 rfl 1 rfl ?_
    refine J_aload_n dX11_isLife_5 rfl 0 rfl ?_
    refine J_gete (ci := 11) (j := 4) (x := v 1100 4) dX11_isLife_6 fl_X11_211 (i1100 hI) rfl rfl rfl ?_
    refine J_icmp_ge (tgt := 16) dX11_isLife_9 (by decide) (fun c2 => ?_) (fun c2 => ?_)
    · refine J_iconst (x := 0) dX11_isLife_16 (by decide) ?_
      exact J_zret dX11_isLife_17 rfl (by decide) ⟨_, rfl, rfl, rfl, by unfold f_X11_isLife; rw [if_neg c1, if_pos c2]⟩
    · refine J_iconst (x := 1) dX11_isLife_12 (by decide) ?_
      refine J_goto (tgt := 17) dX11_isLife_13 (by decide) ?_
      exact J_zret dX11_isLife_17 rfl (by decide) ⟨_, rfl, rfl, rfl, by unfold f_X11_isLife; rw [if_neg c1, if_neg c2]⟩
def f_X11_isRent (v : fr_V) (x1 : Int32) : Int32 := if x1 < 0 then 0 else if (v 1100 7) ≤ x1 then 0 else 1
theorem k_X11_isRent {l : Launch} {I : List Nat} (hI : fr_I I) (v : fr_V) (u : fr_U) (x1 : Int32) : Con l mX11_isRent I v u [.ref 1100, .int x1] (QI v u (fun a => a = f_X11_isRent v x1)) := by
  refine Con.of (by decide) (Nat.le_of_ble_eq_true rfl) ?_
  show J l mX11_isRent I v u 0 [(0, .ref 1100), (1, .int x1)] [] _
  refine J_iload_n dX11_isRent_0 rfl 1 rfl ?_
  refine J_if_lt (tgt := 16) dX11_isRent_1 (by decide) (fun c1 => ?_) (fun c1 => ?_)
  · refine J_iconst (x := 0) dX11_isRent_16 (by decide) ?_
    exact J_zret dX11_isRent_17 rfl (by decide) ⟨_, rfl, rfl, rfl, by unfold f_X11_isRent; rw [if_pos c1]⟩
  · refine J_iload_n dX11_isRent_4 rfl 1 rfl ?_
    refine J_aload_n dX11_isRent_5 rfl 0 rfl ?_
    refine J_gete (ci := 11) (j := 7) (x := v 1100 7) dX11_isRent_6 fl_X11_233 (i1100 hI) rfl rfl rfl ?_
    refine J_icmp_ge (tgt := 16) dX11_isRent_9 (by decide) (fun c2 => ?_) (fun c2 => ?_)
    · refine J_iconst (x := 0) dX11_isRent_16 (by decide) ?_
      exact J_zret dX11_isRent_17 rfl (by decide) ⟨_, rfl, rfl, rfl, by unfold f_X11_isRent; rw [if_neg c1, if_pos c2]⟩
    · refine J_iconst (x := 1) dX11_isRent_12 (by decide) ?_
      refine J_goto (tgt := 17) dX11_isRent_13 (by decide) ?_
      exact J_zret dX11_isRent_17 rfl (by decide) ⟨_, rfl, rfl, rfl, by unfold f_X11_isRent; rw [if_neg c1, if_neg c2]⟩
def f_X11_thrown (v : fr_V) : Int32 := v 1100 2
theorem k_X11_thrown {l : Launch} {I : List Nat} (hI : fr_I I) (v : fr_V) (u : fr_U) : Con l mX11_thrown I v u [.ref 1100] (QI v u (fun a => a = f_X11_thrown v)) := by
  refine Con.of (by decide) (Nat.le_of_ble_eq_true rfl) ?_
  show J l mX11_thrown I v u 0 [(0, .ref 1100)] [] _
  refine J_aload_n dX11_thrown_0 rfl 0 rfl ?_
  refine J_gete (ci := 11) (j := 2) (x := v 1100 2) dX11_thrown_1 fl_X11_129 (i1100 hI) rfl rfl rfl ?_
  exact J_iret dX11_thrown_4 rfl ⟨_, rfl, rfl, rfl, rfl⟩
def f_X11_ageIn (v : fr_V) (x1 x2 : Int32) : Int32 := (x2 - (v 1106 x1.toNatClampNeg)) / 2
theorem k_X11_ageIn {l : Launch} {I : List Nat} (hI : fr_I I) (v : fr_V) (u : fr_U) (x1 x2 : Int32) (h1 : vp_in x1 12) : Con l mX11_ageIn I v u [.ref 1100, .int x1, .int x2] (QI v u (fun a => a = f_X11_ageIn v x1 x2)) := by
  refine Con.of (by decide) (Nat.le_of_ble_eq_true rfl) ?_
  show J l mX11_ageIn I v u 0 [(0, .ref 1100), (1, .int x1), (2, .int x2)] [] _
  refine J_iload_n dX11_ageIn_0 rfl 2 rfl ?_
  refine J_aload_n dX11_ageIn_1 rfl 0 rfl ?_
  refine J_getr (ci := 11) (j := 5) (t := 1106) dX11_ageIn_2 fl_X11_13 (i1100 hI) rfl rfl rfl ?_
  refine J_iload_n dX11_ageIn_5 rfl 1 rfl ?_
  refine J_iale (x := v 1106 x1.toNatClampNeg) dX11_ageIn_6 (i1106 hI) rfl (by first | assumption | exact vp_in_nI (by omega) (by omega)) rfl ?_
  refine J_isub dX11_ageIn_7 ?_
  refine J_iconst (x := 2) dX11_ageIn_8 (by decide) ?_
  refine J_idiv dX11_ageIn_9 (by decide) ?_
  exact J_iret dX11_ageIn_10 rfl ⟨_, rfl, rfl, rfl, rfl⟩
def f_X11_wrong (v : fr_V) (x1 : Int32) : Int32 × fr_V := (0, up2 (up2 v 1100 23 x1) 1100 24 (v 1100 29))
theorem k_X11_wrong {l : Launch} {I : List Nat} (hI : fr_I I) (v : fr_V) (u : fr_U) (x1 : Int32) : Con l mX11_wrong I v u [.ref 1100, .int x1] (QX u (fun a b => a = (f_X11_wrong v x1).1 ∧ b = (f_X11_wrong v x1).2)) := by
  refine Con.of (by decide) (Nat.le_of_ble_eq_true rfl) ?_
  show J l mX11_wrong I v u 0 [(0, .ref 1100), (1, .int x1)] [] _
  refine J_aload_n dX11_wrong_0 rfl 0 rfl ?_
  refine J_iload_n dX11_wrong_1 rfl 1 rfl ?_
  refine J_puti (ci := 11) (j := 23) dX11_wrong_2 fl_X11_135 (i1100 hI) rfl rfl (fun q h => by cases h; rfl) rfl ?_
  refine J_aload_n dX11_wrong_5 rfl 0 rfl ?_
  refine J_aload_n dX11_wrong_6 rfl 0 rfl ?_
  refine J_gete (ci := 11) (j := 29) (x := v 1100 29) dX11_wrong_7 fl_X11_138 (i1100 hI) rfl rfl rfl ?_
  refine J_puti (ci := 11) (j := 24) dX11_wrong_10 fl_X11_58 (i1100 hI) rfl rfl (fun q h => by cases h; rfl) rfl ?_
  refine J_iconst (x := 0) dX11_wrong_13 (by decide) ?_
  exact J_zret dX11_wrong_14 rfl (by decide) ⟨_, rfl, rfl, rfl, rfl⟩
def f_X11_isWord (v : fr_V) (x1 : Int32) : Int32 := if (v 1100 27) = 1 then (if (v 1100 28) = x1 then 1 else 0) else 0
theorem k_X11_isWord {l : Launch} {I : List Nat} (hI : fr_I I) (v : fr_V) (u : fr_U) (x1 : Int32) : Con l mX11_isWord I v u [.ref 1100, .int x1] (QI v u (fun a => a = f_X11_isWord v x1)) := by
  refine Con.of (by decide) (Nat.le_of_ble_eq_true rfl) ?_
  show J l mX11_isWord I v u 0 [(0, .ref 1100), (1, .int x1)] [] _
  refine J_aload_n dX11_isWord_0 rfl 0 rfl ?_
  refine J_gete (ci := 11) (j := 27) (x := v 1100 27) dX11_isWord_1 fl_X11_147 (i1100 hI) rfl rfl rfl ?_
  refine J_iconst (x := 1) dX11_isWord_4 (by decide) ?_
  refine J_icmp_ne (tgt := 20) dX11_isWord_5 (by decide) (fun c1 => ?_) (fun c1 => ?_)
  · refine J_iconst (x := 0) dX11_isWord_20 (by decide) ?_
    exact J_zret dX11_isWord_21 rfl (by decide) ⟨_, rfl, rfl, rfl, by unfold f_X11_isWord; rw [if_neg c1]⟩
  · refine J_aload_n dX11_isWord_8 rfl 0 rfl ?_
    refine J_gete (ci := 11) (j := 28) (x := v 1100 28) dX11_isWord_9 fl_X11_158 (i1100 hI) rfl rfl rfl ?_
    refine J_iload_n dX11_isWord_12 rfl 1 rfl ?_
    refine J_icmp_ne (tgt := 20) dX11_isWord_13 (by decide) (fun c2 => ?_) (fun c2 => ?_)
    · refine J_iconst (x := 0) dX11_isWord_20 (by decide) ?_
      exact J_zret dX11_isWord_21 rfl (by decide) ⟨_, rfl, rfl, rfl, by unfold f_X11_isWord; rw [if_pos c1, if_neg c2]⟩
    · refine J_iconst (x := 1) dX11_isWord_16 (by decide) ?_
      refine J_goto (tgt := 21) dX11_isWord_17 (by decide) ?_
      exact J_zret dX11_isWord_21 rfl (by decide) ⟨_, rfl, rfl, rfl, by unfold f_X11_isWord; rw [if_pos c1, if_pos c2]⟩
def f_X11_isSmall (v : fr_V) (x1 : Int32) : Int32 := if (v 1100 25) ≤ x1 then 0 else if (v 1101 x1.toNatClampNeg) < 97 then 0 else if 122 < (v 1101 x1.toNatClampNeg) then 0 else 1
theorem k_X11_isSmall {l : Launch} {I : List Nat} (hI : fr_I I) (v : fr_V) (u : fr_U) (x1 : Int32) (h1 : ¬ v 1100 25 ≤ x1 → vp_in x1 500) : Con l mX11_isSmall I v u [.ref 1100, .int x1] (QI v u (fun a => a = f_X11_isSmall v x1)) := by
  refine Con.of (by decide) (Nat.le_of_ble_eq_true rfl) ?_
  show J l mX11_isSmall I v u 0 [(0, .ref 1100), (1, .int x1)] [] _
  refine J_iload_n dX11_isSmall_0 rfl 1 rfl ?_
  refine J_aload_n dX11_isSmall_1 rfl 0 rfl ?_
  refine J_gete (ci := 11) (j := 25) (x := v 1100 25) dX11_isSmall_2 fl_X11_141 (i1100 hI) rfl rfl rfl ?_
  refine J_icmp_ge (tgt := 34) dX11_isSmall_5 (by decide) (fun c1 => ?_) (fun c1 => ?_)
  · refine J_iconst (x := 0) dX11_isSmall_34 (by decide) ?_
    exact J_zret dX11_isSmall_35 rfl (by decide) ⟨_, rfl, rfl, rfl, by unfold f_X11_isSmall; rw [if_pos c1]⟩
  · refine J_aload_n dX11_isSmall_8 rfl 0 rfl ?_
    refine J_getr (ci := 11) (j := 0) (t := 1101) dX11_isSmall_9 fl_X11_7 (i1100 hI) rfl rfl rfl ?_
    refine J_iload_n dX11_isSmall_12 rfl 1 rfl ?_
    refine J_iale (x := v 1101 x1.toNatClampNeg) dX11_isSmall_13 (i1101 hI) rfl (h1 c1) rfl ?_
    refine J_bipush (x := 97) dX11_isSmall_14 (by decide) ?_
    refine J_icmp_lt (tgt := 34) dX11_isSmall_16 (by decide) (fun c2 => ?_) (fun c2 => ?_)
    · refine J_iconst (x := 0) dX11_isSmall_34 (by decide) ?_
      exact J_zret dX11_isSmall_35 rfl (by decide) ⟨_, rfl, rfl, rfl, by unfold f_X11_isSmall; rw [if_neg c1, if_pos c2]⟩
    · refine J_aload_n dX11_isSmall_19 rfl 0 rfl ?_
      refine J_getr (ci := 11) (j := 0) (t := 1101) dX11_isSmall_20 fl_X11_7 (i1100 hI) rfl rfl rfl ?_
      refine J_iload_n dX11_isSmall_23 rfl 1 rfl ?_
      refine J_iale (x := v 1101 x1.toNatClampNeg) dX11_isSmall_24 (i1101 hI) rfl (h1 c1) rfl ?_
      refine J_bipush (x := 122) dX11_isSmall_25 (by decide) ?_
      refine J_icmp_gt (tgt := 34) dX11_isSmall_27 (by decide) (fun c3 => ?_) (fun c3 => ?_)
      · refine J_iconst (x := 0) dX11_isSmall_34 (by decide) ?_
        exact J_zret dX11_isSmall_35 rfl (by decide) ⟨_, rfl, rfl, rfl, by unfold f_X11_isSmall; rw [if_neg c1, if_neg c2, if_pos c3]⟩
      · refine J_iconst (x := 1) dX11_isSmall_30 (by decide) ?_
        refine J_goto (tgt := 35) dX11_isSmall_31 (by decide) ?_
        exact J_zret dX11_isSmall_35 rfl (by decide) ⟨_, rfl, rfl, rfl, by unfold f_X11_isSmall; rw [if_neg c1, if_neg c2, if_neg c3]⟩
def f_X11_isDigit (v : fr_V) (x1 : Int32) : Int32 := if (v 1100 25) ≤ x1 then 0 else if (v 1101 x1.toNatClampNeg) < 48 then 0 else if 57 < (v 1101 x1.toNatClampNeg) then 0 else 1
theorem k_X11_isDigit {l : Launch} {I : List Nat} (hI : fr_I I) (v : fr_V) (u : fr_U) (x1 : Int32) (h1 : ¬ v 1100 25 ≤ x1 → vp_in x1 500) : Con l mX11_isDigit I v u [.ref 1100, .int x1] (QI v u (fun a => a = f_X11_isDigit v x1)) := by
  refine Con.of (by decide) (Nat.le_of_ble_eq_true rfl) ?_
  show J l mX11_isDigit I v u 0 [(0, .ref 1100), (1, .int x1)] [] _
  refine J_iload_n dX11_isDigit_0 rfl 1 rfl ?_
  refine J_aload_n dX11_isDigit_1 rfl 0 rfl ?_
  refine J_gete (ci := 11) (j := 25) (x := v 1100 25) dX11_isDigit_2 fl_X11_141 (i1100 hI) rfl rfl rfl ?_
  refine J_icmp_ge (tgt := 34) dX11_isDigit_5 (by decide) (fun c1 => ?_) (fun c1 => ?_)
  · refine J_iconst (x := 0) dX11_isDigit_34 (by decide) ?_
    exact J_zret dX11_isDigit_35 rfl (by decide) ⟨_, rfl, rfl, rfl, by unfold f_X11_isDigit; rw [if_pos c1]⟩
  · refine J_aload_n dX11_isDigit_8 rfl 0 rfl ?_
    refine J_getr (ci := 11) (j := 0) (t := 1101) dX11_isDigit_9 fl_X11_7 (i1100 hI) rfl rfl rfl ?_
    refine J_iload_n dX11_isDigit_12 rfl 1 rfl ?_
    refine J_iale (x := v 1101 x1.toNatClampNeg) dX11_isDigit_13 (i1101 hI) rfl (h1 c1) rfl ?_
    refine J_bipush (x := 48) dX11_isDigit_14 (by decide) ?_
    refine J_icmp_lt (tgt := 34) dX11_isDigit_16 (by decide) (fun c2 => ?_) (fun c2 => ?_)
    · refine J_iconst (x := 0) dX11_isDigit_34 (by decide) ?_
      exact J_zret dX11_isDigit_35 rfl (by decide) ⟨_, rfl, rfl, rfl, by unfold f_X11_isDigit; rw [if_neg c1, if_pos c2]⟩
    · refine J_aload_n dX11_isDigit_19 rfl 0 rfl ?_
      refine J_getr (ci := 11) (j := 0) (t := 1101) dX11_isDigit_20 fl_X11_7 (i1100 hI) rfl rfl rfl ?_
      refine J_iload_n dX11_isDigit_23 rfl 1 rfl ?_
      refine J_iale (x := v 1101 x1.toNatClampNeg) dX11_isDigit_24 (i1101 hI) rfl (h1 c1) rfl ?_
      refine J_bipush (x := 57) dX11_isDigit_25 (by decide) ?_
      refine J_icmp_gt (tgt := 34) dX11_isDigit_27 (by decide) (fun c3 => ?_) (fun c3 => ?_)
      · refine J_iconst (x := 0) dX11_isDigit_34 (by decide) ?_
        exact J_zret dX11_isDigit_35 rfl (by decide) ⟨_, rfl, rfl, rfl, by unfold f_X11_isDigit; rw [if_neg c1, if_neg c2, if_pos c3]⟩
      · refine J_iconst (x := 1) dX11_isDigit_30 (by decide) ?_
        refine J_goto (tgt := 35) dX11_isDigit_31 (by decide) ?_
        exact J_zret dX11_isDigit_35 rfl (by decide) ⟨_, rfl, rfl, rfl, by unfold f_X11_isDigit; rw [if_neg c1, if_neg c2, if_neg c3]⟩
def f_X11_fault (v : fr_V) (x1 : Int32) : Int32 × fr_V := if x1 = 0 then (v 1100 23, up2 v 1100 2 0) else if x1 = 1 then (v 1100 24, up2 v 1100 2 0) else ((-1), up2 v 1100 2 0)
theorem k_X11_fault {l : Launch} {I : List Nat} (hI : fr_I I) (v : fr_V) (u : fr_U) (x1 : Int32) : Con l mX11_fault I v u [.ref 1100, .int x1] (QX u (fun a b => a = (f_X11_fault v x1).1 ∧ b = (f_X11_fault v x1).2)) := by
  refine Con.of (by decide) (Nat.le_of_ble_eq_true rfl) ?_
  show J l mX11_fault I v u 0 [(0, .ref 1100), (1, .int x1)] [] _
  refine J_aload_n dX11_fault_0 rfl 0 rfl ?_
  refine J_iconst (x := 0) dX11_fault_1 (by decide) ?_
  refine J_puti (ci := 11) (j := 2) dX11_fault_2 fl_X11_129 (i1100 hI) rfl rfl (fun q h => by cases h; rfl) rfl ?_
  refine J_iload_n dX11_fault_5 rfl 1 rfl ?_
  refine J_if_ne (tgt := 16) dX11_fault_6 (by decide) (fun c1 => ?_) (fun c1 => ?_)
  · refine J_iload_n dX11_fault_16 rfl 1 rfl ?_
    refine J_iconst (x := 1) dX11_fault_17 (by decide) ?_
    refine J_icmp_ne (tgt := 28) dX11_fault_18 (by decide) (fun c2 => ?_) (fun c2 => ?_)
    · refine J_iconst (x := (-1)) dX11_fault_28 (by decide) ?_
      exact J_iret dX11_fault_29 rfl ⟨_, rfl, rfl, by unfold f_X11_fault; rw [if_neg c1, if_neg c2], by unfold f_X11_fault; rw [if_neg c1, if_neg c2]⟩
    · refine J_aload_n dX11_fault_21 rfl 0 rfl ?_
      refine J_gete (ci := 11) (j := 24) (x := v 1100 24) dX11_fault_22 fl_X11_58 (i1100 hI) rfl rfl rfl ?_
      refine J_goto (tgt := 29) dX11_fault_25 (by decide) ?_
      exact J_iret dX11_fault_29 rfl ⟨_, rfl, rfl, by unfold f_X11_fault; rw [if_neg c1, if_pos c2], by unfold f_X11_fault; rw [if_neg c1, if_pos c2]⟩
  · refine J_aload_n dX11_fault_9 rfl 0 rfl ?_
    refine J_gete (ci := 11) (j := 23) (x := v 1100 23) dX11_fault_10 fl_X11_135 (i1100 hI) rfl rfl rfl ?_
    refine J_goto (tgt := 29) dX11_fault_13 (by decide) ?_
    exact J_iret dX11_fault_29 rfl ⟨_, rfl, rfl, by unfold f_X11_fault; rw [if_pos c1], by unfold f_X11_fault; rw [if_pos c1]⟩
def f_X11_halves (v : fr_V) (x1 : Int32) : Int32 × fr_V := if (f_X11_isIn (up2 v 1100 2 0) x1 0 79) = 0 then ((-1), up2 v 1100 2 0) else if ((v 1100 3) + x1) ≤ 79 then ((v 1100 3) + x1, up2 (up2 v 1100 2 0) 1100 3 ((v 1100 3) + x1)) else ((-1), up2 v 1100 2 0)
theorem k_X11_halves {l : Launch} {I : List Nat} (hI : fr_I I) (v : fr_V) (u : fr_U) (x1 : Int32) : Con l mX11_halves I v u [.ref 1100, .int x1] (QX u (fun a b => a = (f_X11_halves v x1).1 ∧ b = (f_X11_halves v x1).2)) := by
  refine Con.of (by decide) (Nat.le_of_ble_eq_true rfl) ?_
  show J l mX11_halves I v u 0 [(0, .ref 1100), (1, .int x1)] [] _
  refine J_aload_n dX11_halves_0 rfl 0 rfl ?_
  refine J_iconst (x := 0) dX11_halves_1 (by decide) ?_
  refine J_puti (ci := 11) (j := 2) dX11_halves_2 fl_X11_129 (i1100 hI) rfl rfl (fun q h => by cases h; rfl) rfl ?_
  refine J_iload_n dX11_halves_5 rfl 1 rfl ?_
  refine J_iconst (x := 0) dX11_halves_6 (by decide) ?_
  refine J_bipush (x := 79) dX11_halves_7 (by decide) ?_
  refine J_eSI (z := mX11_isIn) (As := [.int x1, .int 0, .int 79]) (rest := []) (x := f_X11_isIn (up2 v 1100 2 0) x1 0 79) dX11_halves_9 ml_X11_204 ok_X11_isIn iv_X11_isIn (by decide) rfl rfl (Nat.le_of_ble_eq_true rfl) (k_X11_isIn hI _ _ _ _ _ ) ?_
  refine J_if_eq (tgt := 26) dX11_halves_12 (by decide) (fun c1 => ?_) (fun c1 => ?_)
  · refine J_iconst (x := (-1)) dX11_halves_26 (by decide) ?_
    exact J_iret dX11_halves_27 rfl ⟨_, rfl, rfl, by unfold f_X11_halves; rw [if_pos c1], by unfold f_X11_halves; rw [if_pos c1]⟩
  · refine J_aload_n dX11_halves_15 rfl 0 rfl ?_
    refine J_gete (ci := 11) (j := 3) (x := v 1100 3) dX11_halves_16 fl_X11_208 (i1100 hI) rfl rfl rfl ?_
    refine J_iload_n dX11_halves_19 rfl 1 rfl ?_
    refine J_iadd dX11_halves_20 ?_
    refine J_bipush (x := 79) dX11_halves_21 (by decide) ?_
    refine J_icmp_le (tgt := 28) dX11_halves_23 (by decide) (fun c2 => ?_) (fun c2 => ?_)
    · refine J_aload_n dX11_halves_28 rfl 0 rfl ?_
      refine J_dup dX11_halves_29 rfl ?_
      refine J_gete (ci := 11) (j := 3) (x := v 1100 3) dX11_halves_30 fl_X11_208 (i1100 hI) rfl rfl rfl ?_
      refine J_iload_n dX11_halves_33 rfl 1 rfl ?_
      refine J_iadd dX11_halves_34 ?_
      refine J_puti (ci := 11) (j := 3) dX11_halves_35 fl_X11_208 (i1100 hI) rfl rfl (fun q h => by cases h; rfl) rfl ?_
      refine J_aload_n dX11_halves_38 rfl 0 rfl ?_
      refine J_gete (ci := 11) (j := 3) (x := (v 1100 3) + x1) dX11_halves_39 fl_X11_208 (i1100 hI) rfl rfl rfl ?_
      exact J_iret dX11_halves_42 rfl ⟨_, rfl, rfl, by unfold f_X11_halves; rw [if_neg c1, if_pos c2], by unfold f_X11_halves; rw [if_neg c1, if_pos c2]⟩
    · refine J_iconst (x := (-1)) dX11_halves_26 (by decide) ?_
      exact J_iret dX11_halves_27 rfl ⟨_, rfl, rfl, by unfold f_X11_halves; rw [if_neg c1, if_neg c2], by unfold f_X11_halves; rw [if_neg c1, if_neg c2]⟩
def f_X11_isFalse (v : fr_V) (x1 : Int32) : Int32 := if (v 1120 x1.toNatClampNeg) < (v 1106 ((v 1119 x1.toNatClampNeg).toNatClampNeg)) then 1 else if (v 1146 ((v 1119 x1.toNatClampNeg).toNatClampNeg)) = (-1) then 0 else if (v 1120 x1.toNatClampNeg) ≤ (v 1146 ((v 1119 x1.toNatClampNeg).toNatClampNeg)) then 0 else 1
theorem k_X11_isFalse {l : Launch} {I : List Nat} (hI : fr_I I) (v : fr_V) (u : fr_U) (x1 : Int32) (h1 : vp_in x1 60) (h2 : vp_in (v 1119 x1.toNatClampNeg) 12) : Con l mX11_isFalse I v u [.ref 1100, .int x1] (QI v u (fun a => a = f_X11_isFalse v x1)) := by
  refine Con.of (by decide) (Nat.le_of_ble_eq_true rfl) ?_
  show J l mX11_isFalse I v u 0 [(0, .ref 1100), (1, .int x1)] [] _
  refine J_aload_n dX11_isFalse_0 rfl 0 rfl ?_
  refine J_getr (ci := 11) (j := 18) (t := 1119) dX11_isFalse_1 fl_X11_43 (i1100 hI) rfl rfl rfl ?_
  refine J_iload_n dX11_isFalse_4 rfl 1 rfl ?_
  refine J_iale (x := v 1119 x1.toNatClampNeg) dX11_isFalse_5 (i1119 hI) rfl (by first | assumption | exact vp_in_nI (by omega) (by omega)) rfl ?_
  refine J_istore_n (lv' := [(2, .int (v 1119 x1.toNatClampNeg)), (0, .ref 1100), (1, .int x1)]) dX11_isFalse_6 rfl (by decide) rfl ?_
  refine J_aload_n dX11_isFalse_7 rfl 1 rfl ?_
  refine J_getr (ci := 11) (j := 19) (t := 1120) dX11_isFalse_8 fl_X11_46 (i1100 hI) rfl rfl rfl ?_
  refine J_iload_n dX11_isFalse_11 rfl 2 rfl ?_
  refine J_iale (x := v 1120 x1.toNatClampNeg) dX11_isFalse_12 (i1120 hI) rfl (by first | assumption | exact vp_in_nI (by omega) (by omega)) rfl ?_
  refine J_aload_n dX11_isFalse_13 rfl 1 rfl ?_
  refine J_getr (ci := 11) (j := 5) (t := 1106) dX11_isFalse_14 fl_X11_13 (i1100 hI) rfl rfl rfl ?_
  refine J_iload_n dX11_isFalse_17 rfl 0 rfl ?_
  refine J_iale (x := v 1106 ((v 1119 x1.toNatClampNeg).toNatClampNeg)) dX11_isFalse_18 (i1106 hI) rfl (by first | assumption | exact vp_in_nI (by omega) (by omega)) rfl ?_
  refine J_icmp_lt (tgt := 47) dX11_isFalse_19 (by decide) (fun c1 => ?_) (fun c1 => ?_)
  · refine J_iconst (x := 1) dX11_isFalse_47 (by decide) ?_
    refine J_goto (tgt := 52) dX11_isFalse_48 (by decide) ?_
    exact J_zret dX11_isFalse_52 rfl (by decide) ⟨_, rfl, rfl, rfl, by unfold f_X11_isFalse; rw [if_pos c1]⟩
  · refine J_aload_n dX11_isFalse_22 rfl 1 rfl ?_
    refine J_getr (ci := 11) (j := 45) (t := 1146) dX11_isFalse_23 fl_X11_96 (i1100 hI) rfl rfl rfl ?_
    refine J_iload_n dX11_isFalse_26 rfl 0 rfl ?_
    refine J_iale (x := v 1146 ((v 1119 x1.toNatClampNeg).toNatClampNeg)) dX11_isFalse_27 (i1146 hI) rfl (by first | assumption | exact vp_in_nI (by omega) (by omega)) rfl ?_
    refine J_iconst (x := (-1)) dX11_isFalse_28 (by decide) ?_
    refine J_icmp_eq (tgt := 51) dX11_isFalse_29 (by decide) (fun c2 => ?_) (fun c2 => ?_)
    · refine J_iconst (x := 0) dX11_isFalse_51 (by decide) ?_
      exact J_zret dX11_isFalse_52 rfl (by decide) ⟨_, rfl, rfl, rfl, by unfold f_X11_isFalse; rw [if_neg c1, if_pos c2]⟩
    · refine J_aload_n dX11_isFalse_32 rfl 1 rfl ?_
      refine J_getr (ci := 11) (j := 19) (t := 1120) dX11_isFalse_33 fl_X11_46 (i1100 hI) rfl rfl rfl ?_
      refine J_iload_n dX11_isFalse_36 rfl 2 rfl ?_
      refine J_iale (x := v 1120 x1.toNatClampNeg) dX11_isFalse_37 (i1120 hI) rfl (by first | assumption | exact vp_in_nI (by omega) (by omega)) rfl ?_
      refine J_aload_n dX11_isFalse_38 rfl 1 rfl ?_
      refine J_getr (ci := 11) (j := 45) (t := 1146) dX11_isFalse_39 fl_X11_96 (i1100 hI) rfl rfl rfl ?_
      refine J_iload_n dX11_isFalse_42 rfl 0 rfl ?_
      refine J_iale (x := v 1146 ((v 1119 x1.toNatClampNeg).toNatClampNeg)) dX11_isFalse_43 (i1146 hI) rfl (by first | assumption | exact vp_in_nI (by omega) (by omega)) rfl ?_
      refine J_icmp_le (tgt := 51) dX11_isFalse_44 (by decide) (fun c3 => ?_) (fun c3 => ?_)
      · refine J_iconst (x := 0) dX11_isFalse_51 (by decide) ?_
        exact J_zret dX11_isFalse_52 rfl (by decide) ⟨_, rfl, rfl, rfl, by unfold f_X11_isFalse; rw [if_neg c1, if_neg c2, if_pos c3]⟩
      · refine J_iconst (x := 1) dX11_isFalse_47 (by decide) ?_
        refine J_goto (tgt := 52) dX11_isFalse_48 (by decide) ?_
        exact J_zret dX11_isFalse_52 rfl (by decide) ⟨_, rfl, rfl, rfl, by unfold f_X11_isFalse; rw [if_neg c1, if_neg c2, if_neg c3]⟩
def f_X11_lives (v : fr_V) (x1 x2 : Int32) : Int32 := if x1 = (-1) then 0 else if (v 1146 x1.toNatClampNeg) = (-1) then 1 else if (v 1146 x1.toNatClampNeg) < x2 then 0 else 1
theorem k_X11_lives {l : Launch} {I : List Nat} (hI : fr_I I) (v : fr_V) (u : fr_U) (x1 x2 : Int32) (h1 : ¬ x1 = (-1) → vp_in x1 12) : Con l mX11_lives I v u [.ref 1100, .int x1, .int x2] (QI v u (fun a => a = f_X11_lives v x1 x2)) := by
  refine Con.of (by decide) (Nat.le_of_ble_eq_true rfl) ?_
  show J l mX11_lives I v u 0 [(0, .ref 1100), (1, .int x1), (2, .int x2)] [] _
  refine J_iload_n dX11_lives_0 rfl 1 rfl ?_
  refine J_iconst (x := (-1)) dX11_lives_1 (by decide) ?_
  refine J_icmp_eq (tgt := 29) dX11_lives_2 (by decide) (fun c1 => ?_) (fun c1 => ?_)
  · refine J_iconst (x := 0) dX11_lives_29 (by decide) ?_
    exact J_zret dX11_lives_30 rfl (by decide) ⟨_, rfl, rfl, rfl, by unfold f_X11_lives; rw [if_pos c1]⟩
  · refine J_aload_n dX11_lives_5 rfl 0 rfl ?_
    refine J_getr (ci := 11) (j := 45) (t := 1146) dX11_lives_6 fl_X11_96 (i1100 hI) rfl rfl rfl ?_
    refine J_iload_n dX11_lives_9 rfl 1 rfl ?_
    refine J_iale (x := v 1146 x1.toNatClampNeg) dX11_lives_10 (i1146 hI) rfl (h1 (by assumption)) rfl ?_
    refine J_iconst (x := (-1)) dX11_lives_11 (by decide) ?_
    refine J_icmp_eq (tgt := 25) dX11_lives_12 (by decide) (fun c2 => ?_) (fun c2 => ?_)
    · refine J_iconst (x := 1) dX11_lives_25 (by decide) ?_
      refine J_goto (tgt := 30) dX11_lives_26 (by decide) ?_
      exact J_zret dX11_lives_30 rfl (by decide) ⟨_, rfl, rfl, rfl, by unfold f_X11_lives; rw [if_neg c1, if_pos c2]⟩
    · refine J_aload_n dX11_lives_15 rfl 0 rfl ?_
      refine J_getr (ci := 11) (j := 45) (t := 1146) dX11_lives_16 fl_X11_96 (i1100 hI) rfl rfl rfl ?_
      refine J_iload_n dX11_lives_19 rfl 1 rfl ?_
      refine J_iale (x := v 1146 x1.toNatClampNeg) dX11_lives_20 (i1146 hI) rfl (h1 (by assumption)) rfl ?_
      refine J_iload_n dX11_lives_21 rfl 2 rfl ?_
      refine J_icmp_lt (tgt := 29) dX11_lives_22 (by decide) (fun c3 => ?_) (fun c3 => ?_)
      · refine J_iconst (x := 0) dX11_lives_29 (by decide) ?_
        exact J_zret dX11_lives_30 rfl (by decide) ⟨_, rfl, rfl, rfl, by unfold f_X11_lives; rw [if_neg c1, if_neg c2, if_pos c3]⟩
      · refine J_iconst (x := 1) dX11_lives_25 (by decide) ?_
        refine J_goto (tgt := 30) dX11_lives_26 (by decide) ?_
        exact J_zret dX11_lives_30 rfl (by decide) ⟨_, rfl, rfl, rfl, by unfold f_X11_lives; rw [if_neg c1, if_neg c2, if_neg c3]⟩
def f_X11_told (v : fr_V) (x1 x2 x3 : Int32) : Int32 × fr_V := (((v 1100 16) + 1) - 1, up2 (up2 (up2 (up2 (up2 v 1118 ((v 1100 16).toNatClampNeg) x1) 1119 ((v 1100 16).toNatClampNeg) x2) 1120 ((v 1100 16).toNatClampNeg) x3) 1121 ((v 1100 16).toNatClampNeg) (v 1100 3)) 1100 16 ((v 1100 16) + 1))
theorem k_X11_told {l : Launch} {I : List Nat} (hI : fr_I I) (v : fr_V) (u : fr_U) (x1 x2 x3 : Int32) (h1 : vp_in (v 1100 16) 60) : Con l mX11_told I v u [.ref 1100, .int x1, .int x2, .int x3] (QX u (fun a b => a = (f_X11_told v x1 x2 x3).1 ∧ b = (f_X11_told v x1 x2 x3).2)) := by
  refine Con.of (by decide) (Nat.le_of_ble_eq_true rfl) ?_
  show J l mX11_told I v u 0 [(0, .ref 1100), (1, .int x1), (2, .int x2), (3, .int x3)] [] _
  refine J_aload_n dX11_told_0 rfl 0 rfl ?_
  refine J_getr (ci := 11) (j := 17) (t := 1118) dX11_told_1 fl_X11_40 (i1100 hI) rfl rfl rfl ?_
  refine J_aload_n dX11_told_4 rfl 0 rfl ?_
  refine J_gete (ci := 11) (j := 16) (x := v 1100 16) dX11_told_5 fl_X11_252 (i1100 hI) rfl rfl rfl ?_
  refine J_iload_n dX11_told_8 rfl 1 rfl ?_
  refine J_iast dX11_told_9 (i1118 hI) rfl (by first | assumption | exact vp_in_nI (by omega) (by omega)) ?_
  refine J_aload_n dX11_told_10 rfl 0 rfl ?_
  refine J_getr (ci := 11) (j := 18) (t := 1119) dX11_told_11 fl_X11_43 (i1100 hI) rfl rfl rfl ?_
  refine J_aload_n dX11_told_14 rfl 0 rfl ?_
  refine J_gete (ci := 11) (j := 16) (x := v 1100 16) dX11_told_15 fl_X11_252 (i1100 hI) rfl rfl rfl ?_
  refine J_iload_n dX11_told_18 rfl 2 rfl ?_
  refine J_iast dX11_told_19 (i1119 hI) rfl (by first | assumption | exact vp_in_nI (by omega) (by omega)) ?_
  refine J_aload_n dX11_told_20 rfl 0 rfl ?_
  refine J_getr (ci := 11) (j := 19) (t := 1120) dX11_told_21 fl_X11_46 (i1100 hI) rfl rfl rfl ?_
  refine J_aload_n dX11_told_24 rfl 0 rfl ?_
  refine J_gete (ci := 11) (j := 16) (x := v 1100 16) dX11_told_25 fl_X11_252 (i1100 hI) rfl rfl rfl ?_
  refine J_iload_n dX11_told_28 rfl 3 rfl ?_
  refine J_iast dX11_told_29 (i1120 hI) rfl (by first | assumption | exact vp_in_nI (by omega) (by omega)) ?_
  refine J_aload_n dX11_told_30 rfl 0 rfl ?_
  refine J_getr (ci := 11) (j := 20) (t := 1121) dX11_told_31 fl_X11_49 (i1100 hI) rfl rfl rfl ?_
  refine J_aload_n dX11_told_34 rfl 0 rfl ?_
  refine J_gete (ci := 11) (j := 16) (x := v 1100 16) dX11_told_35 fl_X11_252 (i1100 hI) rfl rfl rfl ?_
  refine J_aload_n dX11_told_38 rfl 0 rfl ?_
  refine J_gete (ci := 11) (j := 3) (x := v 1100 3) dX11_told_39 fl_X11_208 (i1100 hI) rfl rfl rfl ?_
  refine J_iast dX11_told_42 (i1121 hI) rfl (by first | assumption | exact vp_in_nI (by omega) (by omega)) ?_
  refine J_aload_n dX11_told_43 rfl 0 rfl ?_
  refine J_dup dX11_told_44 rfl ?_
  refine J_gete (ci := 11) (j := 16) (x := v 1100 16) dX11_told_45 fl_X11_252 (i1100 hI) rfl rfl rfl ?_
  refine J_iconst (x := 1) dX11_told_48 (by decide) ?_
  refine J_iadd dX11_told_49 ?_
  refine J_puti (ci := 11) (j := 16) dX11_told_50 fl_X11_252 (i1100 hI) rfl rfl (fun q h => by cases h; rfl) rfl ?_
  refine J_aload_n dX11_told_53 rfl 0 rfl ?_
  refine J_gete (ci := 11) (j := 16) (x := (v 1100 16) + 1) dX11_told_54 fl_X11_252 (i1100 hI) rfl rfl rfl ?_
  refine J_iconst (x := 1) dX11_told_57 (by decide) ?_
  refine J_isub dX11_told_58 ?_
  exact J_iret dX11_told_59 rfl ⟨_, rfl, rfl, rfl, rfl⟩
