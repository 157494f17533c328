theorem lt_in {x : Int32} {n m : Nat} (hn : x = nI n) (hm : m < 2 ^ 31) (hn2 : n < 2 ^ 31) (c : x < nI m) : vp_in x m := by
  rw [hn] at c ⊢
  exact vp_in_nI (nz_lt hn2 hm c) hm
theorem le_in {x : Int32} {n m : Nat} (hn : x = nI n) (hm : m < 2 ^ 31) (hn2 : n < 2 ^ 31) (c : ¬ nI m ≤ x) : vp_in x m := by
  rw [hn] at c ⊢
  exact vp_in_nI (nz_nle hm hn2 c) hm
def f_X5_has (v : fr_V) (x1 : Int32) : Int32 := if x1 < 0 then 0 else if (v 500 2) ≤ x1 then 0 else 1
theorem k_X5_has {l : Launch} {I : List Nat} (hI : fr_I I) (v : fr_V) (u : fr_U) (x1 : Int32) : Con l mX5_has I v u [.ref 500, .int x1] (QI v u (fun a => a = f_X5_has v x1)) := by
  refine Con.of (by decide) (Nat.le_of_ble_eq_true rfl) ?_
  show J l mX5_has I v u 0 [(0, .ref 500), (1, .int x1)] [] _
  refine J_iload_n dX5_has_0 rfl 1 rfl ?_
  refine J_if_lt (tgt := 16) dX5_has_1 (by decide) (fun c1 => ?_) (fun c1 => ?_)
  · refine J_iconst (x := 0) dX5_has_16 (by decide) ?_
    exact J_zret dX5_has_17 rfl (by decide) ⟨_, rfl, rfl, rfl, by unfold f_X5_has; rw [if_pos c1]⟩
  · refine J_iload_n dX5_has_4 rfl 1 rfl ?_
    refine J_aload_n dX5_has_5 rfl 0 rfl ?_
    refine J_gete (ci := 5) (j := 2) (x := v 500 2) dX5_has_6 fl_X5_18 (i500 hI) rfl rfl rfl ?_
    refine J_icmp_ge (tgt := 16) dX5_has_9 (by decide) (fun c2 => ?_) (fun c2 => ?_)
    · refine J_iconst (x := 0) dX5_has_16 (by decide) ?_
      exact J_zret dX5_has_17 rfl (by decide) ⟨_, rfl, rfl, rfl, by unfold f_X5_has; rw [if_neg c1, if_pos c2]⟩
    · refine J_iconst (x := 1) dX5_has_12 (by decide) ?_
      refine J_goto (tgt := 17) dX5_has_13 (by decide) ?_
      exact J_zret dX5_has_17 rfl (by decide) ⟨_, rfl, rfl, rfl, by unfold f_X5_has; rw [if_neg c1, if_neg c2]⟩
def f_X5_ageIn (v : fr_V) (x1 x2 : Int32) : Int32 := (x2 - (v 501 x1.toNatClampNeg)) / 2
theorem k_X5_ageIn {l : Launch} {I : List Nat} (hI : fr_I I) (v : fr_V) (u : fr_U) (x1 x2 : Int32) (h1 : vp_in x1 12) : Con l mX5_ageIn I v u [.ref 500, .int x1, .int x2] (QI v u (fun a => a = f_X5_ageIn v x1 x2)) := by
  refine Con.of (by decide) (Nat.le_of_ble_eq_true rfl) ?_
  show J l mX5_ageIn I v u 0 [(0, .ref 500), (1, .int x1), (2, .int x2)] [] _
  refine J_iload_n dX5_ageIn_0 rfl 2 rfl ?_
  refine J_aload_n dX5_ageIn_1 rfl 0 rfl ?_
  refine J_getr (ci := 5) (j := 0) (t := 501) dX5_ageIn_2 fl_X5_9 (i500 hI) rfl rfl rfl ?_
  refine J_iload_n dX5_ageIn_5 rfl 1 rfl ?_
  refine J_iale (x := v 501 x1.toNatClampNeg) dX5_ageIn_6 (i501 hI) rfl (by first | assumption | exact vp_in_nI (by omega) (by omega)) rfl ?_
  refine J_isub dX5_ageIn_7 ?_
  refine J_iconst (x := 2) dX5_ageIn_8 (by decide) ?_
  refine J_idiv dX5_ageIn_9 (by decide) ?_
  exact J_iret dX5_ageIn_10 rfl ⟨_, rfl, rfl, rfl, rfl⟩
def f_X5_younger (v : fr_V) (x1 x2 x3 : Int32) : Int32 := if x2 = (-1) then x1 else if (f_X5_ageIn v x1 x3) ≤ (f_X5_ageIn v x2 x3) then x1 else x2
theorem k_X5_younger {l : Launch} {I : List Nat} (hI : fr_I I) (v : fr_V) (u : fr_U) (x1 x2 x3 : Int32) (h1 : vp_in x1 12) (h2 : ¬ x2 = (-1) → vp_in x2 12) : Con l mX5_younger I v u [.ref 500, .int x1, .int x2, .int x3] (QI v u (fun a => a = f_X5_younger v x1 x2 x3)) := by
  refine Con.of (by decide) (Nat.le_of_ble_eq_true rfl) ?_
  show J l mX5_younger I v u 0 [(0, .ref 500), (1, .int x1), (2, .int x2), (3, .int x3)] [] _
  refine J_iload_n dX5_younger_0 rfl 2 rfl ?_
  refine J_iconst (x := (-1)) dX5_younger_1 (by decide) ?_
  refine J_icmp_eq (tgt := 24) dX5_younger_2 (by decide) (fun c1 => ?_) (fun c1 => ?_)
  · refine J_iload_n dX5_younger_24 rfl 1 rfl ?_
    exact J_iret dX5_younger_25 rfl ⟨_, rfl, rfl, rfl, by unfold f_X5_younger; rw [if_pos c1]⟩
  · refine J_aload_n dX5_younger_5 rfl 0 rfl ?_
    refine J_iload_n dX5_younger_6 rfl 2 rfl ?_
    refine J_iload_n dX5_younger_7 rfl 3 rfl ?_
    refine J_eVI (z := mX5_ageIn) (As := [.int x2, .int x3]) (rest := []) (ci := 5) (x := f_X5_ageIn v x2 x3) dX5_younger_8 ml_X5_22 ok_X5_ageIn iv_X5_ageIn (by decide) (i500 hI) rfl rfl rfl rfl (Nat.le_of_ble_eq_true rfl) (k_X5_ageIn hI v u x2 x3 (by first | assumption | exact h2 (by assumption))) ?_
    refine J_aload_n dX5_younger_11 rfl 0 rfl ?_
    refine J_iload_n dX5_younger_12 rfl 1 rfl ?_
    refine J_iload_n dX5_younger_13 rfl 3 rfl ?_
    refine J_eVI (z := mX5_ageIn) (As := [.int x1, .int x3]) (rest := [.int (f_X5_ageIn v x2 x3)]) (ci := 5) (x := f_X5_ageIn v x1 x3) dX5_younger_14 ml_X5_22 ok_X5_ageIn iv_X5_ageIn (by decide) (i500 hI) rfl rfl rfl rfl (Nat.le_of_ble_eq_true rfl) (k_X5_ageIn hI v u x1 x3 (by first | assumption | exact h2 (by assumption))) ?_
    refine J_icmp_ge (tgt := 24) dX5_younger_17 (by decide) (fun c2 => ?_) (fun c2 => ?_)
    · refine J_iload_n dX5_younger_24 rfl 1 rfl ?_
      exact J_iret dX5_younger_25 rfl ⟨_, rfl, rfl, rfl, by unfold f_X5_younger; rw [if_neg c1, if_pos c2]⟩
    · refine J_iload_n dX5_younger_20 rfl 2 rfl ?_
      refine J_goto (tgt := 25) dX5_younger_21 (by decide) ?_
      exact J_iret dX5_younger_25 rfl ⟨_, rfl, rfl, rfl, by unfold f_X5_younger; rw [if_neg c1, if_neg c2]⟩
def f_X5_enter (v : fr_V) (x1 x2 : Int32) : Int32 × fr_V := if (v 500 2) < 12 then (((v 500 2) + 1) - 1, up2 (up2 (up2 v 501 ((v 500 2).toNatClampNeg) x1) 502 ((v 500 2).toNatClampNeg) x2) 500 2 ((v 500 2) + 1)) else ((-1), v)
theorem k_X5_enter {l : Launch} {I : List Nat} (hI : fr_I I) (v : fr_V) (u : fr_U) (x1 x2 : Int32) (n : Nat) (hn : v 500 2 = nI n) (hn2 : n ≤ 60) : Con l mX5_enter I v u [.ref 500, .int x1, .int x2] (QX u (fun a b => a = (f_X5_enter v x1 x2).1 ∧ b = (f_X5_enter v x1 x2).2)) := by
  refine Con.of (by decide) (Nat.le_of_ble_eq_true rfl) ?_
  show J l mX5_enter I v u 0 [(0, .ref 500), (1, .int x1), (2, .int x2)] [] _
  refine J_aload_n dX5_enter_0 rfl 0 rfl ?_
  refine J_gete (ci := 5) (j := 2) (x := v 500 2) dX5_enter_1 fl_X5_18 (i500 hI) rfl rfl rfl ?_
  refine J_bipush (x := 12) dX5_enter_4 (by decide) ?_
  refine J_icmp_lt (tgt := 11) dX5_enter_6 (by decide) (fun c1 => ?_) (fun c1 => ?_)
  · refine J_aload_n dX5_enter_11 rfl 0 rfl ?_
    refine J_getr (ci := 5) (j := 0) (t := 501) dX5_enter_12 fl_X5_9 (i500 hI) rfl rfl rfl ?_
    refine J_aload_n dX5_enter_15 rfl 0 rfl ?_
    refine J_gete (ci := 5) (j := 2) (x := v 500 2) dX5_enter_16 fl_X5_18 (i500 hI) rfl rfl rfl ?_
    refine J_iload_n dX5_enter_19 rfl 1 rfl ?_
    refine J_iast dX5_enter_20 (i501 hI) rfl (lt_in (m := 12) hn (by omega) (by omega) (by assumption)) ?_
    refine J_aload_n dX5_enter_21 rfl 0 rfl ?_
    refine J_getr (ci := 5) (j := 1) (t := 502) dX5_enter_22 fl_X5_15 (i500 hI) rfl rfl rfl ?_
    refine J_aload_n dX5_enter_25 rfl 0 rfl ?_
    refine J_gete (ci := 5) (j := 2) (x := v 500 2) dX5_enter_26 fl_X5_18 (i500 hI) rfl rfl rfl ?_
    refine J_iload_n dX5_enter_29 rfl 2 rfl ?_
    refine J_iast dX5_enter_30 (i502 hI) rfl (lt_in (m := 12) hn (by omega) (by omega) (by assumption)) ?_
    refine J_aload_n dX5_enter_31 rfl 0 rfl ?_
    refine J_dup dX5_enter_32 rfl ?_
    refine J_gete (ci := 5) (j := 2) (x := v 500 2) dX5_enter_33 fl_X5_18 (i500 hI) rfl rfl rfl ?_
    refine J_iconst (x := 1) dX5_enter_36 (by decide) ?_
    refine J_iadd dX5_enter_37 ?_
    refine J_puti (ci := 5) (j := 2) dX5_enter_38 fl_X5_18 (i500 hI) rfl rfl (fun q h => by cases h; rfl) rfl ?_
    refine J_aload_n dX5_enter_41 rfl 0 rfl ?_
    refine J_gete (ci := 5) (j := 2) (x := (v 500 2) + 1) dX5_enter_42 fl_X5_18 (i500 hI) rfl rfl rfl ?_
    refine J_iconst (x := 1) dX5_enter_45 (by decide) ?_
    refine J_isub dX5_enter_46 ?_
    exact J_iret dX5_enter_47 rfl ⟨_, rfl, rfl, by unfold f_X5_enter; rw [if_pos c1], by unfold f_X5_enter; rw [if_pos c1]⟩
  · refine J_iconst (x := (-1)) dX5_enter_9 (by decide) ?_
    exact J_iret dX5_enter_10 rfl ⟨_, rfl, rfl, by unfold f_X5_enter; rw [if_neg c1], by unfold f_X5_enter; rw [if_neg c1]⟩
def f_X1_has (v : fr_V) (x1 : Int32) : Int32 := if x1 < 0 then 0 else if (v 100 5) ≤ x1 then 0 else 1
theorem k_X1_has {l : Launch} {I : List Nat} (hI : fr_I I) (v : fr_V) (u : fr_U) (x1 : Int32) : Con l mX1_has I v u [.ref 100, .int x1] (QI v u (fun a => a = f_X1_has v x1)) := by
  refine Con.of (by decide) (Nat.le_of_ble_eq_true rfl) ?_
  show J l mX1_has I v u 0 [(0, .ref 100), (1, .int x1)] [] _
  refine J_iload_n dX1_has_0 rfl 1 rfl ?_
  refine J_if_lt (tgt := 16) dX1_has_1 (by decide) (fun c1 => ?_) (fun c1 => ?_)
  · refine J_iconst (x := 0) dX1_has_16 (by decide) ?_
    exact J_zret dX1_has_17 rfl (by decide) ⟨_, rfl, rfl, rfl, by unfold f_X1_has; rw [if_pos c1]⟩
  · refine J_iload_n dX1_has_4 rfl 1 rfl ?_
    refine J_aload_n dX1_has_5 rfl 0 rfl ?_
    refine J_gete (ci := 1) (j := 5) (x := v 100 5) dX1_has_6 fl_X1_48 (i100 hI) rfl rfl rfl ?_
    refine J_icmp_ge (tgt := 16) dX1_has_9 (by decide) (fun c2 => ?_) (fun c2 => ?_)
    · refine J_iconst (x := 0) dX1_has_16 (by decide) ?_
      exact J_zret dX1_has_17 rfl (by decide) ⟨_, rfl, rfl, rfl, by unfold f_X1_has; rw [if_neg c1, if_pos c2]⟩
    · refine J_iconst (x := 1) dX1_has_12 (by decide) ?_
      refine J_goto (tgt := 17) dX1_has_13 (by decide) ?_
      exact J_zret dX1_has_17 rfl (by decide) ⟨_, rfl, rfl, rfl, by unfold f_X1_has; rw [if_neg c1, if_neg c2]⟩
def f_X1_isDead (v : fr_V) (x1 : Int32) : Int32 := if (v 110 x1.toNatClampNeg) = (-1) then 0 else 1
theorem k_X1_isDead {l : Launch} {I : List Nat} (hI : fr_I I) (v : fr_V) (u : fr_U) (x1 : Int32) (h1 : vp_in x1 12) : Con l mX1_isDead I v u [.ref 100, .int x1] (QI v u (fun a => a = f_X1_isDead v x1)) := by
  refine Con.of (by decide) (Nat.le_of_ble_eq_true rfl) ?_
  show J l mX1_isDead I v u 0 [(0, .ref 100), (1, .int x1)] [] _
  refine J_aload_n dX1_isDead_0 rfl 0 rfl ?_
  refine J_getr (ci := 1) (j := 9) (t := 110) dX1_isDead_1 fl_X1_35 (i100 hI) rfl rfl rfl ?_
  refine J_iload_n dX1_isDead_4 rfl 1 rfl ?_
  refine J_iale (x := v 110 x1.toNatClampNeg) dX1_isDead_5 (i110 hI) rfl (by first | assumption | exact vp_in_nI (by omega) (by omega)) rfl ?_
  refine J_iconst (x := (-1)) dX1_isDead_6 (by decide) ?_
  refine J_icmp_eq (tgt := 14) dX1_isDead_7 (by decide) (fun c1 => ?_) (fun c1 => ?_)
  · refine J_iconst (x := 0) dX1_isDead_14 (by decide) ?_
    exact J_zret dX1_isDead_15 rfl (by decide) ⟨_, rfl, rfl, rfl, by unfold f_X1_isDead; rw [if_pos c1]⟩
  · refine J_iconst (x := 1) dX1_isDead_10 (by decide) ?_
    refine J_goto (tgt := 15) dX1_isDead_11 (by decide) ?_
    exact J_zret dX1_isDead_15 rfl (by decide) ⟨_, rfl, rfl, rfl, by unfold f_X1_isDead; rw [if_neg c1]⟩
def f_X1_isAliveIn (v : fr_V) (x1 x2 : Int32) : Int32 := if (v 110 x1.toNatClampNeg) = (-1) then 1 else if (v 110 x1.toNatClampNeg) < x2 then 0 else 1
theorem k_X1_isAliveIn {l : Launch} {I : List Nat} (hI : fr_I I) (v : fr_V) (u : fr_U) (x1 x2 : Int32) (h1 : vp_in x1 12) : Con l mX1_isAliveIn I v u [.ref 100, .int x1, .int x2] (QI v u (fun a => a = f_X1_isAliveIn v x1 x2)) := by
  refine Con.of (by decide) (Nat.le_of_ble_eq_true rfl) ?_
  show J l mX1_isAliveIn I v u 0 [(0, .ref 100), (1, .int x1), (2, .int x2)] [] _
  refine J_aload_n dX1_isAliveIn_0 rfl 0 rfl ?_
  refine J_getr (ci := 1) (j := 9) (t := 110) dX1_isAliveIn_1 fl_X1_35 (i100 hI) rfl rfl rfl ?_
  refine J_iload_n dX1_isAliveIn_4 rfl 1 rfl ?_
  refine J_iale (x := v 110 x1.toNatClampNeg) dX1_isAliveIn_5 (i110 hI) rfl (by first | assumption | exact vp_in_nI (by omega) (by omega)) rfl ?_
  refine J_iconst (x := (-1)) dX1_isAliveIn_6 (by decide) ?_
  refine J_icmp_eq (tgt := 20) dX1_isAliveIn_7 (by decide) (fun c1 => ?_) (fun c1 => ?_)
  · refine J_iconst (x := 1) dX1_isAliveIn_20 (by decide) ?_
    refine J_goto (tgt := 25) dX1_isAliveIn_21 (by decide) ?_
    exact J_zret dX1_isAliveIn_25 rfl (by decide) ⟨_, rfl, rfl, rfl, by unfold f_X1_isAliveIn; rw [if_pos c1]⟩
  · refine J_aload_n dX1_isAliveIn_10 rfl 0 rfl ?_
    refine J_getr (ci := 1) (j := 9) (t := 110) dX1_isAliveIn_11 fl_X1_35 (i100 hI) rfl rfl rfl ?_
    refine J_iload_n dX1_isAliveIn_14 rfl 1 rfl ?_
    refine J_iale (x := v 110 x1.toNatClampNeg) dX1_isAliveIn_15 (i110 hI) rfl (by first | assumption | exact vp_in_nI (by omega) (by omega)) rfl ?_
    refine J_iload_n dX1_isAliveIn_16 rfl 2 rfl ?_
    refine J_icmp_lt (tgt := 24) dX1_isAliveIn_17 (by decide) (fun c2 => ?_) (fun c2 => ?_)
    · refine J_iconst (x := 0) dX1_isAliveIn_24 (by decide) ?_
      exact J_zret dX1_isAliveIn_25 rfl (by decide) ⟨_, rfl, rfl, rfl, by unfold f_X1_isAliveIn; rw [if_neg c1, if_pos c2]⟩
    · refine J_iconst (x := 1) dX1_isAliveIn_20 (by decide) ?_
      refine J_goto (tgt := 25) dX1_isAliveIn_21 (by decide) ?_
      exact J_zret dX1_isAliveIn_25 rfl (by decide) ⟨_, rfl, rfl, rfl, by unfold f_X1_isAliveIn; rw [if_neg c1, if_neg c2]⟩
def f_X1_livedIn (v : fr_V) (x1 x2 : Int32) : Int32 := if (f_X1_isAliveIn v x1 x2) = 0 then 0 else if x2 < (v 501 x1.toNatClampNeg) then 0 else 1
theorem k_X1_livedIn {l : Launch} {I : List Nat} (hI : fr_I I) (v : fr_V) (u : fr_U) (x1 x2 : Int32) (h1 : vp_in x1 12) : Con l mX1_livedIn I v u [.ref 100, .int x1, .int x2] (QI v u (fun a => a = f_X1_livedIn v x1 x2)) := by
  refine Con.of (by decide) (Nat.le_of_ble_eq_true rfl) ?_
  show J l mX1_livedIn I v u 0 [(0, .ref 100), (1, .int x1), (2, .int x2)] [] _
  refine J_aload_n dX1_livedIn_0 rfl 0 rfl ?_
  refine J_iload_n dX1_livedIn_1 rfl 1 rfl ?_
  refine J_iload_n dX1_livedIn_2 rfl 2 rfl ?_
  refine J_eVI (z := mX1_isAliveIn) (As := [.int x1, .int x2]) (rest := []) (ci := 1) (x := f_X1_isAliveIn v x1 x2) dX1_livedIn_3 ml_X1_58 ok_X1_isAliveIn iv_X1_isAliveIn (by decide) (i100 hI) rfl rfl rfl rfl (Nat.le_of_ble_eq_true rfl) (k_X1_isAliveIn hI v u x1 x2 (by first | assumption)) ?_
  refine J_if_eq (tgt := 26) dX1_livedIn_6 (by decide) (fun c1 => ?_) (fun c1 => ?_)
  · refine J_iconst (x := 0) dX1_livedIn_26 (by decide) ?_
    exact J_zret dX1_livedIn_27 rfl (by decide) ⟨_, rfl, rfl, rfl, by unfold f_X1_livedIn; rw [if_pos c1]⟩
  · refine J_iload_n dX1_livedIn_9 rfl 2 rfl ?_
    refine J_aload_n dX1_livedIn_10 rfl 0 rfl ?_
    refine J_getr (ci := 1) (j := 0) (t := 500) dX1_livedIn_11 fl_X1_38 (i100 hI) rfl rfl rfl ?_
    refine J_getr (ci := 5) (j := 0) (t := 501) dX1_livedIn_14 fl_X1_61 (i500 hI) rfl rfl rfl ?_
    refine J_iload_n dX1_livedIn_17 rfl 1 rfl ?_
    refine J_iale (x := v 501 x1.toNatClampNeg) dX1_livedIn_18 (i501 hI) rfl (by first | assumption | exact vp_in_nI (by omega) (by omega)) rfl ?_
    refine J_icmp_lt (tgt := 26) dX1_livedIn_19 (by decide) (fun c2 => ?_) (fun c2 => ?_)
    · refine J_iconst (x := 0) dX1_livedIn_26 (by decide) ?_
      exact J_zret dX1_livedIn_27 rfl (by decide) ⟨_, rfl, rfl, rfl, by unfold f_X1_livedIn; rw [if_neg c1, if_pos c2]⟩
    · refine J_iconst (x := 1) dX1_livedIn_22 (by decide) ?_
      refine J_goto (tgt := 27) dX1_livedIn_23 (by decide) ?_
      exact J_zret dX1_livedIn_27 rfl (by decide) ⟨_, rfl, rfl, rfl, by unfold f_X1_livedIn; rw [if_neg c1, if_neg c2]⟩
def f_X1_isFalse (v : fr_V) (x1 : Int32) : Int32 := if (v 108 x1.toNatClampNeg) = 0 then 0 else if (v 102 x1.toNatClampNeg) = 0 then (if (v 109 x1.toNatClampNeg) = 0 then 1 else 0) else 0
theorem k_X1_isFalse {l : Launch} {I : List Nat} (hI : fr_I I) (v : fr_V) (u : fr_U) (x1 : Int32) (h1 : vp_in x1 60) : Con l mX1_isFalse I v u [.ref 100, .int x1] (QI v u (fun a => a = f_X1_isFalse v x1)) := by
  refine Con.of (by decide) (Nat.le_of_ble_eq_true rfl) ?_
  show J l mX1_isFalse I v u 0 [(0, .ref 100), (1, .int x1)] [] _
  refine J_aload_n dX1_isFalse_0 rfl 0 rfl ?_
  refine J_getr (ci := 1) (j := 7) (t := 108) dX1_isFalse_1 fl_X1_28 (i100 hI) rfl rfl rfl ?_
  refine J_iload_n dX1_isFalse_4 rfl 1 rfl ?_
  refine J_zale (x := v 108 x1.toNatClampNeg) dX1_isFalse_5 (i108 hI) rfl (by first | assumption | exact vp_in_nI (by omega) (by omega)) rfl ?_
  refine J_if_eq (tgt := 31) dX1_isFalse_6 (by decide) (fun c1 => ?_) (fun c1 => ?_)
  · refine J_iconst (x := 0) dX1_isFalse_31 (by decide) ?_
    exact J_zret dX1_isFalse_32 rfl (by decide) ⟨_, rfl, rfl, rfl, by unfold f_X1_isFalse; rw [if_pos c1]⟩
  · refine J_aload_n dX1_isFalse_9 rfl 0 rfl ?_
    refine J_getr (ci := 1) (j := 1) (t := 102) dX1_isFalse_10 fl_X1_9 (i100 hI) rfl rfl rfl ?_
    refine J_iload_n dX1_isFalse_13 rfl 1 rfl ?_
    refine J_iale (x := v 102 x1.toNatClampNeg) dX1_isFalse_14 (i102 hI) rfl (by first | assumption | exact vp_in_nI (by omega) (by omega)) rfl ?_
    refine J_if_ne (tgt := 31) dX1_isFalse_15 (by decide) (fun c2 => ?_) (fun c2 => ?_)
    · refine J_iconst (x := 0) dX1_isFalse_31 (by decide) ?_
      exact J_zret dX1_isFalse_32 rfl (by decide) ⟨_, rfl, rfl, rfl, by unfold f_X1_isFalse; rw [if_neg c1, if_neg c2]⟩
    · refine J_aload_n dX1_isFalse_18 rfl 0 rfl ?_
      refine J_getr (ci := 1) (j := 8) (t := 109) dX1_isFalse_19 fl_X1_32 (i100 hI) rfl rfl rfl ?_
      refine J_iload_n dX1_isFalse_22 rfl 1 rfl ?_
      refine J_zale (x := v 109 x1.toNatClampNeg) dX1_isFalse_23 (i109 hI) rfl (by first | assumption | exact vp_in_nI (by omega) (by omega)) rfl ?_
      refine J_if_ne (tgt := 31) dX1_isFalse_24 (by decide) (fun c3 => ?_) (fun c3 => ?_)
      · refine J_iconst (x := 0) dX1_isFalse_31 (by decide) ?_
        exact J_zret dX1_isFalse_32 rfl (by decide) ⟨_, rfl, rfl, rfl, by unfold f_X1_isFalse; rw [if_neg c1, if_pos c2, if_neg c3]⟩
      · refine J_iconst (x := 1) dX1_isFalse_27 (by decide) ?_
        refine J_goto (tgt := 32) dX1_isFalse_28 (by decide) ?_
        exact J_zret dX1_isFalse_32 rfl (by decide) ⟨_, rfl, rfl, rfl, by unfold f_X1_isFalse; rw [if_neg c1, if_pos c2, if_pos c3]⟩
def f_X1_write (v : fr_V) (x1 x2 x3 x4 : Int32) : Int32 × fr_V := if (v 100 5) < 60 then (((v 100 5) + 1) - 1, up2 (up2 (up2 (up2 (up2 (up2 v 102 ((v 100 5).toNatClampNeg) x1) 103 ((v 100 5).toNatClampNeg) x2) 104 ((v 100 5).toNatClampNeg) x3) 105 ((v 100 5).toNatClampNeg) x4) 100 5 ((v 100 5) + 1)) 100 6 (-1)) else ((-1), v)
theorem k_X1_write {l : Launch} {I : List Nat} (hI : fr_I I) (v : fr_V) (u : fr_U) (x1 x2 x3 x4 : Int32) (n : Nat) (hn : v 100 5 = nI n) (hn2 : n ≤ 60) : Con l mX1_write I v u [.ref 100, .int x1, .int x2, .int x3, .int x4] (QX u (fun a b => a = (f_X1_write v x1 x2 x3 x4).1 ∧ b = (f_X1_write v x1 x2 x3 x4).2)) := by
  refine Con.of (by decide) (Nat.le_of_ble_eq_true rfl) ?_
  show J l mX1_write I v u 0 [(0, .ref 100), (1, .int x1), (2, .int x2), (3, .int x3), (4, .int x4)] [] _
  refine J_aload_n dX1_write_0 rfl 0 rfl ?_
  refine J_gete (ci := 1) (j := 5) (x := v 100 5) dX1_write_1 fl_X1_48 (i100 hI) rfl rfl rfl ?_
  refine J_bipush (x := 60) dX1_write_4 (by decide) ?_
  refine J_icmp_lt (tgt := 11) dX1_write_6 (by decide) (fun c1 => ?_) (fun c1 => ?_)
  · refine J_aload_n dX1_write_11 rfl 0 rfl ?_
    refine J_getr (ci := 1) (j := 1) (t := 102) dX1_write_12 fl_X1_9 (i100 hI) rfl rfl rfl ?_
    refine J_aload_n dX1_write_15 rfl 0 rfl ?_
    refine J_gete (ci := 1) (j := 5) (x := v 100 5) dX1_write_16 fl_X1_48 (i100 hI) rfl rfl rfl ?_
    refine J_iload_n dX1_write_19 rfl 1 rfl ?_
    refine J_iast dX1_write_20 (i102 hI) rfl (lt_in (m := 60) hn (by omega) (by omega) (by assumption)) ?_
    refine J_aload_n dX1_write_21 rfl 0 rfl ?_
    refine J_getr (ci := 1) (j := 2) (t := 103) dX1_write_22 fl_X1_15 (i100 hI) rfl rfl rfl ?_
    refine J_aload_n dX1_write_25 rfl 0 rfl ?_
    refine J_gete (ci := 1) (j := 5) (x := v 100 5) dX1_write_26 fl_X1_48 (i100 hI) rfl rfl rfl ?_
    refine J_iload_n dX1_write_29 rfl 2 rfl ?_
    refine J_iast dX1_write_30 (i103 hI) rfl (lt_in (m := 60) hn (by omega) (by omega) (by assumption)) ?_
    refine J_aload_n dX1_write_31 rfl 0 rfl ?_
    refine J_getr (ci := 1) (j := 3) (t := 104) dX1_write_32 fl_X1_18 (i100 hI) rfl rfl rfl ?_
    refine J_aload_n dX1_write_35 rfl 0 rfl ?_
    refine J_gete (ci := 1) (j := 5) (x := v 100 5) dX1_write_36 fl_X1_48 (i100 hI) rfl rfl rfl ?_
    refine J_iload_n dX1_write_39 rfl 3 rfl ?_
    refine J_iast dX1_write_40 (i104 hI) rfl (lt_in (m := 60) hn (by omega) (by omega) (by assumption)) ?_
    refine J_aload_n dX1_write_41 rfl 0 rfl ?_
    refine J_getr (ci := 1) (j := 4) (t := 105) dX1_write_42 fl_X1_21 (i100 hI) rfl rfl rfl ?_
    refine J_aload_n dX1_write_45 rfl 0 rfl ?_
    refine J_gete (ci := 1) (j := 5) (x := v 100 5) dX1_write_46 fl_X1_48 (i100 hI) rfl rfl rfl ?_
    refine J_iload dX1_write_49 4 rfl ?_
    refine J_iast dX1_write_51 (i105 hI) rfl (lt_in (m := 60) hn (by omega) (by omega) (by assumption)) ?_
    refine J_aload_n dX1_write_52 rfl 0 rfl ?_
    refine J_dup dX1_write_53 rfl ?_
    refine J_gete (ci := 1) (j := 5) (x := v 100 5) dX1_write_54 fl_X1_48 (i100 hI) rfl rfl rfl ?_
    refine J_iconst (x := 1) dX1_write_57 (by decide) ?_
    refine J_iadd dX1_write_58 ?_
    refine J_puti (ci := 1) (j := 5) dX1_write_59 fl_X1_48 (i100 hI) rfl rfl (fun q h => by cases h; rfl) rfl ?_
    refine J_aload_n dX1_write_62 rfl 0 rfl ?_
    refine J_iconst (x := (-1)) dX1_write_63 (by decide) ?_
    refine J_puti (ci := 1) (j := 6) dX1_write_64 fl_X1_24 (i100 hI) rfl rfl (fun q h => by cases h; rfl) rfl ?_
    refine J_aload_n dX1_write_67 rfl 0 rfl ?_
    refine J_gete (ci := 1) (j := 5) (x := (v 100 5) + 1) dX1_write_68 fl_X1_48 (i100 hI) rfl rfl rfl ?_
    refine J_iconst (x := 1) dX1_write_71 (by decide) ?_
    refine J_isub dX1_write_72 ?_
    exact J_iret dX1_write_73 rfl ⟨_, rfl, rfl, by unfold f_X1_write; rw [if_pos c1], by unfold f_X1_write; rw [if_pos c1]⟩
  · refine J_iconst (x := (-1)) dX1_write_9 (by decide) ?_
    exact J_iret dX1_write_10 rfl ⟨_, rfl, rfl, by unfold f_X1_write; rw [if_neg c1], by unfold f_X1_write; rw [if_neg c1]⟩
def f_X10_isHalf (v : fr_V) (x0 : Int32) : Int32 := if x0 < 0 then 0 else if 80 ≤ x0 then 0 else 1
theorem k_X10_isHalf {l : Launch} {I : List Nat} (hI : fr_I I) (v : fr_V) (u : fr_U) (x0 : Int32) : Con l mX10_isHalf I v u [.int x0] (QI v u (fun a => a = f_X10_isHalf v x0)) := by
  refine Con.of (by decide) (Nat.le_of_ble_eq_true rfl) ?_
  show J l mX10_isHalf I v u 0 [(0, .int x0)] [] _
  refine J_iload_n dX10_isHalf_0 rfl 0 rfl ?_
  refine J_if_lt (tgt := 14) dX10_isHalf_1 (by decide) (fun c1 => ?_) (fun c1 => ?_)
  · refine J_iconst (x := 0) dX10_isHalf_14 (by decide) ?_
    exact J_zret dX10_isHalf_15 rfl (by decide) ⟨_, rfl, rfl, rfl, by unfold f_X10_isHalf; rw [if_pos c1]⟩
  · refine J_iload_n dX10_isHalf_4 rfl 0 rfl ?_
    refine J_bipush (x := 80) dX10_isHalf_5 (by decide) ?_
    refine J_icmp_ge (tgt := 14) dX10_isHalf_7 (by decide) (fun c2 => ?_) (fun c2 => ?_)
    · refine J_iconst (x := 0) dX10_isHalf_14 (by decide) ?_
      exact J_zret dX10_isHalf_15 rfl (by decide) ⟨_, rfl, rfl, rfl, by unfold f_X10_isHalf; rw [if_neg c1, if_pos c2]⟩
    · refine J_iconst (x := 1) dX10_isHalf_10 (by decide) ?_
      refine J_goto (tgt := 15) dX10_isHalf_11 (by decide) ?_
      exact J_zret dX10_isHalf_15 rfl (by decide) ⟨_, rfl, rfl, rfl, by unfold f_X10_isHalf; rw [if_neg c1, if_neg c2]⟩
def f_X10_isClass (v : fr_V) (x0 : Int32) : Int32 := if x0 < 0 then 0 else if 4 ≤ x0 then 0 else 1
theorem k_X10_isClass {l : Launch} {I : List Nat} (hI : fr_I I) (v : fr_V) (u : fr_U) (x0 : Int32) : Con l mX10_isClass I v u [.int x0] (QI v u (fun a => a = f_X10_isClass v x0)) := by
  refine Con.of (by decide) (Nat.le_of_ble_eq_true rfl) ?_
  show J l mX10_isClass I v u 0 [(0, .int x0)] [] _
  refine J_iload_n dX10_isClass_0 rfl 0 rfl ?_
  refine J_if_lt (tgt := 13) dX10_isClass_1 (by decide) (fun c1 => ?_) (fun c1 => ?_)
  · refine J_iconst (x := 0) dX10_isClass_13 (by decide) ?_
    exact J_zret dX10_isClass_14 rfl (by decide) ⟨_, rfl, rfl, rfl, by unfold f_X10_isClass; rw [if_pos c1]⟩
  · refine J_iload_n dX10_isClass_4 rfl 0 rfl ?_
    refine J_iconst (x := 4) dX10_isClass_5 (by decide) ?_
    refine J_icmp_ge (tgt := 13) dX10_isClass_6 (by decide) (fun c2 => ?_) (fun c2 => ?_)
    · refine J_iconst (x := 0) dX10_isClass_13 (by decide) ?_
      exact J_zret dX10_isClass_14 rfl (by decide) ⟨_, rfl, rfl, rfl, by unfold f_X10_isClass; rw [if_neg c1, if_pos c2]⟩
    · refine J_iconst (x := 1) dX10_isClass_9 (by decide) ?_
      refine J_goto (tgt := 14) dX10_isClass_10 (by decide) ?_
      exact J_zret dX10_isClass_14 rfl (by decide) ⟨_, rfl, rfl, rfl, by unfold f_X10_isClass; rw [if_neg c1, if_neg c2]⟩
def f_X10_isGroup (v : fr_V) (x0 : Int32) : Int32 := if x0 < 0 then 0 else if 10 ≤ x0 then 0 else 1
theorem k_X10_isGroup {l : Launch} {I : List Nat} (hI : fr_I I) (v : fr_V) (u : fr_U) (x0 : Int32) : Con l mX10_isGroup I v u [.int x0] (QI v u (fun a => a = f_X10_isGroup v x0)) := by
  refine Con.of (by decide) (Nat.le_of_ble_eq_true rfl) ?_
  show J l mX10_isGroup I v u 0 [(0, .int x0)] [] _
  refine J_iload_n dX10_isGroup_0 rfl 0 rfl ?_
  refine J_if_lt (tgt := 14) dX10_isGroup_1 (by decide) (fun c1 => ?_) (fun c1 => ?_)
  · refine J_iconst (x := 0) dX10_isGroup_14 (by decide) ?_
    exact J_zret dX10_isGroup_15 rfl (by decide) ⟨_, rfl, rfl, rfl, by unfold f_X10_isGroup; rw [if_pos c1]⟩
  · refine J_iload_n dX10_isGroup_4 rfl 0 rfl ?_
    refine J_bipush (x := 10) dX10_isGroup_5 (by decide) ?_
    refine J_icmp_ge (tgt := 14) dX10_isGroup_7 (by decide) (fun c2 => ?_) (fun c2 => ?_)
    · refine J_iconst (x := 0) dX10_isGroup_14 (by decide) ?_
      exact J_zret dX10_isGroup_15 rfl (by decide) ⟨_, rfl, rfl, rfl, by unfold f_X10_isGroup; rw [if_neg c1, if_pos c2]⟩
    · refine J_iconst (x := 1) dX10_isGroup_10 (by decide) ?_
      refine J_goto (tgt := 15) dX10_isGroup_11 (by decide) ?_
      exact J_zret dX10_isGroup_15 rfl (by decide) ⟨_, rfl, rfl, rfl, by unfold f_X10_isGroup; rw [if_neg c1, if_neg c2]⟩
def f_X10_isHolder (v : fr_V) (x0 : Int32) : Int32 := if x0 < 0 then 0 else if 8 ≤ x0 then 0 else 1
theorem k_X10_isHolder {l : Launch} {I : List Nat} (hI : fr_I I) (v : fr_V) (u : fr_U) (x0 : Int32) : Con l mX10_isHolder I v u [.int x0] (QI v u (fun a => a = f_X10_isHolder v x0)) := by
  refine Con.of (by decide) (Nat.le_of_ble_eq_true rfl) ?_
  show J l mX10_isHolder I v u 0 [(0, .int x0)] [] _
  refine J_iload_n dX10_isHolder_0 rfl 0 rfl ?_
  refine J_if_lt (tgt := 14) dX10_isHolder_1 (by decide) (fun c1 => ?_) (fun c1 => ?_)
  · refine J_iconst (x := 0) dX10_isHolder_14 (by decide) ?_
    exact J_zret dX10_isHolder_15 rfl (by decide) ⟨_, rfl, rfl, rfl, by unfold f_X10_isHolder; rw [if_pos c1]⟩
  · refine J_iload_n dX10_isHolder_4 rfl 0 rfl ?_
    refine J_bipush (x := 8) dX10_isHolder_5 (by decide) ?_
    refine J_icmp_ge (tgt := 14) dX10_isHolder_7 (by decide) (fun c2 => ?_) (fun c2 => ?_)
    · refine J_iconst (x := 0) dX10_isHolder_14 (by decide) ?_
      exact J_zret dX10_isHolder_15 rfl (by decide) ⟨_, rfl, rfl, rfl, by unfold f_X10_isHolder; rw [if_neg c1, if_pos c2]⟩
    · refine J_iconst (x := 1) dX10_isHolder_10 (by decide) ?_
      refine J_goto (tgt := 15) dX10_isHolder_11 (by decide) ?_
      exact J_zret dX10_isHolder_15 rfl (by decide) ⟨_, rfl, rfl, rfl, by unfold f_X10_isHolder; rw [if_neg c1, if_neg c2]⟩
def f_X10_hasBegun (v : fr_V) (x1 : Int32) : Int32 := if x1 < 0 then 0 else if (v 1000 3) < x1 then 0 else 1
theorem k_X10_hasBegun {l : Launch} {I : List Nat} (hI : fr_I I) (v : fr_V) (u : fr_U) (x1 : Int32) : Con l mX10_hasBegun I v u [.ref 1000, .int x1] (QI v u (fun a => a = f_X10_hasBegun v x1)) := by
  refine Con.of (by decide) (Nat.le_of_ble_eq_true rfl) ?_
  show J l mX10_hasBegun I v u 0 [(0, .ref 1000), (1, .int x1)] [] _
  refine J_iload_n dX10_hasBegun_0 rfl 1 rfl ?_
  refine J_if_lt (tgt := 16) dX10_hasBegun_1 (by decide) (fun c1 => ?_) (fun c1 => ?_)
  · refine J_iconst (x := 0) dX10_hasBegun_16 (by decide) ?_
    exact J_zret dX10_hasBegun_17 rfl (by decide) ⟨_, rfl, rfl, rfl, by unfold f_X10_hasBegun; rw [if_pos c1]⟩
  · refine J_iload_n dX10_hasBegun_4 rfl 1 rfl ?_
    refine J_aload_n dX10_hasBegun_5 rfl 0 rfl ?_
    refine J_gete (ci := 10) (j := 3) (x := v 1000 3) dX10_hasBegun_6 fl_X10_92 (i1000 hI) rfl rfl rfl ?_
    refine J_icmp_gt (tgt := 16) dX10_hasBegun_9 (by decide) (fun c2 => ?_) (fun c2 => ?_)
    · refine J_iconst (x := 0) dX10_hasBegun_16 (by decide) ?_
      exact J_zret dX10_hasBegun_17 rfl (by decide) ⟨_, rfl, rfl, rfl, by unfold f_X10_hasBegun; rw [if_neg c1, if_pos c2]⟩
    · refine J_iconst (x := 1) dX10_hasBegun_12 (by decide) ?_
      refine J_goto (tgt := 17) dX10_hasBegun_13 (by decide) ?_
      exact J_zret dX10_hasBegun_17 rfl (by decide) ⟨_, rfl, rfl, rfl, by unfold f_X10_hasBegun; rw [if_neg c1, if_neg c2]⟩
def f_X10_halves (v : fr_V) (x1 : Int32) : Int32 × fr_V := if x1 < 0 then ((-1), v) else if 80 ≤ x1 then ((-1), v) else if ((v 1000 3) + x1) < 80 then ((v 1000 3) + x1, up2 v 1000 3 ((v 1000 3) + x1)) else ((-1), v)
theorem k_X10_halves {l : Launch} {I : List Nat} (hI : fr_I I) (v : fr_V) (u : fr_U) (x1 : Int32) : Con l mX10_halves I v u [.ref 1000, .int x1] (QX u (fun a b => a = (f_X10_halves v x1).1 ∧ b = (f_X10_halves v x1).2)) := by
  refine Con.of (by decide) (Nat.le_of_ble_eq_true rfl) ?_
  show J l mX10_halves I v u 0 [(0, .ref 1000), (1, .int x1)] [] _
  refine J_iload_n dX10_halves_0 rfl 1 rfl ?_
  refine J_if_lt (tgt := 21) dX10_halves_1 (by decide) (fun c1 => ?_) (fun c1 => ?_)
  · refine J_iconst (x := (-1)) dX10_halves_21 (by decide) ?_
    exact J_iret dX10_halves_22 rfl ⟨_, rfl, rfl, by unfold f_X10_halves; rw [if_pos c1], by unfold f_X10_halves; rw [if_pos c1]⟩
  · refine J_iload_n dX10_halves_4 rfl 1 rfl ?_
    refine J_bipush (x := 80) dX10_halves_5 (by decide) ?_
    refine J_icmp_ge (tgt := 21) dX10_halves_7 (by decide) (fun c2 => ?_) (fun c2 => ?_)
    · refine J_iconst (x := (-1)) dX10_halves_21 (by decide) ?_
      exact J_iret dX10_halves_22 rfl ⟨_, rfl, rfl, by unfold f_X10_halves; rw [if_neg c1, if_pos c2], by unfold f_X10_halves; rw [if_neg c1, if_pos c2]⟩
    · refine J_aload_n dX10_halves_10 rfl 0 rfl ?_
      refine J_gete (ci := 10) (j := 3) (x := v 1000 3) dX10_halves_11 fl_X10_92 (i1000 hI) rfl rfl rfl ?_
      refine J_iload_n dX10_halves_14 rfl 1 rfl ?_
      refine J_iadd dX10_halves_15 ?_
      refine J_bipush (x := 80) dX10_halves_16 (by decide) ?_
      refine J_icmp_lt (tgt := 23) dX10_halves_18 (by decide) (fun c3 => ?_) (fun c3 => ?_)
      · refine J_aload_n dX10_halves_23 rfl 0 rfl ?_
        refine J_dup dX10_halves_24 rfl ?_
        refine J_gete (ci := 10) (j := 3) (x := v 1000 3) dX10_halves_25 fl_X10_92 (i1000 hI) rfl rfl rfl ?_
        refine J_iload_n dX10_halves_28 rfl 1 rfl ?_
        refine J_iadd dX10_halves_29 ?_
        refine J_puti (ci := 10) (j := 3) dX10_halves_30 fl_X10_92 (i1000 hI) rfl rfl (fun q h => by cases h; rfl) rfl ?_
        refine J_aload_n dX10_halves_33 rfl 0 rfl ?_
        refine J_gete (ci := 10) (j := 3) (x := (v 1000 3) + x1) dX10_halves_34 fl_X10_92 (i1000 hI) rfl rfl rfl ?_
        exact J_iret dX10_halves_37 rfl ⟨_, rfl, rfl, by unfold f_X10_halves; rw [if_neg c1, if_neg c2, if_pos c3], by unfold f_X10_halves; rw [if_neg c1, if_neg c2, if_pos c3]⟩
      · refine J_iconst (x := (-1)) dX10_halves_21 (by decide) ?_
        exact J_iret dX10_halves_22 rfl ⟨_, rfl, rfl, by unfold f_X10_halves; rw [if_neg c1, if_neg c2, if_neg c3], by unfold f_X10_halves; rw [if_neg c1, if_neg c2, if_neg c3]⟩
def f_X10_fault (v : fr_V) (x1 : Int32) : Int32 := if x1 = 0 then v 600 14 else if x1 = 1 then v 600 15 else (-1)
theorem k_X10_fault {l : Launch} {I : List Nat} (hI : fr_I I) (v : fr_V) (u : fr_U) (x1 : Int32) : Con l mX10_fault I v u [.ref 1000, .int x1] (QI v u (fun a => a = f_X10_fault v x1)) := by
  refine Con.of (by decide) (Nat.le_of_ble_eq_true rfl) ?_
  show J l mX10_fault I v u 0 [(0, .ref 1000), (1, .int x1)] [] _
  refine J_iload_n dX10_fault_0 rfl 1 rfl ?_
  refine J_if_ne (tgt := 12) dX10_fault_1 (by decide) (fun c1 => ?_) (fun c1 => ?_)
  · refine J_iload_n dX10_fault_12 rfl 1 rfl ?_
    refine J_iconst (x := 1) dX10_fault_13 (by decide) ?_
    refine J_icmp_ne (tgt := 27) dX10_fault_14 (by decide) (fun c2 => ?_) (fun c2 => ?_)
    · refine J_iconst (x := (-1)) dX10_fault_27 (by decide) ?_
      exact J_iret dX10_fault_28 rfl ⟨_, rfl, rfl, rfl, by unfold f_X10_fault; rw [if_neg c1, if_neg c2]⟩
    · refine J_aload_n dX10_fault_17 rfl 0 rfl ?_
      refine J_getr (ci := 10) (j := 0) (t := 600) dX10_fault_18 fl_X10_10 (i1000 hI) rfl rfl rfl ?_
      refine J_gete (ci := 6) (j := 15) (x := v 600 15) dX10_fault_21 fl_X10_89 (i600 hI) rfl rfl rfl ?_
      refine J_goto (tgt := 28) dX10_fault_24 (by decide) ?_
      exact J_iret dX10_fault_28 rfl ⟨_, rfl, rfl, rfl, by unfold f_X10_fault; rw [if_neg c1, if_pos c2]⟩
  · refine J_aload_n dX10_fault_4 rfl 0 rfl ?_
    refine J_getr (ci := 10) (j := 0) (t := 600) dX10_fault_5 fl_X10_10 (i1000 hI) rfl rfl rfl ?_
    refine J_gete (ci := 6) (j := 14) (x := v 600 14) dX10_fault_8 fl_X10_86 (i600 hI) rfl rfl rfl ?_
    exact J_iret dX10_fault_11 rfl ⟨_, rfl, rfl, rfl, by unfold f_X10_fault; rw [if_pos c1]⟩
def f_X3_has (v : fr_V) (x1 : Int32) : Int32 := if x1 < 0 then 0 else if (v 300 2) ≤ x1 then 0 else 1
theorem k_X3_has {l : Launch} {I : List Nat} (hI : fr_I I) (v : fr_V) (u : fr_U) (x1 : Int32) : Con l mX3_has I v u [.ref 300, .int x1] (QI v u (fun a => a = f_X3_has v x1)) := by
  refine Con.of (by decide) (Nat.le_of_ble_eq_true rfl) ?_
  show J l mX3_has I v u 0 [(0, .ref 300), (1, .int x1)] [] _
  refine J_iload_n dX3_has_0 rfl 1 rfl ?_
  refine J_if_lt (tgt := 16) dX3_has_1 (by decide) (fun c1 => ?_) (fun c1 => ?_)
  · refine J_iconst (x := 0) dX3_has_16 (by decide) ?_
    exact J_zret dX3_has_17 rfl (by decide) ⟨_, rfl, rfl, rfl, by unfold f_X3_has; rw [if_pos c1]⟩
  · refine J_iload_n dX3_has_4 rfl 1 rfl ?_
    refine J_aload_n dX3_has_5 rfl 0 rfl ?_
    refine J_gete (ci := 3) (j := 2) (x := v 300 2) dX3_has_6 fl_X3_40 (i300 hI) rfl rfl rfl ?_
    refine J_icmp_ge (tgt := 16) dX3_has_9 (by decide) (fun c2 => ?_) (fun c2 => ?_)
    · refine J_iconst (x := 0) dX3_has_16 (by decide) ?_
      exact J_zret dX3_has_17 rfl (by decide) ⟨_, rfl, rfl, rfl, by unfold f_X3_has; rw [if_neg c1, if_pos c2]⟩
    · refine J_iconst (x := 1) dX3_has_12 (by decide) ?_
      refine J_goto (tgt := 17) dX3_has_13 (by decide) ?_
      exact J_zret dX3_has_17 rfl (by decide) ⟨_, rfl, rfl, rfl, by unfold f_X3_has; rw [if_neg c1, if_neg c2]⟩
def f_X3_isFull (v : fr_V) : Int32 := if (v 300 2) < 16 then 0 else 1
theorem k_X3_isFull {l : Launch} {I : List Nat} (hI : fr_I I) (v : fr_V) (u : fr_U) : Con l mX3_isFull I v u [.ref 300] (QI v u (fun a => a = f_X3_isFull v)) := by
  refine Con.of (by decide) (Nat.le_of_ble_eq_true rfl) ?_
  show J l mX3_isFull I v u 0 [(0, .ref 300)] [] _
  refine J_aload_n dX3_isFull_0 rfl 0 rfl ?_
  refine J_gete (ci := 3) (j := 2) (x := v 300 2) dX3_isFull_1 fl_X3_40 (i300 hI) rfl rfl rfl ?_
  refine J_bipush (x := 16) dX3_isFull_4 (by decide) ?_
  refine J_icmp_lt (tgt := 13) dX3_isFull_6 (by decide) (fun c1 => ?_) (fun c1 => ?_)
  · refine J_iconst (x := 0) dX3_isFull_13 (by decide) ?_
    exact J_zret dX3_isFull_14 rfl (by decide) ⟨_, rfl, rfl, rfl, by unfold f_X3_isFull; rw [if_pos c1]⟩
  · refine J_iconst (x := 1) dX3_isFull_9 (by decide) ?_
    refine J_goto (tgt := 14) dX3_isFull_10 (by decide) ?_
    exact J_zret dX3_isFull_14 rfl (by decide) ⟨_, rfl, rfl, rfl, by unfold f_X3_isFull; rw [if_neg c1]⟩
def f_X3_reopen (v : fr_V) : fr_V := up2 v 300 10 0
theorem k_X3_reopen {l : Launch} {I : List Nat} (hI : fr_I I) (v : fr_V) (u : fr_U) : Con l mX3_reopen I v u [.ref 300] (QN u (fun a => a = f_X3_reopen v)) := by
  refine Con.of (by decide) (Nat.le_of_ble_eq_true rfl) ?_
  show J l mX3_reopen I v u 0 [(0, .ref 300)] [] _
  refine J_aload_n dX3_reopen_0 rfl 0 rfl ?_
  refine J_iconst (x := 0) dX3_reopen_1 (by decide) ?_
  refine J_puti (ci := 3) (j := 10) dX3_reopen_2 fl_X3_96 (i300 hI) rfl rfl (fun q h => by cases h; rfl) rfl ?_
  exact J_vret dX3_reopen_5 rfl ⟨rfl, rfl, rfl⟩
def f_X3_passOn (v : fr_V) (x1 x2 x3 x4 x5 : Int32) : Int32 × fr_V := if (v 300 8) < 40 then (1, up2 (up2 (up2 (up2 (up2 (up2 v 304 ((v 300 8).toNatClampNeg) x1) 305 ((v 300 8).toNatClampNeg) x2) 306 ((v 300 8).toNatClampNeg) x3) 307 ((v 300 8).toNatClampNeg) x4) 308 ((v 300 8).toNatClampNeg) x5) 300 8 ((v 300 8) + 1)) else (0, v)
theorem k_X3_passOn {l : Launch} {I : List Nat} (hI : fr_I I) (v : fr_V) (u : fr_U) (x1 x2 x3 x4 x5 : Int32) (n : Nat) (hn : v 300 8 = nI n) (hn2 : n ≤ 60) : Con l mX3_passOn I v u [.ref 300, .int x1, .int x2, .int x3, .int x4, .int x5] (QX u (fun a b => a = (f_X3_passOn v x1 x2 x3 x4 x5).1 ∧ b = (f_X3_passOn v x1 x2 x3 x4 x5).2)) := by
  refine Con.of (by decide) (Nat.le_of_ble_eq_true rfl) ?_
  show J l mX3_passOn I v u 0 [(0, .ref 300), (1, .int x1), (2, .int x2), (3, .int x3), (4, .int x4), (5, .int x5)] [] _
  refine J_aload_n dX3_passOn_0 rfl 0 rfl ?_
  refine J_gete (ci := 3) (j := 8) (x := v 300 8) dX3_passOn_1 fl_X3_48 (i300 hI) rfl rfl rfl ?_
  refine J_bipush (x := 40) dX3_passOn_4 (by decide) ?_
  refine J_icmp_lt (tgt := 11) dX3_passOn_6 (by decide) (fun c1 => ?_) (fun c1 => ?_)
  · refine J_aload_n dX3_passOn_11 rfl 0 rfl ?_
    refine J_getr (ci := 3) (j := 3) (t := 304) dX3_passOn_12 fl_X3_17 (i300 hI) rfl rfl rfl ?_
    refine J_aload_n dX3_passOn_15 rfl 0 rfl ?_
    refine J_gete (ci := 3) (j := 8) (x := v 300 8) dX3_passOn_16 fl_X3_48 (i300 hI) rfl rfl rfl ?_
    refine J_iload_n dX3_passOn_19 rfl 1 rfl ?_
    refine J_iast dX3_passOn_20 (i304 hI) rfl (lt_in (m := 40) hn (by omega) (by omega) (by assumption)) ?_
    refine J_aload_n dX3_passOn_21 rfl 0 rfl ?_
    refine J_getr (ci := 3) (j := 4) (t := 305) dX3_passOn_22 fl_X3_21 (i300 hI) rfl rfl rfl ?_
    refine J_aload_n dX3_passOn_25 rfl 0 rfl ?_
    refine J_gete (ci := 3) (j := 8) (x := v 300 8) dX3_passOn_26 fl_X3_48 (i300 hI) rfl rfl rfl ?_
    refine J_iload_n dX3_passOn_29 rfl 2 rfl ?_
    refine J_iast dX3_passOn_30 (i305 hI) rfl (lt_in (m := 40) hn (by omega) (by omega) (by assumption)) ?_
    refine J_aload_n dX3_passOn_31 rfl 0 rfl ?_
    refine J_getr (ci := 3) (j := 5) (t := 306) dX3_passOn_32 fl_X3_24 (i300 hI) rfl rfl rfl ?_
    refine J_aload_n dX3_passOn_35 rfl 0 rfl ?_
    refine J_gete (ci := 3) (j := 8) (x := v 300 8) dX3_passOn_36 fl_X3_48 (i300 hI) rfl rfl rfl ?_
    refine J_iload_n dX3_passOn_39 rfl 3 rfl ?_
    refine J_iast dX3_passOn_40 (i306 hI) rfl (lt_in (m := 40) hn (by omega) (by omega) (by assumption)) ?_
    refine J_aload_n dX3_passOn_41 rfl 0 rfl ?_
    refine J_getr (ci := 3) (j := 6) (t := 307) dX3_passOn_42 fl_X3_27 (i300 hI) rfl rfl rfl ?_
    refine J_aload_n dX3_passOn_45 rfl 0 rfl ?_
    refine J_gete (ci := 3) (j := 8) (x := v 300 8) dX3_passOn_46 fl_X3_48 (i300 hI) rfl rfl rfl ?_
    refine J_iload dX3_passOn_49 4 rfl ?_
    refine J_iast dX3_passOn_51 (i307 hI) rfl (lt_in (m := 40) hn (by omega) (by omega) (by assumption)) ?_
    refine J_aload_n dX3_passOn_52 rfl 0 rfl ?_
    refine J_getr (ci := 3) (j := 7) (t := 308) dX3_passOn_53 fl_X3_30 (i300 hI) rfl rfl rfl ?_
    refine J_aload_n dX3_passOn_56 rfl 0 rfl ?_
    refine J_gete (ci := 3) (j := 8) (x := v 300 8) dX3_passOn_57 fl_X3_48 (i300 hI) rfl rfl rfl ?_
    refine J_iload dX3_passOn_60 5 rfl ?_
    refine J_iast dX3_passOn_62 (i308 hI) rfl (lt_in (m := 40) hn (by omega) (by omega) (by assumption)) ?_
    refine J_aload_n dX3_passOn_63 rfl 0 rfl ?_
    refine J_dup dX3_passOn_64 rfl ?_
    refine J_gete (ci := 3) (j := 8) (x := v 300 8) dX3_passOn_65 fl_X3_48 (i300 hI) rfl rfl rfl ?_
    refine J_iconst (x := 1) dX3_passOn_68 (by decide) ?_
    refine J_iadd dX3_passOn_69 ?_
    refine J_puti (ci := 3) (j := 8) dX3_passOn_70 fl_X3_48 (i300 hI) rfl rfl (fun q h => by cases h; rfl) rfl ?_
    refine J_iconst (x := 1) dX3_passOn_73 (by decide) ?_
    exact J_zret dX3_passOn_74 rfl (by decide) ⟨_, rfl, rfl, by unfold f_X3_passOn; rw [if_pos c1], by unfold f_X3_passOn; rw [if_pos c1]⟩
  · refine J_iconst (x := 0) dX3_passOn_9 (by decide) ?_
    exact J_zret dX3_passOn_10 rfl (by decide) ⟨_, rfl, rfl, by unfold f_X3_passOn; rw [if_neg c1], by unfold f_X3_passOn; rw [if_neg c1]⟩
def f_X2_clearOffers (v : fr_V) : fr_V := up2 v 200 3 0
theorem k_X2_clearOffers {l : Launch} {I : List Nat} (hI : fr_I I) (v : fr_V) (u : fr_U) : Con l mX2_clearOffers I v u [.ref 200] (QN u (fun a => a = f_X2_clearOffers v)) := by
  refine Con.of (by decide) (Nat.le_of_ble_eq_true rfl) ?_
  show J l mX2_clearOffers I v u 0 [(0, .ref 200)] [] _
  refine J_aload_n dX2_clearOffers_0 rfl 0 rfl ?_
  refine J_iconst (x := 0) dX2_clearOffers_1 (by decide) ?_
  refine J_puti (ci := 2) (j := 3) dX2_clearOffers_2 fl_X2_27 (i200 hI) rfl rfl (fun q h => by cases h; rfl) rfl ?_
  exact J_vret dX2_clearOffers_5 rfl ⟨rfl, rfl, rfl⟩
def f_X2_offer (v : fr_V) (x1 x2 x3 : Int32) : fr_V := if (v 200 3) < 12 then up2 (up2 (up2 (up2 v 201 ((v 200 3).toNatClampNeg) x1) 202 ((v 200 3).toNatClampNeg) x2) 203 ((v 200 3).toNatClampNeg) x3) 200 3 ((v 200 3) + 1) else v
theorem k_X2_offer {l : Launch} {I : List Nat} (hI : fr_I I) (v : fr_V) (u : fr_U) (x1 x2 x3 : Int32) (n : Nat) (hn : v 200 3 = nI n) (hn2 : n ≤ 60) : Con l mX2_offer I v u [.ref 200, .int x1, .int x2, .int x3] (QN u (fun a => a = f_X2_offer v x1 x2 x3)) := by
  refine Con.of (by decide) (Nat.le_of_ble_eq_true rfl) ?_
  show J l mX2_offer I v u 0 [(0, .ref 200), (1, .int x1), (2, .int x2), (3, .int x3)] [] _
  refine J_aload_n dX2_offer_0 rfl 0 rfl ?_
  refine J_gete (ci := 2) (j := 3) (x := v 200 3) dX2_offer_1 fl_X2_27 (i200 hI) rfl rfl rfl ?_
  refine J_bipush (x := 12) dX2_offer_4 (by decide) ?_
  refine J_icmp_lt (tgt := 10) dX2_offer_6 (by decide) (fun c1 => ?_) (fun c1 => ?_)
  · refine J_aload_n dX2_offer_10 rfl 0 rfl ?_
    refine J_getr (ci := 2) (j := 0) (t := 201) dX2_offer_11 fl_X2_9 (i200 hI) rfl rfl rfl ?_
    refine J_aload_n dX2_offer_14 rfl 0 rfl ?_
    refine J_gete (ci := 2) (j := 3) (x := v 200 3) dX2_offer_15 fl_X2_27 (i200 hI) rfl rfl rfl ?_
    refine J_iload_n dX2_offer_18 rfl 1 rfl ?_
    refine J_iast dX2_offer_19 (i201 hI) rfl (lt_in (m := 12) hn (by omega) (by omega) (by assumption)) ?_
    refine J_aload_n dX2_offer_20 rfl 0 rfl ?_
    refine J_getr (ci := 2) (j := 1) (t := 202) dX2_offer_21 fl_X2_15 (i200 hI) rfl rfl rfl ?_
    refine J_aload_n dX2_offer_24 rfl 0 rfl ?_
    refine J_gete (ci := 2) (j := 3) (x := v 200 3) dX2_offer_25 fl_X2_27 (i200 hI) rfl rfl rfl ?_
    refine J_iload_n dX2_offer_28 rfl 2 rfl ?_
    refine J_iast dX2_offer_29 (i202 hI) rfl (lt_in (m := 12) hn (by omega) (by omega) (by assumption)) ?_
    refine J_aload_n dX2_offer_30 rfl 0 rfl ?_
    refine J_getr (ci := 2) (j := 2) (t := 203) dX2_offer_31 fl_X2_18 (i200 hI) rfl rfl rfl ?_
    refine J_aload_n dX2_offer_34 rfl 0 rfl ?_
    refine J_gete (ci := 2) (j := 3) (x := v 200 3) dX2_offer_35 fl_X2_27 (i200 hI) rfl rfl rfl ?_
    refine J_iload_n dX2_offer_38 rfl 3 rfl ?_
    refine J_iast dX2_offer_39 (i203 hI) rfl (lt_in (m := 12) hn (by omega) (by omega) (by assumption)) ?_
    refine J_aload_n dX2_offer_40 rfl 0 rfl ?_
    refine J_dup dX2_offer_41 rfl ?_
    refine J_gete (ci := 2) (j := 3) (x := v 200 3) dX2_offer_42 fl_X2_27 (i200 hI) rfl rfl rfl ?_
    refine J_iconst (x := 1) dX2_offer_45 (by decide) ?_
    refine J_iadd dX2_offer_46 ?_
    refine J_puti (ci := 2) (j := 3) dX2_offer_47 fl_X2_27 (i200 hI) rfl rfl (fun q h => by cases h; rfl) rfl ?_
    exact J_vret dX2_offer_50 rfl ⟨rfl, rfl, by unfold f_X2_offer; rw [if_pos c1]⟩
  · exact J_vret dX2_offer_9 rfl ⟨rfl, rfl, by unfold f_X2_offer; rw [if_neg c1]⟩
def f_X8_yearBefore (v : fr_V) (x0 x1 x2 : Int32) : Int32 := if 0 ≤ x2 then ((((1000 + x0) * x1) / 1000) * x2) / (x2 + 1) else 0
theorem k_X8_yearBefore {l : Launch} {I : List Nat} (hI : fr_I I) (v : fr_V) (u : fr_U) (x0 x1 x2 : Int32) (h1 : ¬ x2 + 1 = 0) : Con l mX8_yearBefore I v u [.int x0, .int x1, .int x2] (QI v u (fun a => a = f_X8_yearBefore v x0 x1 x2)) := by
  refine Con.of (by decide) (Nat.le_of_ble_eq_true rfl) ?_
  show J l mX8_yearBefore I v u 0 [(0, .int x0), (1, .int x1), (2, .int x2)] [] _
  refine J_iload_n dX8_yearBefore_0 rfl 2 rfl ?_
  refine J_if_ge (tgt := 6) dX8_yearBefore_1 (by decide) (fun c1 => ?_) (fun c1 => ?_)
  · refine J_sipush (x := 1000) dX8_yearBefore_6 (by decide) ?_
    refine J_iload_n dX8_yearBefore_9 rfl 0 rfl ?_
    refine J_iadd dX8_yearBefore_10 ?_
    refine J_iload_n dX8_yearBefore_11 rfl 1 rfl ?_
    refine J_imul dX8_yearBefore_12 ?_
    refine J_sipush (x := 1000) dX8_yearBefore_13 (by decide) ?_
    refine J_idiv dX8_yearBefore_16 (by decide) ?_
    refine J_iload_n dX8_yearBefore_17 rfl 2 rfl ?_
    refine J_imul dX8_yearBefore_18 ?_
    refine J_iload_n dX8_yearBefore_19 rfl 2 rfl ?_
    refine J_iconst (x := 1) dX8_yearBefore_20 (by decide) ?_
    refine J_iadd dX8_yearBefore_21 ?_
    refine J_idiv dX8_yearBefore_22 h1 ?_
    exact J_iret dX8_yearBefore_23 rfl ⟨_, rfl, rfl, rfl, by unfold f_X8_yearBefore; rw [if_pos c1]⟩
  · refine J_iconst (x := 0) dX8_yearBefore_4 (by decide) ?_
    exact J_iret dX8_yearBefore_5 rfl ⟨_, rfl, rfl, rfl, by unfold f_X8_yearBefore; rw [if_neg c1]⟩
