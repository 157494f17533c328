theorem sw_no {x : Int32} (n : Nat) (hn : n < 1000) (h : ∀ k, k ≤ n → ¬ x = nI k) : x.toInt < 0 ∨ (n : Int) < x.toInt := by
  rcases sw_cases x n (by omega) with ⟨k, hk, e⟩ | ho
  · exact absurd e (h k hk)
  · exact ho
theorem slot_in : ∀ w, w < 15 → wdrole w = 1 → vp_in (wdslot w) 4 := by
  intro w hw h
  have : w = 4 ∨ w = 5 ∨ w = 6 ∨ w = 7 := by
    have : ∀ w, w < 15 → wdrole w = 1 → w = 4 ∨ w = 5 ∨ w = 6 ∨ w = 7 := by decide
    exact this w hw h
  rcases this with rfl | rfl | rfl | rfl
  · exact vp_in_nI (n := 0) (by omega) (by omega)
  · exact vp_in_nI (n := 1) (by omega) (by omega)
  · exact vp_in_nI (n := 2) (by omega) (by omega)
  · exact vp_in_nI (n := 3) (by omega) (by omega)
def f_nf (v : fr_V) (ow : Nat) : Int32 := if (v 600 11) = 1 then (if (v 600 12) < (wdleast ow) then 2 else if (v 600 12) ≤ (wdmost ow) then 0 else 2) else 1
theorem k_X6_numberFault {l : Launch} {I : List Nat} (hI : fr_I I) (v : fr_V) (u : fr_U) (ow : Nat) (how : ow < 15) (ho : v 600 6 = nI (3000 + ow)) : Con l mX6_numberFault I v u [.ref 600] (QI v u (fun a => a = f_nf v ow)) := by
  refine Con.of (by decide) (Nat.le_of_ble_eq_true rfl) ?_
  show J l mX6_numberFault I v u 0 [(0, .ref 600)] [] _
  refine J_aload_n dX6_numberFault_0 rfl 0 rfl ?_
  refine J_gete (ci := 6) (j := 11) (x := v 600 11) dX6_numberFault_1 fl_X6_101 (i600 hI) rfl rfl rfl ?_
  refine J_iconst (x := 1) dX6_numberFault_4 (by decide) ?_
  refine J_icmp_eq (tgt := 10) dX6_numberFault_5 (by decide) (fun c1 => ?_) (fun c1 => ?_)
  · refine J_aload_n dX6_numberFault_10 rfl 0 rfl ?_
    refine J_gete (ci := 6) (j := 12) (x := v 600 12) dX6_numberFault_11 fl_X6_85 (i600 hI) rfl rfl rfl ?_
    refine J_aload_n dX6_numberFault_14 rfl 0 rfl ?_
    refine J_getd (ci := 6) (j := 6) (t := 3000 + ow) dX6_numberFault_15 fl_X6_54 (i600 hI) rfl rfl (by rw [show v 600 6 = nI (3000 + ow) from ho]; exact nI_pos (by omega)) (by rw [show v 600 6 = nI (3000 + ow) from ho]; exact nI_clamp (by omega)) ?_
    refine J_gWleast (w := ow) dX6_numberFault_18 el_X6_176 (by omega) ?_
    refine J_icmp_lt (tgt := 38) dX6_numberFault_21 (by decide) (fun c2 => ?_) (fun c2 => ?_)
    · refine J_iconst (x := 2) dX6_numberFault_38 (by decide) ?_
      refine J_goto (tgt := 43) dX6_numberFault_39 (by decide) ?_
      exact J_iret dX6_numberFault_43 rfl ⟨_, rfl, rfl, rfl, by unfold f_nf; rw [if_pos c1, if_pos c2]⟩
    · refine J_aload_n dX6_numberFault_24 rfl 0 rfl ?_
      refine J_gete (ci := 6) (j := 12) (x := v 600 12) dX6_numberFault_25 fl_X6_85 (i600 hI) rfl rfl rfl ?_
      refine J_aload_n dX6_numberFault_28 rfl 0 rfl ?_
      refine J_getd (ci := 6) (j := 6) (t := 3000 + ow) dX6_numberFault_29 fl_X6_54 (i600 hI) rfl rfl (by rw [show v 600 6 = nI (3000 + ow) from ho]; exact nI_pos (by omega)) (by rw [show v 600 6 = nI (3000 + ow) from ho]; exact nI_clamp (by omega)) ?_
      refine J_gWmost (w := ow) dX6_numberFault_32 el_X6_169 (by omega) ?_
      refine J_icmp_le (tgt := 42) dX6_numberFault_35 (by decide) (fun c3 => ?_) (fun c3 => ?_)
      · refine J_iconst (x := 0) dX6_numberFault_42 (by decide) ?_
        exact J_iret dX6_numberFault_43 rfl ⟨_, rfl, rfl, rfl, by unfold f_nf; rw [if_pos c1, if_neg c2, if_pos c3]⟩
      · refine J_iconst (x := 2) dX6_numberFault_38 (by decide) ?_
        refine J_goto (tgt := 43) dX6_numberFault_39 (by decide) ?_
        exact J_iret dX6_numberFault_43 rfl ⟨_, rfl, rfl, rfl, by unfold f_nf; rw [if_pos c1, if_neg c2, if_neg c3]⟩
  · refine J_iconst (x := 1) dX6_numberFault_8 (by decide) ?_
    exact J_iret dX6_numberFault_9 rfl ⟨_, rfl, rfl, rfl, by unfold f_nf; rw [if_neg c1]⟩
def f_ple (v : fr_V) : Int32 × fr_V := if (v 600 11) = 2 then (0, up2 (up2 v 600 4 ((v 600 4) + 1)) 600 5 0) else (1, v)
theorem k_X6_putLineEnd {l : Launch} {I : List Nat} (hI : fr_I I) (v : fr_V) (u : fr_U) : Con l mX6_putLineEnd I v u [.ref 600] (QX u (fun a b => a = (f_ple v).1 ∧ b = (f_ple v).2)) := by
  refine Con.of (by decide) (Nat.le_of_ble_eq_true rfl) ?_
  show J l mX6_putLineEnd I v u 0 [(0, .ref 600)] [] _
  refine J_aload_n dX6_putLineEnd_0 rfl 0 rfl ?_
  refine J_gete (ci := 6) (j := 11) (x := v 600 11) dX6_putLineEnd_1 fl_X6_101 (i600 hI) rfl rfl rfl ?_
  refine J_iconst (x := 2) dX6_putLineEnd_4 (by decide) ?_
  refine J_icmp_eq (tgt := 10) dX6_putLineEnd_5 (by decide) (fun c1 => ?_) (fun c1 => ?_)
  · refine J_aload_n dX6_putLineEnd_10 rfl 0 rfl ?_
    refine J_dup dX6_putLineEnd_11 rfl ?_
    refine J_gete (ci := 6) (j := 4) (x := v 600 4) dX6_putLineEnd_12 fl_X6_60 (i600 hI) rfl rfl rfl ?_
    refine J_iconst (x := 1) dX6_putLineEnd_15 (by decide) ?_
    refine J_iadd dX6_putLineEnd_16 ?_
    refine J_puti (ci := 6) (j := 4) dX6_putLineEnd_17 fl_X6_60 (i600 hI) rfl rfl (fun q h => by cases h; rfl) rfl ?_
    refine J_aload_n dX6_putLineEnd_20 rfl 0 rfl ?_
    refine J_iconst (x := 0) dX6_putLineEnd_21 (by decide) ?_
    refine J_puti (ci := 6) (j := 5) dX6_putLineEnd_22 fl_X6_57 (i600 hI) rfl rfl (fun q h => by cases h; rfl) rfl ?_
    refine J_iconst (x := 0) dX6_putLineEnd_25 (by decide) ?_
    exact J_iret dX6_putLineEnd_26 rfl ⟨_, rfl, rfl, by unfold f_ple; rw [if_pos c1], by unfold f_ple; rw [if_pos c1]⟩
  · refine J_iconst (x := 1) dX6_putLineEnd_8 (by decide) ?_
    exact J_iret dX6_putLineEnd_9 rfl ⟨_, rfl, rfl, by unfold f_ple; rw [if_neg c1], by unfold f_ple; rw [if_neg c1]⟩
def f_pfr (v : fr_V) (ow : Nat) : Int32 × fr_V := (f_nf (up2 (up2 v 600 8 (v 600 12)) 600 5 4) ow, up2 (up2 v 600 8 (v 600 12)) 600 5 4)
theorem k_X6_putFrom {l : Launch} {I : List Nat} (hI : fr_I I) (v : fr_V) (u : fr_U) (ow : Nat) (how : ow < 15) (ho : v 600 6 = nI (3000 + ow)) : Con l mX6_putFrom I v u [.ref 600] (QX u (fun a b => a = (f_pfr v ow).1 ∧ b = (f_pfr v ow).2)) := by
  refine Con.of (by decide) (Nat.le_of_ble_eq_true rfl) ?_
  show J l mX6_putFrom I v u 0 [(0, .ref 600)] [] _
  refine J_aload_n dX6_putFrom_0 rfl 0 rfl ?_
  refine J_aload_n dX6_putFrom_1 rfl 0 rfl ?_
  refine J_gete (ci := 6) (j := 12) (x := v 600 12) dX6_putFrom_2 fl_X6_85 (i600 hI) rfl rfl rfl ?_
  refine J_puti (ci := 6) (j := 8) dX6_putFrom_5 fl_X6_198 (i600 hI) rfl rfl (fun q h => by cases h; rfl) rfl ?_
  refine J_aload_n dX6_putFrom_8 rfl 0 rfl ?_
  refine J_iconst (x := 4) dX6_putFrom_9 (by decide) ?_
  refine J_puti (ci := 6) (j := 5) dX6_putFrom_10 fl_X6_57 (i600 hI) rfl rfl (fun q h => by cases h; rfl) rfl ?_
  refine J_aload_n dX6_putFrom_13 rfl 0 rfl ?_
  refine J_eVI (z := mX6_numberFault) (As := []) (rest := []) (ci := 6) (x := f_nf (up2 (up2 v 600 8 (v 600 12)) 600 5 4) ow) dX6_putFrom_14 ml_X6_172 ok_X6_numberFault iv_X6_numberFault (by decide) (i600 hI) rfl rfl rfl rfl (Nat.le_of_ble_eq_true rfl) (k_X6_numberFault hI (up2 (up2 v 600 8 (v 600 12)) 600 5 4) u ow how ho) ?_
  exact J_iret dX6_putFrom_17 rfl ⟨_, rfl, rfl, rfl, rfl⟩
def f_pam (v : fr_V) (ac : Nat) (rl : Nat) (ow : Nat) : Int32 × fr_V := if (f_nf v ow) = 0 then (if (wdrole ow) = 1 then (0, up2 (up2 v (ac + 3) ((wdslot ow).toNatClampNeg) (v 600 12)) 600 5 8) else (0, up2 (up2 v (lnB ac + rl) 1 (v 600 12)) 600 5 2)) else (f_nf v ow, v)
theorem k_X6_putAmount {l : Launch} {I : List Nat} (hI : fr_I I) (v : fr_V) (u : fr_U) (ac : Nat) (rl : Nat) (ow : Nat) (hac : ac = 10 ∨ ac = 20) (hi : v 600 3 = nI ac) (hrl : rl < 24) (hr : v 600 7 = nI (lnB ac + rl)) (how : ow < 15) (ho : v 600 6 = nI (3000 + ow)) : Con l mX6_putAmount I v u [.ref 600] (QX u (fun a b => a = (f_pam v ac rl ow).1 ∧ b = (f_pam v ac rl ow).2)) := by
  refine Con.of (by decide) (Nat.le_of_ble_eq_true rfl) ?_
  show J l mX6_putAmount I v u 0 [(0, .ref 600)] [] _
  have hln := ln_lt hac hrl
  refine J_aload_n dX6_putAmount_0 rfl 0 rfl ?_
  refine J_eVI (z := mX6_numberFault) (As := []) (rest := []) (ci := 6) (x := f_nf v ow) dX6_putAmount_1 ml_X6_172 ok_X6_numberFault iv_X6_numberFault (by decide) (i600 hI) rfl rfl rfl rfl (Nat.le_of_ble_eq_true rfl) (k_X6_numberFault hI v u ow how ho) ?_
  refine J_istore_n (lv' := [(1, .int (f_nf v ow)), (0, .ref 600)]) dX6_putAmount_4 rfl (by decide) rfl ?_
  refine J_iload_n dX6_putAmount_5 rfl 0 rfl ?_
  refine J_if_eq (tgt := 11) dX6_putAmount_6 (by decide) (fun c1 => ?_) (fun c1 => ?_)
  · refine J_aload_n dX6_putAmount_11 rfl 1 rfl ?_
    refine J_getd (ci := 6) (j := 6) (t := 3000 + ow) dX6_putAmount_12 fl_X6_54 (i600 hI) rfl rfl (by rw [show v 600 6 = nI (3000 + ow) from ho]; exact nI_pos (by omega)) (by rw [show v 600 6 = nI (3000 + ow) from ho]; exact nI_clamp (by omega)) ?_
    refine J_gWrole (w := ow) dX6_putAmount_15 el_X6_151 (by omega) ?_
    refine J_iconst (x := 1) dX6_putAmount_18 (by decide) ?_
    refine J_icmp_ne (tgt := 50) dX6_putAmount_19 (by decide) (fun c2 => ?_) (fun c2 => ?_)
    · refine J_aload_n dX6_putAmount_50 rfl 1 rfl ?_
      refine J_getd (ci := 6) (j := 7) (t := lnB ac + rl) dX6_putAmount_51 fl_X6_44 (i600 hI) rfl rfl (by rw [show v 600 7 = nI (lnB ac + rl) from hr]; exact nI_pos (by omega)) (by rw [show v 600 7 = nI (lnB ac + rl) from hr]; exact nI_clamp (by omega)) ?_
      refine J_aload_n dX6_putAmount_54 rfl 1 rfl ?_
      refine J_gete (ci := 6) (j := 12) (x := v 600 12) dX6_putAmount_55 fl_X6_85 (i600 hI) rfl rfl rfl ?_
      refine J_puti (ci := 4) (j := 1) dX6_putAmount_58 fl_X6_175 (ln_in hI hac hrl) (by rw [ln_sh hac hrl]) rfl (fun q h => by cases h; rfl) rfl ?_
      refine J_aload_n dX6_putAmount_61 rfl 1 rfl ?_
      refine J_iconst (x := 2) dX6_putAmount_62 (by decide) ?_
      refine J_puti (ci := 6) (j := 5) dX6_putAmount_63 fl_X6_57 (i600 hI) rfl rfl (fun q h => by cases h; rfl) rfl ?_
      refine J_iconst (x := 0) dX6_putAmount_66 (by decide) ?_
      exact J_iret dX6_putAmount_67 rfl ⟨_, rfl, rfl, by unfold f_pam; rw [if_pos c1, if_neg c2], by unfold f_pam; rw [if_pos c1, if_neg c2]⟩
    · refine J_aload_n dX6_putAmount_22 rfl 1 rfl ?_
      refine J_getd (ci := 6) (j := 3) (t := ac) dX6_putAmount_23 fl_X6_31 (i600 hI) rfl rfl (by rw [show v 600 3 = nI ac from hi]; exact nI_pos (by omega)) (by rw [show v 600 3 = nI ac from hi]; exact nI_clamp (by omega)) ?_
      refine J_getr (ci := 0) (j := 2) (t := ac + 3) dX6_putAmount_26 fl_X6_154 (i_ac hI hac) (s_ac hac) rfl (se_sr hac) ?_
      refine J_aload_n dX6_putAmount_29 rfl 1 rfl ?_
      refine J_getd (ci := 6) (j := 6) (t := 3000 + ow) dX6_putAmount_30 fl_X6_54 (i600 hI) rfl rfl (by rw [show v 600 6 = nI (3000 + ow) from ho]; exact nI_pos (by omega)) (by rw [show v 600 6 = nI (3000 + ow) from ho]; exact nI_clamp (by omega)) ?_
      refine J_gWslot (w := ow) dX6_putAmount_33 el_X6_157 (by omega) ?_
      refine J_aload_n dX6_putAmount_36 rfl 1 rfl ?_
      refine J_gete (ci := 6) (j := 12) (x := v 600 12) dX6_putAmount_37 fl_X6_85 (i600 hI) rfl rfl rfl ?_
      refine J_iast dX6_putAmount_40 (se_in hI hac) (se_sh hac) (slot_in ow how c2) ?_
      refine J_aload_n dX6_putAmount_41 rfl 1 rfl ?_
      refine J_bipush (x := 8) dX6_putAmount_42 (by decide) ?_
      refine J_puti (ci := 6) (j := 5) dX6_putAmount_44 fl_X6_57 (i600 hI) rfl rfl (fun q h => by cases h; rfl) rfl ?_
      refine J_goto (tgt := 66) dX6_putAmount_47 (by decide) ?_
      refine J_iconst (x := 0) dX6_putAmount_66 (by decide) ?_
      exact J_iret dX6_putAmount_67 rfl ⟨_, rfl, rfl, by unfold f_pam; rw [if_pos c1, if_pos c2], by unfold f_pam; rw [if_pos c1, if_pos c2]⟩
  · refine J_iload_n dX6_putAmount_9 rfl 0 rfl ?_
    exact J_iret dX6_putAmount_10 rfl ⟨_, rfl, rfl, by unfold f_pam; rw [if_neg c1], by unfold f_pam; rw [if_neg c1]⟩
def f_pup (v : fr_V) (ac : Nat) (rl : Nat) (ow : Nat) : Int32 × fr_V := if (f_nf v ow) = 0 then (if (v 600 8) ≤ (v 600 12) then (if ow = 8 then (0, up2 (up2 (up2 v (lnB ac + rl) 2 (v 600 8)) (lnB ac + rl) 3 (v 600 12)) 600 5 2) else (0, up2 (up2 (up2 v (lnB ac + rl) 5 (v 600 8)) (lnB ac + rl) 6 (v 600 12)) 600 5 2)) else (2, v)) else (f_nf v ow, v)
theorem k_X6_putUpTo {l : Launch} {I : List Nat} (hI : fr_I I) (v : fr_V) (u : fr_U) (ac : Nat) (rl : Nat) (ow : Nat) (hac : ac = 10 ∨ ac = 20) (hi : v 600 3 = nI ac) (hrl : rl < 24) (hr : v 600 7 = nI (lnB ac + rl)) (how : ow < 15) (ho : v 600 6 = nI (3000 + ow)) : Con l mX6_putUpTo I v u [.ref 600] (QX u (fun a b => a = (f_pup v ac rl ow).1 ∧ b = (f_pup v ac rl ow).2)) := by
  refine Con.of (by decide) (Nat.le_of_ble_eq_true rfl) ?_
  show J l mX6_putUpTo I v u 0 [(0, .ref 600)] [] _
  have hln := ln_lt hac hrl
  refine J_aload_n dX6_putUpTo_0 rfl 0 rfl ?_
  refine J_eVI (z := mX6_numberFault) (As := []) (rest := []) (ci := 6) (x := f_nf v ow) dX6_putUpTo_1 ml_X6_172 ok_X6_numberFault iv_X6_numberFault (by decide) (i600 hI) rfl rfl rfl rfl (Nat.le_of_ble_eq_true rfl) (k_X6_numberFault hI v u ow how ho) ?_
  refine J_istore_n (lv' := [(1, .int (f_nf v ow)), (0, .ref 600)]) dX6_putUpTo_4 rfl (by decide) rfl ?_
  refine J_iload_n dX6_putUpTo_5 rfl 0 rfl ?_
  refine J_if_eq (tgt := 11) dX6_putUpTo_6 (by decide) (fun c1 => ?_) (fun c1 => ?_)
  · refine J_aload_n dX6_putUpTo_11 rfl 1 rfl ?_
    refine J_gete (ci := 6) (j := 12) (x := v 600 12) dX6_putUpTo_12 fl_X6_85 (i600 hI) rfl rfl rfl ?_
    refine J_aload_n dX6_putUpTo_15 rfl 1 rfl ?_
    refine J_gete (ci := 6) (j := 8) (x := v 600 8) dX6_putUpTo_16 fl_X6_198 (i600 hI) rfl rfl rfl ?_
    refine J_icmp_ge (tgt := 24) dX6_putUpTo_19 (by decide) (fun c2 => ?_) (fun c2 => ?_)
    · refine J_aload_n dX6_putUpTo_24 rfl 1 rfl ?_
      refine J_getd (ci := 6) (j := 6) (t := 3000 + ow) dX6_putUpTo_25 fl_X6_54 (i600 hI) rfl rfl (by rw [show v 600 6 = nI (3000 + ow) from ho]; exact nI_pos (by omega)) (by rw [show v 600 6 = nI (3000 + ow) from ho]; exact nI_clamp (by omega)) ?_
      refine J_gets (x := .ref (3000 + 8)) dX6_putUpTo_28 el_X6_183 (x_word 8 (by decide)) ?_
      refine J_acmpW_ne (i := ow) (j := 8) (tgt := 59) dX6_putUpTo_31 (by decide) (by omega) (by omega) (fun c3 => ?_) (fun c3 => ?_)
      · refine J_aload_n dX6_putUpTo_59 rfl 1 rfl ?_
        refine J_getd (ci := 6) (j := 7) (t := lnB ac + rl) dX6_putUpTo_60 fl_X6_44 (i600 hI) rfl rfl (by rw [show v 600 7 = nI (lnB ac + rl) from hr]; exact nI_pos (by omega)) (by rw [show v 600 7 = nI (lnB ac + rl) from hr]; exact nI_clamp (by omega)) ?_
        refine J_aload_n dX6_putUpTo_63 rfl 1 rfl ?_
        refine J_gete (ci := 6) (j := 8) (x := v 600 8) dX6_putUpTo_64 fl_X6_198 (i600 hI) rfl rfl rfl ?_
        refine J_puti (ci := 4) (j := 5) dX6_putUpTo_67 fl_X6_207 (ln_in hI hac hrl) (by rw [ln_sh hac hrl]) rfl (fun q h => by cases h; rfl) rfl ?_
        refine J_aload_n dX6_putUpTo_70 rfl 1 rfl ?_
        refine J_getd (ci := 6) (j := 7) (t := lnB ac + rl) dX6_putUpTo_71 fl_X6_44 (i600 hI) rfl rfl (by rw [show (up2 v (lnB ac + rl) 5 (v 600 8)) 600 7 = nI (lnB ac + rl) from (Eq.trans (by rw [up2_ne (show 600 ≠ lnB ac + rl by have := ln_lt hac hrl; omega)]) hr)]; exact nI_pos (by omega)) (by rw [show (up2 v (lnB ac + rl) 5 (v 600 8)) 600 7 = nI (lnB ac + rl) from (Eq.trans (by rw [up2_ne (show 600 ≠ lnB ac + rl by have := ln_lt hac hrl; omega)]) hr)]; exact nI_clamp (by omega)) ?_
        refine J_aload_n dX6_putUpTo_74 rfl 1 rfl ?_
        refine J_gete (ci := 6) (j := 12) (x := v 600 12) dX6_putUpTo_75 fl_X6_85 (i600 hI) rfl rfl (by rw [up2_ne (show 600 ≠ lnB ac + rl by have := ln_lt hac hrl; omega)]) ?_
        refine J_puti (ci := 4) (j := 6) dX6_putUpTo_78 fl_X6_210 (ln_in hI hac hrl) (by rw [ln_sh hac hrl]) rfl (fun q h => by cases h; rfl) rfl ?_
        refine J_aload_n dX6_putUpTo_81 rfl 1 rfl ?_
        refine J_iconst (x := 2) dX6_putUpTo_82 (by decide) ?_
        refine J_puti (ci := 6) (j := 5) dX6_putUpTo_83 fl_X6_57 (i600 hI) rfl rfl (fun q h => by cases h; rfl) rfl ?_
        refine J_iconst (x := 0) dX6_putUpTo_86 (by decide) ?_
        exact J_iret dX6_putUpTo_87 rfl ⟨_, rfl, rfl, by unfold f_pup; rw [if_pos c1, if_pos c2, if_neg c3], by unfold f_pup; rw [if_pos c1, if_pos c2, if_neg c3]⟩
      · refine J_aload_n dX6_putUpTo_34 rfl 1 rfl ?_
        refine J_getd (ci := 6) (j := 7) (t := lnB ac + rl) dX6_putUpTo_35 fl_X6_44 (i600 hI) rfl rfl (by rw [show v 600 7 = nI (lnB ac + rl) from hr]; exact nI_pos (by omega)) (by rw [show v 600 7 = nI (lnB ac + rl) from hr]; exact nI_clamp (by omega)) ?_
        refine J_aload_n dX6_putUpTo_38 rfl 1 rfl ?_
        refine J_gete (ci := 6) (j := 8) (x := v 600 8) dX6_putUpTo_39 fl_X6_198 (i600 hI) rfl rfl rfl ?_
        refine J_puti (ci := 4) (j := 2) dX6_putUpTo_42 fl_X6_201 (ln_in hI hac hrl) (by rw [ln_sh hac hrl]) rfl (fun q h => by cases h; rfl) rfl ?_
        refine J_aload_n dX6_putUpTo_45 rfl 1 rfl ?_
        refine J_getd (ci := 6) (j := 7) (t := lnB ac + rl) dX6_putUpTo_46 fl_X6_44 (i600 hI) rfl rfl (by rw [show (up2 v (lnB ac + rl) 2 (v 600 8)) 600 7 = nI (lnB ac + rl) from (Eq.trans (by rw [up2_ne (show 600 ≠ lnB ac + rl by have := ln_lt hac hrl; omega)]) hr)]; exact nI_pos (by omega)) (by rw [show (up2 v (lnB ac + rl) 2 (v 600 8)) 600 7 = nI (lnB ac + rl) from (Eq.trans (by rw [up2_ne (show 600 ≠ lnB ac + rl by have := ln_lt hac hrl; omega)]) hr)]; exact nI_clamp (by omega)) ?_
        refine J_aload_n dX6_putUpTo_49 rfl 1 rfl ?_
        refine J_gete (ci := 6) (j := 12) (x := v 600 12) dX6_putUpTo_50 fl_X6_85 (i600 hI) rfl rfl (by rw [up2_ne (show 600 ≠ lnB ac + rl by have := ln_lt hac hrl; omega)]) ?_
        refine J_puti (ci := 4) (j := 3) dX6_putUpTo_53 fl_X6_204 (ln_in hI hac hrl) (by rw [ln_sh hac hrl]) rfl (fun q h => by cases h; rfl) rfl ?_
        refine J_goto (tgt := 81) dX6_putUpTo_56 (by decide) ?_
        refine J_aload_n dX6_putUpTo_81 rfl 1 rfl ?_
        refine J_iconst (x := 2) dX6_putUpTo_82 (by decide) ?_
        refine J_puti (ci := 6) (j := 5) dX6_putUpTo_83 fl_X6_57 (i600 hI) rfl rfl (fun q h => by cases h; rfl) rfl ?_
        refine J_iconst (x := 0) dX6_putUpTo_86 (by decide) ?_
        exact J_iret dX6_putUpTo_87 rfl ⟨_, rfl, rfl, by unfold f_pup; rw [if_pos c1, if_pos c2, if_pos c3], by unfold f_pup; rw [if_pos c1, if_pos c2, if_pos c3]⟩
    · refine J_iconst (x := 2) dX6_putUpTo_22 (by decide) ?_
      exact J_iret dX6_putUpTo_23 rfl ⟨_, rfl, rfl, by unfold f_pup; rw [if_pos c1, if_neg c2], by unfold f_pup; rw [if_pos c1, if_neg c2]⟩
  · refine J_iload_n dX6_putUpTo_9 rfl 0 rfl ?_
    exact J_iret dX6_putUpTo_10 rfl ⟨_, rfl, rfl, by unfold f_pup; rw [if_neg c1], by unfold f_pup; rw [if_neg c1]⟩
def f_pcl (v : fr_V) (ac : Nat) (rl : Nat) (ow : Nat) : Int32 × fr_V := if (f_nf v ow) = 0 then (if ((v (lnB ac + rl) 4) &&& (1 <<< ((v 600 12) &&& 31))) = 0 then (0, up2 (up2 v (lnB ac + rl) 4 ((v (lnB ac + rl) 4) ||| (1 <<< ((v 600 12) &&& 31)))) 600 5 7) else (3, v)) else (f_nf v ow, v)
theorem k_X6_putClass {l : Launch} {I : List Nat} (hI : fr_I I) (v : fr_V) (u : fr_U) (ac : Nat) (rl : Nat) (ow : Nat) (hac : ac = 10 ∨ ac = 20) (hi : v 600 3 = nI ac) (hrl : rl < 24) (hr : v 600 7 = nI (lnB ac + rl)) (how : ow < 15) (ho : v 600 6 = nI (3000 + ow)) : Con l mX6_putClass I v u [.ref 600] (QX u (fun a b => a = (f_pcl v ac rl ow).1 ∧ b = (f_pcl v ac rl ow).2)) := by
  refine Con.of (by decide) (Nat.le_of_ble_eq_true rfl) ?_
  show J l mX6_putClass I v u 0 [(0, .ref 600)] [] _
  have hln := ln_lt hac hrl
  refine J_aload_n dX6_putClass_0 rfl 0 rfl ?_
  refine J_eVI (z := mX6_numberFault) (As := []) (rest := []) (ci := 6) (x := f_nf v ow) dX6_putClass_1 ml_X6_172 ok_X6_numberFault iv_X6_numberFault (by decide) (i600 hI) rfl rfl rfl rfl (Nat.le_of_ble_eq_true rfl) (k_X6_numberFault hI v u ow how ho) ?_
  refine J_istore_n (lv' := [(1, .int (f_nf v ow)), (0, .ref 600)]) dX6_putClass_4 rfl (by decide) rfl ?_
  refine J_iload_n dX6_putClass_5 rfl 0 rfl ?_
  refine J_if_eq (tgt := 11) dX6_putClass_6 (by decide) (fun c1 => ?_) (fun c1 => ?_)
  · refine J_iconst (x := 1) dX6_putClass_11 (by decide) ?_
    refine J_aload_n dX6_putClass_12 rfl 1 rfl ?_
    refine J_gete (ci := 6) (j := 12) (x := v 600 12) dX6_putClass_13 fl_X6_85 (i600 hI) rfl rfl rfl ?_
    refine J_ishl dX6_putClass_16 ?_
    refine J_istore_n (lv' := [(2, .int (1 <<< ((v 600 12) &&& 31))), (1, .int (f_nf v ow)), (0, .ref 600)]) dX6_putClass_17 rfl (by decide) rfl ?_
    refine J_aload_n dX6_putClass_18 rfl 2 rfl ?_
    refine J_getd (ci := 6) (j := 7) (t := lnB ac + rl) dX6_putClass_19 fl_X6_44 (i600 hI) rfl rfl (by rw [show v 600 7 = nI (lnB ac + rl) from hr]; exact nI_pos (by omega)) (by rw [show v 600 7 = nI (lnB ac + rl) from hr]; exact nI_clamp (by omega)) ?_
    refine J_gete (ci := 4) (j := 4) (x := v (lnB ac + rl) 4) dX6_putClass_22 fl_X6_213 (ln_in hI hac hrl) (by rw [ln_sh hac hrl]) rfl rfl ?_
    refine J_iload_n dX6_putClass_25 rfl 0 rfl ?_
    refine J_iand dX6_putClass_26 ?_
    refine J_if_eq (tgt := 32) dX6_putClass_27 (by decide) (fun c2 => ?_) (fun c2 => ?_)
    · refine J_aload_n dX6_putClass_32 rfl 2 rfl ?_
      refine J_getd (ci := 6) (j := 7) (t := lnB ac + rl) dX6_putClass_33 fl_X6_44 (i600 hI) rfl rfl (by rw [show v 600 7 = nI (lnB ac + rl) from hr]; exact nI_pos (by omega)) (by rw [show v 600 7 = nI (lnB ac + rl) from hr]; exact nI_clamp (by omega)) ?_
      refine J_dup dX6_putClass_36 rfl ?_
      refine J_gete (ci := 4) (j := 4) (x := v (lnB ac + rl) 4) dX6_putClass_37 fl_X6_213 (ln_in hI hac hrl) (by rw [ln_sh hac hrl]) rfl rfl ?_
      refine J_iload_n dX6_putClass_40 rfl 0 rfl ?_
      refine J_ior dX6_putClass_41 ?_
      refine J_puti (ci := 4) (j := 4) dX6_putClass_42 fl_X6_213 (ln_in hI hac hrl) (by rw [ln_sh hac hrl]) rfl (fun q h => by cases h; rfl) rfl ?_
      refine J_aload_n dX6_putClass_45 rfl 2 rfl ?_
      refine J_bipush (x := 7) dX6_putClass_46 (by decide) ?_
      refine J_puti (ci := 6) (j := 5) dX6_putClass_48 fl_X6_57 (i600 hI) rfl rfl (fun q h => by cases h; rfl) rfl ?_
      refine J_iconst (x := 0) dX6_putClass_51 (by decide) ?_
      exact J_iret dX6_putClass_52 rfl ⟨_, rfl, rfl, by unfold f_pcl; rw [if_pos c1, if_pos c2], by unfold f_pcl; rw [if_pos c1, if_pos c2]⟩
    · refine J_iconst (x := 3) dX6_putClass_30 (by decide) ?_
      exact J_iret dX6_putClass_31 rfl ⟨_, rfl, rfl, by unfold f_pcl; rw [if_pos c1, if_neg c2], by unfold f_pcl; rw [if_pos c1, if_neg c2]⟩
  · refine J_iload_n dX6_putClass_9 rfl 0 rfl ?_
    exact J_iret dX6_putClass_10 rfl ⟨_, rfl, rfl, by unfold f_pcl; rw [if_neg c1], by unfold f_pcl; rw [if_neg c1]⟩
def f_pwhN (v : fr_V) : Int32 × fr_V := if (v 600 11) = 2 then ((f_ple v).1, (f_ple v).2) else (1, v)
theorem k_X6_putWhom_n {l : Launch} {I : List Nat} (hI : fr_I I) (v : fr_V) (u : fr_U) (hwd : v 600 13 = (-1)) : Con l mX6_putWhom I v u [.ref 600] (QX u (fun a b => a = (f_pwhN v).1 ∧ b = (f_pwhN v).2)) := by
  refine Con.of (by decide) (Nat.le_of_ble_eq_true rfl) ?_
  show J l mX6_putWhom I v u 0 [(0, .ref 600)] [] _
  refine J_aload_n dX6_putWhom_0 rfl 0 rfl ?_
  refine J_gete (ci := 6) (j := 11) (x := v 600 11) dX6_putWhom_1 fl_X6_101 (i600 hI) rfl rfl rfl ?_
  refine J_iconst (x := 2) dX6_putWhom_4 (by decide) ?_
  refine J_icmp_ne (tgt := 13) dX6_putWhom_5 (by decide) (fun c1 => ?_) (fun c1 => ?_)
  · refine J_aload_n dX6_putWhom_13 rfl 0 rfl ?_
    refine J_getn (ci := 6) (j := 13) dX6_putWhom_14 fl_X6_82 (i600 hI) rfl rfl (by rw [show v 600 13 = (-1) from hwd]; decide) ?_
    refine J_ifnullN (tgt := 31) dX6_putWhom_17 (by decide) ?_
    refine J_iconst (x := 1) dX6_putWhom_31 (by decide) ?_
    exact J_iret dX6_putWhom_32 rfl ⟨_, rfl, rfl, by unfold f_pwhN; rw [if_neg c1], by unfold f_pwhN; rw [if_neg c1]⟩
  · refine J_aload_n dX6_putWhom_8 rfl 0 rfl ?_
    refine J_eVX (z := mX6_putLineEnd) (As := []) (rest := []) (ci := 6) (x := (f_ple v).1) (w := (f_ple v).2) dX6_putWhom_9 ml_X6_148 ok_X6_putLineEnd iv_X6_putLineEnd (by decide) (i600 hI) rfl rfl rfl rfl (Nat.le_of_ble_eq_true rfl) (k_X6_putLineEnd hI v u) ?_
    exact J_iret dX6_putWhom_12 rfl ⟨_, rfl, rfl, by unfold f_pwhN; rw [if_pos c1], by unfold f_pwhN; rw [if_pos c1]⟩
def f_pwh (v : fr_V) (ac : Nat) (rl : Nat) (w : Nat) : Int32 × fr_V := if (v 600 11) = 2 then ((f_ple v).1, (f_ple v).2) else if (wdrole w) = 2 then (if (f_hasTold v (lnB ac + rl) w) = 0 then (if w = 8 then (0, up2 (up2 v 600 6 (nI (3000 + w))) 600 5 3) else if w = 10 then (0, up2 (up2 v 600 6 (nI (3000 + w))) 600 5 3) else if w = 9 then (0, up2 (up2 v 600 6 (nI (3000 + w))) 600 5 6) else if w = 11 then (0, up2 (up2 (up2 v 600 6 (nI (3000 + w))) (lnB ac + rl) 7 2) 600 5 2) else (0, up2 (up2 (up2 v 600 6 (nI (3000 + w))) (lnB ac + rl) 7 1) 600 5 2)) else (3, v)) else (1, v)
theorem k_X6_putWhom_w {l : Launch} {I : List Nat} (hI : fr_I I) (v : fr_V) (u : fr_U) (ac : Nat) (rl : Nat) (w : Nat) (hac : ac = 10 ∨ ac = 20) (hi : v 600 3 = nI ac) (hrl : rl < 24) (hr : v 600 7 = nI (lnB ac + rl)) (hw : w < 15) (hwd : v 600 13 = nI (3000 + w)) : Con l mX6_putWhom I v u [.ref 600] (QX u (fun a b => a = (f_pwh v ac rl w).1 ∧ b = (f_pwh v ac rl w).2)) := by
  refine Con.of (by decide) (Nat.le_of_ble_eq_true rfl) ?_
  show J l mX6_putWhom I v u 0 [(0, .ref 600)] [] _
  have hln := ln_lt hac hrl
  refine J_aload_n dX6_putWhom_0 rfl 0 rfl ?_
  refine J_gete (ci := 6) (j := 11) (x := v 600 11) dX6_putWhom_1 fl_X6_101 (i600 hI) rfl rfl rfl ?_
  refine J_iconst (x := 2) dX6_putWhom_4 (by decide) ?_
  refine J_icmp_ne (tgt := 13) dX6_putWhom_5 (by decide) (fun c1 => ?_) (fun c1 => ?_)
  · refine J_aload_n dX6_putWhom_13 rfl 0 rfl ?_
    refine J_getd (ci := 6) (j := 13) (t := 3000 + w) dX6_putWhom_14 fl_X6_82 (i600 hI) rfl rfl (by rw [show v 600 13 = nI (3000 + w) from hwd]; exact nI_pos (by omega)) (by rw [show v 600 13 = nI (3000 + w) from hwd]; exact nI_clamp (by omega)) ?_
    refine J_ifnull dX6_putWhom_17 ?_
    refine J_aload_n dX6_putWhom_20 rfl 0 rfl ?_
    refine J_getd (ci := 6) (j := 13) (t := 3000 + w) dX6_putWhom_21 fl_X6_82 (i600 hI) rfl rfl (by rw [show v 600 13 = nI (3000 + w) from hwd]; exact nI_pos (by omega)) (by rw [show v 600 13 = nI (3000 + w) from hwd]; exact nI_clamp (by omega)) ?_
    refine J_gWrole (w := w) dX6_putWhom_24 el_X6_151 (by omega) ?_
    refine J_iconst (x := 2) dX6_putWhom_27 (by decide) ?_
    refine J_icmp_eq (tgt := 33) dX6_putWhom_28 (by decide) (fun c2 => ?_) (fun c2 => ?_)
    · refine J_aload_n dX6_putWhom_33 rfl 0 rfl ?_
      refine J_getd (ci := 6) (j := 7) (t := lnB ac + rl) dX6_putWhom_34 fl_X6_44 (i600 hI) rfl rfl (by rw [show v 600 7 = nI (lnB ac + rl) from hr]; exact nI_pos (by omega)) (by rw [show v 600 7 = nI (lnB ac + rl) from hr]; exact nI_clamp (by omega)) ?_
      refine J_aload_n dX6_putWhom_37 rfl 0 rfl ?_
      refine J_getd (ci := 6) (j := 13) (t := 3000 + w) dX6_putWhom_38 fl_X6_82 (i600 hI) rfl rfl (by rw [show v 600 13 = nI (3000 + w) from hwd]; exact nI_pos (by omega)) (by rw [show v 600 13 = nI (3000 + w) from hwd]; exact nI_clamp (by omega)) ?_
      refine J_eVI (z := mX4_hasTold) (As := [.ref (3000 + w)]) (rest := []) (ci := 4) (x := f_hasTold v (lnB ac + rl) w) dX6_putWhom_41 ml_X6_179 ok_X4_hasTold iv_X4_hasTold (by decide) (ln_in hI hac hrl) (by rw [ln_sh hac hrl]) rfl rfl rfl (Nat.le_of_ble_eq_true rfl) (k_X4_hasTold hI v u (lnB ac + rl) w (ln_in hI hac hrl) (by rw [ln_sh hac hrl]) hw) ?_
      refine J_if_eq (tgt := 49) dX6_putWhom_44 (by decide) (fun c3 => ?_) (fun c3 => ?_)
      · refine J_aload_n dX6_putWhom_49 rfl 0 rfl ?_
        refine J_aload_n dX6_putWhom_50 rfl 0 rfl ?_
        refine J_getd (ci := 6) (j := 13) (t := 3000 + w) dX6_putWhom_51 fl_X6_82 (i600 hI) rfl rfl (by rw [show v 600 13 = nI (3000 + w) from hwd]; exact nI_pos (by omega)) (by rw [show v 600 13 = nI (3000 + w) from hwd]; exact nI_clamp (by omega)) ?_
        refine J_putd (ci := 6) (j := 6) (t := 3000 + w) dX6_putWhom_54 fl_X6_54 (i600 hI) rfl rfl (by omega) (fun q h => by cases h; rfl) (fun a => rfl) (fun a => rfl) ?_
        refine J_aload_n dX6_putWhom_57 rfl 0 rfl ?_
        refine J_getd (ci := 6) (j := 13) (t := 3000 + w) dX6_putWhom_58 fl_X6_82 (i600 hI) rfl rfl (by rw [show (up2 v 600 6 (nI (3000 + w))) 600 13 = nI (3000 + w) from hwd]; exact nI_pos (by omega)) (by rw [show (up2 v 600 6 (nI (3000 + w))) 600 13 = nI (3000 + w) from hwd]; exact nI_clamp (by omega)) ?_
        refine J_gets (x := .ref (3000 + 8)) dX6_putWhom_61 el_X6_183 (x_word 8 (by decide)) ?_
        refine J_acmpW_eq (i := w) (j := 8) (tgt := 77) dX6_putWhom_64 (by decide) (by omega) (by omega) (fun c4 => ?_) (fun c4 => ?_)
        · refine J_aload_n dX6_putWhom_77 rfl 0 rfl ?_
          refine J_iconst (x := 3) dX6_putWhom_78 (by decide) ?_
          refine J_puti (ci := 6) (j := 5) dX6_putWhom_79 fl_X6_57 (i600 hI) rfl rfl (fun q h => by cases h; rfl) rfl ?_
          refine J_goto (tgt := 131) dX6_putWhom_82 (by decide) ?_
          refine J_iconst (x := 0) dX6_putWhom_131 (by decide) ?_
          exact J_iret dX6_putWhom_132 rfl ⟨_, rfl, rfl, by unfold f_pwh; rw [if_neg c1, if_pos c2, if_pos c3, if_pos c4], by unfold f_pwh; rw [if_neg c1, if_pos c2, if_pos c3, if_pos c4]⟩
        · refine J_aload_n dX6_putWhom_67 rfl 0 rfl ?_
          refine J_getd (ci := 6) (j := 13) (t := 3000 + w) dX6_putWhom_68 fl_X6_82 (i600 hI) rfl rfl (by rw [show (up2 v 600 6 (nI (3000 + w))) 600 13 = nI (3000 + w) from hwd]; exact nI_pos (by omega)) (by rw [show (up2 v 600 6 (nI (3000 + w))) 600 13 = nI (3000 + w) from hwd]; exact nI_clamp (by omega)) ?_
          refine J_gets (x := .ref (3000 + 10)) dX6_putWhom_71 el_X6_186 (x_word 10 (by decide)) ?_
          refine J_acmpW_ne (i := w) (j := 10) (tgt := 85) dX6_putWhom_74 (by decide) (by omega) (by omega) (fun c5 => ?_) (fun c5 => ?_)
          · refine J_aload_n dX6_putWhom_85 rfl 0 rfl ?_
            refine J_getd (ci := 6) (j := 13) (t := 3000 + w) dX6_putWhom_86 fl_X6_82 (i600 hI) rfl rfl (by rw [show (up2 v 600 6 (nI (3000 + w))) 600 13 = nI (3000 + w) from hwd]; exact nI_pos (by omega)) (by rw [show (up2 v 600 6 (nI (3000 + w))) 600 13 = nI (3000 + w) from hwd]; exact nI_clamp (by omega)) ?_
            refine J_gets (x := .ref (3000 + 9)) dX6_putWhom_89 el_X6_189 (x_word 9 (by decide)) ?_
            refine J_acmpW_ne (i := w) (j := 9) (tgt := 104) dX6_putWhom_92 (by decide) (by omega) (by omega) (fun c6 => ?_) (fun c6 => ?_)
            · refine J_aload_n dX6_putWhom_104 rfl 0 rfl ?_
              refine J_getd (ci := 6) (j := 7) (t := lnB ac + rl) dX6_putWhom_105 fl_X6_44 (i600 hI) rfl rfl (by rw [show (up2 v 600 6 (nI (3000 + w))) 600 7 = nI (lnB ac + rl) from hr]; exact nI_pos (by omega)) (by rw [show (up2 v 600 6 (nI (3000 + w))) 600 7 = nI (lnB ac + rl) from hr]; exact nI_clamp (by omega)) ?_
              refine J_aload_n dX6_putWhom_108 rfl 0 rfl ?_
              refine J_getd (ci := 6) (j := 13) (t := 3000 + w) dX6_putWhom_109 fl_X6_82 (i600 hI) rfl rfl (by rw [show (up2 v 600 6 (nI (3000 + w))) 600 13 = nI (3000 + w) from hwd]; exact nI_pos (by omega)) (by rw [show (up2 v 600 6 (nI (3000 + w))) 600 13 = nI (3000 + w) from hwd]; exact nI_clamp (by omega)) ?_
              refine J_gets (x := .ref (3000 + 11)) dX6_putWhom_112 el_X6_192 (x_word 11 (by decide)) ?_
              refine J_acmpW_ne (i := w) (j := 11) (tgt := 122) dX6_putWhom_115 (by decide) (by omega) (by omega) (fun c7 => ?_) (fun c7 => ?_)
              · refine J_iconst (x := 1) dX6_putWhom_122 (by decide) ?_
                refine J_puti (ci := 4) (j := 7) dX6_putWhom_123 fl_X6_195 (ln_in hI hac hrl) (by rw [ln_sh hac hrl]) rfl (fun q h => by cases h; rfl) rfl ?_
                refine J_aload_n dX6_putWhom_126 rfl 0 rfl ?_
                refine J_iconst (x := 2) dX6_putWhom_127 (by decide) ?_
                refine J_puti (ci := 6) (j := 5) dX6_putWhom_128 fl_X6_57 (i600 hI) rfl rfl (fun q h => by cases h; rfl) rfl ?_
                refine J_iconst (x := 0) dX6_putWhom_131 (by decide) ?_
                exact J_iret dX6_putWhom_132 rfl ⟨_, rfl, rfl, by unfold f_pwh; rw [if_neg c1, if_pos c2, if_pos c3, if_neg c4, if_neg c5, if_neg c6, if_neg c7], by unfold f_pwh; rw [if_neg c1, if_pos c2, if_pos c3, if_neg c4, if_neg c5, if_neg c6, if_neg c7]⟩
              · refine J_iconst (x := 2) dX6_putWhom_118 (by decide) ?_
                refine J_goto (tgt := 123) dX6_putWhom_119 (by decide) ?_
                refine J_puti (ci := 4) (j := 7) dX6_putWhom_123 fl_X6_195 (ln_in hI hac hrl) (by rw [ln_sh hac hrl]) rfl (fun q h => by cases h; rfl) rfl ?_
                refine J_aload_n dX6_putWhom_126 rfl 0 rfl ?_
                refine J_iconst (x := 2) dX6_putWhom_127 (by decide) ?_
                refine J_puti (ci := 6) (j := 5) dX6_putWhom_128 fl_X6_57 (i600 hI) rfl rfl (fun q h => by cases h; rfl) rfl ?_
                refine J_iconst (x := 0) dX6_putWhom_131 (by decide) ?_
                exact J_iret dX6_putWhom_132 rfl ⟨_, rfl, rfl, by unfold f_pwh; rw [if_neg c1, if_pos c2, if_pos c3, if_neg c4, if_neg c5, if_neg c6, if_pos c7], by unfold f_pwh; rw [if_neg c1, if_pos c2, if_pos c3, if_neg c4, if_neg c5, if_neg c6, if_pos c7]⟩
            · refine J_aload_n dX6_putWhom_95 rfl 0 rfl ?_
              refine J_bipush (x := 6) dX6_putWhom_96 (by decide) ?_
              refine J_puti (ci := 6) (j := 5) dX6_putWhom_98 fl_X6_57 (i600 hI) rfl rfl (fun q h => by cases h; rfl) rfl ?_
              refine J_goto (tgt := 131) dX6_putWhom_101 (by decide) ?_
              refine J_iconst (x := 0) dX6_putWhom_131 (by decide) ?_
              exact J_iret dX6_putWhom_132 rfl ⟨_, rfl, rfl, by unfold f_pwh; rw [if_neg c1, if_pos c2, if_pos c3, if_neg c4, if_neg c5, if_pos c6], by unfold f_pwh; rw [if_neg c1, if_pos c2, if_pos c3, if_neg c4, if_neg c5, if_pos c6]⟩
          · refine J_aload_n dX6_putWhom_77 rfl 0 rfl ?_
            refine J_iconst (x := 3) dX6_putWhom_78 (by decide) ?_
            refine J_puti (ci := 6) (j := 5) dX6_putWhom_79 fl_X6_57 (i600 hI) rfl rfl (fun q h => by cases h; rfl) rfl ?_
            refine J_goto (tgt := 131) dX6_putWhom_82 (by decide) ?_
            refine J_iconst (x := 0) dX6_putWhom_131 (by decide) ?_
            exact J_iret dX6_putWhom_132 rfl ⟨_, rfl, rfl, by unfold f_pwh; rw [if_neg c1, if_pos c2, if_pos c3, if_neg c4, if_pos c5], by unfold f_pwh; rw [if_neg c1, if_pos c2, if_pos c3, if_neg c4, if_pos c5]⟩
      · refine J_iconst (x := 3) dX6_putWhom_47 (by decide) ?_
        exact J_iret dX6_putWhom_48 rfl ⟨_, rfl, rfl, by unfold f_pwh; rw [if_neg c1, if_pos c2, if_neg c3], by unfold f_pwh; rw [if_neg c1, if_pos c2, if_neg c3]⟩
    · refine J_iconst (x := 1) dX6_putWhom_31 (by decide) ?_
      exact J_iret dX6_putWhom_32 rfl ⟨_, rfl, rfl, by unfold f_pwh; rw [if_neg c1, if_neg c2], by unfold f_pwh; rw [if_neg c1, if_neg c2]⟩
  · refine J_aload_n dX6_putWhom_8 rfl 0 rfl ?_
    refine J_eVX (z := mX6_putLineEnd) (As := []) (rest := []) (ci := 6) (x := (f_ple v).1) (w := (f_ple v).2) dX6_putWhom_9 ml_X6_148 ok_X6_putLineEnd iv_X6_putLineEnd (by decide) (i600 hI) rfl rfl rfl rfl (Nat.le_of_ble_eq_true rfl) (k_X6_putLineEnd hI v u) ?_
    exact J_iret dX6_putWhom_12 rfl ⟨_, rfl, rfl, by unfold f_pwh; rw [if_pos c1], by unfold f_pwh; rw [if_pos c1]⟩
def f_plwN (v : fr_V) : Int32 × fr_V := (1, v)
theorem k_X6_putLineWord_n {l : Launch} {I : List Nat} (hI : fr_I I) (v : fr_V) (u : fr_U) (hwd : v 600 13 = (-1)) : Con l mX6_putLineWord I v u [.ref 600] (QX u (fun a b => a = (f_plwN v).1 ∧ b = (f_plwN v).2)) := by
  refine Con.of (by decide) (Nat.le_of_ble_eq_true rfl) ?_
  show J l mX6_putLineWord I v u 0 [(0, .ref 600)] [] _
  refine J_aload_n dX6_putLineWord_0 rfl 0 rfl ?_
  refine J_getn (ci := 6) (j := 13) dX6_putLineWord_1 fl_X6_82 (i600 hI) rfl rfl (by rw [show v 600 13 = (-1) from hwd]; decide) ?_
  refine J_ifnonnullN dX6_putLineWord_4 ?_
  refine J_iconst (x := 1) dX6_putLineWord_7 (by decide) ?_
  exact J_iret dX6_putLineWord_8 rfl ⟨_, rfl, rfl, rfl, rfl⟩
def f_plw (v : fr_V) (ac : Nat) (m : Nat) (w : Nat) : Int32 × fr_V := if (wdrole w) = 1 then (if (v (ac + 3) ((wdslot w).toNatClampNeg)) = (-1) then (0, up2 (up2 v 600 6 (nI (3000 + w))) 600 5 1) else (3, up2 (up2 v 600 6 (nI (3000 + w))) 600 5 1)) else if (wdrole w) = 0 then (if (nI m) < 24 then (if (wdmost w) ≤ 0 then (0, up2 (up2 (up2 (up2 (up2 (up2 (up2 (up2 (up2 (up2 (up2 (up2 v 600 6 (nI (3000 + w))) 600 7 (nI (lnB ac + m))) (lnB ac + m) 0 (nI (3000 + w))) (lnB ac + m) 1 0) (lnB ac + m) 2 (-1)) (lnB ac + m) 3 (-1)) (lnB ac + m) 4 0) (lnB ac + m) 5 (-1)) (lnB ac + m) 6 (-1)) (lnB ac + m) 7 0) ac 1 ((nI m) + 1)) 600 5 2) else (0, up2 (up2 (up2 (up2 (up2 (up2 (up2 (up2 (up2 (up2 (up2 (up2 v 600 6 (nI (3000 + w))) 600 7 (nI (lnB ac + m))) (lnB ac + m) 0 (nI (3000 + w))) (lnB ac + m) 1 0) (lnB ac + m) 2 (-1)) (lnB ac + m) 3 (-1)) (lnB ac + m) 4 0) (lnB ac + m) 5 (-1)) (lnB ac + m) 6 (-1)) (lnB ac + m) 7 0) ac 1 ((nI m) + 1)) 600 5 1)) else (2, up2 v 600 6 (nI (3000 + w)))) else (1, up2 v 600 6 (nI (3000 + w)))
theorem k_X6_putLineWord_w {l : Launch} {I : List Nat} (hI : fr_I I) (v : fr_V) (u : fr_U) (ac : Nat) (m : Nat) (w : Nat) (hac : ac = 10 ∨ ac = 20) (hi : v 600 3 = nI ac) (hm : v ac 1 = nI m) (hm2 : m ≤ 24) (hw : w < 15) (hwd : v 600 13 = nI (3000 + w)) : Con l mX6_putLineWord I v u [.ref 600] (QX u (fun a b => a = (f_plw v ac m w).1 ∧ b = (f_plw v ac m w).2)) := by
  refine Con.of (by decide) (Nat.le_of_ble_eq_true rfl) ?_
  show J l mX6_putLineWord I v u 0 [(0, .ref 600)] [] _
  refine J_aload_n dX6_putLineWord_0 rfl 0 rfl ?_
  refine J_getd (ci := 6) (j := 13) (t := 3000 + w) dX6_putLineWord_1 fl_X6_82 (i600 hI) rfl rfl (by rw [show v 600 13 = nI (3000 + w) from hwd]; exact nI_pos (by omega)) (by rw [show v 600 13 = nI (3000 + w) from hwd]; exact nI_clamp (by omega)) ?_
  refine J_ifnonnull (tgt := 9) dX6_putLineWord_4 (by decide) ?_
  refine J_aload_n dX6_putLineWord_9 rfl 0 rfl ?_
  refine J_aload_n dX6_putLineWord_10 rfl 0 rfl ?_
  refine J_getd (ci := 6) (j := 13) (t := 3000 + w) dX6_putLineWord_11 fl_X6_82 (i600 hI) rfl rfl (by rw [show v 600 13 = nI (3000 + w) from hwd]; exact nI_pos (by omega)) (by rw [show v 600 13 = nI (3000 + w) from hwd]; exact nI_clamp (by omega)) ?_
  refine J_putd (ci := 6) (j := 6) (t := 3000 + w) dX6_putLineWord_14 fl_X6_54 (i600 hI) rfl rfl (by omega) (fun q h => by cases h; rfl) (fun a => rfl) (fun a => rfl) ?_
  refine J_aload_n dX6_putLineWord_17 rfl 0 rfl ?_
  refine J_getd (ci := 6) (j := 13) (t := 3000 + w) dX6_putLineWord_18 fl_X6_82 (i600 hI) rfl rfl (by rw [show (up2 v 600 6 (nI (3000 + w))) 600 13 = nI (3000 + w) from hwd]; exact nI_pos (by omega)) (by rw [show (up2 v 600 6 (nI (3000 + w))) 600 13 = nI (3000 + w) from hwd]; exact nI_clamp (by omega)) ?_
  refine J_gWrole (w := w) dX6_putLineWord_21 el_X6_151 (by omega) ?_
  refine J_iconst (x := 1) dX6_putLineWord_24 (by decide) ?_
  refine J_icmp_ne (tgt := 58) dX6_putLineWord_25 (by decide) (fun c1 => ?_) (fun c1 => ?_)
  · refine J_aload_n dX6_putLineWord_58 rfl 0 rfl ?_
    refine J_getd (ci := 6) (j := 13) (t := 3000 + w) dX6_putLineWord_59 fl_X6_82 (i600 hI) rfl rfl (by rw [show (up2 v 600 6 (nI (3000 + w))) 600 13 = nI (3000 + w) from hwd]; exact nI_pos (by omega)) (by rw [show (up2 v 600 6 (nI (3000 + w))) 600 13 = nI (3000 + w) from hwd]; exact nI_clamp (by omega)) ?_
    refine J_gWrole (w := w) dX6_putLineWord_62 el_X6_151 (by omega) ?_
    refine J_if_eq (tgt := 70) dX6_putLineWord_65 (by decide) (fun c2 => ?_) (fun c2 => ?_)
    · refine J_aload_n dX6_putLineWord_70 rfl 0 rfl ?_
      refine J_getd (ci := 6) (j := 3) (t := ac) dX6_putLineWord_71 fl_X6_31 (i600 hI) rfl rfl (by rw [show (up2 v 600 6 (nI (3000 + w))) 600 3 = nI ac from hi]; exact nI_pos (by omega)) (by rw [show (up2 v 600 6 (nI (3000 + w))) 600 3 = nI ac from hi]; exact nI_clamp (by omega)) ?_
      refine J_gete (ci := 0) (j := 1) (x := nI m) dX6_putLineWord_74 fl_X6_160 (i_ac hI hac) (s_ac hac) rfl (Eq.trans (by rw [up2_ne (show ac ≠ 600 by omega)]) hm) ?_
      refine J_bipush (x := 24) dX6_putLineWord_77 (by decide) ?_
      refine J_icmp_lt (tgt := 84) dX6_putLineWord_79 (by decide) (fun c3 => ?_) (fun c3 => ?_)
      · have hm24 : m < 24 := nz_lt (b := 24) (by omega) (by omega) c3
        have hlm := ln_lt hac hm24
        refine J_aload_n dX6_putLineWord_84 rfl 0 rfl ?_
        refine J_aload_n dX6_putLineWord_85 rfl 0 rfl ?_
        refine J_getd (ci := 6) (j := 3) (t := ac) dX6_putLineWord_86 fl_X6_31 (i600 hI) rfl rfl (by rw [show (up2 v 600 6 (nI (3000 + w))) 600 3 = nI ac from hi]; exact nI_pos (by omega)) (by rw [show (up2 v 600 6 (nI (3000 + w))) 600 3 = nI ac from hi]; exact nI_clamp (by omega)) ?_
        refine J_getr (ci := 0) (j := 0) (t := ac + 1) dX6_putLineWord_89 fl_X6_40 (i_ac hI hac) (s_ac hac) rfl (ru_sr hac) ?_
        refine J_aload_n dX6_putLineWord_92 rfl 0 rfl ?_
        refine J_getd (ci := 6) (j := 3) (t := ac) dX6_putLineWord_93 fl_X6_31 (i600 hI) rfl rfl (by rw [show (up2 v 600 6 (nI (3000 + w))) 600 3 = nI ac from hi]; exact nI_pos (by omega)) (by rw [show (up2 v 600 6 (nI (3000 + w))) 600 3 = nI ac from hi]; exact nI_clamp (by omega)) ?_
        refine J_gete (ci := 0) (j := 1) (x := nI m) dX6_putLineWord_96 fl_X6_160 (i_ac hI hac) (s_ac hac) rfl (Eq.trans (by rw [up2_ne (show ac ≠ 600 by omega)]) hm) ?_
        refine J_aldN (t := lnB ac + m) dX6_putLineWord_99 (ru_in hI hac) (ru_sh hac) (vp_in_nI (by omega) (by omega)) (by rw [nI_clamp (by omega)]; rfl) ?_
        refine J_putd (ci := 6) (j := 7) (t := lnB ac + m) dX6_putLineWord_100 fl_X6_44 (i600 hI) rfl rfl (by omega) (fun q h => by cases h; rfl) (fun a => rfl) (fun a => rfl) ?_
        refine J_aload_n dX6_putLineWord_103 rfl 0 rfl ?_
        refine J_getd (ci := 6) (j := 7) (t := lnB ac + m) dX6_putLineWord_104 fl_X6_44 (i600 hI) rfl rfl (by rw [show (up2 (up2 v 600 6 (nI (3000 + w))) 600 7 (nI (lnB ac + m))) 600 7 = nI (lnB ac + m) from rfl]; exact nI_pos (by omega)) (by rw [show (up2 (up2 v 600 6 (nI (3000 + w))) 600 7 (nI (lnB ac + m))) 600 7 = nI (lnB ac + m) from rfl]; exact nI_clamp (by omega)) ?_
        refine J_aload_n dX6_putLineWord_107 rfl 0 rfl ?_
        refine J_getd (ci := 6) (j := 13) (t := 3000 + w) dX6_putLineWord_108 fl_X6_82 (i600 hI) rfl rfl (by rw [show (up2 (up2 v 600 6 (nI (3000 + w))) 600 7 (nI (lnB ac + m))) 600 13 = nI (3000 + w) from hwd]; exact nI_pos (by omega)) (by rw [show (up2 (up2 v 600 6 (nI (3000 + w))) 600 7 (nI (lnB ac + m))) 600 13 = nI (3000 + w) from hwd]; exact nI_clamp (by omega)) ?_
        refine J_eVN (z := mX4_begin) (As := [.ref (3000 + w)]) (rest := []) (ci := 4) (w := up2 (up2 (up2 (up2 (up2 (up2 (up2 (up2 (up2 (up2 v 600 6 (nI (3000 + w))) 600 7 (nI (lnB ac + m))) (lnB ac + m) 0 (nI (3000 + w))) (lnB ac + m) 1 0) (lnB ac + m) 2 (-1)) (lnB ac + m) 3 (-1)) (lnB ac + m) 4 0) (lnB ac + m) 5 (-1)) (lnB ac + m) 6 (-1)) (lnB ac + m) 7 0) dX6_putLineWord_111 ml_X6_163 ok_X4_begin iv_X4_begin (by decide) (ln_in hI hac hm24) (by rw [ln_sh hac hm24]) rfl rfl rfl (Nat.le_of_ble_eq_true rfl) (k_X4_begin hI (up2 (up2 v 600 6 (nI (3000 + w))) 600 7 (nI (lnB ac + m))) u (lnB ac + m) w (ln_in hI hac hm24) (by rw [ln_sh hac hm24]) hw) ?_
        refine J_aload_n dX6_putLineWord_114 rfl 0 rfl ?_
        refine J_getd (ci := 6) (j := 3) (t := ac) dX6_putLineWord_115 fl_X6_31 (i600 hI) rfl rfl (by rw [show (up2 (up2 (up2 (up2 (up2 (up2 (up2 (up2 (up2 (up2 v 600 6 (nI (3000 + w))) 600 7 (nI (lnB ac + m))) (lnB ac + m) 0 (nI (3000 + w))) (lnB ac + m) 1 0) (lnB ac + m) 2 (-1)) (lnB ac + m) 3 (-1)) (lnB ac + m) 4 0) (lnB ac + m) 5 (-1)) (lnB ac + m) 6 (-1)) (lnB ac + m) 7 0) 600 3 = nI ac from (Eq.trans (by rw [up2_ne (show 600 ≠ lnB ac + m by have := ln_lt hac hm24; omega), up2_ne (show 600 ≠ lnB ac + m by have := ln_lt hac hm24; omega), up2_ne (show 600 ≠ lnB ac + m by have := ln_lt hac hm24; omega), up2_ne (show 600 ≠ lnB ac + m by have := ln_lt hac hm24; omega), up2_ne (show 600 ≠ lnB ac + m by have := ln_lt hac hm24; omega), up2_ne (show 600 ≠ lnB ac + m by have := ln_lt hac hm24; omega), up2_ne (show 600 ≠ lnB ac + m by have := ln_lt hac hm24; omega), up2_ne (show 600 ≠ lnB ac + m by have := ln_lt hac hm24; omega), up2_self, pk_un (show 3 ≠ 7 by decide), up2_self, pk_un (show 3 ≠ 6 by decide)]) hi)]; exact nI_pos (by omega)) (by rw [show (up2 (up2 (up2 (up2 (up2 (up2 (up2 (up2 (up2 (up2 v 600 6 (nI (3000 + w))) 600 7 (nI (lnB ac + m))) (lnB ac + m) 0 (nI (3000 + w))) (lnB ac + m) 1 0) (lnB ac + m) 2 (-1)) (lnB ac + m) 3 (-1)) (lnB ac + m) 4 0) (lnB ac + m) 5 (-1)) (lnB ac + m) 6 (-1)) (lnB ac + m) 7 0) 600 3 = nI ac from (Eq.trans (by rw [up2_ne (show 600 ≠ lnB ac + m by have := ln_lt hac hm24; omega), up2_ne (show 600 ≠ lnB ac + m by have := ln_lt hac hm24; omega), up2_ne (show 600 ≠ lnB ac + m by have := ln_lt hac hm24; omega), up2_ne (show 600 ≠ lnB ac + m by have := ln_lt hac hm24; omega), up2_ne (show 600 ≠ lnB ac + m by have := ln_lt hac hm24; omega), up2_ne (show 600 ≠ lnB ac + m by have := ln_lt hac hm24; omega), up2_ne (show 600 ≠ lnB ac + m by have := ln_lt hac hm24; omega), up2_ne (show 600 ≠ lnB ac + m by have := ln_lt hac hm24; omega), up2_self, pk_un (show 3 ≠ 7 by decide), up2_self, pk_un (show 3 ≠ 6 by decide)]) hi)]; exact nI_clamp (by omega)) ?_
        refine J_dup dX6_putLineWord_118 rfl ?_
        refine J_gete (ci := 0) (j := 1) (x := nI m) dX6_putLineWord_119 fl_X6_160 (i_ac hI hac) (s_ac hac) rfl (Eq.trans (by rw [up2_ne (show ac ≠ lnB ac + m by have := ln_lt hac hm24; omega), up2_ne (show ac ≠ lnB ac + m by have := ln_lt hac hm24; omega), up2_ne (show ac ≠ lnB ac + m by have := ln_lt hac hm24; omega), up2_ne (show ac ≠ lnB ac + m by have := ln_lt hac hm24; omega), up2_ne (show ac ≠ lnB ac + m by have := ln_lt hac hm24; omega), up2_ne (show ac ≠ lnB ac + m by have := ln_lt hac hm24; omega), up2_ne (show ac ≠ lnB ac + m by have := ln_lt hac hm24; omega), up2_ne (show ac ≠ lnB ac + m by have := ln_lt hac hm24; omega), up2_ne (show ac ≠ 600 by omega), up2_ne (show ac ≠ 600 by omega)]) hm) ?_
        refine J_iconst (x := 1) dX6_putLineWord_122 (by decide) ?_
        refine J_iadd dX6_putLineWord_123 ?_
        refine J_puti (ci := 0) (j := 1) dX6_putLineWord_124 fl_X6_160 (i_ac hI hac) (s_ac hac) rfl (fun q h => by cases h; rfl) rfl ?_
        refine J_aload_n dX6_putLineWord_127 rfl 0 rfl ?_
        refine J_aload_n dX6_putLineWord_128 rfl 0 rfl ?_
        refine J_getd (ci := 6) (j := 13) (t := 3000 + w) dX6_putLineWord_129 fl_X6_82 (i600 hI) rfl rfl (by rw [show (up2 (up2 (up2 (up2 (up2 (up2 (up2 (up2 (up2 (up2 (up2 v 600 6 (nI (3000 + w))) 600 7 (nI (lnB ac + m))) (lnB ac + m) 0 (nI (3000 + w))) (lnB ac + m) 1 0) (lnB ac + m) 2 (-1)) (lnB ac + m) 3 (-1)) (lnB ac + m) 4 0) (lnB ac + m) 5 (-1)) (lnB ac + m) 6 (-1)) (lnB ac + m) 7 0) ac 1 ((nI m) + 1)) 600 13 = nI (3000 + w) from (Eq.trans (by rw [up2_ne (show 600 ≠ ac by omega), up2_ne (show 600 ≠ lnB ac + m by have := ln_lt hac hm24; omega), up2_ne (show 600 ≠ lnB ac + m by have := ln_lt hac hm24; omega), up2_ne (show 600 ≠ lnB ac + m by have := ln_lt hac hm24; omega), up2_ne (show 600 ≠ lnB ac + m by have := ln_lt hac hm24; omega), up2_ne (show 600 ≠ lnB ac + m by have := ln_lt hac hm24; omega), up2_ne (show 600 ≠ lnB ac + m by have := ln_lt hac hm24; omega), up2_ne (show 600 ≠ lnB ac + m by have := ln_lt hac hm24; omega), up2_ne (show 600 ≠ lnB ac + m by have := ln_lt hac hm24; omega), up2_self, pk_un (show 13 ≠ 7 by decide), up2_self, pk_un (show 13 ≠ 6 by decide)]) hwd)]; exact nI_pos (by omega)) (by rw [show (up2 (up2 (up2 (up2 (up2 (up2 (up2 (up2 (up2 (up2 (up2 v 600 6 (nI (3000 + w))) 600 7 (nI (lnB ac + m))) (lnB ac + m) 0 (nI (3000 + w))) (lnB ac + m) 1 0) (lnB ac + m) 2 (-1)) (lnB ac + m) 3 (-1)) (lnB ac + m) 4 0) (lnB ac + m) 5 (-1)) (lnB ac + m) 6 (-1)) (lnB ac + m) 7 0) ac 1 ((nI m) + 1)) 600 13 = nI (3000 + w) from (Eq.trans (by rw [up2_ne (show 600 ≠ ac by omega), up2_ne (show 600 ≠ lnB ac + m by have := ln_lt hac hm24; omega), up2_ne (show 600 ≠ lnB ac + m by have := ln_lt hac hm24; omega), up2_ne (show 600 ≠ lnB ac + m by have := ln_lt hac hm24; omega), up2_ne (show 600 ≠ lnB ac + m by have := ln_lt hac hm24; omega), up2_ne (show 600 ≠ lnB ac + m by have := ln_lt hac hm24; omega), up2_ne (show 600 ≠ lnB ac + m by have := ln_lt hac hm24; omega), up2_ne (show 600 ≠ lnB ac + m by have := ln_lt hac hm24; omega), up2_ne (show 600 ≠ lnB ac + m by have := ln_lt hac hm24; omega), up2_self, pk_un (show 13 ≠ 7 by decide), up2_self, pk_un (show 13 ≠ 6 by decide)]) hwd)]; exact nI_clamp (by omega)) ?_
        refine J_gWmost (w := w) dX6_putLineWord_132 el_X6_169 (by omega) ?_
        refine J_if_le (tgt := 142) dX6_putLineWord_135 (by decide) (fun c4 => ?_) (fun c4 => ?_)
        · refine J_iconst (x := 2) dX6_putLineWord_142 (by decide) ?_
          refine J_puti (ci := 6) (j := 5) dX6_putLineWord_143 fl_X6_57 (i600 hI) rfl rfl (fun q h => by cases h; rfl) rfl ?_
          refine J_iconst (x := 0) dX6_putLineWord_146 (by decide) ?_
          exact J_iret dX6_putLineWord_147 rfl ⟨_, rfl, rfl, by unfold f_plw; rw [if_neg c1, if_pos c2, if_pos c3, if_pos c4], by unfold f_plw; rw [if_neg c1, if_pos c2, if_pos c3, if_pos c4]⟩
        · refine J_iconst (x := 1) dX6_putLineWord_138 (by decide) ?_
          refine J_goto (tgt := 143) dX6_putLineWord_139 (by decide) ?_
          refine J_puti (ci := 6) (j := 5) dX6_putLineWord_143 fl_X6_57 (i600 hI) rfl rfl (fun q h => by cases h; rfl) rfl ?_
          refine J_iconst (x := 0) dX6_putLineWord_146 (by decide) ?_
          exact J_iret dX6_putLineWord_147 rfl ⟨_, rfl, rfl, by unfold f_plw; rw [if_neg c1, if_pos c2, if_pos c3, if_neg c4], by unfold f_plw; rw [if_neg c1, if_pos c2, if_pos c3, if_neg c4]⟩
      · refine J_iconst (x := 2) dX6_putLineWord_82 (by decide) ?_
        exact J_iret dX6_putLineWord_83 rfl ⟨_, rfl, rfl, by unfold f_plw; rw [if_neg c1, if_pos c2, if_neg c3], by unfold f_plw; rw [if_neg c1, if_pos c2, if_neg c3]⟩
    · refine J_iconst (x := 1) dX6_putLineWord_68 (by decide) ?_
      exact J_iret dX6_putLineWord_69 rfl ⟨_, rfl, rfl, by unfold f_plw; rw [if_neg c1, if_neg c2], by unfold f_plw; rw [if_neg c1, if_neg c2]⟩
  · refine J_aload_n dX6_putLineWord_28 rfl 0 rfl ?_
    refine J_iconst (x := 1) dX6_putLineWord_29 (by decide) ?_
    refine J_puti (ci := 6) (j := 5) dX6_putLineWord_30 fl_X6_57 (i600 hI) rfl rfl (fun q h => by cases h; rfl) rfl ?_
    refine J_aload_n dX6_putLineWord_33 rfl 0 rfl ?_
    refine J_getd (ci := 6) (j := 3) (t := ac) dX6_putLineWord_34 fl_X6_31 (i600 hI) rfl rfl (by rw [show (up2 (up2 v 600 6 (nI (3000 + w))) 600 5 1) 600 3 = nI ac from hi]; exact nI_pos (by omega)) (by rw [show (up2 (up2 v 600 6 (nI (3000 + w))) 600 5 1) 600 3 = nI ac from hi]; exact nI_clamp (by omega)) ?_
    refine J_getr (ci := 0) (j := 2) (t := ac + 3) dX6_putLineWord_37 fl_X6_154 (i_ac hI hac) (s_ac hac) rfl (se_sr hac) ?_
    refine J_aload_n dX6_putLineWord_40 rfl 0 rfl ?_
    refine J_getd (ci := 6) (j := 13) (t := 3000 + w) dX6_putLineWord_41 fl_X6_82 (i600 hI) rfl rfl (by rw [show (up2 (up2 v 600 6 (nI (3000 + w))) 600 5 1) 600 13 = nI (3000 + w) from hwd]; exact nI_pos (by omega)) (by rw [show (up2 (up2 v 600 6 (nI (3000 + w))) 600 5 1) 600 13 = nI (3000 + w) from hwd]; exact nI_clamp (by omega)) ?_
    refine J_gWslot (w := w) dX6_putLineWord_44 el_X6_157 (by omega) ?_
    refine J_iale (x := v (ac + 3) ((wdslot w).toNatClampNeg)) dX6_putLineWord_47 (se_in hI hac) (se_sh hac) (slot_in w hw c1) (by rw [up2_ne (show ac + 3 ≠ 600 by omega), up2_ne (show ac + 3 ≠ 600 by omega)]) ?_
    refine J_iconst (x := (-1)) dX6_putLineWord_48 (by decide) ?_
    refine J_icmp_ne (tgt := 56) dX6_putLineWord_49 (by decide) (fun c5 => ?_) (fun c5 => ?_)
    · refine J_iconst (x := 3) dX6_putLineWord_56 (by decide) ?_
      exact J_iret dX6_putLineWord_57 rfl ⟨_, rfl, rfl, by unfold f_plw; rw [if_pos c1, if_neg c5], by unfold f_plw; rw [if_pos c1, if_neg c5]⟩
    · refine J_iconst (x := 0) dX6_putLineWord_52 (by decide) ?_
      refine J_goto (tgt := 57) dX6_putLineWord_53 (by decide) ?_
      exact J_iret dX6_putLineWord_57 rfl ⟨_, rfl, rfl, by unfold f_plw; rw [if_pos c1, if_pos c5], by unfold f_plw; rw [if_pos c1, if_pos c5]⟩
