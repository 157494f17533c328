noncomputable def f_act (v : fr_V) (M : Nat) (w a b h e : Int32) : Int32 := acF v w b h e (acZ v a b h) (f_X11_ageIn v (acZ v a b h) h) M
def f_parts (v : fr_V) (N : Nat) (r h half : Int32) : Int32 := sp_parts (v 1116) N (v 1109 r.toNatClampNeg) (v 1110 r.toNatClampNeg) r h half
theorem ne_lt {n m : Nat} (h : n ≤ m) (c : ¬ nI n = nI m) : n < m := Nat.lt_of_le_of_ne h (fun e => c (by rw [e]))
noncomputable def f_X11_mayBe (v : fr_V) (M : Nat) (x1 x2 : Int32) : Int32 := if (f_act v M 0 x1 x2 (v 1100 3) 1) = 1 then 1 else 0
theorem k_X11_mayBe {l : Launch} {I : List Nat} (hI : fr_I I) (v : fr_V) (u : fr_U) (M : Nat) (x1 x2 : Int32) (hM0 : v 1100 38 = nI M) (hM : M ≤ 24) (h1 : vp_in x1 12) (h2 : ¬ x2 = (-1) → vp_in x2 12) : Con l mX11_mayBe I v u [.ref 1100, .int x1, .int x2] (QI v u (fun a => a = f_X11_mayBe v M x1 x2)) := by
  refine Con.of (by decide) (Nat.le_of_ble_eq_true rfl) ?_
  show J l mX11_mayBe I v u 0 [(0, .ref 1100), (1, .int x1), (2, .int x2)] [] _
  refine J_aload_n dX11_mayBe_0 rfl 0 rfl ?_
  refine J_iconst (x := 0) dX11_mayBe_1 (by decide) ?_
  refine J_iload_n dX11_mayBe_2 rfl 1 rfl ?_
  refine J_iload_n dX11_mayBe_3 rfl 2 rfl ?_
  refine J_aload_n dX11_mayBe_4 rfl 0 rfl ?_
  refine J_gete (ci := 11) (j := 3) (x := v 1100 3) dX11_mayBe_5 fl_X11_208 (i1100 hI) rfl rfl rfl ?_
  refine J_iconst (x := 1) dX11_mayBe_8 (by decide) ?_
  refine J_eVI (z := mX11_actOf) (As := [.int 0, .int x1, .int x2, .int (v 1100 3), .int 1]) (rest := []) (ci := 11) (x := f_act v M 0 x1 x2 (v 1100 3) 1) dX11_mayBe_9 ml_X11_217 ok_X11_actOf iv_X11_actOf (by decide) (i1100 hI) rfl rfl rfl rfl (Nat.le_of_ble_eq_true rfl) (k_X11_actOf hI v u _ _ _ _ _ M hM0 hM (by first | assumption | exact lf_in hL hL2 (by assumption) | exact rt_in hR hR2 (by assumption) | exact nt_in hN hW.1 (by assumption) | exact (fun h => absurd rfl h) | exact (fun _ => lf_in hL hL2 (by assumption)) | exact (fun h => absurd (by assumption) h)) (by first | assumption | exact lf_in hL hL2 (by assumption) | exact rt_in hR hR2 (by assumption) | exact nt_in hN hW.1 (by assumption) | exact (fun h => absurd rfl h) | exact (fun _ => lf_in hL hL2 (by assumption)) | exact (fun h => absurd (by assumption) h))) ?_
  refine J_iconst (x := 1) dX11_mayBe_12 (by decide) ?_
  refine J_icmp_ne (tgt := 20) dX11_mayBe_13 (by decide) (fun c1 => ?_) (fun c1 => ?_)
  · refine J_iconst (x := 0) dX11_mayBe_20 (by decide) ?_
    exact J_zret dX11_mayBe_21 rfl (by decide) ⟨_, rfl, rfl, rfl, by unfold f_X11_mayBe; rw [if_neg c1]⟩
  · refine J_iconst (x := 1) dX11_mayBe_16 (by decide) ?_
    refine J_goto (tgt := 21) dX11_mayBe_17 (by decide) ?_
    exact J_zret dX11_mayBe_21 rfl (by decide) ⟨_, rfl, rfl, rfl, by unfold f_X11_mayBe; rw [if_pos c1]⟩
noncomputable def f_X11_priceOf (v : fr_V) (M : Nat) (x1 x2 : Int32) : Int32 := f_act v M 2 x1 x2 (v 1100 3) 10
theorem k_X11_priceOf {l : Launch} {I : List Nat} (hI : fr_I I) (v : fr_V) (u : fr_U) (M : Nat) (x1 x2 : Int32) (hM0 : v 1100 38 = nI M) (hM : M ≤ 24) (h1 : vp_in x1 12) (h2 : ¬ x2 = (-1) → vp_in x2 12) : Con l mX11_priceOf I v u [.ref 1100, .int x1, .int x2] (QI v u (fun a => a = f_X11_priceOf v M x1 x2)) := by
  refine Con.of (by decide) (Nat.le_of_ble_eq_true rfl) ?_
  show J l mX11_priceOf I v u 0 [(0, .ref 1100), (1, .int x1), (2, .int x2)] [] _
  refine J_aload_n dX11_priceOf_0 rfl 0 rfl ?_
  refine J_iconst (x := 2) dX11_priceOf_1 (by decide) ?_
  refine J_iload_n dX11_priceOf_2 rfl 1 rfl ?_
  refine J_iload_n dX11_priceOf_3 rfl 2 rfl ?_
  refine J_aload_n dX11_priceOf_4 rfl 0 rfl ?_
  refine J_gete (ci := 11) (j := 3) (x := v 1100 3) dX11_priceOf_5 fl_X11_208 (i1100 hI) rfl rfl rfl ?_
  refine J_bipush (x := 10) dX11_priceOf_8 (by decide) ?_
  refine J_eVI (z := mX11_actOf) (As := [.int 2, .int x1, .int x2, .int (v 1100 3), .int 10]) (rest := []) (ci := 11) (x := f_act v M 2 x1 x2 (v 1100 3) 10) dX11_priceOf_10 ml_X11_217 ok_X11_actOf iv_X11_actOf (by decide) (i1100 hI) rfl rfl rfl rfl (Nat.le_of_ble_eq_true rfl) (k_X11_actOf hI v u _ _ _ _ _ M hM0 hM (by first | assumption | exact lf_in hL hL2 (by assumption) | exact rt_in hR hR2 (by assumption) | exact nt_in hN hW.1 (by assumption) | exact (fun h => absurd rfl h) | exact (fun _ => lf_in hL hL2 (by assumption)) | exact (fun h => absurd (by assumption) h)) (by first | assumption | exact lf_in hL hL2 (by assumption) | exact rt_in hR hR2 (by assumption) | exact nt_in hN hW.1 (by assumption) | exact (fun h => absurd rfl h) | exact (fun _ => lf_in hL hL2 (by assumption)) | exact (fun h => absurd (by assumption) h))) ?_
  exact J_iret dX11_priceOf_13 rfl ⟨_, rfl, rfl, rfl, rfl⟩
noncomputable def f_X11_lumpOf (v : fr_V) (M : Nat) (x1 x2 : Int32) : Int32 := f_act v M 3 x1 x2 (v 1100 3) 0
theorem k_X11_lumpOf {l : Launch} {I : List Nat} (hI : fr_I I) (v : fr_V) (u : fr_U) (M : Nat) (x1 x2 : Int32) (hM0 : v 1100 38 = nI M) (hM : M ≤ 24) (h1 : vp_in x1 12) (h2 : ¬ x2 = (-1) → vp_in x2 12) : Con l mX11_lumpOf I v u [.ref 1100, .int x1, .int x2] (QI v u (fun a => a = f_X11_lumpOf v M x1 x2)) := by
  refine Con.of (by decide) (Nat.le_of_ble_eq_true rfl) ?_
  show J l mX11_lumpOf I v u 0 [(0, .ref 1100), (1, .int x1), (2, .int x2)] [] _
  refine J_aload_n dX11_lumpOf_0 rfl 0 rfl ?_
  refine J_iconst (x := 3) dX11_lumpOf_1 (by decide) ?_
  refine J_iload_n dX11_lumpOf_2 rfl 1 rfl ?_
  refine J_iload_n dX11_lumpOf_3 rfl 2 rfl ?_
  refine J_aload_n dX11_lumpOf_4 rfl 0 rfl ?_
  refine J_gete (ci := 11) (j := 3) (x := v 1100 3) dX11_lumpOf_5 fl_X11_208 (i1100 hI) rfl rfl rfl ?_
  refine J_iconst (x := 0) dX11_lumpOf_8 (by decide) ?_
  refine J_eVI (z := mX11_actOf) (As := [.int 3, .int x1, .int x2, .int (v 1100 3), .int 0]) (rest := []) (ci := 11) (x := f_act v M 3 x1 x2 (v 1100 3) 0) dX11_lumpOf_9 ml_X11_217 ok_X11_actOf iv_X11_actOf (by decide) (i1100 hI) rfl rfl rfl rfl (Nat.le_of_ble_eq_true rfl) (k_X11_actOf hI v u _ _ _ _ _ M hM0 hM (by first | assumption | exact lf_in hL hL2 (by assumption) | exact rt_in hR hR2 (by assumption) | exact nt_in hN hW.1 (by assumption) | exact (fun h => absurd rfl h) | exact (fun _ => lf_in hL hL2 (by assumption)) | exact (fun h => absurd (by assumption) h)) (by first | assumption | exact lf_in hL hL2 (by assumption) | exact rt_in hR hR2 (by assumption) | exact nt_in hN hW.1 (by assumption) | exact (fun h => absurd rfl h) | exact (fun _ => lf_in hL hL2 (by assumption)) | exact (fun h => absurd (by assumption) h))) ?_
  exact J_iret dX11_lumpOf_12 rfl ⟨_, rfl, rfl, rfl, rfl⟩
noncomputable def f_X11_asks (v : fr_V) (M : Nat) (x1 x2 : Int32) : Int32 × fr_V := if (f_X11_isLife (up2 v 1100 2 0)  x1) = 0 then ((-1), up2 v 1100 2 0) else if (f_X11_isIn (up2 v 1100 2 0)  x2 0 2) = 0 then ((-1), up2 v 1100 2 0) else if x2 = 0 then (if (f_X11_mayBe (up2 v 1100 2 0) M x1 (-1)) = 0 then (0, up2 v 1100 2 0) else (1, up2 v 1100 2 0)) else if x2 = 1 then (f_X11_priceOf (up2 v 1100 2 0) M x1 (-1), up2 v 1100 2 0) else (f_X11_lumpOf (up2 v 1100 2 0) M x1 (-1), up2 v 1100 2 0)
theorem k_X11_asks {l : Launch} {I : List Nat} (hI : fr_I I) (v : fr_V) (u : fr_U) (M : Nat) (x1 x2 : Int32) (hM0 : v 1100 38 = nI M) (hM : M ≤ 24) (n : Nat) (hL : v 1100 4 = nI n) (hL2 : n ≤ 12) : Con l mX11_asks I v u [.ref 1100, .int x1, .int x2] (QX u (fun a b => a = (f_X11_asks v M x1 x2).1 ∧ b = (f_X11_asks v M x1 x2).2)) := by
  refine Con.of (by decide) (Nat.le_of_ble_eq_true rfl) ?_
  show J l mX11_asks I v u 0 [(0, .ref 1100), (1, .int x1), (2, .int x2)] [] _
  refine J_aload_n dX11_asks_0 rfl 0 rfl ?_
  refine J_iconst (x := 0) dX11_asks_1 (by decide) ?_
  refine J_puti (ci := 11) (j := 2) dX11_asks_2 fl_X11_129 (i1100 hI) rfl rfl (fun q h => by cases h; rfl) rfl ?_
  refine J_aload_n dX11_asks_5 rfl 0 rfl ?_
  refine J_iload_n dX11_asks_6 rfl 1 rfl ?_
  refine J_eVI (z := mX11_isLife) (As := [.int x1]) (rest := []) (ci := 11) (x := f_X11_isLife (up2 v 1100 2 0)  x1) dX11_asks_7 ml_X11_221 ok_X11_isLife iv_X11_isLife (by decide) (i1100 hI) rfl rfl rfl rfl (Nat.le_of_ble_eq_true rfl) (k_X11_isLife hI (up2 v 1100 2 0) u _ ) ?_
  refine J_if_eq (tgt := 22) dX11_asks_10 (by decide) (fun c1 => ?_) (fun c1 => ?_)
  · refine J_iconst (x := (-1)) dX11_asks_22 (by decide) ?_
    exact J_iret dX11_asks_23 rfl ⟨_, rfl, rfl, by unfold f_X11_asks; rw [if_pos c1], by unfold f_X11_asks; rw [if_pos c1]⟩
  · refine J_iload_n dX11_asks_13 rfl 2 rfl ?_
    refine J_iconst (x := 0) dX11_asks_14 (by decide) ?_
    refine J_iconst (x := 2) dX11_asks_15 (by decide) ?_
    refine J_eSI (z := mX11_isIn) (As := [.int x2, .int 0, .int 2]) (rest := []) (x := f_X11_isIn (up2 v 1100 2 0)  x2 0 2) dX11_asks_16 ml_X11_204 ok_X11_isIn iv_X11_isIn (by decide) rfl rfl (Nat.le_of_ble_eq_true rfl) (k_X11_isIn hI (up2 v 1100 2 0) u _ _ _ ) ?_
    refine J_if_ne (tgt := 24) dX11_asks_19 (by decide) (fun c2 => ?_) (fun c2 => ?_)
    · refine J_iload_n dX11_asks_24 rfl 2 rfl ?_
      refine J_if_ne (tgt := 45) dX11_asks_25 (by decide) (fun c3 => ?_) (fun c3 => ?_)
      · refine J_iload_n dX11_asks_45 rfl 2 rfl ?_
        refine J_iconst (x := 1) dX11_asks_46 (by decide) ?_
        refine J_icmp_ne (tgt := 59) dX11_asks_47 (by decide) (fun c4 => ?_) (fun c4 => ?_)
        · refine J_aload_n dX11_asks_59 rfl 0 rfl ?_
          refine J_iload_n dX11_asks_60 rfl 1 rfl ?_
          refine J_iconst (x := (-1)) dX11_asks_61 (by decide) ?_
          refine J_eVI (z := mX11_lumpOf) (As := [.int x1, .int (-1)]) (rest := []) (ci := 11) (x := f_X11_lumpOf (up2 v 1100 2 0) M x1 (-1)) dX11_asks_62 ml_X11_230 ok_X11_lumpOf iv_X11_lumpOf (by decide) (i1100 hI) rfl rfl rfl rfl (Nat.le_of_ble_eq_true rfl) (k_X11_lumpOf hI (up2 v 1100 2 0) u M _ _ hM0 hM (by first | assumption | exact lf_in hL hL2 (by assumption) | exact rt_in hR hR2 (by assumption) | exact nt_in hN hW.1 (by assumption) | exact (fun h => absurd rfl h) | exact (fun _ => lf_in hL hL2 (by assumption)) | exact (fun h => absurd (by assumption) h)) (by first | assumption | exact lf_in hL hL2 (by assumption) | exact rt_in hR hR2 (by assumption) | exact nt_in hN hW.1 (by assumption) | exact (fun h => absurd rfl h) | exact (fun _ => lf_in hL hL2 (by assumption)) | exact (fun h => absurd (by assumption) h))) ?_
          exact J_iret dX11_asks_65 rfl ⟨_, rfl, rfl, by unfold f_X11_asks; rw [if_neg c1, if_neg c2, if_neg c3, if_neg c4], by unfold f_X11_asks; rw [if_neg c1, if_neg c2, if_neg c3, if_neg c4]⟩
        · refine J_aload_n dX11_asks_50 rfl 0 rfl ?_
          refine J_iload_n dX11_asks_51 rfl 1 rfl ?_
          refine J_iconst (x := (-1)) dX11_asks_52 (by decide) ?_
          refine J_eVI (z := mX11_priceOf) (As := [.int x1, .int (-1)]) (rest := []) (ci := 11) (x := f_X11_priceOf (up2 v 1100 2 0) M x1 (-1)) dX11_asks_53 ml_X11_227 ok_X11_priceOf iv_X11_priceOf (by decide) (i1100 hI) rfl rfl rfl rfl (Nat.le_of_ble_eq_true rfl) (k_X11_priceOf hI (up2 v 1100 2 0) u M _ _ hM0 hM (by first | assumption | exact lf_in hL hL2 (by assumption) | exact rt_in hR hR2 (by assumption) | exact nt_in hN hW.1 (by assumption) | exact (fun h => absurd rfl h) | exact (fun _ => lf_in hL hL2 (by assumption)) | exact (fun h => absurd (by assumption) h)) (by first | assumption | exact lf_in hL hL2 (by assumption) | exact rt_in hR hR2 (by assumption) | exact nt_in hN hW.1 (by assumption) | exact (fun h => absurd rfl h) | exact (fun _ => lf_in hL hL2 (by assumption)) | exact (fun h => absurd (by assumption) h))) ?_
          refine J_goto (tgt := 65) dX11_asks_56 (by decide) ?_
          exact J_iret dX11_asks_65 rfl ⟨_, rfl, rfl, by unfold f_X11_asks; rw [if_neg c1, if_neg c2, if_neg c3, if_pos c4], by unfold f_X11_asks; rw [if_neg c1, if_neg c2, if_neg c3, if_pos c4]⟩
      · refine J_aload_n dX11_asks_28 rfl 0 rfl ?_
        refine J_iload_n dX11_asks_29 rfl 1 rfl ?_
        refine J_iconst (x := (-1)) dX11_asks_30 (by decide) ?_
        refine J_eVI (z := mX11_mayBe) (As := [.int x1, .int (-1)]) (rest := []) (ci := 11) (x := f_X11_mayBe (up2 v 1100 2 0) M x1 (-1)) dX11_asks_31 ml_X11_224 ok_X11_mayBe iv_X11_mayBe (by decide) (i1100 hI) rfl rfl rfl rfl (Nat.le_of_ble_eq_true rfl) (k_X11_mayBe hI (up2 v 1100 2 0) u M _ _ hM0 hM (by first | assumption | exact lf_in hL hL2 (by assumption) | exact rt_in hR hR2 (by assumption) | exact nt_in hN hW.1 (by assumption) | exact (fun h => absurd rfl h) | exact (fun _ => lf_in hL hL2 (by assumption)) | exact (fun h => absurd (by assumption) h)) (by first | assumption | exact lf_in hL hL2 (by assumption) | exact rt_in hR hR2 (by assumption) | exact nt_in hN hW.1 (by assumption) | exact (fun h => absurd rfl h) | exact (fun _ => lf_in hL hL2 (by assumption)) | exact (fun h => absurd (by assumption) h))) ?_
        refine J_if_eq (tgt := 41) dX11_asks_34 (by decide) (fun c5 => ?_) (fun c5 => ?_)
        · refine J_iconst (x := 0) dX11_asks_41 (by decide) ?_
          refine J_goto (tgt := 65) dX11_asks_42 (by decide) ?_
          exact J_iret dX11_asks_65 rfl ⟨_, rfl, rfl, by unfold f_X11_asks; rw [if_neg c1, if_neg c2, if_pos c3, if_pos c5], by unfold f_X11_asks; rw [if_neg c1, if_neg c2, if_pos c3, if_pos c5]⟩
        · refine J_iconst (x := 1) dX11_asks_37 (by decide) ?_
          refine J_goto (tgt := 65) dX11_asks_38 (by decide) ?_
          exact J_iret dX11_asks_65 rfl ⟨_, rfl, rfl, by unfold f_X11_asks; rw [if_neg c1, if_neg c2, if_pos c3, if_neg c5], by unfold f_X11_asks; rw [if_neg c1, if_neg c2, if_pos c3, if_neg c5]⟩
    · refine J_iconst (x := (-1)) dX11_asks_22 (by decide) ?_
      exact J_iret dX11_asks_23 rfl ⟨_, rfl, rfl, by unfold f_X11_asks; rw [if_neg c1, if_pos c2], by unfold f_X11_asks; rw [if_neg c1, if_pos c2]⟩
def f_X11_parts (v : fr_V) (NS : Nat) (x1 x2 x3 : Int32) : Int32 × fr_V := if (f_X11_isRent (up2 v 1100 2 0)  x1) = 0 then ((-1), up2 v 1100 2 0) else if (f_X11_isHolder (up2 v 1100 2 0)  x2) = 0 then ((-1), up2 v 1100 2 0) else if (f_X11_isHalf (up2 v 1100 2 0)  x3) = 0 then ((-1), up2 v 1100 2 0) else (f_parts (up2 v 1100 2 0) NS x1 x2 x3, up2 v 1100 2 0)
theorem k_X11_parts {l : Launch} {I : List Nat} (hI : fr_I I) (v : fr_V) (u : fr_U) (NS : Nat) (x1 x2 x3 : Int32) (hS : v 1100 14 = nI NS) (hS2 : NS ≤ 40) (nr : Nat) (hR : v 1100 7 = nI nr) (hR2 : nr ≤ 16) : Con l mX11_parts I v u [.ref 1100, .int x1, .int x2, .int x3] (QX u (fun a b => a = (f_X11_parts v NS x1 x2 x3).1 ∧ b = (f_X11_parts v NS x1 x2 x3).2)) := by
  refine Con.of (by decide) (Nat.le_of_ble_eq_true rfl) ?_
  show J l mX11_parts I v u 0 [(0, .ref 1100), (1, .int x1), (2, .int x2), (3, .int x3)] [] _
  refine J_aload_n dX11_parts_0 rfl 0 rfl ?_
  refine J_iconst (x := 0) dX11_parts_1 (by decide) ?_
  refine J_puti (ci := 11) (j := 2) dX11_parts_2 fl_X11_129 (i1100 hI) rfl rfl (fun q h => by cases h; rfl) rfl ?_
  refine J_aload_n dX11_parts_5 rfl 0 rfl ?_
  refine J_iload_n dX11_parts_6 rfl 1 rfl ?_
  refine J_eVI (z := mX11_isRent) (As := [.int x1]) (rest := []) (ci := 11) (x := f_X11_isRent (up2 v 1100 2 0)  x1) dX11_parts_7 ml_X11_242 ok_X11_isRent iv_X11_isRent (by decide) (i1100 hI) rfl rfl rfl rfl (Nat.le_of_ble_eq_true rfl) (k_X11_isRent hI (up2 v 1100 2 0) u _ ) ?_
  refine J_if_eq (tgt := 37) dX11_parts_10 (by decide) (fun c1 => ?_) (fun c1 => ?_)
  · refine J_iconst (x := (-1)) dX11_parts_37 (by decide) ?_
    exact J_iret dX11_parts_38 rfl ⟨_, rfl, rfl, by unfold f_X11_parts; rw [if_pos c1], by unfold f_X11_parts; rw [if_pos c1]⟩
  · refine J_iload_n dX11_parts_13 rfl 2 rfl ?_
    refine J_eSI (z := mX11_isHolder) (As := [.int x2]) (rest := []) (x := f_X11_isHolder (up2 v 1100 2 0)  x2) dX11_parts_14 ml_X11_236 ok_X11_isHolder iv_X11_isHolder (by decide) rfl rfl (Nat.le_of_ble_eq_true rfl) (k_X11_isHolder hI (up2 v 1100 2 0) u _ ) ?_
    refine J_if_eq (tgt := 37) dX11_parts_17 (by decide) (fun c2 => ?_) (fun c2 => ?_)
    · refine J_iconst (x := (-1)) dX11_parts_37 (by decide) ?_
      exact J_iret dX11_parts_38 rfl ⟨_, rfl, rfl, by unfold f_X11_parts; rw [if_neg c1, if_pos c2], by unfold f_X11_parts; rw [if_neg c1, if_pos c2]⟩
    · refine J_iload_n dX11_parts_20 rfl 3 rfl ?_
      refine J_eSI (z := mX11_isHalf) (As := [.int x3]) (rest := []) (x := f_X11_isHalf (up2 v 1100 2 0)  x3) dX11_parts_21 ml_X11_249 ok_X11_isHalf iv_X11_isHalf (by decide) rfl rfl (Nat.le_of_ble_eq_true rfl) (k_X11_isHalf hI (up2 v 1100 2 0) u _ ) ?_
      refine J_if_eq (tgt := 37) dX11_parts_24 (by decide) (fun c3 => ?_) (fun c3 => ?_)
      · refine J_iconst (x := (-1)) dX11_parts_37 (by decide) ?_
        exact J_iret dX11_parts_38 rfl ⟨_, rfl, rfl, by unfold f_X11_parts; rw [if_neg c1, if_neg c2, if_pos c3], by unfold f_X11_parts; rw [if_neg c1, if_neg c2, if_pos c3]⟩
      · refine J_aload_n dX11_parts_27 rfl 0 rfl ?_
        refine J_iload_n dX11_parts_28 rfl 1 rfl ?_
        refine J_iload_n dX11_parts_29 rfl 2 rfl ?_
        refine J_iload_n dX11_parts_30 rfl 3 rfl ?_
        refine J_eVI (z := mX11_partsOf) (As := [.int x1, .int x2, .int x3]) (rest := []) (ci := 11) (x := f_parts (up2 v 1100 2 0) NS x1 x2 x3) dX11_parts_31 ml_X11_245 ok_X11_partsOf iv_X11_partsOf (by decide) (i1100 hI) rfl rfl rfl rfl (Nat.le_of_ble_eq_true rfl) (k_X11_partsOf hI (up2 v 1100 2 0) u _ _ _ NS hS hS2 (by first | assumption | exact lf_in hL hL2 (by assumption) | exact rt_in hR hR2 (by assumption) | exact nt_in hN hW.1 (by assumption) | exact (fun h => absurd rfl h) | exact (fun _ => lf_in hL hL2 (by assumption)) | exact (fun h => absurd (by assumption) h))) ?_
        refine J_goto (tgt := 38) dX11_parts_34 (by decide) ?_
        exact J_iret dX11_parts_38 rfl ⟨_, rfl, rfl, by unfold f_X11_parts; rw [if_neg c1, if_neg c2, if_neg c3], by unfold f_X11_parts; rw [if_neg c1, if_neg c2, if_neg c3]⟩
def f_X11_sell (v : fr_V) (NS : Nat) (x1 x2 x3 x4 : Int32) : Int32 × fr_V := if (f_X11_isRent (up2 v 1100 2 0)  x1) = 0 then (0, up2 v 1100 2 0) else if (f_X11_isHolder (up2 v 1100 2 0)  x2) = 0 then (0, up2 v 1100 2 0) else if (f_X11_isHolder (up2 v 1100 2 0)  x3) = 0 then (0, up2 v 1100 2 0) else if x2 = x3 then (0, up2 v 1100 2 0) else if x4 < 1 then (0, up2 v 1100 2 0) else if (f_parts (up2 v 1100 2 0) NS x1 x2 (v 1100 3)) < x4 then (0, up2 v 1100 2 0) else if (nI NS) = 40 then (0, up2 v 1100 2 0) else (1, up2 (up2 (up2 (up2 (up2 (up2 (up2 v 1100 2 0) 1116 (5 * NS) x1) 1116 ((5 * NS) + 1) x2) 1116 ((5 * NS) + 2) x3) 1116 ((5 * NS) + 3) x4) 1116 ((5 * NS) + 4) (v 1100 3)) 1100 14 ((nI NS) + 1))
theorem k_X11_sell {l : Launch} {I : List Nat} (hI : fr_I I) (v : fr_V) (u : fr_U) (NS : Nat) (x1 x2 x3 x4 : Int32) (hS : v 1100 14 = nI NS) (hS2 : NS ≤ 40) (nr : Nat) (hR : v 1100 7 = nI nr) (hR2 : nr ≤ 16) : Con l mX11_sell I v u [.ref 1100, .int x1, .int x2, .int x3, .int x4] (QX u (fun a b => a = (f_X11_sell v NS x1 x2 x3 x4).1 ∧ b = (f_X11_sell v NS x1 x2 x3 x4).2)) := by
  refine Con.of (by decide) (Nat.le_of_ble_eq_true rfl) ?_
  show J l mX11_sell I v u 0 [(0, .ref 1100), (1, .int x1), (2, .int x2), (3, .int x3), (4, .int x4)] [] _
  refine J_aload_n dX11_sell_0 rfl 0 rfl ?_
  refine J_iconst (x := 0) dX11_sell_1 (by decide) ?_
  refine J_puti (ci := 11) (j := 2) dX11_sell_2 fl_X11_129 (i1100 hI) rfl rfl (fun q h => by cases h; rfl) rfl ?_
  refine J_aload_n dX11_sell_5 rfl 0 rfl ?_
  refine J_iload_n dX11_sell_6 rfl 1 rfl ?_
  refine J_eVI (z := mX11_isRent) (As := [.int x1]) (rest := []) (ci := 11) (x := f_X11_isRent (up2 v 1100 2 0)  x1) dX11_sell_7 ml_X11_242 ok_X11_isRent iv_X11_isRent (by decide) (i1100 hI) rfl rfl rfl rfl (Nat.le_of_ble_eq_true rfl) (k_X11_isRent hI (up2 v 1100 2 0) u _ ) ?_
  refine J_if_eq (tgt := 62) dX11_sell_10 (by decide) (fun c1 => ?_) (fun c1 => ?_)
  · refine J_iconst (x := 0) dX11_sell_62 (by decide) ?_
    exact J_zret dX11_sell_63 rfl (by decide) ⟨_, rfl, rfl, by unfold f_X11_sell; rw [if_pos c1], by unfold f_X11_sell; rw [if_pos c1]⟩
  · refine J_iload_n dX11_sell_13 rfl 2 rfl ?_
    refine J_eSI (z := mX11_isHolder) (As := [.int x2]) (rest := []) (x := f_X11_isHolder (up2 v 1100 2 0)  x2) dX11_sell_14 ml_X11_236 ok_X11_isHolder iv_X11_isHolder (by decide) rfl rfl (Nat.le_of_ble_eq_true rfl) (k_X11_isHolder hI (up2 v 1100 2 0) u _ ) ?_
    refine J_if_eq (tgt := 62) dX11_sell_17 (by decide) (fun c2 => ?_) (fun c2 => ?_)
    · refine J_iconst (x := 0) dX11_sell_62 (by decide) ?_
      exact J_zret dX11_sell_63 rfl (by decide) ⟨_, rfl, rfl, by unfold f_X11_sell; rw [if_neg c1, if_pos c2], by unfold f_X11_sell; rw [if_neg c1, if_pos c2]⟩
    · refine J_iload_n dX11_sell_20 rfl 3 rfl ?_
      refine J_eSI (z := mX11_isHolder) (As := [.int x3]) (rest := []) (x := f_X11_isHolder (up2 v 1100 2 0)  x3) dX11_sell_21 ml_X11_236 ok_X11_isHolder iv_X11_isHolder (by decide) rfl rfl (Nat.le_of_ble_eq_true rfl) (k_X11_isHolder hI (up2 v 1100 2 0) u _ ) ?_
      refine J_if_eq (tgt := 62) dX11_sell_24 (by decide) (fun c3 => ?_) (fun c3 => ?_)
      · refine J_iconst (x := 0) dX11_sell_62 (by decide) ?_
        exact J_zret dX11_sell_63 rfl (by decide) ⟨_, rfl, rfl, by unfold f_X11_sell; rw [if_neg c1, if_neg c2, if_pos c3], by unfold f_X11_sell; rw [if_neg c1, if_neg c2, if_pos c3]⟩
      · refine J_iload_n dX11_sell_27 rfl 2 rfl ?_
        refine J_iload_n dX11_sell_28 rfl 3 rfl ?_
        refine J_icmp_eq (tgt := 62) dX11_sell_29 (by decide) (fun c4 => ?_) (fun c4 => ?_)
        · refine J_iconst (x := 0) dX11_sell_62 (by decide) ?_
          exact J_zret dX11_sell_63 rfl (by decide) ⟨_, rfl, rfl, by unfold f_X11_sell; rw [if_neg c1, if_neg c2, if_neg c3, if_pos c4], by unfold f_X11_sell; rw [if_neg c1, if_neg c2, if_neg c3, if_pos c4]⟩
        · refine J_iload dX11_sell_32 4 rfl ?_
          refine J_iconst (x := 1) dX11_sell_34 (by decide) ?_
          refine J_icmp_lt (tgt := 62) dX11_sell_35 (by decide) (fun c5 => ?_) (fun c5 => ?_)
          · refine J_iconst (x := 0) dX11_sell_62 (by decide) ?_
            exact J_zret dX11_sell_63 rfl (by decide) ⟨_, rfl, rfl, by unfold f_X11_sell; rw [if_neg c1, if_neg c2, if_neg c3, if_neg c4, if_pos c5], by unfold f_X11_sell; rw [if_neg c1, if_neg c2, if_neg c3, if_neg c4, if_pos c5]⟩
          · refine J_iload dX11_sell_38 4 rfl ?_
            refine J_aload_n dX11_sell_40 rfl 0 rfl ?_
            refine J_iload_n dX11_sell_41 rfl 1 rfl ?_
            refine J_iload_n dX11_sell_42 rfl 2 rfl ?_
            refine J_aload_n dX11_sell_43 rfl 0 rfl ?_
            refine J_gete (ci := 11) (j := 3) (x := v 1100 3) dX11_sell_44 fl_X11_208 (i1100 hI) rfl rfl rfl ?_
            refine J_eVI (z := mX11_partsOf) (As := [.int x1, .int x2, .int (v 1100 3)]) (rest := [.int x4]) (ci := 11) (x := f_parts (up2 v 1100 2 0) NS x1 x2 (v 1100 3)) dX11_sell_47 ml_X11_245 ok_X11_partsOf iv_X11_partsOf (by decide) (i1100 hI) rfl rfl rfl rfl (Nat.le_of_ble_eq_true rfl) (k_X11_partsOf hI (up2 v 1100 2 0) u _ _ _ NS hS hS2 (by first | assumption | exact lf_in hL hL2 (by assumption) | exact rt_in hR hR2 (by assumption) | exact nt_in hN hW.1 (by assumption) | exact (fun h => absurd rfl h) | exact (fun _ => lf_in hL hL2 (by assumption)) | exact (fun h => absurd (by assumption) h))) ?_
            refine J_icmp_gt (tgt := 62) dX11_sell_50 (by decide) (fun c6 => ?_) (fun c6 => ?_)
            · refine J_iconst (x := 0) dX11_sell_62 (by decide) ?_
              exact J_zret dX11_sell_63 rfl (by decide) ⟨_, rfl, rfl, by unfold f_X11_sell; rw [if_neg c1, if_neg c2, if_neg c3, if_neg c4, if_neg c5, if_pos c6], by unfold f_X11_sell; rw [if_neg c1, if_neg c2, if_neg c3, if_neg c4, if_neg c5, if_pos c6]⟩
            · refine J_aload_n dX11_sell_53 rfl 0 rfl ?_
              refine J_gete (ci := 11) (j := 14) (x := nI NS) dX11_sell_54 fl_X11_239 (i1100 hI) rfl rfl hS ?_
              refine J_bipush (x := 40) dX11_sell_57 (by decide) ?_
              refine J_icmp_ne (tgt := 64) dX11_sell_59 (by decide) (fun c7 => ?_) (fun c7 => ?_)
              · have hS3 : NS < 40 := ne_lt hS2 (by assumption)
                refine J_aload_n dX11_sell_64 rfl 0 rfl ?_
                refine J_getr (ci := 11) (j := 15) (t := 1116) dX11_sell_65 fl_X11_37 (i1100 hI) rfl rfl rfl ?_
                refine J_iconst (x := 5) dX11_sell_68 (by decide) ?_
                refine J_aload_n dX11_sell_69 rfl 0 rfl ?_
                refine J_gete (ci := 11) (j := 14) (x := nI NS) dX11_sell_70 fl_X11_239 (i1100 hI) rfl rfl hS ?_
                refine J_imul dX11_sell_73 ?_
                refine J_iload_n dX11_sell_74 rfl 1 rfl ?_
                refine J_iase (j := 5 * NS) dX11_sell_75 (i1116 hI) rfl (ix_in (j := 5 * NS) (by show (nI 5) * (nI NS) = _; simp only [nI_add, pk_mul]) (by omega) (by omega)) (ix_cl (j := 5 * NS) (by show (nI 5) * (nI NS) = _; simp only [nI_add, pk_mul]) (by omega)) ?_
                refine J_aload_n dX11_sell_76 rfl 0 rfl ?_
                refine J_getr (ci := 11) (j := 15) (t := 1116) dX11_sell_77 fl_X11_37 (i1100 hI) rfl rfl rfl ?_
                refine J_iconst (x := 5) dX11_sell_80 (by decide) ?_
                refine J_aload_n dX11_sell_81 rfl 0 rfl ?_
                refine J_gete (ci := 11) (j := 14) (x := nI NS) dX11_sell_82 fl_X11_239 (i1100 hI) rfl rfl hS ?_
                refine J_imul dX11_sell_85 ?_
                refine J_iconst (x := 1) dX11_sell_86 (by decide) ?_
                refine J_iadd dX11_sell_87 ?_
                refine J_iload_n dX11_sell_88 rfl 2 rfl ?_
                refine J_iase (j := (5 * NS) + 1) dX11_sell_89 (i1116 hI) rfl (ix_in (j := (5 * NS) + 1) (by show ((nI 5) * (nI NS)) + (nI 1) = _; simp only [nI_add, pk_mul]) (by omega) (by omega)) (ix_cl (j := (5 * NS) + 1) (by show ((nI 5) * (nI NS)) + (nI 1) = _; simp only [nI_add, pk_mul]) (by omega)) ?_
                refine J_aload_n dX11_sell_90 rfl 0 rfl ?_
                refine J_getr (ci := 11) (j := 15) (t := 1116) dX11_sell_91 fl_X11_37 (i1100 hI) rfl rfl rfl ?_
                refine J_iconst (x := 5) dX11_sell_94 (by decide) ?_
                refine J_aload_n dX11_sell_95 rfl 0 rfl ?_
                refine J_gete (ci := 11) (j := 14) (x := nI NS) dX11_sell_96 fl_X11_239 (i1100 hI) rfl rfl hS ?_
                refine J_imul dX11_sell_99 ?_
                refine J_iconst (x := 2) dX11_sell_100 (by decide) ?_
                refine J_iadd dX11_sell_101 ?_
                refine J_iload_n dX11_sell_102 rfl 3 rfl ?_
                refine J_iase (j := (5 * NS) + 2) dX11_sell_103 (i1116 hI) rfl (ix_in (j := (5 * NS) + 2) (by show ((nI 5) * (nI NS)) + (nI 2) = _; simp only [nI_add, pk_mul]) (by omega) (by omega)) (ix_cl (j := (5 * NS) + 2) (by show ((nI 5) * (nI NS)) + (nI 2) = _; simp only [nI_add, pk_mul]) (by omega)) ?_
                refine J_aload_n dX11_sell_104 rfl 0 rfl ?_
                refine J_getr (ci := 11) (j := 15) (t := 1116) dX11_sell_105 fl_X11_37 (i1100 hI) rfl rfl rfl ?_
                refine J_iconst (x := 5) dX11_sell_108 (by decide) ?_
                refine J_aload_n dX11_sell_109 rfl 0 rfl ?_
                refine J_gete (ci := 11) (j := 14) (x := nI NS) dX11_sell_110 fl_X11_239 (i1100 hI) rfl rfl hS ?_
                refine J_imul dX11_sell_113 ?_
                refine J_iconst (x := 3) dX11_sell_114 (by decide) ?_
                refine J_iadd dX11_sell_115 ?_
                refine J_iload dX11_sell_116 4 rfl ?_
                refine J_iase (j := (5 * NS) + 3) dX11_sell_118 (i1116 hI) rfl (ix_in (j := (5 * NS) + 3) (by show ((nI 5) * (nI NS)) + (nI 3) = _; simp only [nI_add, pk_mul]) (by omega) (by omega)) (ix_cl (j := (5 * NS) + 3) (by show ((nI 5) * (nI NS)) + (nI 3) = _; simp only [nI_add, pk_mul]) (by omega)) ?_
                refine J_aload_n dX11_sell_119 rfl 0 rfl ?_
                refine J_getr (ci := 11) (j := 15) (t := 1116) dX11_sell_120 fl_X11_37 (i1100 hI) rfl rfl rfl ?_
                refine J_iconst (x := 5) dX11_sell_123 (by decide) ?_
                refine J_aload_n dX11_sell_124 rfl 0 rfl ?_
                refine J_gete (ci := 11) (j := 14) (x := nI NS) dX11_sell_125 fl_X11_239 (i1100 hI) rfl rfl hS ?_
                refine J_imul dX11_sell_128 ?_
                refine J_iconst (x := 4) dX11_sell_129 (by decide) ?_
                refine J_iadd dX11_sell_130 ?_
                refine J_aload_n dX11_sell_131 rfl 0 rfl ?_
                refine J_gete (ci := 11) (j := 3) (x := v 1100 3) dX11_sell_132 fl_X11_208 (i1100 hI) rfl rfl rfl ?_
                refine J_iase (j := (5 * NS) + 4) dX11_sell_135 (i1116 hI) rfl (ix_in (j := (5 * NS) + 4) (by show ((nI 5) * (nI NS)) + (nI 4) = _; simp only [nI_add, pk_mul]) (by omega) (by omega)) (ix_cl (j := (5 * NS) + 4) (by show ((nI 5) * (nI NS)) + (nI 4) = _; simp only [nI_add, pk_mul]) (by omega)) ?_
                refine J_aload_n dX11_sell_136 rfl 0 rfl ?_
                refine J_dup dX11_sell_137 rfl ?_
                refine J_gete (ci := 11) (j := 14) (x := nI NS) dX11_sell_138 fl_X11_239 (i1100 hI) rfl rfl hS ?_
                refine J_iconst (x := 1) dX11_sell_141 (by decide) ?_
                refine J_iadd dX11_sell_142 ?_
                refine J_puti (ci := 11) (j := 14) dX11_sell_143 fl_X11_239 (i1100 hI) rfl rfl (fun q h => by cases h; rfl) rfl ?_
                refine J_iconst (x := 1) dX11_sell_146 (by decide) ?_
                exact J_zret dX11_sell_147 rfl (by decide) ⟨_, rfl, rfl, by unfold f_X11_sell; rw [if_neg c1, if_neg c2, if_neg c3, if_neg c4, if_neg c5, if_neg c6, if_neg c7], by unfold f_X11_sell; rw [if_neg c1, if_neg c2, if_neg c3, if_neg c4, if_neg c5, if_neg c6, if_neg c7]⟩
              · refine J_iconst (x := 0) dX11_sell_62 (by decide) ?_
                exact J_zret dX11_sell_63 rfl (by decide) ⟨_, rfl, rfl, by unfold f_X11_sell; rw [if_neg c1, if_neg c2, if_neg c3, if_neg c4, if_neg c5, if_neg c6, if_pos c7], by unfold f_X11_sell; rw [if_neg c1, if_neg c2, if_neg c3, if_neg c4, if_neg c5, if_neg c6, if_pos c7]⟩
noncomputable def f_X11_rent (v : fr_V) (NR : Nat) (M : Nat) (x1 x2 x3 x4 : Int32) : Int32 × fr_V := if (nI NR) = 16 then ((-1), up2 v 1100 2 0) else if (f_X11_isHolder (up2 v 1100 2 0)  x1) = 0 then ((-1), up2 v 1100 2 0) else if (f_X11_isLife (up2 v 1100 2 0)  x2) = 0 then ((-1), up2 v 1100 2 0) else if x3 = (-1) then (if (f_X11_isIn (up2 v 1100 2 0)  x4 1 99) = 0 then ((-1), up2 v 1100 2 0) else if (f_X11_mayBe (up2 v 1100 2 0) M x2 x3) = 0 then ((-1), up2 v 1100 2 0) else (((nI NR) + 1) - 1, up2 (up2 (up2 (up2 (up2 (up2 (up2 (up2 v 1100 2 0) 1109 NR (v 1100 3)) 1110 NR x1) 1111 NR x2) 1112 NR x3) 1113 NR x4) 1114 NR (x4 * (f_X11_priceOf (up2 (up2 (up2 (up2 (up2 (up2 v 1100 2 0) 1109 NR (v 1100 3)) 1110 NR x1) 1111 NR x2) 1112 NR x3) 1113 NR x4) M x2 x3))) 1100 7 ((nI NR) + 1))) else if (f_X11_isLife (up2 v 1100 2 0)  x3) = 0 then ((-1), up2 v 1100 2 0) else if x2 = x3 then ((-1), up2 v 1100 2 0) else if (f_X11_isIn (up2 v 1100 2 0)  x4 1 99) = 0 then ((-1), up2 v 1100 2 0) else if (f_X11_mayBe (up2 v 1100 2 0) M x2 x3) = 0 then ((-1), up2 v 1100 2 0) else (((nI NR) + 1) - 1, up2 (up2 (up2 (up2 (up2 (up2 (up2 (up2 v 1100 2 0) 1109 NR (v 1100 3)) 1110 NR x1) 1111 NR x2) 1112 NR x3) 1113 NR x4) 1114 NR (x4 * (f_X11_priceOf (up2 (up2 (up2 (up2 (up2 (up2 v 1100 2 0) 1109 NR (v 1100 3)) 1110 NR x1) 1111 NR x2) 1112 NR x3) 1113 NR x4) M x2 x3))) 1100 7 ((nI NR) + 1))
theorem k_X11_rent {l : Launch} {I : List Nat} (hI : fr_I I) (v : fr_V) (u : fr_U) (NR : Nat) (M : Nat) (x1 x2 x3 x4 : Int32) (hR : v 1100 7 = nI NR) (hR2 : NR ≤ 16) (hM0 : v 1100 38 = nI M) (hM : M ≤ 24) (n : Nat) (hL : v 1100 4 = nI n) (hL2 : n ≤ 12) : Con l mX11_rent I v u [.ref 1100, .int x1, .int x2, .int x3, .int x4] (QX u (fun a b => a = (f_X11_rent v NR M x1 x2 x3 x4).1 ∧ b = (f_X11_rent v NR M x1 x2 x3 x4).2)) := by
  refine Con.of (by decide) (Nat.le_of_ble_eq_true rfl) ?_
  show J l mX11_rent I v u 0 [(0, .ref 1100), (1, .int x1), (2, .int x2), (3, .int x3), (4, .int x4)] [] _
  refine J_aload_n dX11_rent_0 rfl 0 rfl ?_
  refine J_iconst (x := 0) dX11_rent_1 (by decide) ?_
  refine J_puti (ci := 11) (j := 2) dX11_rent_2 fl_X11_129 (i1100 hI) rfl rfl (fun q h => by cases h; rfl) rfl ?_
  refine J_aload_n dX11_rent_5 rfl 0 rfl ?_
  refine J_gete (ci := 11) (j := 7) (x := nI NR) dX11_rent_6 fl_X11_233 (i1100 hI) rfl rfl hR ?_
  refine J_bipush (x := 16) dX11_rent_9 (by decide) ?_
  refine J_icmp_eq (tgt := 67) dX11_rent_11 (by decide) (fun c1 => ?_) (fun c1 => ?_)
  · refine J_iconst (x := (-1)) dX11_rent_67 (by decide) ?_
    exact J_iret dX11_rent_68 rfl ⟨_, rfl, rfl, by unfold f_X11_rent; rw [if_pos c1], by unfold f_X11_rent; rw [if_pos c1]⟩
  · refine J_iload_n dX11_rent_14 rfl 1 rfl ?_
    refine J_eSI (z := mX11_isHolder) (As := [.int x1]) (rest := []) (x := f_X11_isHolder (up2 v 1100 2 0)  x1) dX11_rent_15 ml_X11_236 ok_X11_isHolder iv_X11_isHolder (by decide) rfl rfl (Nat.le_of_ble_eq_true rfl) (k_X11_isHolder hI (up2 v 1100 2 0) u _ ) ?_
    refine J_if_eq (tgt := 67) dX11_rent_18 (by decide) (fun c2 => ?_) (fun c2 => ?_)
    · refine J_iconst (x := (-1)) dX11_rent_67 (by decide) ?_
      exact J_iret dX11_rent_68 rfl ⟨_, rfl, rfl, by unfold f_X11_rent; rw [if_neg c1, if_pos c2], by unfold f_X11_rent; rw [if_neg c1, if_pos c2]⟩
    · refine J_aload_n dX11_rent_21 rfl 0 rfl ?_
      refine J_iload_n dX11_rent_22 rfl 2 rfl ?_
      refine J_eVI (z := mX11_isLife) (As := [.int x2]) (rest := []) (ci := 11) (x := f_X11_isLife (up2 v 1100 2 0)  x2) dX11_rent_23 ml_X11_221 ok_X11_isLife iv_X11_isLife (by decide) (i1100 hI) rfl rfl rfl rfl (Nat.le_of_ble_eq_true rfl) (k_X11_isLife hI (up2 v 1100 2 0) u _ ) ?_
      refine J_if_eq (tgt := 67) dX11_rent_26 (by decide) (fun c3 => ?_) (fun c3 => ?_)
      · refine J_iconst (x := (-1)) dX11_rent_67 (by decide) ?_
        exact J_iret dX11_rent_68 rfl ⟨_, rfl, rfl, by unfold f_X11_rent; rw [if_neg c1, if_neg c2, if_pos c3], by unfold f_X11_rent; rw [if_neg c1, if_neg c2, if_pos c3]⟩
      · refine J_iload_n dX11_rent_29 rfl 3 rfl ?_
        refine J_iconst (x := (-1)) dX11_rent_30 (by decide) ?_
        refine J_icmp_eq (tgt := 47) dX11_rent_31 (by decide) (fun c4 => ?_) (fun c4 => ?_)
        · refine J_iload dX11_rent_47 4 rfl ?_
          refine J_iconst (x := 1) dX11_rent_49 (by decide) ?_
          refine J_bipush (x := 99) dX11_rent_50 (by decide) ?_
          refine J_eSI (z := mX11_isIn) (As := [.int x4, .int 1, .int 99]) (rest := []) (x := f_X11_isIn (up2 v 1100 2 0)  x4 1 99) dX11_rent_52 ml_X11_204 ok_X11_isIn iv_X11_isIn (by decide) rfl rfl (Nat.le_of_ble_eq_true rfl) (k_X11_isIn hI (up2 v 1100 2 0) u _ _ _ ) ?_
          refine J_if_eq (tgt := 67) dX11_rent_55 (by decide) (fun c5 => ?_) (fun c5 => ?_)
          · refine J_iconst (x := (-1)) dX11_rent_67 (by decide) ?_
            exact J_iret dX11_rent_68 rfl ⟨_, rfl, rfl, by unfold f_X11_rent; rw [if_neg c1, if_neg c2, if_neg c3, if_pos c4, if_pos c5], by unfold f_X11_rent; rw [if_neg c1, if_neg c2, if_neg c3, if_pos c4, if_pos c5]⟩
          · refine J_aload_n dX11_rent_58 rfl 0 rfl ?_
            refine J_iload_n dX11_rent_59 rfl 2 rfl ?_
            refine J_iload_n dX11_rent_60 rfl 3 rfl ?_
            refine J_eVI (z := mX11_mayBe) (As := [.int x2, .int x3]) (rest := []) (ci := 11) (x := f_X11_mayBe (up2 v 1100 2 0) M x2 x3) dX11_rent_61 ml_X11_224 ok_X11_mayBe iv_X11_mayBe (by decide) (i1100 hI) rfl rfl rfl rfl (Nat.le_of_ble_eq_true rfl) (k_X11_mayBe hI (up2 v 1100 2 0) u M _ _ hM0 hM (by first | assumption | exact lf_in hL hL2 (by assumption) | exact rt_in hR hR2 (by assumption) | exact nt_in hN hW.1 (by assumption) | exact (fun h => absurd rfl h) | exact (fun _ => lf_in hL hL2 (by assumption)) | exact (fun h => absurd (by assumption) h)) (by first | assumption | exact lf_in hL hL2 (by assumption) | exact rt_in hR hR2 (by assumption) | exact nt_in hN hW.1 (by assumption) | exact (fun h => absurd rfl h) | exact (fun _ => lf_in hL hL2 (by assumption)) | exact (fun h => absurd (by assumption) h))) ?_
            refine J_if_ne (tgt := 69) dX11_rent_64 (by decide) (fun c6 => ?_) (fun c6 => ?_)
            · have hR3 : NR < 16 := ne_lt hR2 (by assumption)
              refine J_aload_n dX11_rent_69 rfl 0 rfl ?_
              refine J_getr (ci := 11) (j := 8) (t := 1109) dX11_rent_70 fl_X11_19 (i1100 hI) rfl rfl rfl ?_
              refine J_aload_n dX11_rent_73 rfl 0 rfl ?_
              refine J_gete (ci := 11) (j := 7) (x := nI NR) dX11_rent_74 fl_X11_233 (i1100 hI) rfl rfl hR ?_
              refine J_aload_n dX11_rent_77 rfl 0 rfl ?_
              refine J_gete (ci := 11) (j := 3) (x := v 1100 3) dX11_rent_78 fl_X11_208 (i1100 hI) rfl rfl rfl ?_
              refine J_iase (j := NR) dX11_rent_81 (i1109 hI) rfl (ix_in (j := NR) rfl (by omega) (by omega)) (ix_cl (j := NR) rfl (by omega)) ?_
              refine J_aload_n dX11_rent_82 rfl 0 rfl ?_
              refine J_getr (ci := 11) (j := 9) (t := 1110) dX11_rent_83 fl_X11_22 (i1100 hI) rfl rfl rfl ?_
              refine J_aload_n dX11_rent_86 rfl 0 rfl ?_
              refine J_gete (ci := 11) (j := 7) (x := nI NR) dX11_rent_87 fl_X11_233 (i1100 hI) rfl rfl hR ?_
              refine J_iload_n dX11_rent_90 rfl 1 rfl ?_
              refine J_iase (j := NR) dX11_rent_91 (i1110 hI) rfl (ix_in (j := NR) rfl (by omega) (by omega)) (ix_cl (j := NR) rfl (by omega)) ?_
              refine J_aload_n dX11_rent_92 rfl 0 rfl ?_
              refine J_getr (ci := 11) (j := 10) (t := 1111) dX11_rent_93 fl_X11_25 (i1100 hI) rfl rfl rfl ?_
              refine J_aload_n dX11_rent_96 rfl 0 rfl ?_
              refine J_gete (ci := 11) (j := 7) (x := nI NR) dX11_rent_97 fl_X11_233 (i1100 hI) rfl rfl hR ?_
              refine J_iload_n dX11_rent_100 rfl 2 rfl ?_
              refine J_iase (j := NR) dX11_rent_101 (i1111 hI) rfl (ix_in (j := NR) rfl (by omega) (by omega)) (ix_cl (j := NR) rfl (by omega)) ?_
              refine J_aload_n dX11_rent_102 rfl 0 rfl ?_
              refine J_getr (ci := 11) (j := 11) (t := 1112) dX11_rent_103 fl_X11_28 (i1100 hI) rfl rfl rfl ?_
              refine J_aload_n dX11_rent_106 rfl 0 rfl ?_
              refine J_gete (ci := 11) (j := 7) (x := nI NR) dX11_rent_107 fl_X11_233 (i1100 hI) rfl rfl hR ?_
              refine J_iload_n dX11_rent_110 rfl 3 rfl ?_
              refine J_iase (j := NR) dX11_rent_111 (i1112 hI) rfl (ix_in (j := NR) rfl (by omega) (by omega)) (ix_cl (j := NR) rfl (by omega)) ?_
              refine J_aload_n dX11_rent_112 rfl 0 rfl ?_
              refine J_getr (ci := 11) (j := 12) (t := 1113) dX11_rent_113 fl_X11_31 (i1100 hI) rfl rfl rfl ?_
              refine J_aload_n dX11_rent_116 rfl 0 rfl ?_
              refine J_gete (ci := 11) (j := 7) (x := nI NR) dX11_rent_117 fl_X11_233 (i1100 hI) rfl rfl hR ?_
              refine J_iload dX11_rent_120 4 rfl ?_
              refine J_iase (j := NR) dX11_rent_122 (i1113 hI) rfl (ix_in (j := NR) rfl (by omega) (by omega)) (ix_cl (j := NR) rfl (by omega)) ?_
              refine J_aload_n dX11_rent_123 rfl 0 rfl ?_
              refine J_getr (ci := 11) (j := 13) (t := 1114) dX11_rent_124 fl_X11_34 (i1100 hI) rfl rfl rfl ?_
              refine J_aload_n dX11_rent_127 rfl 0 rfl ?_
              refine J_gete (ci := 11) (j := 7) (x := nI NR) dX11_rent_128 fl_X11_233 (i1100 hI) rfl rfl hR ?_
              refine J_iload dX11_rent_131 4 rfl ?_
              refine J_aload_n dX11_rent_133 rfl 0 rfl ?_
              refine J_iload_n dX11_rent_134 rfl 2 rfl ?_
              refine J_iload_n dX11_rent_135 rfl 3 rfl ?_
              refine J_eVI (z := mX11_priceOf) (As := [.int x2, .int x3]) (rest := [.int x4, .int (nI NR), .ref 1114]) (ci := 11) (x := f_X11_priceOf (up2 (up2 (up2 (up2 (up2 (up2 v 1100 2 0) 1109 NR (v 1100 3)) 1110 NR x1) 1111 NR x2) 1112 NR x3) 1113 NR x4) M x2 x3) dX11_rent_136 ml_X11_227 ok_X11_priceOf iv_X11_priceOf (by decide) (i1100 hI) rfl rfl rfl rfl (Nat.le_of_ble_eq_true rfl) (k_X11_priceOf hI (up2 (up2 (up2 (up2 (up2 (up2 v 1100 2 0) 1109 NR (v 1100 3)) 1110 NR x1) 1111 NR x2) 1112 NR x3) 1113 NR x4) u M _ _ hM0 hM (by first | assumption | exact lf_in hL hL2 (by assumption) | exact rt_in hR hR2 (by assumption) | exact nt_in hN hW.1 (by assumption) | exact (fun h => absurd rfl h) | exact (fun _ => lf_in hL hL2 (by assumption)) | exact (fun h => absurd (by assumption) h)) (by first | assumption | exact lf_in hL hL2 (by assumption) | exact rt_in hR hR2 (by assumption) | exact nt_in hN hW.1 (by assumption) | exact (fun h => absurd rfl h) | exact (fun _ => lf_in hL hL2 (by assumption)) | exact (fun h => absurd (by assumption) h))) ?_
              refine J_imul dX11_rent_139 ?_
              refine J_iase (j := NR) dX11_rent_140 (i1114 hI) rfl (ix_in (j := NR) rfl (by omega) (by omega)) (ix_cl (j := NR) rfl (by omega)) ?_
              refine J_aload_n dX11_rent_141 rfl 0 rfl ?_
              refine J_dup dX11_rent_142 rfl ?_
              refine J_gete (ci := 11) (j := 7) (x := nI NR) dX11_rent_143 fl_X11_233 (i1100 hI) rfl rfl hR ?_
              refine J_iconst (x := 1) dX11_rent_146 (by decide) ?_
              refine J_iadd dX11_rent_147 ?_
              refine J_puti (ci := 11) (j := 7) dX11_rent_148 fl_X11_233 (i1100 hI) rfl rfl (fun q h => by cases h; rfl) rfl ?_
              refine J_aload_n dX11_rent_151 rfl 0 rfl ?_
              refine J_gete (ci := 11) (j := 7) (x := (nI NR) + 1) dX11_rent_152 fl_X11_233 (i1100 hI) rfl rfl rfl ?_
              refine J_iconst (x := 1) dX11_rent_155 (by decide) ?_
              refine J_isub dX11_rent_156 ?_
              exact J_iret dX11_rent_157 rfl ⟨_, rfl, rfl, by unfold f_X11_rent; rw [if_neg c1, if_neg c2, if_neg c3, if_pos c4, if_neg c5, if_neg c6], by unfold f_X11_rent; rw [if_neg c1, if_neg c2, if_neg c3, if_pos c4, if_neg c5, if_neg c6]⟩
            · refine J_iconst (x := (-1)) dX11_rent_67 (by decide) ?_
              exact J_iret dX11_rent_68 rfl ⟨_, rfl, rfl, by unfold f_X11_rent; rw [if_neg c1, if_neg c2, if_neg c3, if_pos c4, if_neg c5, if_pos c6], by unfold f_X11_rent; rw [if_neg c1, if_neg c2, if_neg c3, if_pos c4, if_neg c5, if_pos c6]⟩
        · refine J_aload_n dX11_rent_34 rfl 0 rfl ?_
          refine J_iload_n dX11_rent_35 rfl 3 rfl ?_
          refine J_eVI (z := mX11_isLife) (As := [.int x3]) (rest := []) (ci := 11) (x := f_X11_isLife (up2 v 1100 2 0)  x3) dX11_rent_36 ml_X11_221 ok_X11_isLife iv_X11_isLife (by decide) (i1100 hI) rfl rfl rfl rfl (Nat.le_of_ble_eq_true rfl) (k_X11_isLife hI (up2 v 1100 2 0) u _ ) ?_
          refine J_if_eq (tgt := 67) dX11_rent_39 (by decide) (fun c7 => ?_) (fun c7 => ?_)
          · refine J_iconst (x := (-1)) dX11_rent_67 (by decide) ?_
            exact J_iret dX11_rent_68 rfl ⟨_, rfl, rfl, by unfold f_X11_rent; rw [if_neg c1, if_neg c2, if_neg c3, if_neg c4, if_pos c7], by unfold f_X11_rent; rw [if_neg c1, if_neg c2, if_neg c3, if_neg c4, if_pos c7]⟩
          · refine J_iload_n dX11_rent_42 rfl 2 rfl ?_
            refine J_iload_n dX11_rent_43 rfl 3 rfl ?_
            refine J_icmp_eq (tgt := 67) dX11_rent_44 (by decide) (fun c8 => ?_) (fun c8 => ?_)
            · refine J_iconst (x := (-1)) dX11_rent_67 (by decide) ?_
              exact J_iret dX11_rent_68 rfl ⟨_, rfl, rfl, by unfold f_X11_rent; rw [if_neg c1, if_neg c2, if_neg c3, if_neg c4, if_neg c7, if_pos c8], by unfold f_X11_rent; rw [if_neg c1, if_neg c2, if_neg c3, if_neg c4, if_neg c7, if_pos c8]⟩
            · refine J_iload dX11_rent_47 4 rfl ?_
              refine J_iconst (x := 1) dX11_rent_49 (by decide) ?_
              refine J_bipush (x := 99) dX11_rent_50 (by decide) ?_
              refine J_eSI (z := mX11_isIn) (As := [.int x4, .int 1, .int 99]) (rest := []) (x := f_X11_isIn (up2 v 1100 2 0)  x4 1 99) dX11_rent_52 ml_X11_204 ok_X11_isIn iv_X11_isIn (by decide) rfl rfl (Nat.le_of_ble_eq_true rfl) (k_X11_isIn hI (up2 v 1100 2 0) u _ _ _ ) ?_
              refine J_if_eq (tgt := 67) dX11_rent_55 (by decide) (fun c9 => ?_) (fun c9 => ?_)
              · refine J_iconst (x := (-1)) dX11_rent_67 (by decide) ?_
                exact J_iret dX11_rent_68 rfl ⟨_, rfl, rfl, by unfold f_X11_rent; rw [if_neg c1, if_neg c2, if_neg c3, if_neg c4, if_neg c7, if_neg c8, if_pos c9], by unfold f_X11_rent; rw [if_neg c1, if_neg c2, if_neg c3, if_neg c4, if_neg c7, if_neg c8, if_pos c9]⟩
              · refine J_aload_n dX11_rent_58 rfl 0 rfl ?_
                refine J_iload_n dX11_rent_59 rfl 2 rfl ?_
                refine J_iload_n dX11_rent_60 rfl 3 rfl ?_
                refine J_eVI (z := mX11_mayBe) (As := [.int x2, .int x3]) (rest := []) (ci := 11) (x := f_X11_mayBe (up2 v 1100 2 0) M x2 x3) dX11_rent_61 ml_X11_224 ok_X11_mayBe iv_X11_mayBe (by decide) (i1100 hI) rfl rfl rfl rfl (Nat.le_of_ble_eq_true rfl) (k_X11_mayBe hI (up2 v 1100 2 0) u M _ _ hM0 hM (by first | assumption | exact lf_in hL hL2 (by assumption) | exact rt_in hR hR2 (by assumption) | exact nt_in hN hW.1 (by assumption) | exact (fun h => absurd rfl h) | exact (fun _ => lf_in hL hL2 (by assumption)) | exact (fun h => absurd (by assumption) h)) (by first | assumption | exact lf_in hL hL2 (by assumption) | exact rt_in hR hR2 (by assumption) | exact nt_in hN hW.1 (by assumption) | exact (fun h => absurd rfl h) | exact (fun _ => lf_in hL hL2 (by assumption)) | exact (fun h => absurd (by assumption) h))) ?_
                refine J_if_ne (tgt := 69) dX11_rent_64 (by decide) (fun c10 => ?_) (fun c10 => ?_)
                · have hR3 : NR < 16 := ne_lt hR2 (by assumption)
                  refine J_aload_n dX11_rent_69 rfl 0 rfl ?_
                  refine J_getr (ci := 11) (j := 8) (t := 1109) dX11_rent_70 fl_X11_19 (i1100 hI) rfl rfl rfl ?_
                  refine J_aload_n dX11_rent_73 rfl 0 rfl ?_
                  refine J_gete (ci := 11) (j := 7) (x := nI NR) dX11_rent_74 fl_X11_233 (i1100 hI) rfl rfl hR ?_
                  refine J_aload_n dX11_rent_77 rfl 0 rfl ?_
                  refine J_gete (ci := 11) (j := 3) (x := v 1100 3) dX11_rent_78 fl_X11_208 (i1100 hI) rfl rfl rfl ?_
                  refine J_iase (j := NR) dX11_rent_81 (i1109 hI) rfl (ix_in (j := NR) rfl (by omega) (by omega)) (ix_cl (j := NR) rfl (by omega)) ?_
                  refine J_aload_n dX11_rent_82 rfl 0 rfl ?_
                  refine J_getr (ci := 11) (j := 9) (t := 1110) dX11_rent_83 fl_X11_22 (i1100 hI) rfl rfl rfl ?_
                  refine J_aload_n dX11_rent_86 rfl 0 rfl ?_
                  refine J_gete (ci := 11) (j := 7) (x := nI NR) dX11_rent_87 fl_X11_233 (i1100 hI) rfl rfl hR ?_
                  refine J_iload_n dX11_rent_90 rfl 1 rfl ?_
                  refine J_iase (j := NR) dX11_rent_91 (i1110 hI) rfl (ix_in (j := NR) rfl (by omega) (by omega)) (ix_cl (j := NR) rfl (by omega)) ?_
                  refine J_aload_n dX11_rent_92 rfl 0 rfl ?_
                  refine J_getr (ci := 11) (j := 10) (t := 1111) dX11_rent_93 fl_X11_25 (i1100 hI) rfl rfl rfl ?_
                  refine J_aload_n dX11_rent_96 rfl 0 rfl ?_
                  refine J_gete (ci := 11) (j := 7) (x := nI NR) dX11_rent_97 fl_X11_233 (i1100 hI) rfl rfl hR ?_
                  refine J_iload_n dX11_rent_100 rfl 2 rfl ?_
                  refine J_iase (j := NR) dX11_rent_101 (i1111 hI) rfl (ix_in (j := NR) rfl (by omega) (by omega)) (ix_cl (j := NR) rfl (by omega)) ?_
                  refine J_aload_n dX11_rent_102 rfl 0 rfl ?_
                  refine J_getr (ci := 11) (j := 11) (t := 1112) dX11_rent_103 fl_X11_28 (i1100 hI) rfl rfl rfl ?_
                  refine J_aload_n dX11_rent_106 rfl 0 rfl ?_
                  refine J_gete (ci := 11) (j := 7) (x := nI NR) dX11_rent_107 fl_X11_233 (i1100 hI) rfl rfl hR ?_
                  refine J_iload_n dX11_rent_110 rfl 3 rfl ?_
                  refine J_iase (j := NR) dX11_rent_111 (i1112 hI) rfl (ix_in (j := NR) rfl (by omega) (by omega)) (ix_cl (j := NR) rfl (by omega)) ?_
                  refine J_aload_n dX11_rent_112 rfl 0 rfl ?_
                  refine J_getr (ci := 11) (j := 12) (t := 1113) dX11_rent_113 fl_X11_31 (i1100 hI) rfl rfl rfl ?_
                  refine J_aload_n dX11_rent_116 rfl 0 rfl ?_
                  refine J_gete (ci := 11) (j := 7) (x := nI NR) dX11_rent_117 fl_X11_233 (i1100 hI) rfl rfl hR ?_
                  refine J_iload dX11_rent_120 4 rfl ?_
                  refine J_iase (j := NR) dX11_rent_122 (i1113 hI) rfl (ix_in (j := NR) rfl (by omega) (by omega)) (ix_cl (j := NR) rfl (by omega)) ?_
                  refine J_aload_n dX11_rent_123 rfl 0 rfl ?_
                  refine J_getr (ci := 11) (j := 13) (t := 1114) dX11_rent_124 fl_X11_34 (i1100 hI) rfl rfl rfl ?_
                  refine J_aload_n dX11_rent_127 rfl 0 rfl ?_
                  refine J_gete (ci := 11) (j := 7) (x := nI NR) dX11_rent_128 fl_X11_233 (i1100 hI) rfl rfl hR ?_
                  refine J_iload dX11_rent_131 4 rfl ?_
                  refine J_aload_n dX11_rent_133 rfl 0 rfl ?_
                  refine J_iload_n dX11_rent_134 rfl 2 rfl ?_
                  refine J_iload_n dX11_rent_135 rfl 3 rfl ?_
                  refine J_eVI (z := mX11_priceOf) (As := [.int x2, .int x3]) (rest := [.int x4, .int (nI NR), .ref 1114]) (ci := 11) (x := f_X11_priceOf (up2 (up2 (up2 (up2 (up2 (up2 v 1100 2 0) 1109 NR (v 1100 3)) 1110 NR x1) 1111 NR x2) 1112 NR x3) 1113 NR x4) M x2 x3) dX11_rent_136 ml_X11_227 ok_X11_priceOf iv_X11_priceOf (by decide) (i1100 hI) rfl rfl rfl rfl (Nat.le_of_ble_eq_true rfl) (k_X11_priceOf hI (up2 (up2 (up2 (up2 (up2 (up2 v 1100 2 0) 1109 NR (v 1100 3)) 1110 NR x1) 1111 NR x2) 1112 NR x3) 1113 NR x4) u M _ _ hM0 hM (by first | assumption | exact lf_in hL hL2 (by assumption) | exact rt_in hR hR2 (by assumption) | exact nt_in hN hW.1 (by assumption) | exact (fun h => absurd rfl h) | exact (fun _ => lf_in hL hL2 (by assumption)) | exact (fun h => absurd (by assumption) h)) (by first | assumption | exact lf_in hL hL2 (by assumption) | exact rt_in hR hR2 (by assumption) | exact nt_in hN hW.1 (by assumption) | exact (fun h => absurd rfl h) | exact (fun _ => lf_in hL hL2 (by assumption)) | exact (fun h => absurd (by assumption) h))) ?_
                  refine J_imul dX11_rent_139 ?_
                  refine J_iase (j := NR) dX11_rent_140 (i1114 hI) rfl (ix_in (j := NR) rfl (by omega) (by omega)) (ix_cl (j := NR) rfl (by omega)) ?_
                  refine J_aload_n dX11_rent_141 rfl 0 rfl ?_
                  refine J_dup dX11_rent_142 rfl ?_
                  refine J_gete (ci := 11) (j := 7) (x := nI NR) dX11_rent_143 fl_X11_233 (i1100 hI) rfl rfl hR ?_
                  refine J_iconst (x := 1) dX11_rent_146 (by decide) ?_
                  refine J_iadd dX11_rent_147 ?_
                  refine J_puti (ci := 11) (j := 7) dX11_rent_148 fl_X11_233 (i1100 hI) rfl rfl (fun q h => by cases h; rfl) rfl ?_
                  refine J_aload_n dX11_rent_151 rfl 0 rfl ?_
                  refine J_gete (ci := 11) (j := 7) (x := (nI NR) + 1) dX11_rent_152 fl_X11_233 (i1100 hI) rfl rfl rfl ?_
                  refine J_iconst (x := 1) dX11_rent_155 (by decide) ?_
                  refine J_isub dX11_rent_156 ?_
                  exact J_iret dX11_rent_157 rfl ⟨_, rfl, rfl, by unfold f_X11_rent; rw [if_neg c1, if_neg c2, if_neg c3, if_neg c4, if_neg c7, if_neg c8, if_neg c9, if_neg c10], by unfold f_X11_rent; rw [if_neg c1, if_neg c2, if_neg c3, if_neg c4, if_neg c7, if_neg c8, if_neg c9, if_neg c10]⟩
                · refine J_iconst (x := (-1)) dX11_rent_67 (by decide) ?_
                  exact J_iret dX11_rent_68 rfl ⟨_, rfl, rfl, by unfold f_X11_rent; rw [if_neg c1, if_neg c2, if_neg c3, if_neg c4, if_neg c7, if_neg c8, if_neg c9, if_pos c10], by unfold f_X11_rent; rw [if_neg c1, if_neg c2, if_neg c3, if_neg c4, if_neg c7, if_neg c8, if_neg c9, if_pos c10]⟩
theorem grp_in {v : fr_V} {x : Int32} {s : Nat} (hs : s < 2 ^ 31) (hx : x = nI s) : ∃ g, g ≤ 9 ∧ f_X11_groupOf v x = nI g := by
  subst hx
  unfold f_X11_groupOf
  by_cases h : nI s ≤ 99
  · rw [if_pos h]
    have h2 : s ≤ 99 := nz_le (b := 99) hs (by omega) h
    exact ⟨s / 10, by omega, pk_div (d := 10) hs (by omega) (by omega)⟩
  · rw [if_neg h]; exact ⟨9, by omega, rfl⟩
theorem lo_in {v : fr_V} {c g : Int32} {i : Nat} (hi : i ≤ 3) (hc : c = nI i) (hg : ∃ g0, g0 ≤ 9 ∧ g = nI g0) : vp_in (10 * c + g) 40 := by
  obtain ⟨j, hj, rfl⟩ := hg
  subst hc
  show vp_in (nI 10 * nI i + nI j) 40
  rw [pk_mul, nI_add]
  exact vp_in_nI (by omega) (by omega)
def sp_wo (Y : Int32 → Int32 → Int32) (live : Nat → Int32) (ag : Int32) : Nat → Int32 → Int32
  | 0, w => w
  | s + 1, w => if nI s < ag then w else sp_wo Y live ag s (Y w (live s))
theorem sp_wo_s (Y : Int32 → Int32 → Int32) (live : Nat → Int32) (ag : Int32) (s : Nat) (w : Int32) : sp_wo Y live ag (s + 1) w = if nI s < ag then w else sp_wo Y live ag s (Y w (live s)) := rfl
theorem lt0 {x : Int32} (h : ¬ x < 0) : nI 0 - 1 < x := by
  obtain ⟨j, hj, rfl⟩ := nI_of h
  rw [Int32.lt_iff_toInt_lt, nI_toInt hj]
  have : (nI 0 - 1).toInt = -1 := by decide
  omega
theorem wo_L {l : Launch} {I : List Nat} (hI : fr_I I) (v : fr_V) (u : fr_U) (x1 : Int32) (h1 : vp_in x1 12) (i : Nat) (hi : i ≤ 3) (hc : v 1107 x1.toNatClampNeg = nI i) (hr : ¬ v 1141 2 + 1 = 0) (ha : ¬ f_X11_ageIn v x1 (v 1100 3) < 0) : ∀ (t : Nat) (w : Int32) (ht : t ≤ 100), J l mX11_worthOf I v u 5 [(0, .ref 1100), (1, .int x1), (2, .int w), (3, .int (nI t - 1))] [] (QI v u (fun a => a = sp_wo (f_X11_yearBack v) (fun a => f_X11_liveOf v x1 (nI a)) (f_X11_ageIn v x1 (v 1100 3)) t w)) := by
  intro t
  induction t with
  | zero =>
    intro w ht
    refine J_iload_n dX11_worthOf_5 rfl 3 rfl ?_
    refine J_aload_n dX11_worthOf_6 rfl 0 rfl ?_
    refine J_iload_n dX11_worthOf_7 rfl 1 rfl ?_
    refine J_aload_n dX11_worthOf_8 rfl 0 rfl ?_
    refine J_gete (ci := 11) (j := 3) (x := v 1100 3) dX11_worthOf_9 fl_X11_208 (i1100 hI) rfl rfl rfl ?_
    refine J_eVI (z := mX11_ageIn) (As := [.int x1, .int (v 1100 3)]) (rest := [.int (nI 0 - 1)]) (ci := 11) (x := f_X11_ageIn v  x1 (v 1100 3)) dX11_worthOf_12 ml_X11_214 ok_X11_ageIn iv_X11_ageIn (by decide) (i1100 hI) rfl rfl rfl rfl (Nat.le_of_ble_eq_true rfl) (k_X11_ageIn hI v u _ _ h1) ?_
    refine J_icmp_lt (tgt := 36) dX11_worthOf_15 (by decide) (fun c1 => ?_) (fun c1 => absurd (lt0 ha) c1)
    refine J_iload_n dX11_worthOf_36 rfl 2 rfl ?_
    exact J_iret dX11_worthOf_37 rfl ⟨_, rfl, rfl, rfl, rfl⟩
  | succ s ih =>
    intro w ht
    rw [nI_pred]
    refine J_iload_n dX11_worthOf_5 rfl 3 rfl ?_
    refine J_aload_n dX11_worthOf_6 rfl 0 rfl ?_
    refine J_iload_n dX11_worthOf_7 rfl 1 rfl ?_
    refine J_aload_n dX11_worthOf_8 rfl 0 rfl ?_
    refine J_gete (ci := 11) (j := 3) (x := v 1100 3) dX11_worthOf_9 fl_X11_208 (i1100 hI) rfl rfl rfl ?_
    refine J_eVI (z := mX11_ageIn) (As := [.int x1, .int (v 1100 3)]) (rest := [.int (nI s)]) (ci := 11) (x := f_X11_ageIn v  x1 (v 1100 3)) dX11_worthOf_12 ml_X11_214 ok_X11_ageIn iv_X11_ageIn (by decide) (i1100 hI) rfl rfl rfl rfl (Nat.le_of_ble_eq_true rfl) (k_X11_ageIn hI v u _ _ h1) ?_
    refine J_icmp_lt (tgt := 36) dX11_worthOf_15 (by decide) (fun c1 => ?_) (fun c1 => ?_)
    · refine J_iload_n dX11_worthOf_36 rfl 2 rfl ?_
      exact J_iret dX11_worthOf_37 rfl ⟨_, rfl, rfl, rfl, by rw [sp_wo_s, if_pos c1]⟩
    · refine J_aload_n dX11_worthOf_18 rfl 0 rfl ?_
      refine J_iload_n dX11_worthOf_19 rfl 2 rfl ?_
      refine J_aload_n dX11_worthOf_20 rfl 0 rfl ?_
      refine J_iload_n dX11_worthOf_21 rfl 1 rfl ?_
      refine J_iload_n dX11_worthOf_22 rfl 3 rfl ?_
      refine J_eVI (z := mX11_liveOf) (As := [.int x1, .int (nI s)]) (rest := [.int w, .ref 1100]) (ci := 11) (x := f_X11_liveOf v  x1 (nI s)) dX11_worthOf_23 ml_X11_302 ok_X11_liveOf iv_X11_liveOf (by decide) (i1100 hI) rfl rfl rfl rfl (Nat.le_of_ble_eq_true rfl) (k_X11_liveOf hI v u _ _ h1 (lo_in (v := v) hi hc (grp_in (by omega) rfl))) ?_
      refine J_eVI (z := mX11_yearBack) (As := [.int w, .int (f_X11_liveOf v  x1 (nI s))]) (rest := []) (ci := 11) (x := f_X11_yearBack v  w (f_X11_liveOf v  x1 (nI s))) dX11_worthOf_26 ml_X11_305 ok_X11_yearBack iv_X11_yearBack (by decide) (i1100 hI) rfl rfl rfl rfl (Nat.le_of_ble_eq_true rfl) (k_X11_yearBack hI v u _ _ hr) ?_
      refine J_istore_n (lv' := [(2, .int (f_X11_yearBack v  w (f_X11_liveOf v  x1 (nI s)))), (0, .ref 1100), (1, .int x1), (3, .int (nI s))]) dX11_worthOf_29 rfl (by decide) rfl ?_
      refine J_iinc (q := 3) (z := nI s - 1) (lv' := [(3, .int (nI s - 1)), (2, .int (f_X11_yearBack v  w (f_X11_liveOf v  x1 (nI s)))), (0, .ref 1100), (1, .int x1)]) dX11_worthOf_30 rfl (dn_1 s) (by decide) rfl ?_
      refine J_goto (tgt := 5) dX11_worthOf_33 (by decide) ?_
      refine J_lv [2, 3, 1, 0] rfl ?_
      rw [sp_wo_s, if_neg c1]
      exact ih _ (by omega)
theorem k_X11_worthOf {l : Launch} {I : List Nat} (hI : fr_I I) (v : fr_V) (u : fr_U) (x1 : Int32) (h1 : vp_in x1 12) (i : Nat) (hi : i ≤ 3) (hc : v 1107 x1.toNatClampNeg = nI i) (hr : ¬ v 1141 2 + 1 = 0) (ha : ¬ f_X11_ageIn v x1 (v 1100 3) < 0) : Con l mX11_worthOf I v u [.ref 1100, .int x1] (QI v u (fun a => a = sp_wo (f_X11_yearBack v) (fun a => f_X11_liveOf v x1 (nI a)) (f_X11_ageIn v x1 (v 1100 3)) 100 0)) := by
  refine Con.of (by decide) (Nat.le_of_ble_eq_true rfl) ?_
  show J l mX11_worthOf I v u 0 [(0, .ref 1100), (1, .int x1)] [] _
  refine J_iconst (x := 0) dX11_worthOf_0 (by decide) ?_
  refine J_istore_n (lv' := [(2, .int 0), (0, .ref 1100), (1, .int x1)]) dX11_worthOf_1 rfl (by decide) rfl ?_
  refine J_bipush (x := 99) dX11_worthOf_2 (by decide) ?_
  refine J_istore_n (lv' := [(3, .int 99), (2, .int 0), (0, .ref 1100), (1, .int x1)]) dX11_worthOf_4 rfl (by decide) rfl ?_
  refine J_lv [2, 3, 1, 0] rfl ?_
  exact wo_L hI v u x1 h1 i hi hc hr ha 100 0 (by omega)
