theorem py_same.rf (z : fr_V) : py_same z z := ⟨rfl, rfl, rfl, rfl, rfl, rfl, rfl, rfl⟩
theorem py_same_2 {z : fr_V} {x : Int32} : py_same (up2 z 1100 2 x) z := ⟨rfl, rfl, rfl, rfl, rfl, rfl, rfl, rfl⟩
theorem py_same_h {N NS r k h0 : Nat} {w0 : fr_V} : ∀ s, py_same (py_h N NS r k h0 w0 s) w0 := by
  intro s
  induction s with
  | zero => exact py_same.rf _
  | succ s ih =>
    rw [py_h_s]
    refine py_same.tr ?_ ih
    unfold py_h_t
    repeat' split
    all_goals first | exact py_same.rf _ | exact py_same_sh.tr (py_same_row (Or.inl rfl))
theorem py_same_r {N NS ar k : Nat} {w0 : fr_V} : ∀ r, py_same (py_r N NS ar k w0 r) w0 := by
  intro r
  induction r with
  | zero => exact py_same.rf _
  | succ r ih => rw [py_r_s]; exact (py_same_h _).tr ih
theorem py_same_k {nr N NS ar : Nat} {w0 : fr_V} : ∀ k, py_same (py_k nr N NS ar w0 k) w0 := by
  intro k
  induction k with
  | zero => exact py_same.rf _
  | succ k ih => rw [py_k_s]; exact (py_same_r _).tr (py_same_kn.tr ih)
theorem py_same_b {w0 : fr_V} : ∀ j, py_same (py_b w0 j) w0 := by
  intro j
  induction j with
  | zero => exact py_same.rf _
  | succ j ih => rw [py_b_s]; exact (py_same_row (Or.inr rfl)).tr ih
theorem py_same_a {w0 : fr_V} : ∀ j, py_same (py_a w0 j) w0 := by
  intro j
  induction j with
  | zero => exact py_same.rf _
  | succ j ih => rw [py_a_s]; exact (py_same_row (Or.inl rfl)).tr ih
theorem py_same_p {v : fr_V} {nr N NS ar E : Nat} : py_same (f_pays v nr N NS ar E) v := by
  unfold f_pays
  exact (py_same_k _).tr (py_same_48.tr ((py_same_b _).tr (py_same_a _)))
theorem k2_pays {l : Launch} {I : List Nat} (hI : fr_I I) (v : fr_V) (u : fr_U) (nr N NS ar : Nat) (hv : py_ok nr N NS ar v) (x : Int32) (hx : ∃ E, E ≤ 79 ∧ x = nI E) : Con l mX11_pays I v u [.ref 1100, .int x] (QN u (fun a => a = f_pays v nr N NS ar x.toNatClampNeg)) := by
  obtain ⟨E, hE, rfl⟩ := hx
  rw [nI_clamp (by omega)]
  exact k_X11_pays hI v u nr N NS ar E (by omega) hv
theorem k2_isProved {l : Launch} {I : List Nat} (hI : fr_I I) (v : fr_V) (u : fr_U) (x1 x2 : Int32) (N : Nat) (hN : v 1100 16 = nI N) (hW : nt_ok (v 1118) (v 1119) N) (h : vp_in x1 16) : Con l mX11_isProved I v u [.ref 1100, .int x1, .int x2] (QI v u (fun a => a = f_isProved v N x1.toNatClampNeg x2)) := by
  obtain ⟨r, hr, rfl⟩ := vp_in_of h (by omega)
  rw [nI_clamp (by omega)]
  exact k_X11_isProved hI v u r hr x2 N hN hW
theorem py_fs {v : fr_V} {nr N NS ar : Nat} {x a : Int32} (hv : py_ok nr N NS ar v) (ha : a = nI nr) (h1 : ¬ x < 0) (h2 : ¬ a ≤ x) : (¬ v 1111 x.toNatClampNeg = (-1) → vp_in (v 1111 x.toNatClampNeg) 12) ∧ (¬ v 1112 x.toNatClampNeg = (-1) → vp_in (v 1112 x.toNatClampNeg) 12) := by
  obtain ⟨j, hj, rfl⟩ := nI_of h1
  rw [ha] at h2
  have := hv.2.1
  have h3 : j < nr := nz_nle (by omega) hj h2
  rw [nI_clamp hj]
  exact hv.2.2.2.2.2.2.2.2 j h3
def f_owedOf (v : fr_V) (r : Nat) : Int32 := sp_ow (fun j => v 1147 (80 * r + j)) (fun j => f_X11_isDue v (nI r) (nI j)) (v 1113 r) 80
theorem k2_owedOf {l : Launch} {I : List Nat} (hI : fr_I I) (v : fr_V) (u : fr_U) (x1 : Int32) (h : vp_in x1 16) (h2 : ¬ v 1111 x1.toNatClampNeg = (-1) → vp_in (v 1111 x1.toNatClampNeg) 12) (h3 : ¬ v 1112 x1.toNatClampNeg = (-1) → vp_in (v 1112 x1.toNatClampNeg) 12) : Con l mX11_owedOf I v u [.ref 1100, .int x1] (QI v u (fun a => a = f_owedOf v x1.toNatClampNeg)) := by
  obtain ⟨r, hr, rfl⟩ := vp_in_of h (by omega)
  rw [nI_clamp (by omega)] at h2 h3 ⊢
  exact k_X11_owedOf hI v u r hr h2 h3
theorem half_ne {v : fr_V} {x : Int32} (c : ¬ f_X11_isHalf v x = 0) : ∃ E, E ≤ 79 ∧ x = nI E := by
  unfold f_X11_isHalf at c
  by_cases h1 : x < 0
  · rw [if_pos h1] at c; exact absurd rfl c
  · by_cases h2 : 79 < x
    · rw [if_neg h1, if_pos h2] at c; exact absurd rfl c
    · exact rng_of (m := 79) (by omega) h1 h2
theorem holder_in {v : fr_V} {x : Int32} (c : ¬ f_X11_isHolder v x = 0) : vp_in x 8 := by
  unfold f_X11_isHolder at c
  by_cases h1 : x < 0
  · rw [if_pos h1] at c; exact absurd rfl c
  · by_cases h2 : 8 ≤ x
    · rw [if_neg h1, if_pos h2] at c; exact absurd rfl c
    · exact lim_in (n := 8) rfl (by omega) (by omega) h1 h2
theorem pd_in {x z : Int32} (h : vp_in x 16) (hz : ∃ E, E ≤ 79 ∧ z = nI E) : vp_in (80 * x + z) 1280 := by
  obtain ⟨r, hr, rfl⟩ := vp_in_of h (by omega)
  obtain ⟨e, he, rfl⟩ := hz
  show vp_in (nI 80 * nI r + nI e) 1280
  rw [pk_mul, nI_add]
  exact vp_in_nI (by omega) (by omega)
theorem now_in {v : fr_V} {x a : Int32} {E : Nat} (ha : a = nI E) (hE : E ≤ 79) (c : ¬ f_X11_isIn v x 0 a = 0) : ∃ E, E ≤ 79 ∧ x = nI E := by
  rw [ha] at c
  obtain ⟨e, he, h⟩ := rng_of (m := E) (by omega) (isIn_ne c).1 (isIn_ne c).2
  exact ⟨e, by omega, h⟩
noncomputable def f_X11_paid (v : fr_V) (nr : Nat) (N : Nat) (NS : Nat) (ar : Nat) (x1 x2 x3 : Int32) : Int32 × fr_V := if (f_X11_isRent (up2 v 1100 2 0)  x1) = 0 then ((-1), up2 v 1100 2 0) else if (f_X11_isHalf (up2 v 1100 2 0)  x2) = 0 then ((-1), up2 v 1100 2 0) else if (f_X11_isIn (up2 v 1100 2 0)  x3 0 2) = 0 then ((-1), up2 v 1100 2 0) else if x3 = 0 then ((f_pays (up2 v 1100 2 0) nr N NS ar (v 1100 3).toNatClampNeg) 1147 (((80 * x1) + x2).toNatClampNeg), f_pays (up2 v 1100 2 0) nr N NS ar (v 1100 3).toNatClampNeg) else if x3 = 1 then (if (f_X11_isDue (f_pays (up2 v 1100 2 0) nr N NS ar (v 1100 3).toNatClampNeg) x1 x2) = 0 then (0, f_pays (up2 v 1100 2 0) nr N NS ar (v 1100 3).toNatClampNeg) else (1, f_pays (up2 v 1100 2 0) nr N NS ar (v 1100 3).toNatClampNeg)) else if (f_isProved (f_pays (up2 v 1100 2 0) nr N NS ar (v 1100 3).toNatClampNeg) N x1.toNatClampNeg x2) = 0 then (0, f_pays (up2 v 1100 2 0) nr N NS ar (v 1100 3).toNatClampNeg) else (1, f_pays (up2 v 1100 2 0) nr N NS ar (v 1100 3).toNatClampNeg)
theorem k_X11_paid {l : Launch} {I : List Nat} (hI : fr_I I) (v : fr_V) (u : fr_U) (nr : Nat) (N : Nat) (NS : Nat) (ar : Nat) (x1 x2 x3 : Int32) (hv : py_ok nr N NS ar v) (E : Nat) (hE0 : v 1100 3 = nI E) (hE : E ≤ 79) : Con l mX11_paid I v u [.ref 1100, .int x1, .int x2, .int x3] (QX u (fun a b => a = (f_X11_paid v nr N NS ar x1 x2 x3).1 ∧ b = (f_X11_paid v nr N NS ar x1 x2 x3).2)) := by
  refine Con.of (by decide) (Nat.le_of_ble_eq_true rfl) ?_
  show J l mX11_paid I v u 0 [(0, .ref 1100), (1, .int x1), (2, .int x2), (3, .int x3)] [] _
  refine J_aload_n dX11_paid_0 rfl 0 rfl ?_
  refine J_iconst (x := 0) dX11_paid_1 (by decide) ?_
  refine J_puti (ci := 11) (j := 2) dX11_paid_2 fl_X11_129 (i1100 hI) rfl rfl (fun q h => by cases h; rfl) rfl ?_
  refine J_aload_n dX11_paid_5 rfl 0 rfl ?_
  refine J_iload_n dX11_paid_6 rfl 1 rfl ?_
  refine J_eVI (z := mX11_isRent) (As := [.int x1]) (rest := []) (ci := 11) (x := f_X11_isRent (up2 v 1100 2 0)  x1) dX11_paid_7 ml_X11_242 ok_X11_isRent iv_X11_isRent (by decide) (i1100 hI) rfl rfl rfl rfl (Nat.le_of_ble_eq_true rfl) (k_X11_isRent hI (up2 v 1100 2 0) u _ ) ?_
  refine J_if_eq (tgt := 29) dX11_paid_10 (by decide) (fun c1 => ?_) (fun c1 => ?_)
  · refine J_iconst (x := (-1)) dX11_paid_29 (by decide) ?_
    exact J_iret dX11_paid_30 rfl ⟨_, rfl, rfl, by unfold f_X11_paid; rw [if_pos c1], by unfold f_X11_paid; rw [if_pos c1]⟩
  · refine J_iload_n dX11_paid_13 rfl 2 rfl ?_
    refine J_eSI (z := mX11_isHalf) (As := [.int x2]) (rest := []) (x := f_X11_isHalf (up2 v 1100 2 0)  x2) dX11_paid_14 ml_X11_249 ok_X11_isHalf iv_X11_isHalf (by decide) rfl rfl (Nat.le_of_ble_eq_true rfl) (k_X11_isHalf hI (up2 v 1100 2 0) u _ ) ?_
    refine J_if_eq (tgt := 29) dX11_paid_17 (by decide) (fun c2 => ?_) (fun c2 => ?_)
    · refine J_iconst (x := (-1)) dX11_paid_29 (by decide) ?_
      exact J_iret dX11_paid_30 rfl ⟨_, rfl, rfl, by unfold f_X11_paid; rw [if_neg c1, if_pos c2], by unfold f_X11_paid; rw [if_neg c1, if_pos c2]⟩
    · refine J_iload_n dX11_paid_20 rfl 3 rfl ?_
      refine J_iconst (x := 0) dX11_paid_21 (by decide) ?_
      refine J_iconst (x := 2) dX11_paid_22 (by decide) ?_
      refine J_eSI (z := mX11_isIn) (As := [.int x3, .int 0, .int 2]) (rest := []) (x := f_X11_isIn (up2 v 1100 2 0)  x3 0 2) dX11_paid_23 ml_X11_204 ok_X11_isIn iv_X11_isIn (by decide) rfl rfl (Nat.le_of_ble_eq_true rfl) (k_X11_isIn hI (up2 v 1100 2 0) u _ _ _ ) ?_
      refine J_if_ne (tgt := 31) dX11_paid_26 (by decide) (fun c3 => ?_) (fun c3 => ?_)
      · refine J_aload_n dX11_paid_31 rfl 0 rfl ?_
        refine J_aload_n dX11_paid_32 rfl 0 rfl ?_
        refine J_gete (ci := 11) (j := 3) (x := v 1100 3) dX11_paid_33 fl_X11_208 (i1100 hI) rfl rfl rfl ?_
        refine J_eVN (z := mX11_pays) (As := [.int (v 1100 3)]) (rest := []) (ci := 11) (w := f_pays (up2 v 1100 2 0) nr N NS ar (v 1100 3).toNatClampNeg) dX11_paid_36 ml_X11_279 ok_X11_pays iv_X11_pays (by decide) (i1100 hI) rfl rfl rfl rfl (Nat.le_of_ble_eq_true rfl) (k2_pays hI (up2 v 1100 2 0) u nr N NS ar (hv.of py_same_2) _ ⟨E, by omega, hE0⟩) ?_
        refine J_iload_n dX11_paid_39 rfl 3 rfl ?_
        refine J_if_ne (tgt := 57) dX11_paid_40 (by decide) (fun c4 => ?_) (fun c4 => ?_)
        · refine J_iload_n dX11_paid_57 rfl 3 rfl ?_
          refine J_iconst (x := 1) dX11_paid_58 (by decide) ?_
          refine J_icmp_ne (tgt := 74) dX11_paid_59 (by decide) (fun c5 => ?_) (fun c5 => ?_)
          · refine J_aload_n dX11_paid_74 rfl 0 rfl ?_
            refine J_iload_n dX11_paid_75 rfl 1 rfl ?_
            refine J_iload_n dX11_paid_76 rfl 2 rfl ?_
            refine J_eVI (z := mX11_isProved) (As := [.int x1, .int x2]) (rest := []) (ci := 11) (x := f_isProved (f_pays (up2 v 1100 2 0) nr N NS ar (v 1100 3).toNatClampNeg) N x1.toNatClampNeg x2) dX11_paid_77 ml_X11_272 ok_X11_isProved iv_X11_isProved (by decide) (i1100 hI) rfl rfl rfl rfl (Nat.le_of_ble_eq_true rfl) (k2_isProved hI (f_pays (up2 v 1100 2 0) nr N NS ar (v 1100 3).toNatClampNeg) u _ _ N (hv.of (py_same_p.tr py_same_2)).2.2.1 (hv.of (py_same_p.tr py_same_2)).2.2.2.1 (rt_in (v := up2 v 1100 2 0) hv.1 hv.2.1 (by assumption))) ?_
            refine J_if_eq (tgt := 87) dX11_paid_80 (by decide) (fun c6 => ?_) (fun c6 => ?_)
            · refine J_iconst (x := 0) dX11_paid_87 (by decide) ?_
              exact J_iret dX11_paid_88 rfl ⟨_, rfl, rfl, by unfold f_X11_paid; rw [if_neg c1, if_neg c2, if_neg c3, if_neg c4, if_neg c5, if_pos c6], by unfold f_X11_paid; rw [if_neg c1, if_neg c2, if_neg c3, if_neg c4, if_neg c5, if_pos c6]⟩
            · refine J_iconst (x := 1) dX11_paid_83 (by decide) ?_
              refine J_goto (tgt := 88) dX11_paid_84 (by decide) ?_
              exact J_iret dX11_paid_88 rfl ⟨_, rfl, rfl, by unfold f_X11_paid; rw [if_neg c1, if_neg c2, if_neg c3, if_neg c4, if_neg c5, if_neg c6], by unfold f_X11_paid; rw [if_neg c1, if_neg c2, if_neg c3, if_neg c4, if_neg c5, if_neg c6]⟩
          · refine J_aload_n dX11_paid_62 rfl 0 rfl ?_
            refine J_iload_n dX11_paid_63 rfl 1 rfl ?_
            refine J_iload_n dX11_paid_64 rfl 2 rfl ?_
            refine J_eVI (z := mX11_isDue) (As := [.int x1, .int x2]) (rest := []) (ci := 11) (x := f_X11_isDue (f_pays (up2 v 1100 2 0) nr N NS ar (v 1100 3).toNatClampNeg) x1 x2) dX11_paid_65 ml_X11_269 ok_X11_isDue iv_X11_isDue (by decide) (i1100 hI) rfl rfl rfl rfl (Nat.le_of_ble_eq_true rfl) (k_X11_isDue hI (f_pays (up2 v 1100 2 0) nr N NS ar (v 1100 3).toNatClampNeg) u _ _ (rt_in (v := up2 v 1100 2 0) hv.1 hv.2.1 (by assumption)) (py_fs (hv.of (py_same_p.tr py_same_2)) hv.1 (lim_ne (v := up2 v 1100 2 0) (k := 7) (by assumption)).1 (lim_ne (v := up2 v 1100 2 0) (k := 7) (by assumption)).2).1 (py_fs (hv.of (py_same_p.tr py_same_2)) hv.1 (lim_ne (v := up2 v 1100 2 0) (k := 7) (by assumption)).1 (lim_ne (v := up2 v 1100 2 0) (k := 7) (by assumption)).2).2) ?_
            refine J_if_eq (tgt := 87) dX11_paid_68 (by decide) (fun c7 => ?_) (fun c7 => ?_)
            · refine J_iconst (x := 0) dX11_paid_87 (by decide) ?_
              exact J_iret dX11_paid_88 rfl ⟨_, rfl, rfl, by unfold f_X11_paid; rw [if_neg c1, if_neg c2, if_neg c3, if_neg c4, if_pos c5, if_pos c7], by unfold f_X11_paid; rw [if_neg c1, if_neg c2, if_neg c3, if_neg c4, if_pos c5, if_pos c7]⟩
            · refine J_goto (tgt := 83) dX11_paid_71 (by decide) ?_
              refine J_iconst (x := 1) dX11_paid_83 (by decide) ?_
              refine J_goto (tgt := 88) dX11_paid_84 (by decide) ?_
              exact J_iret dX11_paid_88 rfl ⟨_, rfl, rfl, by unfold f_X11_paid; rw [if_neg c1, if_neg c2, if_neg c3, if_neg c4, if_pos c5, if_neg c7], by unfold f_X11_paid; rw [if_neg c1, if_neg c2, if_neg c3, if_neg c4, if_pos c5, if_neg c7]⟩
        · refine J_aload_n dX11_paid_43 rfl 0 rfl ?_
          refine J_getr (ci := 11) (j := 46) (t := 1147) dX11_paid_44 fl_X11_99 (i1100 hI) rfl rfl rfl ?_
          refine J_bipush (x := 80) dX11_paid_47 (by decide) ?_
          refine J_iload_n dX11_paid_49 rfl 1 rfl ?_
          refine J_imul dX11_paid_50 ?_
          refine J_iload_n dX11_paid_51 rfl 2 rfl ?_
          refine J_iadd dX11_paid_52 ?_
          refine J_iale (x := (f_pays (up2 v 1100 2 0) nr N NS ar (v 1100 3).toNatClampNeg) 1147 (((80 * x1) + x2).toNatClampNeg)) dX11_paid_53 (i1147 hI) rfl (pd_in (rt_in (v := up2 v 1100 2 0) hv.1 hv.2.1 c1) (half_ne c2)) rfl ?_
          refine J_goto (tgt := 88) dX11_paid_54 (by decide) ?_
          exact J_iret dX11_paid_88 rfl ⟨_, rfl, rfl, by unfold f_X11_paid; rw [if_neg c1, if_neg c2, if_neg c3, if_pos c4], by unfold f_X11_paid; rw [if_neg c1, if_neg c2, if_neg c3, if_pos c4]⟩
      · refine J_iconst (x := (-1)) dX11_paid_29 (by decide) ?_
        exact J_iret dX11_paid_30 rfl ⟨_, rfl, rfl, by unfold f_X11_paid; rw [if_neg c1, if_neg c2, if_pos c3], by unfold f_X11_paid; rw [if_neg c1, if_neg c2, if_pos c3]⟩
noncomputable def f_X11_got (v : fr_V) (nr : Nat) (N : Nat) (NS : Nat) (ar : Nat) (x1 x2 : Int32) : Int32 × fr_V := if (f_X11_isHolder (up2 v 1100 2 0)  x1) = 0 then ((-1), up2 v 1100 2 0) else if (f_X11_isIn (up2 v 1100 2 0)  x2 0 (v 1100 3)) = 0 then ((-1), up2 v 1100 2 0) else ((f_pays (up2 v 1100 2 0) nr N NS ar x2.toNatClampNeg) 1148 x1.toNatClampNeg, f_pays (up2 v 1100 2 0) nr N NS ar x2.toNatClampNeg)
theorem k_X11_got {l : Launch} {I : List Nat} (hI : fr_I I) (v : fr_V) (u : fr_U) (nr : Nat) (N : Nat) (NS : Nat) (ar : Nat) (x1 x2 : Int32) (hv : py_ok nr N NS ar v) (E : Nat) (hE0 : v 1100 3 = nI E) (hE : E ≤ 79) : Con l mX11_got I v u [.ref 1100, .int x1, .int x2] (QX u (fun a b => a = (f_X11_got v nr N NS ar x1 x2).1 ∧ b = (f_X11_got v nr N NS ar x1 x2).2)) := by
  refine Con.of (by decide) (Nat.le_of_ble_eq_true rfl) ?_
  show J l mX11_got I v u 0 [(0, .ref 1100), (1, .int x1), (2, .int x2)] [] _
  refine J_aload_n dX11_got_0 rfl 0 rfl ?_
  refine J_iconst (x := 0) dX11_got_1 (by decide) ?_
  refine J_puti (ci := 11) (j := 2) dX11_got_2 fl_X11_129 (i1100 hI) rfl rfl (fun q h => by cases h; rfl) rfl ?_
  refine J_iload_n dX11_got_5 rfl 1 rfl ?_
  refine J_eSI (z := mX11_isHolder) (As := [.int x1]) (rest := []) (x := f_X11_isHolder (up2 v 1100 2 0)  x1) dX11_got_6 ml_X11_236 ok_X11_isHolder iv_X11_isHolder (by decide) rfl rfl (Nat.le_of_ble_eq_true rfl) (k_X11_isHolder hI (up2 v 1100 2 0) u _ ) ?_
  refine J_if_eq (tgt := 24) dX11_got_9 (by decide) (fun c1 => ?_) (fun c1 => ?_)
  · refine J_iconst (x := (-1)) dX11_got_24 (by decide) ?_
    exact J_iret dX11_got_25 rfl ⟨_, rfl, rfl, by unfold f_X11_got; rw [if_pos c1], by unfold f_X11_got; rw [if_pos c1]⟩
  · refine J_iload_n dX11_got_12 rfl 2 rfl ?_
    refine J_iconst (x := 0) dX11_got_13 (by decide) ?_
    refine J_aload_n dX11_got_14 rfl 0 rfl ?_
    refine J_gete (ci := 11) (j := 3) (x := v 1100 3) dX11_got_15 fl_X11_208 (i1100 hI) rfl rfl rfl ?_
    refine J_eSI (z := mX11_isIn) (As := [.int x2, .int 0, .int (v 1100 3)]) (rest := []) (x := f_X11_isIn (up2 v 1100 2 0)  x2 0 (v 1100 3)) dX11_got_18 ml_X11_204 ok_X11_isIn iv_X11_isIn (by decide) rfl rfl (Nat.le_of_ble_eq_true rfl) (k_X11_isIn hI (up2 v 1100 2 0) u _ _ _ ) ?_
    refine J_if_ne (tgt := 26) dX11_got_21 (by decide) (fun c2 => ?_) (fun c2 => ?_)
    · refine J_aload_n dX11_got_26 rfl 0 rfl ?_
      refine J_iload_n dX11_got_27 rfl 2 rfl ?_
      refine J_eVN (z := mX11_pays) (As := [.int x2]) (rest := []) (ci := 11) (w := f_pays (up2 v 1100 2 0) nr N NS ar x2.toNatClampNeg) dX11_got_28 ml_X11_279 ok_X11_pays iv_X11_pays (by decide) (i1100 hI) rfl rfl rfl rfl (Nat.le_of_ble_eq_true rfl) (k2_pays hI (up2 v 1100 2 0) u nr N NS ar (hv.of py_same_2) _ (now_in hE0 hE (by assumption))) ?_
      refine J_aload_n dX11_got_31 rfl 0 rfl ?_
      refine J_getr (ci := 11) (j := 47) (t := 1148) dX11_got_32 fl_X11_102 (i1100 hI) rfl rfl rfl ?_
      refine J_iload_n dX11_got_35 rfl 1 rfl ?_
      refine J_iale (x := (f_pays (up2 v 1100 2 0) nr N NS ar x2.toNatClampNeg) 1148 x1.toNatClampNeg) dX11_got_36 (i1148 hI) rfl (holder_in c1) rfl ?_
      exact J_iret dX11_got_37 rfl ⟨_, rfl, rfl, by unfold f_X11_got; rw [if_neg c1, if_neg c2], by unfold f_X11_got; rw [if_neg c1, if_neg c2]⟩
    · refine J_iconst (x := (-1)) dX11_got_24 (by decide) ?_
      exact J_iret dX11_got_25 rfl ⟨_, rfl, rfl, by unfold f_X11_got; rw [if_neg c1, if_pos c2], by unfold f_X11_got; rw [if_neg c1, if_pos c2]⟩
noncomputable def f_X11_owed (v : fr_V) (nr : Nat) (N : Nat) (NS : Nat) (ar : Nat) (x1 x2 : Int32) : Int32 × fr_V := if (f_X11_isRent (up2 v 1100 2 0)  x1) = 0 then ((-1), up2 v 1100 2 0) else if (f_X11_isIn (up2 v 1100 2 0)  x2 0 (v 1100 3)) = 0 then ((-1), up2 v 1100 2 0) else (f_owedOf (f_pays (up2 v 1100 2 0) nr N NS ar x2.toNatClampNeg) x1.toNatClampNeg, f_pays (up2 v 1100 2 0) nr N NS ar x2.toNatClampNeg)
theorem k_X11_owed {l : Launch} {I : List Nat} (hI : fr_I I) (v : fr_V) (u : fr_U) (nr : Nat) (N : Nat) (NS : Nat) (ar : Nat) (x1 x2 : Int32) (hv : py_ok nr N NS ar v) (E : Nat) (hE0 : v 1100 3 = nI E) (hE : E ≤ 79) : Con l mX11_owed I v u [.ref 1100, .int x1, .int x2] (QX u (fun a b => a = (f_X11_owed v nr N NS ar x1 x2).1 ∧ b = (f_X11_owed v nr N NS ar x1 x2).2)) := by
  refine Con.of (by decide) (Nat.le_of_ble_eq_true rfl) ?_
  show J l mX11_owed I v u 0 [(0, .ref 1100), (1, .int x1), (2, .int x2)] [] _
  refine J_aload_n dX11_owed_0 rfl 0 rfl ?_
  refine J_iconst (x := 0) dX11_owed_1 (by decide) ?_
  refine J_puti (ci := 11) (j := 2) dX11_owed_2 fl_X11_129 (i1100 hI) rfl rfl (fun q h => by cases h; rfl) rfl ?_
  refine J_aload_n dX11_owed_5 rfl 0 rfl ?_
  refine J_iload_n dX11_owed_6 rfl 1 rfl ?_
  refine J_eVI (z := mX11_isRent) (As := [.int x1]) (rest := []) (ci := 11) (x := f_X11_isRent (up2 v 1100 2 0)  x1) dX11_owed_7 ml_X11_242 ok_X11_isRent iv_X11_isRent (by decide) (i1100 hI) rfl rfl rfl rfl (Nat.le_of_ble_eq_true rfl) (k_X11_isRent hI (up2 v 1100 2 0) u _ ) ?_
  refine J_if_eq (tgt := 25) dX11_owed_10 (by decide) (fun c1 => ?_) (fun c1 => ?_)
  · refine J_iconst (x := (-1)) dX11_owed_25 (by decide) ?_
    exact J_iret dX11_owed_26 rfl ⟨_, rfl, rfl, by unfold f_X11_owed; rw [if_pos c1], by unfold f_X11_owed; rw [if_pos c1]⟩
  · refine J_iload_n dX11_owed_13 rfl 2 rfl ?_
    refine J_iconst (x := 0) dX11_owed_14 (by decide) ?_
    refine J_aload_n dX11_owed_15 rfl 0 rfl ?_
    refine J_gete (ci := 11) (j := 3) (x := v 1100 3) dX11_owed_16 fl_X11_208 (i1100 hI) rfl rfl rfl ?_
    refine J_eSI (z := mX11_isIn) (As := [.int x2, .int 0, .int (v 1100 3)]) (rest := []) (x := f_X11_isIn (up2 v 1100 2 0)  x2 0 (v 1100 3)) dX11_owed_19 ml_X11_204 ok_X11_isIn iv_X11_isIn (by decide) rfl rfl (Nat.le_of_ble_eq_true rfl) (k_X11_isIn hI (up2 v 1100 2 0) u _ _ _ ) ?_
    refine J_if_ne (tgt := 27) dX11_owed_22 (by decide) (fun c2 => ?_) (fun c2 => ?_)
    · refine J_aload_n dX11_owed_27 rfl 0 rfl ?_
      refine J_iload_n dX11_owed_28 rfl 2 rfl ?_
      refine J_eVN (z := mX11_pays) (As := [.int x2]) (rest := []) (ci := 11) (w := f_pays (up2 v 1100 2 0) nr N NS ar x2.toNatClampNeg) dX11_owed_29 ml_X11_279 ok_X11_pays iv_X11_pays (by decide) (i1100 hI) rfl rfl rfl rfl (Nat.le_of_ble_eq_true rfl) (k2_pays hI (up2 v 1100 2 0) u nr N NS ar (hv.of py_same_2) _ (now_in hE0 hE (by assumption))) ?_
      refine J_aload_n dX11_owed_32 rfl 0 rfl ?_
      refine J_iload_n dX11_owed_33 rfl 1 rfl ?_
      refine J_eVI (z := mX11_owedOf) (As := [.int x1]) (rest := []) (ci := 11) (x := f_owedOf (f_pays (up2 v 1100 2 0) nr N NS ar x2.toNatClampNeg) x1.toNatClampNeg) dX11_owed_34 ml_X11_282 ok_X11_owedOf iv_X11_owedOf (by decide) (i1100 hI) rfl rfl rfl rfl (Nat.le_of_ble_eq_true rfl) (k2_owedOf hI (f_pays (up2 v 1100 2 0) nr N NS ar x2.toNatClampNeg) u _ (rt_in (v := up2 v 1100 2 0) hv.1 hv.2.1 (by assumption)) (py_fs (hv.of (py_same_p.tr py_same_2)) hv.1 (lim_ne (v := up2 v 1100 2 0) (k := 7) (by assumption)).1 (lim_ne (v := up2 v 1100 2 0) (k := 7) (by assumption)).2).1 (py_fs (hv.of (py_same_p.tr py_same_2)) hv.1 (lim_ne (v := up2 v 1100 2 0) (k := 7) (by assumption)).1 (lim_ne (v := up2 v 1100 2 0) (k := 7) (by assumption)).2).2) ?_
      exact J_iret dX11_owed_37 rfl ⟨_, rfl, rfl, by unfold f_X11_owed; rw [if_neg c1, if_neg c2], by unfold f_X11_owed; rw [if_neg c1, if_neg c2]⟩
    · refine J_iconst (x := (-1)) dX11_owed_25 (by decide) ?_
      exact J_iret dX11_owed_26 rfl ⟨_, rfl, rfl, by unfold f_X11_owed; rw [if_neg c1, if_pos c2], by unfold f_X11_owed; rw [if_neg c1, if_pos c2]⟩
def st_sum (v : fr_V) (x1 x2 : Int32) (n0 : Int32) : Nat → Int32
  | 0 => n0
  | r + 1 => st_sum v x1 x2 n0 r + (if x2 = 2 then f_owedOf v r else if x1 < v 1109 r then 0 else v 1114 r)
theorem st_sum_s (v : fr_V) (x1 x2 n0 : Int32) (r : Nat) : st_sum v x1 x2 n0 (r + 1) = st_sum v x1 x2 n0 r + (if x2 = 2 then f_owedOf v r else if x1 < v 1109 r then 0 else v 1114 r) := rfl
theorem st_L {l : Launch} {I : List Nat} (hI : fr_I I) (v : fr_V) (u : fr_U) (nr N NS ar : Nat) (hv : py_ok nr N NS ar v) (x1 x2 n0 : Int32) (h1 : ¬ x2 = 1) (hnr : nr ≤ 16) : ∀ (d r : Nat) (a : Int32) (hd : nr - r < d) (hr : r ≤ nr) (ha : a = st_sum v x1 x2 n0 r), J l mX11_state I v u 50 [(0, .ref 1100), (1, .int x1), (2, .int x2), (3, .int a), (4, .int (nI r))] [] (QI v u (fun z => z = st_sum v x1 x2 n0 nr)) := by
  intro d
  induction d with
  | zero => intros; omega
  | succ d ih =>
    intro r a hd hr ha
    refine J_iload dX11_state_50 4 rfl ?_
    refine J_aload_n dX11_state_52 rfl 0 rfl ?_
    refine J_gete (ci := 11) (j := 7) (x := nI nr) dX11_state_53 fl_X11_233 (i1100 hI) rfl rfl hv.1 ?_
    refine J_icmp_ge (tgt := 109) dX11_state_56 (by decide) (fun c1 => ?_) (fun c1 => ?_)
    · refine J_iload_n dX11_state_109 rfl 3 rfl ?_
      exact J_iret dX11_state_110 rfl ⟨_, rfl, rfl, rfl, by have e : r = nr := by {have := nz_le (by omega) (by omega) c1; omega}; rw [ha, e]⟩
    · have hrn : r < nr := nz_nle (by omega) (by omega) c1
      refine J_iload_n dX11_state_59 rfl 2 rfl ?_
      refine J_iconst (x := 1) dX11_state_60 (by decide) ?_
      refine J_icmp_eq (tgt := 109) dX11_state_61 (by decide) (fun c2 => ?_) (fun c2 => ?_)
      · refine J_iload_n dX11_state_109 rfl 3 rfl ?_
        exact J_iret dX11_state_110 rfl ⟨_, rfl, rfl, rfl, absurd c2 h1⟩
      · refine J_iload_n dX11_state_64 rfl 3 rfl ?_
        refine J_iload_n dX11_state_65 rfl 2 rfl ?_
        refine J_iconst (x := 2) dX11_state_66 (by decide) ?_
        refine J_icmp_ne (tgt := 79) dX11_state_67 (by decide) (fun c3 => ?_) (fun c3 => ?_)
        · refine J_aload_n dX11_state_79 rfl 0 rfl ?_
          refine J_getr (ci := 11) (j := 8) (t := 1109) dX11_state_80 fl_X11_19 (i1100 hI) rfl rfl rfl ?_
          refine J_iload dX11_state_83 4 rfl ?_
          refine J_iale (x := v 1109 r) dX11_state_85 (i1109 hI) rfl (ix_in (j := r) rfl (by omega) (by omega)) ((congrArg _ (ix_cl (j := r) rfl (by omega))).trans rfl) ?_
          refine J_iload_n dX11_state_86 rfl 1 rfl ?_
          refine J_icmp_gt (tgt := 100) dX11_state_87 (by decide) (fun c4 => ?_) (fun c4 => ?_)
          · refine J_iconst (x := 0) dX11_state_100 (by decide) ?_
            refine J_iadd dX11_state_101 ?_
            refine J_istore_n (lv' := [(3, .int (a + 0)), (0, .ref 1100), (1, .int x1), (2, .int x2), (4, .int (nI r))]) dX11_state_102 rfl (by decide) rfl ?_
            refine J_iinc (q := 4) (z := nI (r + 1)) (lv' := [(4, .int (nI (r + 1))), (3, .int (a + 0)), (0, .ref 1100), (1, .int x1), (2, .int x2)]) dX11_state_103 rfl (nI_1 r) (by decide) rfl ?_
            refine J_goto (tgt := 50) dX11_state_106 (by decide) ?_
            refine J_lv [2, 3, 4, 1, 0] rfl ?_
            exact ih (r + 1) _ (by omega) (by omega) (by rw [st_sum_s, if_neg c3, if_pos c4, ha])
          · refine J_aload_n dX11_state_90 rfl 0 rfl ?_
            refine J_getr (ci := 11) (j := 13) (t := 1114) dX11_state_91 fl_X11_34 (i1100 hI) rfl rfl rfl ?_
            refine J_iload dX11_state_94 4 rfl ?_
            refine J_iale (x := v 1114 r) dX11_state_96 (i1114 hI) rfl (ix_in (j := r) rfl (by omega) (by omega)) ((congrArg _ (ix_cl (j := r) rfl (by omega))).trans rfl) ?_
            refine J_goto (tgt := 101) dX11_state_97 (by decide) ?_
            refine J_iadd dX11_state_101 ?_
            refine J_istore_n (lv' := [(3, .int (a + (v 1114 r))), (0, .ref 1100), (1, .int x1), (2, .int x2), (4, .int (nI r))]) dX11_state_102 rfl (by decide) rfl ?_
            refine J_iinc (q := 4) (z := nI (r + 1)) (lv' := [(4, .int (nI (r + 1))), (3, .int (a + (v 1114 r))), (0, .ref 1100), (1, .int x1), (2, .int x2)]) dX11_state_103 rfl (nI_1 r) (by decide) rfl ?_
            refine J_goto (tgt := 50) dX11_state_106 (by decide) ?_
            refine J_lv [2, 3, 4, 1, 0] rfl ?_
            exact ih (r + 1) _ (by omega) (by omega) (by rw [st_sum_s, if_neg c3, if_neg c4, ha])
        · refine J_aload_n dX11_state_70 rfl 0 rfl ?_
          refine J_iload dX11_state_71 4 rfl ?_
          refine J_eVI (z := mX11_owedOf) (As := [.int (nI r)]) (rest := [.int a]) (ci := 11) (x := f_owedOf v r) dX11_state_73 ml_X11_282 ok_X11_owedOf iv_X11_owedOf (by decide) (i1100 hI) rfl rfl rfl rfl (Nat.le_of_ble_eq_true rfl) (k_X11_owedOf hI v u r (by omega) (hv.2.2.2.2.2.2.2.2 r hrn).1 (hv.2.2.2.2.2.2.2.2 r hrn).2) ?_
          refine J_goto (tgt := 101) dX11_state_76 (by decide) ?_
          refine J_iadd dX11_state_101 ?_
          refine J_istore_n (lv' := [(3, .int (a + (f_owedOf v r))), (0, .ref 1100), (1, .int x1), (2, .int x2), (4, .int (nI r))]) dX11_state_102 rfl (by decide) rfl ?_
          refine J_iinc (q := 4) (z := nI (r + 1)) (lv' := [(4, .int (nI (r + 1))), (3, .int (a + (f_owedOf v r))), (0, .ref 1100), (1, .int x1), (2, .int x2)]) dX11_state_103 rfl (nI_1 r) (by decide) rfl ?_
          refine J_goto (tgt := 50) dX11_state_106 (by decide) ?_
          refine J_lv [2, 3, 4, 1, 0] rfl ?_
          exact ih (r + 1) _ (by omega) (by omega) (by rw [st_sum_s, if_pos c3, ha])
