theorem livN {v : fr_V} {x : Int32} (h : ¬ f_X11_living v x = (-1)) : f_X11_living v x = x ∧ ¬ x = (-1) ∧ f_X11_ageIn v x (v 1100 3) ≤ 99 := by
  unfold f_X11_living at h ⊢
  by_cases c1 : x = (-1)
  · rw [if_pos c1] at h; exact absurd rfl h
  · rw [if_neg c1] at h ⊢
    by_cases c2 : v 1146 x.toNatClampNeg = (-1)
    · rw [if_pos c2] at h ⊢
      by_cases c3 : f_X11_ageIn v x (v 1100 3) ≤ 99
      · rw [if_pos c3]; exact ⟨rfl, c1, c3⟩
      · rw [if_neg c3] at h; exact absurd rfl h
    · rw [if_neg c2] at h; exact absurd rfl h
noncomputable def cv11 (K L0 L1 : fr_V) (M P Q0 : Nat) (f1 f2 c : Int32) : Int32 := if lg_cmp ((f_X11_lumpOf L0 M f1 f2).toInt64 * (2 * c.toInt64) * (f_X11_worthOn L0 P Q0 (f_X11_living K f1) (f_X11_living K f2)).toInt64 / 100) (2 * c.toInt64 * (f_X11_worthOn L1 P Q0 (f_X11_living K f1) (f_X11_living K f2)).toInt64) ≤ 0 then 0 else 1
noncomputable def f_conv11 (v : fr_V) (M N n : Nat) (Pf Qf : Nat → Nat) (x1 : Int32) : Int32 × fr_V := if f_X11_isRent (up2 v 1100 2 0) x1 = 0 then ((-1), (up2 v 1100 2 0)) else (cv11 (f_know (up2 v 1100 2 0) N (v 1100 3)) (f_lay (f_know (up2 v 1100 2 0) N (v 1100 3)) n N 0) (f_lay (f_lay (f_know (up2 v 1100 2 0) N (v 1100 3)) n N 0) n N 1) M (Pf x1.toNatClampNeg) (Qf x1.toNatClampNeg) (v 1111 x1.toNatClampNeg) (v 1112 x1.toNatClampNeg) (v 1113 x1.toNatClampNeg), (f_lay (f_lay (f_know (up2 v 1100 2 0) N (v 1100 3)) n N 0) n N 1))
theorem rentN {v : fr_V} {n : Nat} {x : Int32} (h : v 1100 7 = nI n) (hn : n ≤ 16) (c : ¬ f_X11_isRent v x = 0) : ∃ i, i < n ∧ x = nI i := by
  unfold f_X11_isRent at c
  by_cases h1 : x < 0
  · rw [if_pos h1] at c; exact absurd rfl c
  · rw [if_neg h1, h] at c
    by_cases h2 : nI n ≤ x
    · rw [if_pos h2] at c; exact absurd rfl c
    · exact rng h1 h2 (by omega)
theorem k_X11_converts {l : Launch} {I : List Nat} (hI : fr_I I) (v : fr_V) (u : fr_U) (M N n nr : Nat) (Pf Qf : Nat → Nat) (x1 : Int32) (hN : v 1100 16 = nI N) (hW : nt_ok (v 1118) (v 1119) N) (hL : v 1100 4 = nI n) (hL2 : n ≤ 12) (hR : v 1100 7 = nI nr) (hR2 : nr ≤ 16) (hM0 : v 1100 38 = nI M) (hM : M ≤ 24) (hset : ¬ v 1141 2 + 1 = 0) (hA : ∀ r, r < nr → lfOK (up2 v 1100 2 0) (v 1111 r) (Pf r) ∧ (¬ v 1112 r = (-1) → lfOK (up2 v 1100 2 0) (v 1112 r) (Qf r))) : Con l mX11_converts I v u [.ref 1100, .int x1] (QX u (fun a b => a = (f_conv11 v M N n Pf Qf x1).1 ∧ b = (f_conv11 v M N n Pf Qf x1).2)) := by
  refine Con.of (by decide) (Nat.le_of_ble_eq_true rfl) ?_
  show J l mX11_converts I v u 0 [(0, .ref 1100), (1, .int x1)] [] _
  refine J_aload_n dX11_converts_0 rfl 0 rfl ?_
  refine J_iconst (x := 0) dX11_converts_1 (by decide) ?_
  refine J_puti (ci := 11) (j := 2) dX11_converts_2 fl_X11_129 (i1100 hI) rfl rfl (fun q h => by cases h; rfl) rfl ?_
  refine J_aload_n dX11_converts_5 rfl 0 rfl ?_
  refine J_iload_n dX11_converts_6 rfl 1 rfl ?_
  refine J_eVI (z := mX11_isRent) (As := [.int x1]) (rest := []) (ci := 11) (x := f_X11_isRent (up2 v 1100 2 0) x1) dX11_converts_7 ml_X11_242 ok_X11_isRent iv_X11_isRent (by decide) (i1100 hI) rfl rfl rfl rfl (Nat.le_of_ble_eq_true rfl) (k_X11_isRent hI (up2 v 1100 2 0) u x1) ?_
  refine J_if_ne (tgt := 15) dX11_converts_10 (by decide) (fun c1 => ?_) (fun c1 => ?_)
  · obtain ⟨r, hr, rfl⟩ := rentN (v := (up2 v 1100 2 0)) hR hR2 c1
    have hag1 : f_X11_ageIn (f_know (up2 v 1100 2 0) N (v 1100 3)) (v 1111 r) ((f_know (up2 v 1100 2 0) N (v 1100 3)) 1100 3) = nI (Pf r) := by have g := (lf_know (N := N) (k := v 1100 3) (hA r hr).1).2.2.1; exact g
    have hag2 : ¬ v 1112 r = (-1) → f_X11_ageIn (f_know (up2 v 1100 2 0) N (v 1100 3)) (v 1112 r) ((f_know (up2 v 1100 2 0) N (v 1100 3)) 1100 3) = nI (Qf r) := fun q => (lf_know (N := N) (k := v 1100 3) ((hA r hr).2 q)).2.2.1
    refine J_aload_n dX11_converts_15 rfl 0 rfl ?_
    refine J_aload_n dX11_converts_16 rfl 0 rfl ?_
    refine J_gete (ci := 11) (j := 3) (x := v 1100 3) dX11_converts_17 fl_X11_208 (i1100 hI) rfl rfl rfl ?_
    refine J_eVN (z := mX11_know) (As := [.int (v 1100 3)]) (rest := []) (ci := 11) (w := (f_know (up2 v 1100 2 0) N (v 1100 3))) dX11_converts_20 ml_X11_257 ok_X11_know iv_X11_know (by decide) (i1100 hI) rfl rfl rfl rfl (Nat.le_of_ble_eq_true rfl) (k_X11_know hI (up2 v 1100 2 0) u (v 1100 3) N hN hW) ?_
    refine J_aload_n dX11_converts_23 rfl 0 rfl ?_
    refine J_aload_n dX11_converts_24 rfl 0 rfl ?_
    refine J_getr (ci := 11) (j := 10) (t := 1111) dX11_converts_25 fl_X11_25 (i1100 hI) rfl rfl rfl ?_
    refine J_iload_n dX11_converts_28 rfl 1 rfl ?_
    refine J_iale (x := v 1111 r) dX11_converts_29 (i1111 hI) rfl (ix_in (j := r) rfl (by omega) (by omega)) ((congrArg _ (ix_cl (j := r) rfl (by omega))).trans (congrFun (f_know_m (k := 1111) (by decide) (by decide)) r)) ?_
    refine J_eVI (z := mX11_living) (As := [.int (v 1111 r)]) (rest := []) (ci := 11) (x := f_X11_living (f_know (up2 v 1100 2 0) N (v 1100 3)) (v 1111 r)) dX11_converts_30 ml_X11_333 ok_X11_living iv_X11_living (by decide) (i1100 hI) rfl rfl rfl rfl (Nat.le_of_ble_eq_true rfl) (k_X11_living hI (f_know (up2 v 1100 2 0) N (v 1100 3)) u (v 1111 r) (fun _ => (hA r hr).1.1)) ?_
    refine J_istore_n (lv' := [(2, .int (f_X11_living (f_know (up2 v 1100 2 0) N (v 1100 3)) (v 1111 r))), (0, .ref 1100), (1, .int (nI r))]) dX11_converts_33 rfl (by decide) rfl ?_
    refine J_aload_n dX11_converts_34 rfl 1 rfl ?_
    refine J_aload_n dX11_converts_35 rfl 1 rfl ?_
    refine J_getr (ci := 11) (j := 11) (t := 1112) dX11_converts_36 fl_X11_28 (i1100 hI) rfl rfl rfl ?_
    refine J_iload_n dX11_converts_39 rfl 2 rfl ?_
    refine J_iale (x := v 1112 r) dX11_converts_40 (i1112 hI) rfl (ix_in (j := r) rfl (by omega) (by omega)) ((congrArg _ (ix_cl (j := r) rfl (by omega))).trans (congrFun (f_know_m (k := 1112) (by decide) (by decide)) r)) ?_
    refine J_eVI (z := mX11_living) (As := [.int (v 1112 r)]) (rest := []) (ci := 11) (x := f_X11_living (f_know (up2 v 1100 2 0) N (v 1100 3)) (v 1112 r)) dX11_converts_41 ml_X11_333 ok_X11_living iv_X11_living (by decide) (i1100 hI) rfl rfl rfl rfl (Nat.le_of_ble_eq_true rfl) (k_X11_living hI (f_know (up2 v 1100 2 0) N (v 1100 3)) u (v 1112 r) (fun g => ((hA r hr).2 g).1)) ?_
    refine J_istore_n (lv' := [(3, .int (f_X11_living (f_know (up2 v 1100 2 0) N (v 1100 3)) (v 1112 r))), (2, .int (f_X11_living (f_know (up2 v 1100 2 0) N (v 1100 3)) (v 1111 r))), (0, .ref 1100), (1, .int (nI r))]) dX11_converts_44 rfl (by decide) rfl ?_
    refine J_ldc2 (x := 2) dX11_converts_45 cl_X11_336 ?_
    refine J_aload_n dX11_converts_48 rfl 2 rfl ?_
    refine J_getr (ci := 11) (j := 12) (t := 1113) dX11_converts_49 fl_X11_31 (i1100 hI) rfl rfl rfl ?_
    refine J_iload_n dX11_converts_52 rfl 3 rfl ?_
    refine J_iale (x := v 1113 r) dX11_converts_53 (i1113 hI) rfl (ix_in (j := r) rfl (by omega) (by omega)) ((congrArg _ (ix_cl (j := r) rfl (by omega))).trans (congrFun (f_know_m (k := 1113) (by decide) (by decide)) r)) ?_
    refine J_i2l dX11_converts_54 ?_
    refine J_lmul dX11_converts_55 ?_
    refine J_lstore (lv' := [(4, .long (2 * ((v 1113 r).toInt64))), (3, .int (f_X11_living (f_know (up2 v 1100 2 0) N (v 1100 3)) (v 1112 r))), (2, .int (f_X11_living (f_know (up2 v 1100 2 0) N (v 1100 3)) (v 1111 r))), (0, .ref 1100), (1, .int (nI r))]) dX11_converts_56 (by decide) rfl ?_
    refine J_aload_n dX11_converts_58 rfl 3 rfl ?_
    refine J_iconst (x := 0) dX11_converts_59 (by decide) ?_
    refine J_eVN (z := mX11_lay) (As := [.int 0]) (rest := []) (ci := 11) (w := (f_lay (f_know (up2 v 1100 2 0) N (v 1100 3)) n N 0)) dX11_converts_60 ml_X11_314 ok_X11_lay iv_X11_lay (by decide) (i1100 hI) rfl rfl rfl rfl (Nat.le_of_ble_eq_true rfl) (k_X11_lay hI (f_know (up2 v 1100 2 0) N (v 1100 3)) u n N hL2 (by rw [(congrFun (f_know_m (k := 1100) (by decide) (by decide)) 4)]; exact hL) (by rw [(congrFun (f_know_m (k := 1100) (by decide) (by decide)) 16)]; exact hN) (by rw [(show (f_know (up2 v 1100 2 0) N (v 1100 3)) 1118 = v 1118 from funext fun j => (congrFun (f_know_m (k := 1118) (by decide) (by decide)) j)), (show (f_know (up2 v 1100 2 0) N (v 1100 3)) 1119 = v 1119 from funext fun j => (congrFun (f_know_m (k := 1119) (by decide) (by decide)) j))]; exact hW) 0) ?_
    refine J_aload_n dX11_converts_63 rfl 3 rfl ?_
    refine J_aload_n dX11_converts_64 rfl 3 rfl ?_
    refine J_getr (ci := 11) (j := 10) (t := 1111) dX11_converts_65 fl_X11_25 (i1100 hI) rfl rfl rfl ?_
    refine J_iload_n dX11_converts_68 rfl 4 rfl ?_
    refine J_iale (x := v 1111 r) dX11_converts_69 (i1111 hI) rfl (ix_in (j := r) rfl (by omega) (by omega)) ((congrArg _ (ix_cl (j := r) rfl (by omega))).trans ((f_lay_m (k := 1111) (j := r) ⟨by omega, by omega, by omega, by omega⟩).trans (congrFun (f_know_m (k := 1111) (by decide) (by decide)) r))) ?_
    refine J_aload_n dX11_converts_70 rfl 3 rfl ?_
    refine J_getr (ci := 11) (j := 11) (t := 1112) dX11_converts_71 fl_X11_28 (i1100 hI) rfl rfl rfl ?_
    refine J_iload_n dX11_converts_74 rfl 4 rfl ?_
    refine J_iale (x := v 1112 r) dX11_converts_75 (i1112 hI) rfl (ix_in (j := r) rfl (by omega) (by omega)) ((congrArg _ (ix_cl (j := r) rfl (by omega))).trans ((f_lay_m (k := 1112) (j := r) ⟨by omega, by omega, by omega, by omega⟩).trans (congrFun (f_know_m (k := 1112) (by decide) (by decide)) r))) ?_
    refine J_eVI (z := mX11_lumpOf) (As := [.int (v 1111 r), .int (v 1112 r)]) (rest := []) (ci := 11) (x := f_X11_lumpOf (f_lay (f_know (up2 v 1100 2 0) N (v 1100 3)) n N 0) M (v 1111 r) (v 1112 r)) dX11_converts_76 ml_X11_230 ok_X11_lumpOf iv_X11_lumpOf (by decide) (i1100 hI) rfl rfl rfl rfl (Nat.le_of_ble_eq_true rfl) (k_X11_lumpOf hI (f_lay (f_know (up2 v 1100 2 0) N (v 1100 3)) n N 0) u M (v 1111 r) (v 1112 r) (by rw [((f_lay_m (k := 1100) (j := 38) ⟨by omega, by omega, by omega, by omega⟩).trans (congrFun (f_know_m (k := 1100) (by decide) (by decide)) 38))]; exact hM0) hM (hA r hr).1.1 (fun g => ((hA r hr).2 g).1)) ?_
    refine J_i2l dX11_converts_79 ?_
    refine J_lload dX11_converts_80 0 rfl ?_
    refine J_lmul dX11_converts_82 ?_
    refine J_aload_n dX11_converts_83 rfl 3 rfl ?_
    refine J_iload_n dX11_converts_84 rfl 2 rfl ?_
    refine J_iload_n dX11_converts_85 rfl 1 rfl ?_
    refine J_eVI (z := mX11_worthOn) (As := [.int (f_X11_living (f_know (up2 v 1100 2 0) N (v 1100 3)) (v 1111 r)), .int (f_X11_living (f_know (up2 v 1100 2 0) N (v 1100 3)) (v 1112 r))]) (rest := [.long (((f_X11_lumpOf (f_lay (f_know (up2 v 1100 2 0) N (v 1100 3)) n N 0) M (v 1111 r) (v 1112 r)).toInt64) * (2 * ((v 1113 r).toInt64)))]) (ci := 11) (x := f_X11_worthOn (f_lay (f_know (up2 v 1100 2 0) N (v 1100 3)) n N 0) (Pf r) (Qf r) (f_X11_living (f_know (up2 v 1100 2 0) N (v 1100 3)) (v 1111 r)) (f_X11_living (f_know (up2 v 1100 2 0) N (v 1100 3)) (v 1112 r))) dX11_converts_86 ml_X11_317 ok_X11_worthOn iv_X11_worthOn (by decide) (i1100 hI) rfl rfl rfl rfl (Nat.le_of_ble_eq_true rfl) (k_X11_worthOn hI (f_lay (f_know (up2 v 1100 2 0) N (v 1100 3)) n N 0) u (Pf r) (Qf r) (f_X11_living (f_know (up2 v 1100 2 0) N (v 1100 3)) (v 1111 r)) (f_X11_living (f_know (up2 v 1100 2 0) N (v 1100 3)) (v 1112 r)) (fun g => by rw [(livN g).1]; exact lf_lay (lf_know ((hA r hr).1))) (fun g => by rw [(livN g).1]; exact lf_lay (lf_know ((hA r hr).2 (livN g).2.1))) (fun g => nz_99' hag1 (hA r hr).1.2.2.2 (livN g).2.2) (fun g => nz_99' (hag2 (livN g).2.1) ((hA r hr).2 (livN g).2.1).2.2.2 (livN g).2.2) (by rw [((f_lay_m (k := 1141) (j := 2) ⟨by omega, by omega, by omega, by omega⟩).trans (congrFun (f_know_m (k := 1141) (by decide) (by decide)) 2))]; exact hset)) ?_
    refine J_i2l dX11_converts_89 ?_
    refine J_lmul dX11_converts_90 ?_
    refine J_ldc2 (x := 100) dX11_converts_91 cl_X11_338 ?_
    refine J_ldiv dX11_converts_94 (by decide) ?_
    refine J_lstore (lv' := [(6, .long (((((f_X11_lumpOf (f_lay (f_know (up2 v 1100 2 0) N (v 1100 3)) n N 0) M (v 1111 r) (v 1112 r)).toInt64) * (2 * ((v 1113 r).toInt64))) * ((f_X11_worthOn (f_lay (f_know (up2 v 1100 2 0) N (v 1100 3)) n N 0) (Pf r) (Qf r) (f_X11_living (f_know (up2 v 1100 2 0) N (v 1100 3)) (v 1111 r)) (f_X11_living (f_know (up2 v 1100 2 0) N (v 1100 3)) (v 1112 r))).toInt64)) / 100)), (4, .long (2 * ((v 1113 r).toInt64))), (3, .int (f_X11_living (f_know (up2 v 1100 2 0) N (v 1100 3)) (v 1112 r))), (2, .int (f_X11_living (f_know (up2 v 1100 2 0) N (v 1100 3)) (v 1111 r))), (0, .ref 1100), (1, .int (nI r))]) dX11_converts_95 (by decide) rfl ?_
    refine J_aload_n dX11_converts_97 rfl 4 rfl ?_
    refine J_iconst (x := 1) dX11_converts_98 (by decide) ?_
    refine J_eVN (z := mX11_lay) (As := [.int 1]) (rest := []) (ci := 11) (w := (f_lay (f_lay (f_know (up2 v 1100 2 0) N (v 1100 3)) n N 0) n N 1)) dX11_converts_99 ml_X11_314 ok_X11_lay iv_X11_lay (by decide) (i1100 hI) rfl rfl rfl rfl (Nat.le_of_ble_eq_true rfl) (k_X11_lay hI (f_lay (f_know (up2 v 1100 2 0) N (v 1100 3)) n N 0) u n N hL2 (by rw [((f_lay_m (k := 1100) (j := 4) ⟨by omega, by omega, by omega, by omega⟩).trans (congrFun (f_know_m (k := 1100) (by decide) (by decide)) 4))]; exact hL) (by rw [((f_lay_m (k := 1100) (j := 16) ⟨by omega, by omega, by omega, by omega⟩).trans (congrFun (f_know_m (k := 1100) (by decide) (by decide)) 16))]; exact hN) (by rw [(show (f_lay (f_know (up2 v 1100 2 0) N (v 1100 3)) n N 0) 1118 = v 1118 from funext fun j => ((f_lay_m (k := 1118) (j := j) ⟨by omega, by omega, by omega, by omega⟩).trans (congrFun (f_know_m (k := 1118) (by decide) (by decide)) j))), (show (f_lay (f_know (up2 v 1100 2 0) N (v 1100 3)) n N 0) 1119 = v 1119 from funext fun j => ((f_lay_m (k := 1119) (j := j) ⟨by omega, by omega, by omega, by omega⟩).trans (congrFun (f_know_m (k := 1119) (by decide) (by decide)) j)))]; exact hW) 1) ?_
    refine J_lload dX11_converts_102 0 rfl ?_
    refine J_lload dX11_converts_104 1 rfl ?_
    refine J_aload_n dX11_converts_106 rfl 4 rfl ?_
    refine J_iload_n dX11_converts_107 rfl 3 rfl ?_
    refine J_iload_n dX11_converts_108 rfl 2 rfl ?_
    refine J_eVI (z := mX11_worthOn) (As := [.int (f_X11_living (f_know (up2 v 1100 2 0) N (v 1100 3)) (v 1111 r)), .int (f_X11_living (f_know (up2 v 1100 2 0) N (v 1100 3)) (v 1112 r))]) (rest := [.long (2 * ((v 1113 r).toInt64)), .long (((((f_X11_lumpOf (f_lay (f_know (up2 v 1100 2 0) N (v 1100 3)) n N 0) M (v 1111 r) (v 1112 r)).toInt64) * (2 * ((v 1113 r).toInt64))) * ((f_X11_worthOn (f_lay (f_know (up2 v 1100 2 0) N (v 1100 3)) n N 0) (Pf r) (Qf r) (f_X11_living (f_know (up2 v 1100 2 0) N (v 1100 3)) (v 1111 r)) (f_X11_living (f_know (up2 v 1100 2 0) N (v 1100 3)) (v 1112 r))).toInt64)) / 100)]) (ci := 11) (x := f_X11_worthOn (f_lay (f_lay (f_know (up2 v 1100 2 0) N (v 1100 3)) n N 0) n N 1) (Pf r) (Qf r) (f_X11_living (f_know (up2 v 1100 2 0) N (v 1100 3)) (v 1111 r)) (f_X11_living (f_know (up2 v 1100 2 0) N (v 1100 3)) (v 1112 r))) dX11_converts_109 ml_X11_317 ok_X11_worthOn iv_X11_worthOn (by decide) (i1100 hI) rfl rfl rfl rfl (Nat.le_of_ble_eq_true rfl) (k_X11_worthOn hI (f_lay (f_lay (f_know (up2 v 1100 2 0) N (v 1100 3)) n N 0) n N 1) u (Pf r) (Qf r) (f_X11_living (f_know (up2 v 1100 2 0) N (v 1100 3)) (v 1111 r)) (f_X11_living (f_know (up2 v 1100 2 0) N (v 1100 3)) (v 1112 r)) (fun g => by rw [(livN g).1]; exact lf_lay (lf_lay (lf_know ((hA r hr).1)))) (fun g => by rw [(livN g).1]; exact lf_lay (lf_lay (lf_know ((hA r hr).2 (livN g).2.1)))) (fun g => nz_99' hag1 (hA r hr).1.2.2.2 (livN g).2.2) (fun g => nz_99' (hag2 (livN g).2.1) ((hA r hr).2 (livN g).2.1).2.2.2 (livN g).2.2) (by rw [((f_lay_m (k := 1141) (j := 2) ⟨by omega, by omega, by omega, by omega⟩).trans ((f_lay_m (k := 1141) (j := 2) ⟨by omega, by omega, by omega, by omega⟩).trans (congrFun (f_know_m (k := 1141) (by decide) (by decide)) 2)))]; exact hset)) ?_
    refine J_i2l dX11_converts_112 ?_
    refine J_lmul dX11_converts_113 ?_
    refine J_lcmp dX11_converts_114 ?_
    refine J_if_le (tgt := 122) dX11_converts_115 (by decide) (fun c2 => ?_) (fun c2 => ?_)
    · refine J_iconst (x := 0) dX11_converts_122 (by decide) ?_
      exact J_iret dX11_converts_123 rfl ⟨_, rfl, rfl, by unfold f_conv11; rw [if_neg c1, nI_clamp (show r < 2 ^ 31 by omega)]; unfold cv11; rw [if_pos c2], by unfold f_conv11; rw [if_neg c1]⟩
    · refine J_iconst (x := 1) dX11_converts_118 (by decide) ?_
      refine J_goto (tgt := 123) dX11_converts_119 (by decide) ?_
      exact J_iret dX11_converts_123 rfl ⟨_, rfl, rfl, by unfold f_conv11; rw [if_neg c1, nI_clamp (show r < 2 ^ 31 by omega)]; unfold cv11; rw [if_neg c2], by unfold f_conv11; rw [if_neg c1]⟩
  · refine J_iconst (x := (-1)) dX11_converts_13 (by decide) ?_
    exact J_iret dX11_converts_14 rfl ⟨_, rfl, rfl, by unfold f_conv11; rw [if_pos c1], by unfold f_conv11; rw [if_pos c1]⟩
