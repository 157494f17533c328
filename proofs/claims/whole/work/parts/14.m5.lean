def pvP (v : fr_V) (r : Nat) (h : Int32) (i : Nat) : Prop := v 1118 i = 0 ∧ ¬ v 1145 i = 0 ∧ (v 1119 i = v 1111 r ∨ v 1119 i = v 1112 r) ∧ ¬ f_X11_isIn v (v 1120 i) h (h + v 1141 1) = 0 ∧ f_X11_isFalse v (nI i) = 0
theorem pv_L {l : Launch} {I : List Nat} (hI : fr_I I) (v : fr_V) (u : fr_U) (r : Nat) (hr : r < 16) (x2 : Int32) (N : Nat) (hN : v 1100 16 = nI N) (hW : nt_ok (v 1118) (v 1119) N) (hN6 : N ≤ 60) : ∀ (d j : Nat) (hd : N - j < d) (hj : j ≤ N) (hno : ∀ i, i < j → ¬ pvP v r x2 i), J l mX11_isProved I v u 2 [(0, .ref 1100), (1, .int (nI r)), (2, .int x2), (3, .int (nI j))] [] (QI v u (fun a => a = cI (∃ i, i < N ∧ pvP v r x2 i))) := by
  intro d
  induction d with
  | zero => intros; omega
  | succ d ih =>
    intro j hd hj hno
    refine J_iload_n dX11_isProved_2 rfl 3 rfl ?_
    refine J_aload_n dX11_isProved_3 rfl 0 rfl ?_
    refine J_gete (ci := 11) (j := 16) (x := v 1100 16) dX11_isProved_4 fl_X11_252 (i1100 hI) rfl rfl rfl ?_
    refine J_icmp_ge (tgt := 107) dX11_isProved_7 (by decide) (fun c1 => ?_) (fun c1 => ?_)
    · refine J_iconst (x := 0) dX11_isProved_107 (by decide) ?_
      exact J_zret dX11_isProved_108 rfl (by decide) ⟨_, rfl, rfl, rfl, (cI_neg (fun ⟨i, hi, hp⟩ => hno i (by rw [hN] at c1; have := nz_le (by omega) (by omega) c1; omega) hp)).symm⟩
    · have hjN : j < N := by rw [hN] at c1; exact nz_nle (by omega) (by omega) c1
      have hN60 : N ≤ 60 := hW.1
      refine J_aload_n dX11_isProved_10 rfl 0 rfl ?_
      refine J_getr (ci := 11) (j := 17) (t := 1118) dX11_isProved_11 fl_X11_40 (i1100 hI) rfl rfl rfl ?_
      refine J_iload_n dX11_isProved_14 rfl 3 rfl ?_
      refine J_iale (x := v 1118 j) dX11_isProved_15 (i1118 hI) rfl (ix_in (j := j) rfl (by omega) (by omega)) ((congrArg _ (ix_cl (j := j) rfl (by omega))).trans rfl) ?_
      refine J_if_ne (tgt := 62) dX11_isProved_16 (by decide) (fun c2 => ?_) (fun c2 => ?_)
      · refine J_iconst (x := 0) dX11_isProved_62 (by decide) ?_
        refine J_istore (lv' := [(4, .int 0), (0, .ref 1100), (1, .int (nI r)), (2, .int x2), (3, .int (nI j))]) dX11_isProved_63 (by decide) rfl ?_
        refine J_iload dX11_isProved_65 0 rfl ?_
        refine J_if_eq (tgt := 101) dX11_isProved_67 (by decide) (fun c3 => ?_) (fun c3 => absurd (by decide) c3)
        refine J_iinc (q := 4) (z := nI (j + 1)) (lv' := [(3, .int (nI (j + 1))), (4, .int 0), (0, .ref 1100), (1, .int (nI r)), (2, .int x2)]) dX11_isProved_101 rfl (nI_1 j) (by decide) rfl ?_
        refine J_goto (tgt := 2) dX11_isProved_104 (by decide) ?_
        refine J_lv [2, 3, 4, 0] rfl ?_
        exact ih (j + 1) (by omega) (by omega) (lt_s hno (by clear ih; unfold pvP; simp [c2]))
      · refine J_aload_n dX11_isProved_19 rfl 0 rfl ?_
        refine J_getr (ci := 11) (j := 44) (t := 1145) dX11_isProved_20 fl_X11_93 (i1100 hI) rfl rfl rfl ?_
        refine J_iload_n dX11_isProved_23 rfl 3 rfl ?_
        refine J_zale (x := v 1145 j) dX11_isProved_24 (i1145 hI) rfl (ix_in (j := j) rfl (by omega) (by omega)) ((congrArg _ (ix_cl (j := j) rfl (by omega))).trans rfl) ?_
        refine J_if_eq (tgt := 62) dX11_isProved_25 (by decide) (fun c4 => ?_) (fun c4 => ?_)
        · refine J_iconst (x := 0) dX11_isProved_62 (by decide) ?_
          refine J_istore (lv' := [(4, .int 0), (0, .ref 1100), (1, .int (nI r)), (2, .int x2), (3, .int (nI j))]) dX11_isProved_63 (by decide) rfl ?_
          refine J_iload dX11_isProved_65 0 rfl ?_
          refine J_if_eq (tgt := 101) dX11_isProved_67 (by decide) (fun c5 => ?_) (fun c5 => absurd (by decide) c5)
          refine J_iinc (q := 4) (z := nI (j + 1)) (lv' := [(3, .int (nI (j + 1))), (4, .int 0), (0, .ref 1100), (1, .int (nI r)), (2, .int x2)]) dX11_isProved_101 rfl (nI_1 j) (by decide) rfl ?_
          refine J_goto (tgt := 2) dX11_isProved_104 (by decide) ?_
          refine J_lv [2, 3, 4, 0] rfl ?_
          exact ih (j + 1) (by omega) (by omega) (lt_s hno (by clear ih; unfold pvP; simp [c2, c4]))
        · refine J_aload_n dX11_isProved_28 rfl 0 rfl ?_
          refine J_getr (ci := 11) (j := 18) (t := 1119) dX11_isProved_29 fl_X11_43 (i1100 hI) rfl rfl rfl ?_
          refine J_iload_n dX11_isProved_32 rfl 3 rfl ?_
          refine J_iale (x := v 1119 j) dX11_isProved_33 (i1119 hI) rfl (ix_in (j := j) rfl (by omega) (by omega)) ((congrArg _ (ix_cl (j := j) rfl (by omega))).trans rfl) ?_
          refine J_aload_n dX11_isProved_34 rfl 0 rfl ?_
          refine J_getr (ci := 11) (j := 10) (t := 1111) dX11_isProved_35 fl_X11_25 (i1100 hI) rfl rfl rfl ?_
          refine J_iload_n dX11_isProved_38 rfl 1 rfl ?_
          refine J_iale (x := v 1111 r) dX11_isProved_39 (i1111 hI) rfl (ix_in (j := r) rfl (by omega) (by omega)) ((congrArg _ (ix_cl (j := r) rfl (by omega))).trans rfl) ?_
          refine J_icmp_eq (tgt := 58) dX11_isProved_40 (by decide) (fun c6 => ?_) (fun c6 => ?_)
          · refine J_iconst (x := 1) dX11_isProved_58 (by decide) ?_
            refine J_goto (tgt := 63) dX11_isProved_59 (by decide) ?_
            refine J_istore (lv' := [(4, .int 1), (0, .ref 1100), (1, .int (nI r)), (2, .int x2), (3, .int (nI j))]) dX11_isProved_63 (by decide) rfl ?_
            refine J_iload dX11_isProved_65 0 rfl ?_
            refine J_if_eq (tgt := 101) dX11_isProved_67 (by decide) (fun c7 => absurd c7 (by decide)) (fun c7 => ?_)
            refine J_aload_n dX11_isProved_70 rfl 1 rfl ?_
            refine J_getr (ci := 11) (j := 19) (t := 1120) dX11_isProved_71 fl_X11_46 (i1100 hI) rfl rfl rfl ?_
            refine J_iload_n dX11_isProved_74 rfl 4 rfl ?_
            refine J_iale (x := v 1120 j) dX11_isProved_75 (i1120 hI) rfl (ix_in (j := j) rfl (by omega) (by omega)) ((congrArg _ (ix_cl (j := j) rfl (by omega))).trans rfl) ?_
            refine J_iload_n dX11_isProved_76 rfl 3 rfl ?_
            refine J_iload_n dX11_isProved_77 rfl 3 rfl ?_
            refine J_aload_n dX11_isProved_78 rfl 1 rfl ?_
            refine J_getr (ci := 11) (j := 40) (t := 1141) dX11_isProved_79 fl_X11_86 (i1100 hI) rfl rfl rfl ?_
            refine J_iconst (x := 1) dX11_isProved_82 (by decide) ?_
            refine J_iale (x := v 1141 1) dX11_isProved_83 (i1141 hI) rfl (ix_in (j := 1) rfl (by omega) (by omega)) ((congrArg _ (ix_cl (j := 1) rfl (by omega))).trans rfl) ?_
            refine J_iadd dX11_isProved_84 ?_
            refine J_eSI (z := mX11_isIn) (As := [.int (v 1120 j), .int x2, .int (x2 + (v 1141 1))]) (rest := []) (x := f_X11_isIn v  (v 1120 j) x2 (x2 + (v 1141 1))) dX11_isProved_85 ml_X11_204 ok_X11_isIn iv_X11_isIn (by decide) rfl rfl (Nat.le_of_ble_eq_true rfl) (k_X11_isIn hI v u _ _ _ ) ?_
            refine J_if_eq (tgt := 101) dX11_isProved_88 (by decide) (fun c8 => ?_) (fun c8 => ?_)
            · refine J_iinc (q := 4) (z := nI (j + 1)) (lv' := [(3, .int (nI (j + 1))), (4, .int 1), (0, .ref 1100), (1, .int (nI r)), (2, .int x2)]) dX11_isProved_101 rfl (nI_1 j) (by decide) rfl ?_
              refine J_goto (tgt := 2) dX11_isProved_104 (by decide) ?_
              refine J_lv [2, 3, 4, 0] rfl ?_
              exact ih (j + 1) (by omega) (by omega) (lt_s hno (by clear ih; unfold pvP; simp [c2, c4, c6, c8]))
            · refine J_aload_n dX11_isProved_91 rfl 1 rfl ?_
              refine J_iload_n dX11_isProved_92 rfl 4 rfl ?_
              refine J_eVI (z := mX11_isFalse) (As := [.int (nI j)]) (rest := []) (ci := 11) (x := f_X11_isFalse v  (nI j)) dX11_isProved_93 ml_X11_261 ok_X11_isFalse iv_X11_isFalse (by decide) (i1100 hI) rfl rfl rfl rfl (Nat.le_of_ble_eq_true rfl) (k_X11_isFalse hI v u _ (vp_in_nI (by omega) (by omega)) (by rw [nI_clamp (by omega)]; exact (hW.2 j hjN).2 (by rw [c2]; decide))) ?_
              refine J_if_ne (tgt := 101) dX11_isProved_96 (by decide) (fun c9 => ?_) (fun c9 => ?_)
              · refine J_iinc (q := 4) (z := nI (j + 1)) (lv' := [(3, .int (nI (j + 1))), (4, .int 1), (0, .ref 1100), (1, .int (nI r)), (2, .int x2)]) dX11_isProved_101 rfl (nI_1 j) (by decide) rfl ?_
                refine J_goto (tgt := 2) dX11_isProved_104 (by decide) ?_
                refine J_lv [2, 3, 4, 0] rfl ?_
                exact ih (j + 1) (by omega) (by omega) (lt_s hno (by clear ih; unfold pvP; simp [c2, c4, c6, c8, c9]))
              · refine J_iconst (x := 1) dX11_isProved_99 (by decide) ?_
                exact J_zret dX11_isProved_100 rfl (by decide) ⟨_, rfl, rfl, rfl, (cI_pos ⟨j, hjN, (by clear ih; unfold pvP; simp [c2, c4, c6, c8, c9])⟩).symm⟩
          · refine J_aload_n dX11_isProved_43 rfl 0 rfl ?_
            refine J_getr (ci := 11) (j := 18) (t := 1119) dX11_isProved_44 fl_X11_43 (i1100 hI) rfl rfl rfl ?_
            refine J_iload_n dX11_isProved_47 rfl 3 rfl ?_
            refine J_iale (x := v 1119 j) dX11_isProved_48 (i1119 hI) rfl (ix_in (j := j) rfl (by omega) (by omega)) ((congrArg _ (ix_cl (j := j) rfl (by omega))).trans rfl) ?_
            refine J_aload_n dX11_isProved_49 rfl 0 rfl ?_
            refine J_getr (ci := 11) (j := 11) (t := 1112) dX11_isProved_50 fl_X11_28 (i1100 hI) rfl rfl rfl ?_
            refine J_iload_n dX11_isProved_53 rfl 1 rfl ?_
            refine J_iale (x := v 1112 r) dX11_isProved_54 (i1112 hI) rfl (ix_in (j := r) rfl (by omega) (by omega)) ((congrArg _ (ix_cl (j := r) rfl (by omega))).trans rfl) ?_
            refine J_icmp_ne (tgt := 62) dX11_isProved_55 (by decide) (fun c10 => ?_) (fun c10 => ?_)
            · refine J_iconst (x := 0) dX11_isProved_62 (by decide) ?_
              refine J_istore (lv' := [(4, .int 0), (0, .ref 1100), (1, .int (nI r)), (2, .int x2), (3, .int (nI j))]) dX11_isProved_63 (by decide) rfl ?_
              refine J_iload dX11_isProved_65 0 rfl ?_
              refine J_if_eq (tgt := 101) dX11_isProved_67 (by decide) (fun c11 => ?_) (fun c11 => absurd (by decide) c11)
              refine J_iinc (q := 4) (z := nI (j + 1)) (lv' := [(3, .int (nI (j + 1))), (4, .int 0), (0, .ref 1100), (1, .int (nI r)), (2, .int x2)]) dX11_isProved_101 rfl (nI_1 j) (by decide) rfl ?_
              refine J_goto (tgt := 2) dX11_isProved_104 (by decide) ?_
              refine J_lv [2, 3, 4, 0] rfl ?_
              exact ih (j + 1) (by omega) (by omega) (lt_s hno (by clear ih; unfold pvP; simp [c2, c4, c6, c10]))
            · refine J_iconst (x := 1) dX11_isProved_58 (by decide) ?_
              refine J_goto (tgt := 63) dX11_isProved_59 (by decide) ?_
              refine J_istore (lv' := [(4, .int 1), (0, .ref 1100), (1, .int (nI r)), (2, .int x2), (3, .int (nI j))]) dX11_isProved_63 (by decide) rfl ?_
              refine J_iload dX11_isProved_65 0 rfl ?_
              refine J_if_eq (tgt := 101) dX11_isProved_67 (by decide) (fun c12 => absurd c12 (by decide)) (fun c12 => ?_)
              refine J_aload_n dX11_isProved_70 rfl 1 rfl ?_
              refine J_getr (ci := 11) (j := 19) (t := 1120) dX11_isProved_71 fl_X11_46 (i1100 hI) rfl rfl rfl ?_
              refine J_iload_n dX11_isProved_74 rfl 4 rfl ?_
              refine J_iale (x := v 1120 j) dX11_isProved_75 (i1120 hI) rfl (ix_in (j := j) rfl (by omega) (by omega)) ((congrArg _ (ix_cl (j := j) rfl (by omega))).trans rfl) ?_
              refine J_iload_n dX11_isProved_76 rfl 3 rfl ?_
              refine J_iload_n dX11_isProved_77 rfl 3 rfl ?_
              refine J_aload_n dX11_isProved_78 rfl 1 rfl ?_
              refine J_getr (ci := 11) (j := 40) (t := 1141) dX11_isProved_79 fl_X11_86 (i1100 hI) rfl rfl rfl ?_
              refine J_iconst (x := 1) dX11_isProved_82 (by decide) ?_
              refine J_iale (x := v 1141 1) dX11_isProved_83 (i1141 hI) rfl (ix_in (j := 1) rfl (by omega) (by omega)) ((congrArg _ (ix_cl (j := 1) rfl (by omega))).trans rfl) ?_
              refine J_iadd dX11_isProved_84 ?_
              refine J_eSI (z := mX11_isIn) (As := [.int (v 1120 j), .int x2, .int (x2 + (v 1141 1))]) (rest := []) (x := f_X11_isIn v  (v 1120 j) x2 (x2 + (v 1141 1))) dX11_isProved_85 ml_X11_204 ok_X11_isIn iv_X11_isIn (by decide) rfl rfl (Nat.le_of_ble_eq_true rfl) (k_X11_isIn hI v u _ _ _ ) ?_
              refine J_if_eq (tgt := 101) dX11_isProved_88 (by decide) (fun c13 => ?_) (fun c13 => ?_)
              · refine J_iinc (q := 4) (z := nI (j + 1)) (lv' := [(3, .int (nI (j + 1))), (4, .int 1), (0, .ref 1100), (1, .int (nI r)), (2, .int x2)]) dX11_isProved_101 rfl (nI_1 j) (by decide) rfl ?_
                refine J_goto (tgt := 2) dX11_isProved_104 (by decide) ?_
                refine J_lv [2, 3, 4, 0] rfl ?_
                exact ih (j + 1) (by omega) (by omega) (lt_s hno (by clear ih; unfold pvP; simp [c2, c4, c6, c10, c13]))
              · refine J_aload_n dX11_isProved_91 rfl 1 rfl ?_
                refine J_iload_n dX11_isProved_92 rfl 4 rfl ?_
                refine J_eVI (z := mX11_isFalse) (As := [.int (nI j)]) (rest := []) (ci := 11) (x := f_X11_isFalse v  (nI j)) dX11_isProved_93 ml_X11_261 ok_X11_isFalse iv_X11_isFalse (by decide) (i1100 hI) rfl rfl rfl rfl (Nat.le_of_ble_eq_true rfl) (k_X11_isFalse hI v u _ (vp_in_nI (by omega) (by omega)) (by rw [nI_clamp (by omega)]; exact (hW.2 j hjN).2 (by rw [c2]; decide))) ?_
                refine J_if_ne (tgt := 101) dX11_isProved_96 (by decide) (fun c14 => ?_) (fun c14 => ?_)
                · refine J_iinc (q := 4) (z := nI (j + 1)) (lv' := [(3, .int (nI (j + 1))), (4, .int 1), (0, .ref 1100), (1, .int (nI r)), (2, .int x2)]) dX11_isProved_101 rfl (nI_1 j) (by decide) rfl ?_
                  refine J_goto (tgt := 2) dX11_isProved_104 (by decide) ?_
                  refine J_lv [2, 3, 4, 0] rfl ?_
                  exact ih (j + 1) (by omega) (by omega) (lt_s hno (by clear ih; unfold pvP; simp [c2, c4, c6, c10, c13, c14]))
                · refine J_iconst (x := 1) dX11_isProved_99 (by decide) ?_
                  exact J_zret dX11_isProved_100 rfl (by decide) ⟨_, rfl, rfl, rfl, (cI_pos ⟨j, hjN, (by clear ih; unfold pvP; simp [c2, c4, c6, c10, c13, c14])⟩).symm⟩
theorem k_X11_isProved {l : Launch} {I : List Nat} (hI : fr_I I) (v : fr_V) (u : fr_U) (r : Nat) (hr : r < 16) (x2 : Int32) (N : Nat) (hN : v 1100 16 = nI N) (hW : nt_ok (v 1118) (v 1119) N) : Con l mX11_isProved I v u [.ref 1100, .int (nI r), .int x2] (QI v u (fun a => a = cI (∃ i, i < N ∧ pvP v r x2 i))) := by
  refine Con.of (by decide) (Nat.le_of_ble_eq_true rfl) ?_
  show J l mX11_isProved I v u 0 [(0, .ref 1100), (1, .int (nI r)), (2, .int x2)] [] _
  refine J_iconst (x := 0) dX11_isProved_0 (by decide) ?_
  refine J_istore_n (lv' := [(3, .int 0), (0, .ref 1100), (1, .int (nI r)), (2, .int x2)]) dX11_isProved_1 rfl (by decide) rfl ?_
  refine J_lv [1, 2, 3, 0] rfl ?_
  exact pv_L hI v u r hr x2 N hN hW hW.1 (N + 1) 0 (by omega) (by omega) lt_0
def sp_ow (P D : Nat → Int32) (c : Int32) : Nat → Int32
  | 0 => 0
  | j + 1 => sp_ow P D c j + (if P j = (-1) then 0 else if D j = 0 then c else 0)
theorem sp_ow_s (P D : Nat → Int32) (c : Int32) (j : Nat) : sp_ow P D c (j + 1) = sp_ow P D c j + (if P j = (-1) then 0 else if D j = 0 then c else 0) := rfl
theorem ow_L {l : Launch} {I : List Nat} (hI : fr_I I) (v : fr_V) (u : fr_U) (r : Nat) (hr : r < 16) (h2 : ¬ v 1111 r = (-1) → vp_in (v 1111 r) 12) (h3 : ¬ v 1112 r = (-1) → vp_in (v 1112 r) 12) : ∀ (d j : Nat) (a : Int32) (hd : 80 - j < d) (hj : j ≤ 80) (ha : a = sp_ow (fun j => v 1147 (80 * r + j)) (fun j => f_X11_isDue v (nI r) (nI j)) (v 1113 r) j), J l mX11_owedOf I v u 4 [(0, .ref 1100), (1, .int (nI r)), (2, .int a), (3, .int (nI j))] [] (QI v u (fun a => a = sp_ow (fun j => v 1147 (80 * r + j)) (fun j => f_X11_isDue v (nI r) (nI j)) (v 1113 r) 80)) := by
  intro d
  induction d with
  | zero => intros; omega
  | succ d ih =>
    intro j a hd hj ha
    refine J_iload_n dX11_owedOf_4 rfl 3 rfl ?_
    refine J_bipush (x := 80) dX11_owedOf_5 (by decide) ?_
    refine J_icmp_ge (tgt := 53) dX11_owedOf_7 (by decide) (fun c1 => ?_) (fun c1 => ?_)
    · refine J_iload_n dX11_owedOf_53 rfl 2 rfl ?_
      exact J_iret dX11_owedOf_54 rfl ⟨_, rfl, rfl, rfl, by have e : j = 80 := by {have := nz_le (a := 80) (by omega) (by omega) c1; omega}; rw [ha, e]⟩
    · have hj80 : j < 80 := nz_nle (a := 80) (by omega) (by omega) c1
      refine J_iload_n dX11_owedOf_10 rfl 2 rfl ?_
      refine J_aload_n dX11_owedOf_11 rfl 0 rfl ?_
      refine J_getr (ci := 11) (j := 46) (t := 1147) dX11_owedOf_12 fl_X11_99 (i1100 hI) rfl rfl rfl ?_
      refine J_bipush (x := 80) dX11_owedOf_15 (by decide) ?_
      refine J_iload_n dX11_owedOf_17 rfl 1 rfl ?_
      refine J_imul dX11_owedOf_18 ?_
      refine J_iload_n dX11_owedOf_19 rfl 3 rfl ?_
      refine J_iadd dX11_owedOf_20 ?_
      refine J_iale (x := v 1147 ((80 * r) + j)) dX11_owedOf_21 (i1147 hI) rfl (ix_in (j := (80 * r) + j) (by show ((nI 80) * (nI r)) + (nI j) = _; simp only [nI_add, pk_mul]) (by omega) (by omega)) ((congrArg _ (ix_cl (j := (80 * r) + j) (by show ((nI 80) * (nI r)) + (nI j) = _; simp only [nI_add, pk_mul]) (by omega))).trans rfl) ?_
      refine J_iconst (x := (-1)) dX11_owedOf_22 (by decide) ?_
      refine J_icmp_eq (tgt := 44) dX11_owedOf_23 (by decide) (fun c2 => ?_) (fun c2 => ?_)
      · refine J_iconst (x := 0) dX11_owedOf_44 (by decide) ?_
        refine J_iadd dX11_owedOf_45 ?_
        refine J_istore_n (lv' := [(2, .int (a + 0)), (0, .ref 1100), (1, .int (nI r)), (3, .int (nI j))]) dX11_owedOf_46 rfl (by decide) rfl ?_
        refine J_iinc (q := 3) (z := nI (j + 1)) (lv' := [(3, .int (nI (j + 1))), (2, .int (a + 0)), (0, .ref 1100), (1, .int (nI r))]) dX11_owedOf_47 rfl (nI_1 j) (by decide) rfl ?_
        refine J_goto (tgt := 4) dX11_owedOf_50 (by decide) ?_
        refine J_lv [2, 3, 1, 0] rfl ?_
        exact ih (j + 1) _ (by omega) (by omega) (by rw [sp_ow_s, if_pos c2, ha])
      · refine J_aload_n dX11_owedOf_26 rfl 0 rfl ?_
        refine J_iload_n dX11_owedOf_27 rfl 1 rfl ?_
        refine J_iload_n dX11_owedOf_28 rfl 3 rfl ?_
        refine J_eVI (z := mX11_isDue) (As := [.int (nI r), .int (nI j)]) (rest := [.int a]) (ci := 11) (x := f_X11_isDue v  (nI r) (nI j)) dX11_owedOf_29 ml_X11_269 ok_X11_isDue iv_X11_isDue (by decide) (i1100 hI) rfl rfl rfl rfl (Nat.le_of_ble_eq_true rfl) (k_X11_isDue hI v u _ _ (vp_in_nI hr (by omega)) (by rw [nI_clamp (by omega)]; exact h2) (by rw [nI_clamp (by omega)]; exact h3)) ?_
        refine J_if_ne (tgt := 44) dX11_owedOf_32 (by decide) (fun c3 => ?_) (fun c3 => ?_)
        · refine J_iconst (x := 0) dX11_owedOf_44 (by decide) ?_
          refine J_iadd dX11_owedOf_45 ?_
          refine J_istore_n (lv' := [(2, .int (a + 0)), (0, .ref 1100), (1, .int (nI r)), (3, .int (nI j))]) dX11_owedOf_46 rfl (by decide) rfl ?_
          refine J_iinc (q := 3) (z := nI (j + 1)) (lv' := [(3, .int (nI (j + 1))), (2, .int (a + 0)), (0, .ref 1100), (1, .int (nI r))]) dX11_owedOf_47 rfl (nI_1 j) (by decide) rfl ?_
          refine J_goto (tgt := 4) dX11_owedOf_50 (by decide) ?_
          refine J_lv [2, 3, 1, 0] rfl ?_
          exact ih (j + 1) _ (by omega) (by omega) (by rw [sp_ow_s, if_neg c2, if_neg c3, ha])
        · refine J_aload_n dX11_owedOf_35 rfl 0 rfl ?_
          refine J_getr (ci := 11) (j := 12) (t := 1113) dX11_owedOf_36 fl_X11_31 (i1100 hI) rfl rfl rfl ?_
          refine J_iload_n dX11_owedOf_39 rfl 1 rfl ?_
          refine J_iale (x := v 1113 r) dX11_owedOf_40 (i1113 hI) rfl (ix_in (j := r) rfl (by omega) (by omega)) ((congrArg _ (ix_cl (j := r) rfl (by omega))).trans rfl) ?_
          refine J_goto (tgt := 45) dX11_owedOf_41 (by decide) ?_
          refine J_iadd dX11_owedOf_45 ?_
          refine J_istore_n (lv' := [(2, .int (a + (v 1113 r))), (0, .ref 1100), (1, .int (nI r)), (3, .int (nI j))]) dX11_owedOf_46 rfl (by decide) rfl ?_
          refine J_iinc (q := 3) (z := nI (j + 1)) (lv' := [(3, .int (nI (j + 1))), (2, .int (a + (v 1113 r))), (0, .ref 1100), (1, .int (nI r))]) dX11_owedOf_47 rfl (nI_1 j) (by decide) rfl ?_
          refine J_goto (tgt := 4) dX11_owedOf_50 (by decide) ?_
          refine J_lv [2, 3, 1, 0] rfl ?_
          exact ih (j + 1) _ (by omega) (by omega) (by rw [sp_ow_s, if_neg c2, if_pos c3, ha])
theorem k_X11_owedOf {l : Launch} {I : List Nat} (hI : fr_I I) (v : fr_V) (u : fr_U) (r : Nat) (hr : r < 16) (h2 : ¬ v 1111 r = (-1) → vp_in (v 1111 r) 12) (h3 : ¬ v 1112 r = (-1) → vp_in (v 1112 r) 12) : Con l mX11_owedOf I v u [.ref 1100, .int (nI r)] (QI v u (fun a => a = sp_ow (fun j => v 1147 (80 * r + j)) (fun j => f_X11_isDue v (nI r) (nI j)) (v 1113 r) 80)) := by
  refine Con.of (by decide) (Nat.le_of_ble_eq_true rfl) ?_
  show J l mX11_owedOf I v u 0 [(0, .ref 1100), (1, .int (nI r))] [] _
  refine J_iconst (x := 0) dX11_owedOf_0 (by decide) ?_
  refine J_istore_n (lv' := [(2, .int 0), (0, .ref 1100), (1, .int (nI r))]) dX11_owedOf_1 rfl (by decide) rfl ?_
  refine J_iconst (x := 0) dX11_owedOf_2 (by decide) ?_
  refine J_istore_n (lv' := [(3, .int 0), (2, .int 0), (0, .ref 1100), (1, .int (nI r))]) dX11_owedOf_3 rfl (by decide) rfl ?_
  refine J_lv [2, 3, 1, 0] rfl ?_
  exact ow_L hI v u r hr h2 h3 81 0 _ (by omega) (by omega) rfl
def acP (v : fr_V) (w b h z ag : Int32) (k : Nat) : Prop := (if w = 0 then ¬ 1 < v 1131 k else v 1131 k = w) ∧ ¬ f_X11_isIn v ag (v 1133 k) (v 1134 k) = 0 ∧ (v 1135 k >>> (v 1107 z.toNatClampNeg &&& 31)) &&& 1 = 1 ∧ ¬ f_X11_isIn v h (v 1136 k) (v 1137 k) = 0 ∧ (v 1138 k = 0 ∨ (v 1138 k = 1 ↔ ¬ b = (-1)))
noncomputable def acF (v : fr_V) (w b h e z ag : Int32) : Nat → Int32
  | 0 => e
  | s + 1 => @ite Int32 (acP v w b h z ag s) (Classical.propDecidable _) (if w = 0 then 1 - v 1131 s else v 1132 s) (acF v w b h e z ag s)
theorem acF_p {v : fr_V} {w b h e z ag : Int32} {s : Nat} (hp : acP v w b h z ag s) : acF v w b h e z ag (s + 1) = if w = 0 then 1 - v 1131 s else v 1132 s := if_pos hp
theorem acF_n {v : fr_V} {w b h e z ag : Int32} {s : Nat} (hp : ¬ acP v w b h z ag s) : acF v w b h e z ag (s + 1) = acF v w b h e z ag s := if_neg hp
theorem ac_L {l : Launch} {I : List Nat} (hI : fr_I I) (v : fr_V) (u : fr_U) (x1 x2 x3 x4 x5 z ag : Int32) (M : Nat) (hM : M ≤ 24) (hz : vp_in z 12) : ∀ (t : Nat) (ht : t ≤ M), J l mX11_actOf I v u 47 [(0, .ref 1100), (1, .int x1), (2, .int x2), (3, .int x3), (4, .int x4), (5, .int x5), (6, .int z), (7, .int ag), (8, .int (nI t - 1))] [] (QI v u (fun a => a = acF v x1 x3 x4 x5 z ag t)) := by
  intro t
  induction t with
  | zero =>
    intro ht
    refine J_iload dX11_actOf_47 8 rfl ?_
    refine J_if_lt (tgt := 244) dX11_actOf_49 (by decide) (fun c1 => ?_) (fun c1 => absurd dn_0 c1)
    refine J_iload dX11_actOf_244 5 rfl ?_
    exact J_iret dX11_actOf_246 rfl ⟨_, rfl, rfl, rfl, rfl⟩
  | succ s ih =>
    intro ht
    rw [nI_pred]
    refine J_iload dX11_actOf_47 8 rfl ?_
    refine J_if_lt (tgt := 244) dX11_actOf_49 (by decide) (fun c1 => absurd c1 (nI_pos (by omega))) (fun c1 => ?_)
    refine J_iload_n dX11_actOf_52 rfl 1 rfl ?_
    refine J_if_ne (tgt := 75) dX11_actOf_53 (by decide) (fun c2 => ?_) (fun c2 => ?_)
    · refine J_aload_n dX11_actOf_75 rfl 0 rfl ?_
      refine J_getr (ci := 11) (j := 30) (t := 1131) dX11_actOf_76 fl_X11_62 (i1100 hI) rfl rfl rfl ?_
      refine J_iload dX11_actOf_79 8 rfl ?_
      refine J_iale (x := v 1131 s) dX11_actOf_81 (i1131 hI) rfl (ix_in (j := s) rfl (by omega) (by omega)) ((congrArg _ (ix_cl (j := s) rfl (by omega))).trans rfl) ?_
      refine J_iload_n dX11_actOf_82 rfl 1 rfl ?_
      refine J_icmp_ne (tgt := 90) dX11_actOf_83 (by decide) (fun c3 => ?_) (fun c3 => ?_)
      · refine J_iconst (x := 0) dX11_actOf_90 (by decide) ?_
        refine J_istore (lv' := [(9, .int 0), (0, .ref 1100), (1, .int x1), (2, .int x2), (3, .int x3), (4, .int x4), (5, .int x5), (6, .int z), (7, .int ag), (8, .int (nI s))]) dX11_actOf_91 (by decide) rfl ?_
        refine J_iload dX11_actOf_93 0 rfl ?_
        refine J_if_eq (tgt := 206) dX11_actOf_95 (by decide) (fun c4 => ?_) (fun c4 => absurd (by decide) c4)
        refine J_iconst (x := 0) dX11_actOf_206 (by decide) ?_
        refine J_istore (lv' := [(10, .int 0), (9, .int 0), (0, .ref 1100), (1, .int x1), (2, .int x2), (3, .int x3), (4, .int x4), (5, .int x5), (6, .int z), (7, .int ag), (8, .int (nI s))]) dX11_actOf_207 (by decide) rfl ?_
        refine J_iload dX11_actOf_209 0 rfl ?_
        refine J_if_eq (tgt := 238) dX11_actOf_211 (by decide) (fun c5 => ?_) (fun c5 => absurd (by decide) c5)
        refine J_iinc (q := 10) (z := nI s - 1) (lv' := [(8, .int (nI s - 1)), (10, .int 0), (9, .int 0), (0, .ref 1100), (1, .int x1), (2, .int x2), (3, .int x3), (4, .int x4), (5, .int x5), (6, .int z), (7, .int ag)]) dX11_actOf_238 rfl (dn_1 s) (by decide) rfl ?_
        refine J_goto (tgt := 47) dX11_actOf_241 (by decide) ?_
        refine J_lv [3, 4, 5, 6, 7, 8, 9, 10, 0] rfl ?_
        rw [acF_n (by clear ih; unfold acP; simp [c2, c3])]
        exact ih (by omega)
      · refine J_iconst (x := 1) dX11_actOf_86 (by decide) ?_
        refine J_goto (tgt := 91) dX11_actOf_87 (by decide) ?_
        refine J_istore (lv' := [(9, .int 1), (0, .ref 1100), (1, .int x1), (2, .int x2), (3, .int x3), (4, .int x4), (5, .int x5), (6, .int z), (7, .int ag), (8, .int (nI s))]) dX11_actOf_91 (by decide) rfl ?_
        refine J_iload dX11_actOf_93 0 rfl ?_
        refine J_if_eq (tgt := 206) dX11_actOf_95 (by decide) (fun c6 => absurd c6 (by decide)) (fun c6 => ?_)
        refine J_iload dX11_actOf_98 8 rfl ?_
        refine J_aload_n dX11_actOf_100 rfl 1 rfl ?_
        refine J_getr (ci := 11) (j := 32) (t := 1133) dX11_actOf_101 fl_X11_68 (i1100 hI) rfl rfl rfl ?_
        refine J_iload dX11_actOf_104 9 rfl ?_
        refine J_iale (x := v 1133 s) dX11_actOf_106 (i1133 hI) rfl (ix_in (j := s) rfl (by omega) (by omega)) ((congrArg _ (ix_cl (j := s) rfl (by omega))).trans rfl) ?_
        refine J_aload_n dX11_actOf_107 rfl 1 rfl ?_
        refine J_getr (ci := 11) (j := 33) (t := 1134) dX11_actOf_108 fl_X11_71 (i1100 hI) rfl rfl rfl ?_
        refine J_iload dX11_actOf_111 9 rfl ?_
        refine J_iale (x := v 1134 s) dX11_actOf_113 (i1134 hI) rfl (ix_in (j := s) rfl (by omega) (by omega)) ((congrArg _ (ix_cl (j := s) rfl (by omega))).trans rfl) ?_
        refine J_eSI (z := mX11_isIn) (As := [.int ag, .int (v 1133 s), .int (v 1134 s)]) (rest := []) (x := f_X11_isIn v  ag (v 1133 s) (v 1134 s)) dX11_actOf_114 ml_X11_204 ok_X11_isIn iv_X11_isIn (by decide) rfl rfl (Nat.le_of_ble_eq_true rfl) (k_X11_isIn hI v u _ _ _ ) ?_
        refine J_if_eq (tgt := 206) dX11_actOf_117 (by decide) (fun c7 => ?_) (fun c7 => ?_)
        · refine J_iconst (x := 0) dX11_actOf_206 (by decide) ?_
          refine J_istore (lv' := [(10, .int 0), (9, .int 1), (0, .ref 1100), (1, .int x1), (2, .int x2), (3, .int x3), (4, .int x4), (5, .int x5), (6, .int z), (7, .int ag), (8, .int (nI s))]) dX11_actOf_207 (by decide) rfl ?_
          refine J_iload dX11_actOf_209 0 rfl ?_
          refine J_if_eq (tgt := 238) dX11_actOf_211 (by decide) (fun c8 => ?_) (fun c8 => absurd (by decide) c8)
          refine J_iinc (q := 10) (z := nI s - 1) (lv' := [(8, .int (nI s - 1)), (10, .int 0), (9, .int 1), (0, .ref 1100), (1, .int x1), (2, .int x2), (3, .int x3), (4, .int x4), (5, .int x5), (6, .int z), (7, .int ag)]) dX11_actOf_238 rfl (dn_1 s) (by decide) rfl ?_
          refine J_goto (tgt := 47) dX11_actOf_241 (by decide) ?_
          refine J_lv [3, 4, 5, 6, 7, 8, 9, 10, 0] rfl ?_
          rw [acF_n (by clear ih; unfold acP; simp [c2, c3, c7])]
          exact ih (by omega)
        · refine J_aload_n dX11_actOf_120 rfl 1 rfl ?_
          refine J_getr (ci := 11) (j := 34) (t := 1135) dX11_actOf_121 fl_X11_74 (i1100 hI) rfl rfl rfl ?_
          refine J_iload dX11_actOf_124 9 rfl ?_
          refine J_iale (x := v 1135 s) dX11_actOf_126 (i1135 hI) rfl (ix_in (j := s) rfl (by omega) (by omega)) ((congrArg _ (ix_cl (j := s) rfl (by omega))).trans rfl) ?_
          refine J_aload_n dX11_actOf_127 rfl 1 rfl ?_
          refine J_getr (ci := 11) (j := 6) (t := 1107) dX11_actOf_128 fl_X11_16 (i1100 hI) rfl rfl rfl ?_
          refine J_iload dX11_actOf_131 7 rfl ?_
          refine J_iale (x := v 1107 z.toNatClampNeg) dX11_actOf_133 (i1107 hI) rfl hz rfl ?_
          refine J_ishr dX11_actOf_134 ?_
          refine J_iconst (x := 1) dX11_actOf_135 (by decide) ?_
          refine J_iand dX11_actOf_136 ?_
          refine J_iconst (x := 1) dX11_actOf_137 (by decide) ?_
          refine J_icmp_ne (tgt := 206) dX11_actOf_138 (by decide) (fun c9 => ?_) (fun c9 => ?_)
          · refine J_iconst (x := 0) dX11_actOf_206 (by decide) ?_
            refine J_istore (lv' := [(10, .int 0), (9, .int 1), (0, .ref 1100), (1, .int x1), (2, .int x2), (3, .int x3), (4, .int x4), (5, .int x5), (6, .int z), (7, .int ag), (8, .int (nI s))]) dX11_actOf_207 (by decide) rfl ?_
            refine J_iload dX11_actOf_209 0 rfl ?_
            refine J_if_eq (tgt := 238) dX11_actOf_211 (by decide) (fun c10 => ?_) (fun c10 => absurd (by decide) c10)
            refine J_iinc (q := 10) (z := nI s - 1) (lv' := [(8, .int (nI s - 1)), (10, .int 0), (9, .int 1), (0, .ref 1100), (1, .int x1), (2, .int x2), (3, .int x3), (4, .int x4), (5, .int x5), (6, .int z), (7, .int ag)]) dX11_actOf_238 rfl (dn_1 s) (by decide) rfl ?_
            refine J_goto (tgt := 47) dX11_actOf_241 (by decide) ?_
            refine J_lv [3, 4, 5, 6, 7, 8, 9, 10, 0] rfl ?_
            rw [acF_n (by clear ih; unfold acP; simp [c2, c3, c7, c9])]
            exact ih (by omega)
          · refine J_iload dX11_actOf_141 5 rfl ?_
            refine J_aload_n dX11_actOf_143 rfl 1 rfl ?_
            refine J_getr (ci := 11) (j := 35) (t := 1136) dX11_actOf_144 fl_X11_77 (i1100 hI) rfl rfl rfl ?_
            refine J_iload dX11_actOf_147 9 rfl ?_
            refine J_iale (x := v 1136 s) dX11_actOf_149 (i1136 hI) rfl (ix_in (j := s) rfl (by omega) (by omega)) ((congrArg _ (ix_cl (j := s) rfl (by omega))).trans rfl) ?_
            refine J_aload_n dX11_actOf_150 rfl 1 rfl ?_
            refine J_getr (ci := 11) (j := 36) (t := 1137) dX11_actOf_151 fl_X11_80 (i1100 hI) rfl rfl rfl ?_
            refine J_iload dX11_actOf_154 9 rfl ?_
            refine J_iale (x := v 1137 s) dX11_actOf_156 (i1137 hI) rfl (ix_in (j := s) rfl (by omega) (by omega)) ((congrArg _ (ix_cl (j := s) rfl (by omega))).trans rfl) ?_
            refine J_eSI (z := mX11_isIn) (As := [.int x4, .int (v 1136 s), .int (v 1137 s)]) (rest := []) (x := f_X11_isIn v  x4 (v 1136 s) (v 1137 s)) dX11_actOf_157 ml_X11_204 ok_X11_isIn iv_X11_isIn (by decide) rfl rfl (Nat.le_of_ble_eq_true rfl) (k_X11_isIn hI v u _ _ _ ) ?_
            refine J_if_eq (tgt := 206) dX11_actOf_160 (by decide) (fun c11 => ?_) (fun c11 => ?_)
            · refine J_iconst (x := 0) dX11_actOf_206 (by decide) ?_
              refine J_istore (lv' := [(10, .int 0), (9, .int 1), (0, .ref 1100), (1, .int x1), (2, .int x2), (3, .int x3), (4, .int x4), (5, .int x5), (6, .int z), (7, .int ag), (8, .int (nI s))]) dX11_actOf_207 (by decide) rfl ?_
              refine J_iload dX11_actOf_209 0 rfl ?_
              refine J_if_eq (tgt := 238) dX11_actOf_211 (by decide) (fun c12 => ?_) (fun c12 => absurd (by decide) c12)
              refine J_iinc (q := 10) (z := nI s - 1) (lv' := [(8, .int (nI s - 1)), (10, .int 0), (9, .int 1), (0, .ref 1100), (1, .int x1), (2, .int x2), (3, .int x3), (4, .int x4), (5, .int x5), (6, .int z), (7, .int ag)]) dX11_actOf_238 rfl (dn_1 s) (by decide) rfl ?_
              refine J_goto (tgt := 47) dX11_actOf_241 (by decide) ?_
              refine J_lv [3, 4, 5, 6, 7, 8, 9, 10, 0] rfl ?_
              rw [acF_n (by clear ih; unfold acP; simp [c2, c3, c7, c9, c11])]
              exact ih (by omega)
            · refine J_aload_n dX11_actOf_163 rfl 1 rfl ?_
              refine J_getr (ci := 11) (j := 37) (t := 1138) dX11_actOf_164 fl_X11_83 (i1100 hI) rfl rfl rfl ?_
              refine J_iload dX11_actOf_167 9 rfl ?_
              refine J_iale (x := v 1138 s) dX11_actOf_169 (i1138 hI) rfl (ix_in (j := s) rfl (by omega) (by omega)) ((congrArg _ (ix_cl (j := s) rfl (by omega))).trans rfl) ?_
              refine J_if_eq (tgt := 202) dX11_actOf_170 (by decide) (fun c13 => ?_) (fun c13 => ?_)
              · refine J_iconst (x := 1) dX11_actOf_202 (by decide) ?_
                refine J_goto (tgt := 207) dX11_actOf_203 (by decide) ?_
                refine J_istore (lv' := [(10, .int 1), (9, .int 1), (0, .ref 1100), (1, .int x1), (2, .int x2), (3, .int x3), (4, .int x4), (5, .int x5), (6, .int z), (7, .int ag), (8, .int (nI s))]) dX11_actOf_207 (by decide) rfl ?_
                refine J_iload dX11_actOf_209 0 rfl ?_
                refine J_if_eq (tgt := 238) dX11_actOf_211 (by decide) (fun c14 => absurd c14 (by decide)) (fun c14 => ?_)
                refine J_iload_n dX11_actOf_214 rfl 3 rfl ?_
                refine J_if_ne (tgt := 230) dX11_actOf_215 (by decide) (fun c15 => ?_) (fun c15 => ?_)
                · refine J_aload_n dX11_actOf_230 rfl 2 rfl ?_
                  refine J_getr (ci := 11) (j := 31) (t := 1132) dX11_actOf_231 fl_X11_65 (i1100 hI) rfl rfl rfl ?_
                  refine J_iload dX11_actOf_234 10 rfl ?_
                  refine J_iale (x := v 1132 s) dX11_actOf_236 (i1132 hI) rfl (ix_in (j := s) rfl (by omega) (by omega)) ((congrArg _ (ix_cl (j := s) rfl (by omega))).trans rfl) ?_
                  exact J_iret dX11_actOf_237 rfl ⟨_, rfl, rfl, rfl, by rw [acF_p (by clear ih; unfold acP; simp [c2, c3, c7, c9, c11, c13]), if_neg c15]⟩
                · refine J_iconst (x := 1) dX11_actOf_218 (by decide) ?_
                  refine J_aload_n dX11_actOf_219 rfl 2 rfl ?_
                  refine J_getr (ci := 11) (j := 30) (t := 1131) dX11_actOf_220 fl_X11_62 (i1100 hI) rfl rfl rfl ?_
                  refine J_iload dX11_actOf_223 10 rfl ?_
                  refine J_iale (x := v 1131 s) dX11_actOf_225 (i1131 hI) rfl (ix_in (j := s) rfl (by omega) (by omega)) ((congrArg _ (ix_cl (j := s) rfl (by omega))).trans rfl) ?_
                  refine J_isub dX11_actOf_226 ?_
                  refine J_goto (tgt := 237) dX11_actOf_227 (by decide) ?_
                  exact J_iret dX11_actOf_237 rfl ⟨_, rfl, rfl, rfl, by rw [acF_p (by clear ih; unfold acP; simp [c2, c3, c7, c9, c11, c13]), if_pos c15]⟩
              · refine J_aload_n dX11_actOf_173 rfl 1 rfl ?_
                refine J_getr (ci := 11) (j := 37) (t := 1138) dX11_actOf_174 fl_X11_83 (i1100 hI) rfl rfl rfl ?_
                refine J_iload dX11_actOf_177 9 rfl ?_
                refine J_iale (x := v 1138 s) dX11_actOf_179 (i1138 hI) rfl (ix_in (j := s) rfl (by omega) (by omega)) ((congrArg _ (ix_cl (j := s) rfl (by omega))).trans rfl) ?_
                refine J_iconst (x := 1) dX11_actOf_180 (by decide) ?_
                refine J_icmp_ne (tgt := 188) dX11_actOf_181 (by decide) (fun c16 => ?_) (fun c16 => ?_)
                · refine J_iconst (x := 0) dX11_actOf_188 (by decide) ?_
                  refine J_iload_n dX11_actOf_189 rfl 4 rfl ?_
                  refine J_iconst (x := (-1)) dX11_actOf_190 (by decide) ?_
                  refine J_icmp_eq (tgt := 198) dX11_actOf_191 (by decide) (fun c17 => ?_) (fun c17 => ?_)
                  · refine J_iconst (x := 0) dX11_actOf_198 (by decide) ?_
                    refine J_icmp_ne (tgt := 206) dX11_actOf_199 (by decide) (fun c18 => absurd rfl c18) (fun c18 => ?_)
                    refine J_iconst (x := 1) dX11_actOf_202 (by decide) ?_
                    refine J_goto (tgt := 207) dX11_actOf_203 (by decide) ?_
                    refine J_istore (lv' := [(10, .int 1), (9, .int 1), (0, .ref 1100), (1, .int x1), (2, .int x2), (3, .int x3), (4, .int x4), (5, .int x5), (6, .int z), (7, .int ag), (8, .int (nI s))]) dX11_actOf_207 (by decide) rfl ?_
                    refine J_iload dX11_actOf_209 0 rfl ?_
                    refine J_if_eq (tgt := 238) dX11_actOf_211 (by decide) (fun c19 => absurd c19 (by decide)) (fun c19 => ?_)
                    refine J_iload_n dX11_actOf_214 rfl 3 rfl ?_
                    refine J_if_ne (tgt := 230) dX11_actOf_215 (by decide) (fun c20 => ?_) (fun c20 => ?_)
                    · refine J_aload_n dX11_actOf_230 rfl 2 rfl ?_
                      refine J_getr (ci := 11) (j := 31) (t := 1132) dX11_actOf_231 fl_X11_65 (i1100 hI) rfl rfl rfl ?_
                      refine J_iload dX11_actOf_234 10 rfl ?_
                      refine J_iale (x := v 1132 s) dX11_actOf_236 (i1132 hI) rfl (ix_in (j := s) rfl (by omega) (by omega)) ((congrArg _ (ix_cl (j := s) rfl (by omega))).trans rfl) ?_
                      exact J_iret dX11_actOf_237 rfl ⟨_, rfl, rfl, rfl, by rw [acF_p (by clear ih; unfold acP; simp [c2, c3, c7, c9, c11, c13, c16, c17]), if_neg c20]⟩
                    · refine J_iconst (x := 1) dX11_actOf_218 (by decide) ?_
                      refine J_aload_n dX11_actOf_219 rfl 2 rfl ?_
                      refine J_getr (ci := 11) (j := 30) (t := 1131) dX11_actOf_220 fl_X11_62 (i1100 hI) rfl rfl rfl ?_
                      refine J_iload dX11_actOf_223 10 rfl ?_
                      refine J_iale (x := v 1131 s) dX11_actOf_225 (i1131 hI) rfl (ix_in (j := s) rfl (by omega) (by omega)) ((congrArg _ (ix_cl (j := s) rfl (by omega))).trans rfl) ?_
                      refine J_isub dX11_actOf_226 ?_
                      refine J_goto (tgt := 237) dX11_actOf_227 (by decide) ?_
                      exact J_iret dX11_actOf_237 rfl ⟨_, rfl, rfl, rfl, by rw [acF_p (by clear ih; unfold acP; simp [c2, c3, c7, c9, c11, c13, c16, c17]), if_pos c20]⟩
                  · refine J_iconst (x := 1) dX11_actOf_194 (by decide) ?_
                    refine J_goto (tgt := 199) dX11_actOf_195 (by decide) ?_
                    refine J_icmp_ne (tgt := 206) dX11_actOf_199 (by decide) (fun c21 => ?_) (fun c21 => absurd c21 (by decide))
                    refine J_iconst (x := 0) dX11_actOf_206 (by decide) ?_
                    refine J_istore (lv' := [(10, .int 0), (9, .int 1), (0, .ref 1100), (1, .int x1), (2, .int x2), (3, .int x3), (4, .int x4), (5, .int x5), (6, .int z), (7, .int ag), (8, .int (nI s))]) dX11_actOf_207 (by decide) rfl ?_
                    refine J_iload dX11_actOf_209 0 rfl ?_
                    refine J_if_eq (tgt := 238) dX11_actOf_211 (by decide) (fun c22 => ?_) (fun c22 => absurd (by decide) c22)
                    refine J_iinc (q := 10) (z := nI s - 1) (lv' := [(8, .int (nI s - 1)), (10, .int 0), (9, .int 1), (0, .ref 1100), (1, .int x1), (2, .int x2), (3, .int x3), (4, .int x4), (5, .int x5), (6, .int z), (7, .int ag)]) dX11_actOf_238 rfl (dn_1 s) (by decide) rfl ?_
                    refine J_goto (tgt := 47) dX11_actOf_241 (by decide) ?_
                    refine J_lv [3, 4, 5, 6, 7, 8, 9, 10, 0] rfl ?_
                    rw [acF_n (by clear ih; unfold acP; simp [c2, c3, c7, c9, c11, c13, c16, c17])]
                    exact ih (by omega)
                · refine J_iconst (x := 1) dX11_actOf_184 (by decide) ?_
                  refine J_goto (tgt := 189) dX11_actOf_185 (by decide) ?_
                  refine J_iload_n dX11_actOf_189 rfl 4 rfl ?_
                  refine J_iconst (x := (-1)) dX11_actOf_190 (by decide) ?_
                  refine J_icmp_eq (tgt := 198) dX11_actOf_191 (by decide) (fun c23 => ?_) (fun c23 => ?_)
                  · refine J_iconst (x := 0) dX11_actOf_198 (by decide) ?_
                    refine J_icmp_ne (tgt := 206) dX11_actOf_199 (by decide) (fun c24 => ?_) (fun c24 => absurd c24 (by decide))
                    refine J_iconst (x := 0) dX11_actOf_206 (by decide) ?_
                    refine J_istore (lv' := [(10, .int 0), (9, .int 1), (0, .ref 1100), (1, .int x1), (2, .int x2), (3, .int x3), (4, .int x4), (5, .int x5), (6, .int z), (7, .int ag), (8, .int (nI s))]) dX11_actOf_207 (by decide) rfl ?_
                    refine J_iload dX11_actOf_209 0 rfl ?_
                    refine J_if_eq (tgt := 238) dX11_actOf_211 (by decide) (fun c25 => ?_) (fun c25 => absurd (by decide) c25)
                    refine J_iinc (q := 10) (z := nI s - 1) (lv' := [(8, .int (nI s - 1)), (10, .int 0), (9, .int 1), (0, .ref 1100), (1, .int x1), (2, .int x2), (3, .int x3), (4, .int x4), (5, .int x5), (6, .int z), (7, .int ag)]) dX11_actOf_238 rfl (dn_1 s) (by decide) rfl ?_
                    refine J_goto (tgt := 47) dX11_actOf_241 (by decide) ?_
                    refine J_lv [3, 4, 5, 6, 7, 8, 9, 10, 0] rfl ?_
                    rw [acF_n (by clear ih; unfold acP; simp [c2, c3, c7, c9, c11, c13, c16, c23])]
                    exact ih (by omega)
                  · refine J_iconst (x := 1) dX11_actOf_194 (by decide) ?_
                    refine J_goto (tgt := 199) dX11_actOf_195 (by decide) ?_
                    refine J_icmp_ne (tgt := 206) dX11_actOf_199 (by decide) (fun c26 => absurd rfl c26) (fun c26 => ?_)
                    refine J_iconst (x := 1) dX11_actOf_202 (by decide) ?_
                    refine J_goto (tgt := 207) dX11_actOf_203 (by decide) ?_
                    refine J_istore (lv' := [(10, .int 1), (9, .int 1), (0, .ref 1100), (1, .int x1), (2, .int x2), (3, .int x3), (4, .int x4), (5, .int x5), (6, .int z), (7, .int ag), (8, .int (nI s))]) dX11_actOf_207 (by decide) rfl ?_
                    refine J_iload dX11_actOf_209 0 rfl ?_
                    refine J_if_eq (tgt := 238) dX11_actOf_211 (by decide) (fun c27 => absurd c27 (by decide)) (fun c27 => ?_)
                    refine J_iload_n dX11_actOf_214 rfl 3 rfl ?_
                    refine J_if_ne (tgt := 230) dX11_actOf_215 (by decide) (fun c28 => ?_) (fun c28 => ?_)
                    · refine J_aload_n dX11_actOf_230 rfl 2 rfl ?_
                      refine J_getr (ci := 11) (j := 31) (t := 1132) dX11_actOf_231 fl_X11_65 (i1100 hI) rfl rfl rfl ?_
                      refine J_iload dX11_actOf_234 10 rfl ?_
                      refine J_iale (x := v 1132 s) dX11_actOf_236 (i1132 hI) rfl (ix_in (j := s) rfl (by omega) (by omega)) ((congrArg _ (ix_cl (j := s) rfl (by omega))).trans rfl) ?_
                      exact J_iret dX11_actOf_237 rfl ⟨_, rfl, rfl, rfl, by rw [acF_p (by clear ih; unfold acP; simp [c2, c3, c7, c9, c11, c13, c16, c23]), if_neg c28]⟩
                    · refine J_iconst (x := 1) dX11_actOf_218 (by decide) ?_
                      refine J_aload_n dX11_actOf_219 rfl 2 rfl ?_
                      refine J_getr (ci := 11) (j := 30) (t := 1131) dX11_actOf_220 fl_X11_62 (i1100 hI) rfl rfl rfl ?_
                      refine J_iload dX11_actOf_223 10 rfl ?_
                      refine J_iale (x := v 1131 s) dX11_actOf_225 (i1131 hI) rfl (ix_in (j := s) rfl (by omega) (by omega)) ((congrArg _ (ix_cl (j := s) rfl (by omega))).trans rfl) ?_
                      refine J_isub dX11_actOf_226 ?_
                      refine J_goto (tgt := 237) dX11_actOf_227 (by decide) ?_
                      exact J_iret dX11_actOf_237 rfl ⟨_, rfl, rfl, rfl, by rw [acF_p (by clear ih; unfold acP; simp [c2, c3, c7, c9, c11, c13, c16, c23]), if_pos c28]⟩
    · refine J_aload_n dX11_actOf_56 rfl 0 rfl ?_
      refine J_getr (ci := 11) (j := 30) (t := 1131) dX11_actOf_57 fl_X11_62 (i1100 hI) rfl rfl rfl ?_
      refine J_iload dX11_actOf_60 8 rfl ?_
      refine J_iale (x := v 1131 s) dX11_actOf_62 (i1131 hI) rfl (ix_in (j := s) rfl (by omega) (by omega)) ((congrArg _ (ix_cl (j := s) rfl (by omega))).trans rfl) ?_
      refine J_iconst (x := 1) dX11_actOf_63 (by decide) ?_
      refine J_icmp_gt (tgt := 71) dX11_actOf_64 (by decide) (fun c29 => ?_) (fun c29 => ?_)
      · refine J_iconst (x := 0) dX11_actOf_71 (by decide) ?_
        refine J_goto (tgt := 91) dX11_actOf_72 (by decide) ?_
        refine J_istore (lv' := [(9, .int 0), (0, .ref 1100), (1, .int x1), (2, .int x2), (3, .int x3), (4, .int x4), (5, .int x5), (6, .int z), (7, .int ag), (8, .int (nI s))]) dX11_actOf_91 (by decide) rfl ?_
        refine J_iload dX11_actOf_93 0 rfl ?_
        refine J_if_eq (tgt := 206) dX11_actOf_95 (by decide) (fun c30 => ?_) (fun c30 => absurd (by decide) c30)
        refine J_iconst (x := 0) dX11_actOf_206 (by decide) ?_
        refine J_istore (lv' := [(10, .int 0), (9, .int 0), (0, .ref 1100), (1, .int x1), (2, .int x2), (3, .int x3), (4, .int x4), (5, .int x5), (6, .int z), (7, .int ag), (8, .int (nI s))]) dX11_actOf_207 (by decide) rfl ?_
        refine J_iload dX11_actOf_209 0 rfl ?_
        refine J_if_eq (tgt := 238) dX11_actOf_211 (by decide) (fun c31 => ?_) (fun c31 => absurd (by decide) c31)
        refine J_iinc (q := 10) (z := nI s - 1) (lv' := [(8, .int (nI s - 1)), (10, .int 0), (9, .int 0), (0, .ref 1100), (1, .int x1), (2, .int x2), (3, .int x3), (4, .int x4), (5, .int x5), (6, .int z), (7, .int ag)]) dX11_actOf_238 rfl (dn_1 s) (by decide) rfl ?_
        refine J_goto (tgt := 47) dX11_actOf_241 (by decide) ?_
        refine J_lv [3, 4, 5, 6, 7, 8, 9, 10, 0] rfl ?_
        rw [acF_n (by clear ih; unfold acP; simp [c2, c29])]
        exact ih (by omega)
      · refine J_iconst (x := 1) dX11_actOf_67 (by decide) ?_
        refine J_goto (tgt := 91) dX11_actOf_68 (by decide) ?_
        refine J_istore (lv' := [(9, .int 1), (0, .ref 1100), (1, .int x1), (2, .int x2), (3, .int x3), (4, .int x4), (5, .int x5), (6, .int z), (7, .int ag), (8, .int (nI s))]) dX11_actOf_91 (by decide) rfl ?_
        refine J_iload dX11_actOf_93 0 rfl ?_
        refine J_if_eq (tgt := 206) dX11_actOf_95 (by decide) (fun c32 => absurd c32 (by decide)) (fun c32 => ?_)
        refine J_iload dX11_actOf_98 8 rfl ?_
        refine J_aload_n dX11_actOf_100 rfl 1 rfl ?_
        refine J_getr (ci := 11) (j := 32) (t := 1133) dX11_actOf_101 fl_X11_68 (i1100 hI) rfl rfl rfl ?_
        refine J_iload dX11_actOf_104 9 rfl ?_
        refine J_iale (x := v 1133 s) dX11_actOf_106 (i1133 hI) rfl (ix_in (j := s) rfl (by omega) (by omega)) ((congrArg _ (ix_cl (j := s) rfl (by omega))).trans rfl) ?_
        refine J_aload_n dX11_actOf_107 rfl 1 rfl ?_
        refine J_getr (ci := 11) (j := 33) (t := 1134) dX11_actOf_108 fl_X11_71 (i1100 hI) rfl rfl rfl ?_
        refine J_iload dX11_actOf_111 9 rfl ?_
        refine J_iale (x := v 1134 s) dX11_actOf_113 (i1134 hI) rfl (ix_in (j := s) rfl (by omega) (by omega)) ((congrArg _ (ix_cl (j := s) rfl (by omega))).trans rfl) ?_
        refine J_eSI (z := mX11_isIn) (As := [.int ag, .int (v 1133 s), .int (v 1134 s)]) (rest := []) (x := f_X11_isIn v  ag (v 1133 s) (v 1134 s)) dX11_actOf_114 ml_X11_204 ok_X11_isIn iv_X11_isIn (by decide) rfl rfl (Nat.le_of_ble_eq_true rfl) (k_X11_isIn hI v u _ _ _ ) ?_
        refine J_if_eq (tgt := 206) dX11_actOf_117 (by decide) (fun c33 => ?_) (fun c33 => ?_)
        · refine J_iconst (x := 0) dX11_actOf_206 (by decide) ?_
          refine J_istore (lv' := [(10, .int 0), (9, .int 1), (0, .ref 1100), (1, .int x1), (2, .int x2), (3, .int x3), (4, .int x4), (5, .int x5), (6, .int z), (7, .int ag), (8, .int (nI s))]) dX11_actOf_207 (by decide) rfl ?_
          refine J_iload dX11_actOf_209 0 rfl ?_
          refine J_if_eq (tgt := 238) dX11_actOf_211 (by decide) (fun c34 => ?_) (fun c34 => absurd (by decide) c34)
          refine J_iinc (q := 10) (z := nI s - 1) (lv' := [(8, .int (nI s - 1)), (10, .int 0), (9, .int 1), (0, .ref 1100), (1, .int x1), (2, .int x2), (3, .int x3), (4, .int x4), (5, .int x5), (6, .int z), (7, .int ag)]) dX11_actOf_238 rfl (dn_1 s) (by decide) rfl ?_
          refine J_goto (tgt := 47) dX11_actOf_241 (by decide) ?_
          refine J_lv [3, 4, 5, 6, 7, 8, 9, 10, 0] rfl ?_
          rw [acF_n (by clear ih; unfold acP; simp [c2, c29, c33])]
          exact ih (by omega)
        · refine J_aload_n dX11_actOf_120 rfl 1 rfl ?_
          refine J_getr (ci := 11) (j := 34) (t := 1135) dX11_actOf_121 fl_X11_74 (i1100 hI) rfl rfl rfl ?_
          refine J_iload dX11_actOf_124 9 rfl ?_
          refine J_iale (x := v 1135 s) dX11_actOf_126 (i1135 hI) rfl (ix_in (j := s) rfl (by omega) (by omega)) ((congrArg _ (ix_cl (j := s) rfl (by omega))).trans rfl) ?_
          refine J_aload_n dX11_actOf_127 rfl 1 rfl ?_
          refine J_getr (ci := 11) (j := 6) (t := 1107) dX11_actOf_128 fl_X11_16 (i1100 hI) rfl rfl rfl ?_
          refine J_iload dX11_actOf_131 7 rfl ?_
          refine J_iale (x := v 1107 z.toNatClampNeg) dX11_actOf_133 (i1107 hI) rfl hz rfl ?_
          refine J_ishr dX11_actOf_134 ?_
          refine J_iconst (x := 1) dX11_actOf_135 (by decide) ?_
          refine J_iand dX11_actOf_136 ?_
          refine J_iconst (x := 1) dX11_actOf_137 (by decide) ?_
          refine J_icmp_ne (tgt := 206) dX11_actOf_138 (by decide) (fun c35 => ?_) (fun c35 => ?_)
          · refine J_iconst (x := 0) dX11_actOf_206 (by decide) ?_
            refine J_istore (lv' := [(10, .int 0), (9, .int 1), (0, .ref 1100), (1, .int x1), (2, .int x2), (3, .int x3), (4, .int x4), (5, .int x5), (6, .int z), (7, .int ag), (8, .int (nI s))]) dX11_actOf_207 (by decide) rfl ?_
            refine J_iload dX11_actOf_209 0 rfl ?_
            refine J_if_eq (tgt := 238) dX11_actOf_211 (by decide) (fun c36 => ?_) (fun c36 => absurd (by decide) c36)
            refine J_iinc (q := 10) (z := nI s - 1) (lv' := [(8, .int (nI s - 1)), (10, .int 0), (9, .int 1), (0, .ref 1100), (1, .int x1), (2, .int x2), (3, .int x3), (4, .int x4), (5, .int x5), (6, .int z), (7, .int ag)]) dX11_actOf_238 rfl (dn_1 s) (by decide) rfl ?_
            refine J_goto (tgt := 47) dX11_actOf_241 (by decide) ?_
            refine J_lv [3, 4, 5, 6, 7, 8, 9, 10, 0] rfl ?_
            rw [acF_n (by clear ih; unfold acP; simp [c2, c29, c33, c35])]
            exact ih (by omega)
          · refine J_iload dX11_actOf_141 5 rfl ?_
            refine J_aload_n dX11_actOf_143 rfl 1 rfl ?_
            refine J_getr (ci := 11) (j := 35) (t := 1136) dX11_actOf_144 fl_X11_77 (i1100 hI) rfl rfl rfl ?_
            refine J_iload dX11_actOf_147 9 rfl ?_
            refine J_iale (x := v 1136 s) dX11_actOf_149 (i1136 hI) rfl (ix_in (j := s) rfl (by omega) (by omega)) ((congrArg _ (ix_cl (j := s) rfl (by omega))).trans rfl) ?_
            refine J_aload_n dX11_actOf_150 rfl 1 rfl ?_
            refine J_getr (ci := 11) (j := 36) (t := 1137) dX11_actOf_151 fl_X11_80 (i1100 hI) rfl rfl rfl ?_
            refine J_iload dX11_actOf_154 9 rfl ?_
            refine J_iale (x := v 1137 s) dX11_actOf_156 (i1137 hI) rfl (ix_in (j := s) rfl (by omega) (by omega)) ((congrArg _ (ix_cl (j := s) rfl (by omega))).trans rfl) ?_
            refine J_eSI (z := mX11_isIn) (As := [.int x4, .int (v 1136 s), .int (v 1137 s)]) (rest := []) (x := f_X11_isIn v  x4 (v 1136 s) (v 1137 s)) dX11_actOf_157 ml_X11_204 ok_X11_isIn iv_X11_isIn (by decide) rfl rfl (Nat.le_of_ble_eq_true rfl) (k_X11_isIn hI v u _ _ _ ) ?_
            refine J_if_eq (tgt := 206) dX11_actOf_160 (by decide) (fun c37 => ?_) (fun c37 => ?_)
            · refine J_iconst (x := 0) dX11_actOf_206 (by decide) ?_
              refine J_istore (lv' := [(10, .int 0), (9, .int 1), (0, .ref 1100), (1, .int x1), (2, .int x2), (3, .int x3), (4, .int x4), (5, .int x5), (6, .int z), (7, .int ag), (8, .int (nI s))]) dX11_actOf_207 (by decide) rfl ?_
              refine J_iload dX11_actOf_209 0 rfl ?_
              refine J_if_eq (tgt := 238) dX11_actOf_211 (by decide) (fun c38 => ?_) (fun c38 => absurd (by decide) c38)
              refine J_iinc (q := 10) (z := nI s - 1) (lv' := [(8, .int (nI s - 1)), (10, .int 0), (9, .int 1), (0, .ref 1100), (1, .int x1), (2, .int x2), (3, .int x3), (4, .int x4), (5, .int x5), (6, .int z), (7, .int ag)]) dX11_actOf_238 rfl (dn_1 s) (by decide) rfl ?_
              refine J_goto (tgt := 47) dX11_actOf_241 (by decide) ?_
              refine J_lv [3, 4, 5, 6, 7, 8, 9, 10, 0] rfl ?_
              rw [acF_n (by clear ih; unfold acP; simp [c2, c29, c33, c35, c37])]
              exact ih (by omega)
            · refine J_aload_n dX11_actOf_163 rfl 1 rfl ?_
              refine J_getr (ci := 11) (j := 37) (t := 1138) dX11_actOf_164 fl_X11_83 (i1100 hI) rfl rfl rfl ?_
              refine J_iload dX11_actOf_167 9 rfl ?_
              refine J_iale (x := v 1138 s) dX11_actOf_169 (i1138 hI) rfl (ix_in (j := s) rfl (by omega) (by omega)) ((congrArg _ (ix_cl (j := s) rfl (by omega))).trans rfl) ?_
              refine J_if_eq (tgt := 202) dX11_actOf_170 (by decide) (fun c39 => ?_) (fun c39 => ?_)
              · refine J_iconst (x := 1) dX11_actOf_202 (by decide) ?_
                refine J_goto (tgt := 207) dX11_actOf_203 (by decide) ?_
                refine J_istore (lv' := [(10, .int 1), (9, .int 1), (0, .ref 1100), (1, .int x1), (2, .int x2), (3, .int x3), (4, .int x4), (5, .int x5), (6, .int z), (7, .int ag), (8, .int (nI s))]) dX11_actOf_207 (by decide) rfl ?_
                refine J_iload dX11_actOf_209 0 rfl ?_
                refine J_if_eq (tgt := 238) dX11_actOf_211 (by decide) (fun c40 => absurd c40 (by decide)) (fun c40 => ?_)
                refine J_iload_n dX11_actOf_214 rfl 3 rfl ?_
                refine J_if_ne (tgt := 230) dX11_actOf_215 (by decide) (fun c41 => ?_) (fun c41 => ?_)
                · refine J_aload_n dX11_actOf_230 rfl 2 rfl ?_
                  refine J_getr (ci := 11) (j := 31) (t := 1132) dX11_actOf_231 fl_X11_65 (i1100 hI) rfl rfl rfl ?_
                  refine J_iload dX11_actOf_234 10 rfl ?_
                  refine J_iale (x := v 1132 s) dX11_actOf_236 (i1132 hI) rfl (ix_in (j := s) rfl (by omega) (by omega)) ((congrArg _ (ix_cl (j := s) rfl (by omega))).trans rfl) ?_
                  exact J_iret dX11_actOf_237 rfl ⟨_, rfl, rfl, rfl, by rw [acF_p (by clear ih; unfold acP; simp [c2, c29, c33, c35, c37, c39]), if_neg c41]⟩
                · refine J_iconst (x := 1) dX11_actOf_218 (by decide) ?_
                  refine J_aload_n dX11_actOf_219 rfl 2 rfl ?_
                  refine J_getr (ci := 11) (j := 30) (t := 1131) dX11_actOf_220 fl_X11_62 (i1100 hI) rfl rfl rfl ?_
                  refine J_iload dX11_actOf_223 10 rfl ?_
                  refine J_iale (x := v 1131 s) dX11_actOf_225 (i1131 hI) rfl (ix_in (j := s) rfl (by omega) (by omega)) ((congrArg _ (ix_cl (j := s) rfl (by omega))).trans rfl) ?_
                  refine J_isub dX11_actOf_226 ?_
                  refine J_goto (tgt := 237) dX11_actOf_227 (by decide) ?_
                  exact J_iret dX11_actOf_237 rfl ⟨_, rfl, rfl, rfl, by rw [acF_p (by clear ih; unfold acP; simp [c2, c29, c33, c35, c37, c39]), if_pos c41]⟩
              · refine J_aload_n dX11_actOf_173 rfl 1 rfl ?_
                refine J_getr (ci := 11) (j := 37) (t := 1138) dX11_actOf_174 fl_X11_83 (i1100 hI) rfl rfl rfl ?_
                refine J_iload dX11_actOf_177 9 rfl ?_
                refine J_iale (x := v 1138 s) dX11_actOf_179 (i1138 hI) rfl (ix_in (j := s) rfl (by omega) (by omega)) ((congrArg _ (ix_cl (j := s) rfl (by omega))).trans rfl) ?_
                refine J_iconst (x := 1) dX11_actOf_180 (by decide) ?_
                refine J_icmp_ne (tgt := 188) dX11_actOf_181 (by decide) (fun c42 => ?_) (fun c42 => ?_)
                · refine J_iconst (x := 0) dX11_actOf_188 (by decide) ?_
                  refine J_iload_n dX11_actOf_189 rfl 4 rfl ?_
                  refine J_iconst (x := (-1)) dX11_actOf_190 (by decide) ?_
                  refine J_icmp_eq (tgt := 198) dX11_actOf_191 (by decide) (fun c43 => ?_) (fun c43 => ?_)
                  · refine J_iconst (x := 0) dX11_actOf_198 (by decide) ?_
                    refine J_icmp_ne (tgt := 206) dX11_actOf_199 (by decide) (fun c44 => absurd rfl c44) (fun c44 => ?_)
                    refine J_iconst (x := 1) dX11_actOf_202 (by decide) ?_
                    refine J_goto (tgt := 207) dX11_actOf_203 (by decide) ?_
                    refine J_istore (lv' := [(10, .int 1), (9, .int 1), (0, .ref 1100), (1, .int x1), (2, .int x2), (3, .int x3), (4, .int x4), (5, .int x5), (6, .int z), (7, .int ag), (8, .int (nI s))]) dX11_actOf_207 (by decide) rfl ?_
                    refine J_iload dX11_actOf_209 0 rfl ?_
                    refine J_if_eq (tgt := 238) dX11_actOf_211 (by decide) (fun c45 => absurd c45 (by decide)) (fun c45 => ?_)
                    refine J_iload_n dX11_actOf_214 rfl 3 rfl ?_
                    refine J_if_ne (tgt := 230) dX11_actOf_215 (by decide) (fun c46 => ?_) (fun c46 => ?_)
                    · refine J_aload_n dX11_actOf_230 rfl 2 rfl ?_
                      refine J_getr (ci := 11) (j := 31) (t := 1132) dX11_actOf_231 fl_X11_65 (i1100 hI) rfl rfl rfl ?_
                      refine J_iload dX11_actOf_234 10 rfl ?_
                      refine J_iale (x := v 1132 s) dX11_actOf_236 (i1132 hI) rfl (ix_in (j := s) rfl (by omega) (by omega)) ((congrArg _ (ix_cl (j := s) rfl (by omega))).trans rfl) ?_
                      exact J_iret dX11_actOf_237 rfl ⟨_, rfl, rfl, rfl, by rw [acF_p (by clear ih; unfold acP; simp [c2, c29, c33, c35, c37, c39, c42, c43]), if_neg c46]⟩
                    · refine J_iconst (x := 1) dX11_actOf_218 (by decide) ?_
                      refine J_aload_n dX11_actOf_219 rfl 2 rfl ?_
                      refine J_getr (ci := 11) (j := 30) (t := 1131) dX11_actOf_220 fl_X11_62 (i1100 hI) rfl rfl rfl ?_
                      refine J_iload dX11_actOf_223 10 rfl ?_
                      refine J_iale (x := v 1131 s) dX11_actOf_225 (i1131 hI) rfl (ix_in (j := s) rfl (by omega) (by omega)) ((congrArg _ (ix_cl (j := s) rfl (by omega))).trans rfl) ?_
                      refine J_isub dX11_actOf_226 ?_
                      refine J_goto (tgt := 237) dX11_actOf_227 (by decide) ?_
                      exact J_iret dX11_actOf_237 rfl ⟨_, rfl, rfl, rfl, by rw [acF_p (by clear ih; unfold acP; simp [c2, c29, c33, c35, c37, c39, c42, c43]), if_pos c46]⟩
                  · refine J_iconst (x := 1) dX11_actOf_194 (by decide) ?_
                    refine J_goto (tgt := 199) dX11_actOf_195 (by decide) ?_
                    refine J_icmp_ne (tgt := 206) dX11_actOf_199 (by decide) (fun c47 => ?_) (fun c47 => absurd c47 (by decide))
                    refine J_iconst (x := 0) dX11_actOf_206 (by decide) ?_
                    refine J_istore (lv' := [(10, .int 0), (9, .int 1), (0, .ref 1100), (1, .int x1), (2, .int x2), (3, .int x3), (4, .int x4), (5, .int x5), (6, .int z), (7, .int ag), (8, .int (nI s))]) dX11_actOf_207 (by decide) rfl ?_
                    refine J_iload dX11_actOf_209 0 rfl ?_
                    refine J_if_eq (tgt := 238) dX11_actOf_211 (by decide) (fun c48 => ?_) (fun c48 => absurd (by decide) c48)
                    refine J_iinc (q := 10) (z := nI s - 1) (lv' := [(8, .int (nI s - 1)), (10, .int 0), (9, .int 1), (0, .ref 1100), (1, .int x1), (2, .int x2), (3, .int x3), (4, .int x4), (5, .int x5), (6, .int z), (7, .int ag)]) dX11_actOf_238 rfl (dn_1 s) (by decide) rfl ?_
                    refine J_goto (tgt := 47) dX11_actOf_241 (by decide) ?_
                    refine J_lv [3, 4, 5, 6, 7, 8, 9, 10, 0] rfl ?_
                    rw [acF_n (by clear ih; unfold acP; simp [c2, c29, c33, c35, c37, c39, c42, c43])]
                    exact ih (by omega)
                · refine J_iconst (x := 1) dX11_actOf_184 (by decide) ?_
                  refine J_goto (tgt := 189) dX11_actOf_185 (by decide) ?_
                  refine J_iload_n dX11_actOf_189 rfl 4 rfl ?_
                  refine J_iconst (x := (-1)) dX11_actOf_190 (by decide) ?_
                  refine J_icmp_eq (tgt := 198) dX11_actOf_191 (by decide) (fun c49 => ?_) (fun c49 => ?_)
                  · refine J_iconst (x := 0) dX11_actOf_198 (by decide) ?_
                    refine J_icmp_ne (tgt := 206) dX11_actOf_199 (by decide) (fun c50 => ?_) (fun c50 => absurd c50 (by decide))
                    refine J_iconst (x := 0) dX11_actOf_206 (by decide) ?_
                    refine J_istore (lv' := [(10, .int 0), (9, .int 1), (0, .ref 1100), (1, .int x1), (2, .int x2), (3, .int x3), (4, .int x4), (5, .int x5), (6, .int z), (7, .int ag), (8, .int (nI s))]) dX11_actOf_207 (by decide) rfl ?_
                    refine J_iload dX11_actOf_209 0 rfl ?_
                    refine J_if_eq (tgt := 238) dX11_actOf_211 (by decide) (fun c51 => ?_) (fun c51 => absurd (by decide) c51)
                    refine J_iinc (q := 10) (z := nI s - 1) (lv' := [(8, .int (nI s - 1)), (10, .int 0), (9, .int 1), (0, .ref 1100), (1, .int x1), (2, .int x2), (3, .int x3), (4, .int x4), (5, .int x5), (6, .int z), (7, .int ag)]) dX11_actOf_238 rfl (dn_1 s) (by decide) rfl ?_
                    refine J_goto (tgt := 47) dX11_actOf_241 (by decide) ?_
                    refine J_lv [3, 4, 5, 6, 7, 8, 9, 10, 0] rfl ?_
                    rw [acF_n (by clear ih; unfold acP; simp [c2, c29, c33, c35, c37, c39, c42, c49])]
                    exact ih (by omega)
                  · refine J_iconst (x := 1) dX11_actOf_194 (by decide) ?_
                    refine J_goto (tgt := 199) dX11_actOf_195 (by decide) ?_
                    refine J_icmp_ne (tgt := 206) dX11_actOf_199 (by decide) (fun c52 => absurd rfl c52) (fun c52 => ?_)
                    refine J_iconst (x := 1) dX11_actOf_202 (by decide) ?_
                    refine J_goto (tgt := 207) dX11_actOf_203 (by decide) ?_
                    refine J_istore (lv' := [(10, .int 1), (9, .int 1), (0, .ref 1100), (1, .int x1), (2, .int x2), (3, .int x3), (4, .int x4), (5, .int x5), (6, .int z), (7, .int ag), (8, .int (nI s))]) dX11_actOf_207 (by decide) rfl ?_
                    refine J_iload dX11_actOf_209 0 rfl ?_
                    refine J_if_eq (tgt := 238) dX11_actOf_211 (by decide) (fun c53 => absurd c53 (by decide)) (fun c53 => ?_)
                    refine J_iload_n dX11_actOf_214 rfl 3 rfl ?_
                    refine J_if_ne (tgt := 230) dX11_actOf_215 (by decide) (fun c54 => ?_) (fun c54 => ?_)
                    · refine J_aload_n dX11_actOf_230 rfl 2 rfl ?_
                      refine J_getr (ci := 11) (j := 31) (t := 1132) dX11_actOf_231 fl_X11_65 (i1100 hI) rfl rfl rfl ?_
                      refine J_iload dX11_actOf_234 10 rfl ?_
                      refine J_iale (x := v 1132 s) dX11_actOf_236 (i1132 hI) rfl (ix_in (j := s) rfl (by omega) (by omega)) ((congrArg _ (ix_cl (j := s) rfl (by omega))).trans rfl) ?_
                      exact J_iret dX11_actOf_237 rfl ⟨_, rfl, rfl, rfl, by rw [acF_p (by clear ih; unfold acP; simp [c2, c29, c33, c35, c37, c39, c42, c49]), if_neg c54]⟩
                    · refine J_iconst (x := 1) dX11_actOf_218 (by decide) ?_
                      refine J_aload_n dX11_actOf_219 rfl 2 rfl ?_
                      refine J_getr (ci := 11) (j := 30) (t := 1131) dX11_actOf_220 fl_X11_62 (i1100 hI) rfl rfl rfl ?_
                      refine J_iload dX11_actOf_223 10 rfl ?_
                      refine J_iale (x := v 1131 s) dX11_actOf_225 (i1131 hI) rfl (ix_in (j := s) rfl (by omega) (by omega)) ((congrArg _ (ix_cl (j := s) rfl (by omega))).trans rfl) ?_
                      refine J_isub dX11_actOf_226 ?_
                      refine J_goto (tgt := 237) dX11_actOf_227 (by decide) ?_
                      exact J_iret dX11_actOf_237 rfl ⟨_, rfl, rfl, rfl, by rw [acF_p (by clear ih; unfold acP; simp [c2, c29, c33, c35, c37, c39, c42, c49]), if_pos c54]⟩
def acZ (v : fr_V) (a b h : Int32) : Int32 := if b = (-1) then a else if f_X11_ageIn v b h < f_X11_ageIn v a h then b else a
theorem k_X11_actOf {l : Launch} {I : List Nat} (hI : fr_I I) (v : fr_V) (u : fr_U) (x1 x2 x3 x4 x5 : Int32) (M : Nat) (hM0 : v 1100 38 = nI M) (hM : M ≤ 24) (h1 : vp_in x2 12) (h2 : ¬ x3 = (-1) → vp_in x3 12) : Con l mX11_actOf I v u [.ref 1100, .int x1, .int x2, .int x3, .int x4, .int x5] (QI v u (fun a => a = acF v x1 x3 x4 x5 (acZ v x2 x3 x4) (f_X11_ageIn v (acZ v x2 x3 x4) x4) M)) := by
  refine Con.of (by decide) (Nat.le_of_ble_eq_true rfl) ?_
  show J l mX11_actOf I v u 0 [(0, .ref 1100), (1, .int x1), (2, .int x2), (3, .int x3), (4, .int x4), (5, .int x5)] [] _
  refine J_iload_n dX11_actOf_0 rfl 3 rfl ?_
  refine J_iconst (x := (-1)) dX11_actOf_1 (by decide) ?_
  refine J_icmp_eq (tgt := 22) dX11_actOf_2 (by decide) (fun c1 => ?_) (fun c1 => ?_)
  · refine J_iload_n dX11_actOf_22 rfl 2 rfl ?_
    refine J_goto (tgt := 27) dX11_actOf_23 (by decide) ?_
    refine J_istore (lv' := [(6, .int x2), (0, .ref 1100), (1, .int x1), (2, .int x2), (3, .int x3), (4, .int x4), (5, .int x5)]) dX11_actOf_27 (by decide) rfl ?_
    refine J_aload_n dX11_actOf_29 rfl 1 rfl ?_
    refine J_iload dX11_actOf_30 0 rfl ?_
    refine J_iload dX11_actOf_32 5 rfl ?_
    refine J_eVI (z := mX11_ageIn) (As := [.int x2, .int x4]) (rest := []) (ci := 11) (x := f_X11_ageIn v  x2 x4) dX11_actOf_34 ml_X11_214 ok_X11_ageIn iv_X11_ageIn (by decide) (i1100 hI) rfl rfl rfl rfl (Nat.le_of_ble_eq_true rfl) (k_X11_ageIn hI v u _ _ (by first | assumption | exact h2 (by assumption))) ?_
    refine J_istore (lv' := [(7, .int (f_X11_ageIn v  x2 x4)), (6, .int x2), (0, .ref 1100), (1, .int x1), (2, .int x2), (3, .int x3), (4, .int x4), (5, .int x5)]) dX11_actOf_37 (by decide) rfl ?_
    refine J_aload_n dX11_actOf_39 rfl 2 rfl ?_
    refine J_gete (ci := 11) (j := 38) (x := v 1100 38) dX11_actOf_40 fl_X11_170 (i1100 hI) rfl rfl rfl ?_
    refine J_iconst (x := 1) dX11_actOf_43 (by decide) ?_
    refine J_isub dX11_actOf_44 ?_
    refine J_istore (lv' := [(8, .int ((v 1100 38) - 1)), (7, .int (f_X11_ageIn v  x2 x4)), (6, .int x2), (0, .ref 1100), (1, .int x1), (2, .int x2), (3, .int x3), (4, .int x4), (5, .int x5)]) dX11_actOf_45 (by decide) rfl ?_
    refine J_lv [3, 4, 5, 6, 7, 8, 2, 1, 0] rfl ?_
    rw [hM0]
    have e : acZ v x2 x3 x4 = x2 := by unfold acZ; rw [if_pos c1]
    rw [e]
    exact ac_L hI v u x1 x2 x3 x4 x5 x2 _ M hM (by assumption) M (Nat.le_refl _)
  · refine J_aload_n dX11_actOf_5 rfl 0 rfl ?_
    refine J_iload_n dX11_actOf_6 rfl 2 rfl ?_
    refine J_iload dX11_actOf_7 4 rfl ?_
    refine J_eVI (z := mX11_ageIn) (As := [.int x2, .int x4]) (rest := []) (ci := 11) (x := f_X11_ageIn v  x2 x4) dX11_actOf_9 ml_X11_214 ok_X11_ageIn iv_X11_ageIn (by decide) (i1100 hI) rfl rfl rfl rfl (Nat.le_of_ble_eq_true rfl) (k_X11_ageIn hI v u _ _ (by first | assumption | exact h2 (by assumption))) ?_
    refine J_aload_n dX11_actOf_12 rfl 0 rfl ?_
    refine J_iload_n dX11_actOf_13 rfl 3 rfl ?_
    refine J_iload dX11_actOf_14 4 rfl ?_
    refine J_eVI (z := mX11_ageIn) (As := [.int x3, .int x4]) (rest := [.int (f_X11_ageIn v  x2 x4)]) (ci := 11) (x := f_X11_ageIn v  x3 x4) dX11_actOf_16 ml_X11_214 ok_X11_ageIn iv_X11_ageIn (by decide) (i1100 hI) rfl rfl rfl rfl (Nat.le_of_ble_eq_true rfl) (k_X11_ageIn hI v u _ _ (by first | assumption | exact h2 (by assumption))) ?_
    refine J_icmp_gt (tgt := 26) dX11_actOf_19 (by decide) (fun c2 => ?_) (fun c2 => ?_)
    · have h3 : vp_in x3 12 := h2 (by assumption)
      refine J_iload_n dX11_actOf_26 rfl 3 rfl ?_
      refine J_istore (lv' := [(6, .int x3), (0, .ref 1100), (1, .int x1), (2, .int x2), (3, .int x3), (4, .int x4), (5, .int x5)]) dX11_actOf_27 (by decide) rfl ?_
      refine J_aload_n dX11_actOf_29 rfl 1 rfl ?_
      refine J_iload dX11_actOf_30 0 rfl ?_
      refine J_iload dX11_actOf_32 5 rfl ?_
      refine J_eVI (z := mX11_ageIn) (As := [.int x3, .int x4]) (rest := []) (ci := 11) (x := f_X11_ageIn v  x3 x4) dX11_actOf_34 ml_X11_214 ok_X11_ageIn iv_X11_ageIn (by decide) (i1100 hI) rfl rfl rfl rfl (Nat.le_of_ble_eq_true rfl) (k_X11_ageIn hI v u _ _ (by first | assumption | exact h2 (by assumption))) ?_
      refine J_istore (lv' := [(7, .int (f_X11_ageIn v  x3 x4)), (6, .int x3), (0, .ref 1100), (1, .int x1), (2, .int x2), (3, .int x3), (4, .int x4), (5, .int x5)]) dX11_actOf_37 (by decide) rfl ?_
      refine J_aload_n dX11_actOf_39 rfl 2 rfl ?_
      refine J_gete (ci := 11) (j := 38) (x := v 1100 38) dX11_actOf_40 fl_X11_170 (i1100 hI) rfl rfl rfl ?_
      refine J_iconst (x := 1) dX11_actOf_43 (by decide) ?_
      refine J_isub dX11_actOf_44 ?_
      refine J_istore (lv' := [(8, .int ((v 1100 38) - 1)), (7, .int (f_X11_ageIn v  x3 x4)), (6, .int x3), (0, .ref 1100), (1, .int x1), (2, .int x2), (3, .int x3), (4, .int x4), (5, .int x5)]) dX11_actOf_45 (by decide) rfl ?_
      refine J_lv [3, 4, 5, 6, 7, 8, 2, 1, 0] rfl ?_
      rw [hM0]
      have e : acZ v x2 x3 x4 = x3 := by unfold acZ; rw [if_neg c1, if_pos c2]
      rw [e]
      exact ac_L hI v u x1 x2 x3 x4 x5 x3 _ M hM (by assumption) M (Nat.le_refl _)
    · refine J_iload_n dX11_actOf_22 rfl 2 rfl ?_
      refine J_goto (tgt := 27) dX11_actOf_23 (by decide) ?_
      refine J_istore (lv' := [(6, .int x2), (0, .ref 1100), (1, .int x1), (2, .int x2), (3, .int x3), (4, .int x4), (5, .int x5)]) dX11_actOf_27 (by decide) rfl ?_
      refine J_aload_n dX11_actOf_29 rfl 1 rfl ?_
      refine J_iload dX11_actOf_30 0 rfl ?_
      refine J_iload dX11_actOf_32 5 rfl ?_
      refine J_eVI (z := mX11_ageIn) (As := [.int x2, .int x4]) (rest := []) (ci := 11) (x := f_X11_ageIn v  x2 x4) dX11_actOf_34 ml_X11_214 ok_X11_ageIn iv_X11_ageIn (by decide) (i1100 hI) rfl rfl rfl rfl (Nat.le_of_ble_eq_true rfl) (k_X11_ageIn hI v u _ _ (by first | assumption | exact h2 (by assumption))) ?_
      refine J_istore (lv' := [(7, .int (f_X11_ageIn v  x2 x4)), (6, .int x2), (0, .ref 1100), (1, .int x1), (2, .int x2), (3, .int x3), (4, .int x4), (5, .int x5)]) dX11_actOf_37 (by decide) rfl ?_
      refine J_aload_n dX11_actOf_39 rfl 2 rfl ?_
      refine J_gete (ci := 11) (j := 38) (x := v 1100 38) dX11_actOf_40 fl_X11_170 (i1100 hI) rfl rfl rfl ?_
      refine J_iconst (x := 1) dX11_actOf_43 (by decide) ?_
      refine J_isub dX11_actOf_44 ?_
      refine J_istore (lv' := [(8, .int ((v 1100 38) - 1)), (7, .int (f_X11_ageIn v  x2 x4)), (6, .int x2), (0, .ref 1100), (1, .int x1), (2, .int x2), (3, .int x3), (4, .int x4), (5, .int x5)]) dX11_actOf_45 (by decide) rfl ?_
      refine J_lv [3, 4, 5, 6, 7, 8, 2, 1, 0] rfl ?_
      rw [hM0]
      have e : acZ v x2 x3 x4 = x2 := by unfold acZ; rw [if_neg c1, if_neg c2]
      rw [e]
      exact ac_L hI v u x1 x2 x3 x4 x5 x2 _ M hM (by assumption) M (Nat.le_refl _)
