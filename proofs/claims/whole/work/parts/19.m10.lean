theorem f_know_m {v : fr_V} {N : Nat} {x : Int32} {k : Nat} (h1 : k ≠ 1145) (h2 : k ≠ 1146) : f_know v N x k = v k := by
  unfold f_know; rw [upA_ne h2, upA_ne h1]
def ly_i_t (n : Nat) (c : Nat) (x1 : Int32) (g : Nat) (z : fr_V) : fr_V := if x1 ≤ 0 then (if x1 = 0 then up2 z 1152 ((10 * c) + g) (z 1122 ((10 * c) + g)) else if x1 = 1 then up2 z 1152 ((10 * c) + g) (f_X11_lived z (nI c) (nI g) 0) else if x1 = 2 then up2 z 1152 ((10 * c) + g) (f_X11_lived z (nI c) (nI g) 1) else up2 z 1152 ((10 * c) + g) (f_X11_lived z (nI c) (nI g) (-1))) else if x1 = 0 then up2 (f_years z n g (nI c) (z 1100 3)) 1152 ((10 * c) + g) ((f_years z n g (nI c) (z 1100 3)) 1122 ((10 * c) + g)) else if x1 = 1 then up2 (f_years z n g (nI c) (z 1100 3)) 1152 ((10 * c) + g) (f_X11_lived (f_years z n g (nI c) (z 1100 3)) (nI c) (nI g) 0) else if x1 = 2 then up2 (f_years z n g (nI c) (z 1100 3)) 1152 ((10 * c) + g) (f_X11_lived (f_years z n g (nI c) (z 1100 3)) (nI c) (nI g) 1) else up2 (f_years z n g (nI c) (z 1100 3)) 1152 ((10 * c) + g) (f_X11_lived (f_years z n g (nI c) (z 1100 3)) (nI c) (nI g) (-1))
def ly_i (n : Nat) (c : Nat) (x1 : Int32) (w0 : fr_V) : Nat → fr_V
  | 0 => w0
  | j + 1 => ly_i_t n c x1 j (ly_i n c x1 w0 j)
theorem ly_i_s (n : Nat) (c : Nat) (x1 : Int32) (w0 : fr_V) (j : Nat) : ly_i n c x1 w0 (j + 1) = ly_i_t n c x1 j (ly_i n c x1 w0 j) := rfl
theorem ly_i_L {l : Launch} {I : List Nat} (hI : fr_I I) (u : fr_U) (n : Nat) (c : Nat) (x1 : Int32) (w0 : fr_V) (hn : n ≤ 12) (hc : c < 4) {Q : Option Value → fr_V → fr_U → Prop} (hk : ∀ z : fr_V, z = ly_i n c x1 w0 10 → z 1100 4 = nI n → J l mX11_lay I z u 101 [(0, .ref 1100), (1, .int x1), (2, .int (nI c)), (3, .int (nI 10))] [] Q) : ∀ (d g : Nat) (z : fr_V) (hd : 10 - g < d) (hj : g ≤ 10) (hz : z = ly_i n c x1 w0 g) (hm : z 1100 4 = nI n), J l mX11_lay I z u 21 [(0, .ref 1100), (1, .int x1), (2, .int (nI c)), (3, .int (nI g))] [] Q := by
  intro d
  induction d with
  | zero => intros; omega
  | succ d ih =>
    intro g z hd hj hz hm
    refine J_iload_n dX11_lay_21 rfl 3 rfl ?_
    refine J_bipush (x := 10) dX11_lay_22 (by decide) ?_
    refine J_icmp_ge (tgt := 101) dX11_lay_24 (by decide) (fun c1 => ?_) (fun c1 => ?_)
    · have e : g = 10 := by have := nz_le (a := 10) (by omega) (by omega) c1; omega
      refine J_lv [0, 1, 2, 3] rfl ?_
      subst e
      exact hk z hz hm
    · have hg : g < 10 := nz_nle (a := 10) (by omega) (by omega) c1
      refine J_iload_n dX11_lay_27 rfl 1 rfl ?_
      refine J_if_le (tgt := 41) dX11_lay_28 (by decide) (fun c2 => ?_) (fun c2 => ?_)
      · refine J_aload_n dX11_lay_41 rfl 0 rfl ?_
        refine J_getr (ci := 11) (j := 51) (t := 1152) dX11_lay_42 fl_X11_105 (i1100 hI) rfl rfl rfl ?_
        refine J_bipush (x := 10) dX11_lay_45 (by decide) ?_
        refine J_iload_n dX11_lay_47 rfl 2 rfl ?_
        refine J_imul dX11_lay_48 ?_
        refine J_iload_n dX11_lay_49 rfl 3 rfl ?_
        refine J_iadd dX11_lay_50 ?_
        refine J_iload_n dX11_lay_51 rfl 1 rfl ?_
        refine J_if_ne (tgt := 69) dX11_lay_52 (by decide) (fun c3 => ?_) (fun c3 => ?_)
        · refine J_aload_n dX11_lay_69 rfl 0 rfl ?_
          refine J_iload_n dX11_lay_70 rfl 2 rfl ?_
          refine J_iload_n dX11_lay_71 rfl 3 rfl ?_
          refine J_iload_n dX11_lay_72 rfl 1 rfl ?_
          refine J_iconst (x := 1) dX11_lay_73 (by decide) ?_
          refine J_icmp_ne (tgt := 81) dX11_lay_74 (by decide) (fun c4 => ?_) (fun c4 => ?_)
          · refine J_iload_n dX11_lay_81 rfl 1 rfl ?_
            refine J_iconst (x := 2) dX11_lay_82 (by decide) ?_
            refine J_icmp_ne (tgt := 90) dX11_lay_83 (by decide) (fun c5 => ?_) (fun c5 => ?_)
            · refine J_iconst (x := (-1)) dX11_lay_90 (by decide) ?_
              refine J_eVI (z := mX11_lived) (As := [.int (nI c), .int (nI g), .int (-1)]) (rest := [.int ((10 * (nI c)) + (nI g)), .ref 1152]) (ci := 11) (x := f_X11_lived z (nI c) (nI g) (-1)) dX11_lay_91 ml_X11_296 ok_X11_lived iv_X11_lived (by decide) (i1100 hI) rfl rfl rfl rfl (Nat.le_of_ble_eq_true rfl) (k_X11_lived hI _ _ _ _ _ (ix_in (j := 10 * c + g) (by show nI 10 * nI c + nI g = _; simp only [nI_add, pk_mul]) (by omega) (by omega))) ?_
              refine J_iase (j := (10 * c) + g) dX11_lay_94 (i1152 hI) rfl (ix_in (j := (10 * c) + g) (by show ((nI 10) * (nI c)) + (nI g) = _; simp only [nI_add, pk_mul]) (by omega) (by omega)) (ix_cl (j := (10 * c) + g) (by show ((nI 10) * (nI c)) + (nI g) = _; simp only [nI_add, pk_mul]) (by omega)) ?_
              refine J_iinc (q := 3) (z := nI (g + 1)) (lv' := [(3, .int (nI (g + 1))), (0, .ref 1100), (1, .int x1), (2, .int (nI c))]) dX11_lay_95 rfl (nI_1 g) (by decide) rfl ?_
              refine J_goto (tgt := 21) dX11_lay_98 (by decide) ?_
              refine J_lv [1, 2, 3, 0] rfl ?_
              exact ih (g + 1) _ (by omega) (by omega) (by rw [ly_i_s, ← hz]; unfold ly_i_t; rw [if_pos c2, if_neg c3, if_neg c4, if_neg c5]) (hm)
            · refine J_iconst (x := 1) dX11_lay_86 (by decide) ?_
              refine J_goto (tgt := 91) dX11_lay_87 (by decide) ?_
              refine J_eVI (z := mX11_lived) (As := [.int (nI c), .int (nI g), .int 1]) (rest := [.int ((10 * (nI c)) + (nI g)), .ref 1152]) (ci := 11) (x := f_X11_lived z (nI c) (nI g) 1) dX11_lay_91 ml_X11_296 ok_X11_lived iv_X11_lived (by decide) (i1100 hI) rfl rfl rfl rfl (Nat.le_of_ble_eq_true rfl) (k_X11_lived hI _ _ _ _ _ (ix_in (j := 10 * c + g) (by show nI 10 * nI c + nI g = _; simp only [nI_add, pk_mul]) (by omega) (by omega))) ?_
              refine J_iase (j := (10 * c) + g) dX11_lay_94 (i1152 hI) rfl (ix_in (j := (10 * c) + g) (by show ((nI 10) * (nI c)) + (nI g) = _; simp only [nI_add, pk_mul]) (by omega) (by omega)) (ix_cl (j := (10 * c) + g) (by show ((nI 10) * (nI c)) + (nI g) = _; simp only [nI_add, pk_mul]) (by omega)) ?_
              refine J_iinc (q := 3) (z := nI (g + 1)) (lv' := [(3, .int (nI (g + 1))), (0, .ref 1100), (1, .int x1), (2, .int (nI c))]) dX11_lay_95 rfl (nI_1 g) (by decide) rfl ?_
              refine J_goto (tgt := 21) dX11_lay_98 (by decide) ?_
              refine J_lv [1, 2, 3, 0] rfl ?_
              exact ih (g + 1) _ (by omega) (by omega) (by rw [ly_i_s, ← hz]; unfold ly_i_t; rw [if_pos c2, if_neg c3, if_neg c4, if_pos c5]) (hm)
          · refine J_iconst (x := 0) dX11_lay_77 (by decide) ?_
            refine J_goto (tgt := 91) dX11_lay_78 (by decide) ?_
            refine J_eVI (z := mX11_lived) (As := [.int (nI c), .int (nI g), .int 0]) (rest := [.int ((10 * (nI c)) + (nI g)), .ref 1152]) (ci := 11) (x := f_X11_lived z (nI c) (nI g) 0) dX11_lay_91 ml_X11_296 ok_X11_lived iv_X11_lived (by decide) (i1100 hI) rfl rfl rfl rfl (Nat.le_of_ble_eq_true rfl) (k_X11_lived hI _ _ _ _ _ (ix_in (j := 10 * c + g) (by show nI 10 * nI c + nI g = _; simp only [nI_add, pk_mul]) (by omega) (by omega))) ?_
            refine J_iase (j := (10 * c) + g) dX11_lay_94 (i1152 hI) rfl (ix_in (j := (10 * c) + g) (by show ((nI 10) * (nI c)) + (nI g) = _; simp only [nI_add, pk_mul]) (by omega) (by omega)) (ix_cl (j := (10 * c) + g) (by show ((nI 10) * (nI c)) + (nI g) = _; simp only [nI_add, pk_mul]) (by omega)) ?_
            refine J_iinc (q := 3) (z := nI (g + 1)) (lv' := [(3, .int (nI (g + 1))), (0, .ref 1100), (1, .int x1), (2, .int (nI c))]) dX11_lay_95 rfl (nI_1 g) (by decide) rfl ?_
            refine J_goto (tgt := 21) dX11_lay_98 (by decide) ?_
            refine J_lv [1, 2, 3, 0] rfl ?_
            exact ih (g + 1) _ (by omega) (by omega) (by rw [ly_i_s, ← hz]; unfold ly_i_t; rw [if_pos c2, if_neg c3, if_pos c4]) (hm)
        · refine J_aload_n dX11_lay_55 rfl 0 rfl ?_
          refine J_getr (ci := 11) (j := 21) (t := 1122) dX11_lay_56 fl_X11_52 (i1100 hI) rfl rfl rfl ?_
          refine J_bipush (x := 10) dX11_lay_59 (by decide) ?_
          refine J_iload_n dX11_lay_61 rfl 2 rfl ?_
          refine J_imul dX11_lay_62 ?_
          refine J_iload_n dX11_lay_63 rfl 3 rfl ?_
          refine J_iadd dX11_lay_64 ?_
          refine J_iale (x := z 1122 ((10 * c) + g)) dX11_lay_65 (i1122 hI) rfl (ix_in (j := (10 * c) + g) (by show ((nI 10) * (nI c)) + (nI g) = _; simp only [nI_add, pk_mul]) (by omega) (by omega)) ((congrArg _ (ix_cl (j := (10 * c) + g) (by show ((nI 10) * (nI c)) + (nI g) = _; simp only [nI_add, pk_mul]) (by omega))).trans rfl) ?_
          refine J_goto (tgt := 94) dX11_lay_66 (by decide) ?_
          refine J_iase (j := (10 * c) + g) dX11_lay_94 (i1152 hI) rfl (ix_in (j := (10 * c) + g) (by show ((nI 10) * (nI c)) + (nI g) = _; simp only [nI_add, pk_mul]) (by omega) (by omega)) (ix_cl (j := (10 * c) + g) (by show ((nI 10) * (nI c)) + (nI g) = _; simp only [nI_add, pk_mul]) (by omega)) ?_
          refine J_iinc (q := 3) (z := nI (g + 1)) (lv' := [(3, .int (nI (g + 1))), (0, .ref 1100), (1, .int x1), (2, .int (nI c))]) dX11_lay_95 rfl (nI_1 g) (by decide) rfl ?_
          refine J_goto (tgt := 21) dX11_lay_98 (by decide) ?_
          refine J_lv [1, 2, 3, 0] rfl ?_
          exact ih (g + 1) _ (by omega) (by omega) (by rw [ly_i_s, ← hz]; unfold ly_i_t; rw [if_pos c2, if_pos c3]) (hm)
      · refine J_aload_n dX11_lay_31 rfl 0 rfl ?_
        refine J_iload_n dX11_lay_32 rfl 2 rfl ?_
        refine J_iload_n dX11_lay_33 rfl 3 rfl ?_
        refine J_aload_n dX11_lay_34 rfl 0 rfl ?_
        refine J_gete (ci := 11) (j := 3) (x := z 1100 3) dX11_lay_35 fl_X11_208 (i1100 hI) rfl rfl rfl ?_
        refine J_eVN (z := mX11_years) (As := [.int (nI c), .int (nI g), .int (z 1100 3)]) (rest := []) (ci := 11) (w := f_years z n g (nI c) (z 1100 3)) dX11_lay_38 ml_X11_292 ok_X11_years iv_X11_years (by decide) (i1100 hI) rfl rfl rfl rfl (Nat.le_of_ble_eq_true rfl) (k_X11_years hI _ _ n g hn (by omega) hm _ _) ?_
        refine J_aload_n dX11_lay_41 rfl 0 rfl ?_
        refine J_getr (ci := 11) (j := 51) (t := 1152) dX11_lay_42 fl_X11_105 (i1100 hI) rfl rfl rfl ?_
        refine J_bipush (x := 10) dX11_lay_45 (by decide) ?_
        refine J_iload_n dX11_lay_47 rfl 2 rfl ?_
        refine J_imul dX11_lay_48 ?_
        refine J_iload_n dX11_lay_49 rfl 3 rfl ?_
        refine J_iadd dX11_lay_50 ?_
        refine J_iload_n dX11_lay_51 rfl 1 rfl ?_
        refine J_if_ne (tgt := 69) dX11_lay_52 (by decide) (fun c6 => ?_) (fun c6 => ?_)
        · refine J_aload_n dX11_lay_69 rfl 0 rfl ?_
          refine J_iload_n dX11_lay_70 rfl 2 rfl ?_
          refine J_iload_n dX11_lay_71 rfl 3 rfl ?_
          refine J_iload_n dX11_lay_72 rfl 1 rfl ?_
          refine J_iconst (x := 1) dX11_lay_73 (by decide) ?_
          refine J_icmp_ne (tgt := 81) dX11_lay_74 (by decide) (fun c7 => ?_) (fun c7 => ?_)
          · refine J_iload_n dX11_lay_81 rfl 1 rfl ?_
            refine J_iconst (x := 2) dX11_lay_82 (by decide) ?_
            refine J_icmp_ne (tgt := 90) dX11_lay_83 (by decide) (fun c8 => ?_) (fun c8 => ?_)
            · refine J_iconst (x := (-1)) dX11_lay_90 (by decide) ?_
              refine J_eVI (z := mX11_lived) (As := [.int (nI c), .int (nI g), .int (-1)]) (rest := [.int ((10 * (nI c)) + (nI g)), .ref 1152]) (ci := 11) (x := f_X11_lived (f_years z n g (nI c) (z 1100 3)) (nI c) (nI g) (-1)) dX11_lay_91 ml_X11_296 ok_X11_lived iv_X11_lived (by decide) (i1100 hI) rfl rfl rfl rfl (Nat.le_of_ble_eq_true rfl) (k_X11_lived hI _ _ _ _ _ (ix_in (j := 10 * c + g) (by show nI 10 * nI c + nI g = _; simp only [nI_add, pk_mul]) (by omega) (by omega))) ?_
              refine J_iase (j := (10 * c) + g) dX11_lay_94 (i1152 hI) rfl (ix_in (j := (10 * c) + g) (by show ((nI 10) * (nI c)) + (nI g) = _; simp only [nI_add, pk_mul]) (by omega) (by omega)) (ix_cl (j := (10 * c) + g) (by show ((nI 10) * (nI c)) + (nI g) = _; simp only [nI_add, pk_mul]) (by omega)) ?_
              refine J_iinc (q := 3) (z := nI (g + 1)) (lv' := [(3, .int (nI (g + 1))), (0, .ref 1100), (1, .int x1), (2, .int (nI c))]) dX11_lay_95 rfl (nI_1 g) (by decide) rfl ?_
              refine J_goto (tgt := 21) dX11_lay_98 (by decide) ?_
              refine J_lv [1, 2, 3, 0] rfl ?_
              exact ih (g + 1) _ (by omega) (by omega) (by rw [ly_i_s, ← hz]; unfold ly_i_t; rw [if_neg c2, if_neg c6, if_neg c7, if_neg c8]) (by show f_years _ _ _ _ _ 1100 4 = _; rw [f_years_m (by decide)]; exact hm)
            · refine J_iconst (x := 1) dX11_lay_86 (by decide) ?_
              refine J_goto (tgt := 91) dX11_lay_87 (by decide) ?_
              refine J_eVI (z := mX11_lived) (As := [.int (nI c), .int (nI g), .int 1]) (rest := [.int ((10 * (nI c)) + (nI g)), .ref 1152]) (ci := 11) (x := f_X11_lived (f_years z n g (nI c) (z 1100 3)) (nI c) (nI g) 1) dX11_lay_91 ml_X11_296 ok_X11_lived iv_X11_lived (by decide) (i1100 hI) rfl rfl rfl rfl (Nat.le_of_ble_eq_true rfl) (k_X11_lived hI _ _ _ _ _ (ix_in (j := 10 * c + g) (by show nI 10 * nI c + nI g = _; simp only [nI_add, pk_mul]) (by omega) (by omega))) ?_
              refine J_iase (j := (10 * c) + g) dX11_lay_94 (i1152 hI) rfl (ix_in (j := (10 * c) + g) (by show ((nI 10) * (nI c)) + (nI g) = _; simp only [nI_add, pk_mul]) (by omega) (by omega)) (ix_cl (j := (10 * c) + g) (by show ((nI 10) * (nI c)) + (nI g) = _; simp only [nI_add, pk_mul]) (by omega)) ?_
              refine J_iinc (q := 3) (z := nI (g + 1)) (lv' := [(3, .int (nI (g + 1))), (0, .ref 1100), (1, .int x1), (2, .int (nI c))]) dX11_lay_95 rfl (nI_1 g) (by decide) rfl ?_
              refine J_goto (tgt := 21) dX11_lay_98 (by decide) ?_
              refine J_lv [1, 2, 3, 0] rfl ?_
              exact ih (g + 1) _ (by omega) (by omega) (by rw [ly_i_s, ← hz]; unfold ly_i_t; rw [if_neg c2, if_neg c6, if_neg c7, if_pos c8]) (by show f_years _ _ _ _ _ 1100 4 = _; rw [f_years_m (by decide)]; exact hm)
          · refine J_iconst (x := 0) dX11_lay_77 (by decide) ?_
            refine J_goto (tgt := 91) dX11_lay_78 (by decide) ?_
            refine J_eVI (z := mX11_lived) (As := [.int (nI c), .int (nI g), .int 0]) (rest := [.int ((10 * (nI c)) + (nI g)), .ref 1152]) (ci := 11) (x := f_X11_lived (f_years z n g (nI c) (z 1100 3)) (nI c) (nI g) 0) dX11_lay_91 ml_X11_296 ok_X11_lived iv_X11_lived (by decide) (i1100 hI) rfl rfl rfl rfl (Nat.le_of_ble_eq_true rfl) (k_X11_lived hI _ _ _ _ _ (ix_in (j := 10 * c + g) (by show nI 10 * nI c + nI g = _; simp only [nI_add, pk_mul]) (by omega) (by omega))) ?_
            refine J_iase (j := (10 * c) + g) dX11_lay_94 (i1152 hI) rfl (ix_in (j := (10 * c) + g) (by show ((nI 10) * (nI c)) + (nI g) = _; simp only [nI_add, pk_mul]) (by omega) (by omega)) (ix_cl (j := (10 * c) + g) (by show ((nI 10) * (nI c)) + (nI g) = _; simp only [nI_add, pk_mul]) (by omega)) ?_
            refine J_iinc (q := 3) (z := nI (g + 1)) (lv' := [(3, .int (nI (g + 1))), (0, .ref 1100), (1, .int x1), (2, .int (nI c))]) dX11_lay_95 rfl (nI_1 g) (by decide) rfl ?_
            refine J_goto (tgt := 21) dX11_lay_98 (by decide) ?_
            refine J_lv [1, 2, 3, 0] rfl ?_
            exact ih (g + 1) _ (by omega) (by omega) (by rw [ly_i_s, ← hz]; unfold ly_i_t; rw [if_neg c2, if_neg c6, if_pos c7]) (by show f_years _ _ _ _ _ 1100 4 = _; rw [f_years_m (by decide)]; exact hm)
        · refine J_aload_n dX11_lay_55 rfl 0 rfl ?_
          refine J_getr (ci := 11) (j := 21) (t := 1122) dX11_lay_56 fl_X11_52 (i1100 hI) rfl rfl rfl ?_
          refine J_bipush (x := 10) dX11_lay_59 (by decide) ?_
          refine J_iload_n dX11_lay_61 rfl 2 rfl ?_
          refine J_imul dX11_lay_62 ?_
          refine J_iload_n dX11_lay_63 rfl 3 rfl ?_
          refine J_iadd dX11_lay_64 ?_
          refine J_iale (x := (f_years z n g (nI c) (z 1100 3)) 1122 ((10 * c) + g)) dX11_lay_65 (i1122 hI) rfl (ix_in (j := (10 * c) + g) (by show ((nI 10) * (nI c)) + (nI g) = _; simp only [nI_add, pk_mul]) (by omega) (by omega)) ((congrArg _ (ix_cl (j := (10 * c) + g) (by show ((nI 10) * (nI c)) + (nI g) = _; simp only [nI_add, pk_mul]) (by omega))).trans rfl) ?_
          refine J_goto (tgt := 94) dX11_lay_66 (by decide) ?_
          refine J_iase (j := (10 * c) + g) dX11_lay_94 (i1152 hI) rfl (ix_in (j := (10 * c) + g) (by show ((nI 10) * (nI c)) + (nI g) = _; simp only [nI_add, pk_mul]) (by omega) (by omega)) (ix_cl (j := (10 * c) + g) (by show ((nI 10) * (nI c)) + (nI g) = _; simp only [nI_add, pk_mul]) (by omega)) ?_
          refine J_iinc (q := 3) (z := nI (g + 1)) (lv' := [(3, .int (nI (g + 1))), (0, .ref 1100), (1, .int x1), (2, .int (nI c))]) dX11_lay_95 rfl (nI_1 g) (by decide) rfl ?_
          refine J_goto (tgt := 21) dX11_lay_98 (by decide) ?_
          refine J_lv [1, 2, 3, 0] rfl ?_
          exact ih (g + 1) _ (by omega) (by omega) (by rw [ly_i_s, ← hz]; unfold ly_i_t; rw [if_neg c2, if_pos c6]) (by show f_years _ _ _ _ _ 1100 4 = _; rw [f_years_m (by decide)]; exact hm)
def ly_o_t (n : Nat) (x1 : Int32) (c : Nat) (z : fr_V) : fr_V := ly_i n c x1 z 10
def ly_o (n : Nat) (x1 : Int32) (w0 : fr_V) : Nat → fr_V
  | 0 => w0
  | c + 1 => ly_o_t n x1 c (ly_o n x1 w0 c)
theorem ly_o_s (n : Nat) (x1 : Int32) (w0 : fr_V) (c : Nat) : ly_o n x1 w0 (c + 1) = ly_o_t n x1 c (ly_o n x1 w0 c) := rfl
theorem ly_o_L {l : Launch} {I : List Nat} (hI : fr_I I) (u : fr_U) (n : Nat) (x1 : Int32) (w0 : fr_V) (hn : n ≤ 12) : ∀ (d c : Nat) (z : fr_V) (hd : 4 - c < d) (hc : c ≤ 4) (hz : z = ly_o n x1 w0 c) (hm : z 1100 4 = nI n), J l mX11_lay I z u 14 [(0, .ref 1100), (1, .int x1), (2, .int (nI c))] [] (QN u (fun a => a = ly_o n x1 w0 4)) := by
  intro d
  induction d with
  | zero => intros; omega
  | succ d ih =>
    intro c z hd hc hz hm
    refine J_iload_n dX11_lay_14 rfl 2 rfl ?_
    refine J_iconst (x := 4) dX11_lay_15 (by decide) ?_
    refine J_icmp_ge (tgt := 107) dX11_lay_16 (by decide) (fun c1 => ?_) (fun c1 => ?_)
    · exact J_vret dX11_lay_107 rfl ⟨rfl, rfl, by have e : c = 4 := by {have := nz_le (a := 4) (by omega) (by omega) c1; omega}; rw [hz, e]⟩
    · have hcb : c < 4 := nz_nle (a := 4) (by omega) (by omega) c1
      refine J_iconst (x := 0) dX11_lay_19 (by decide) ?_
      refine J_istore_n (lv' := [(3, .int 0), (0, .ref 1100), (1, .int x1), (2, .int (nI c))]) dX11_lay_20 rfl (by decide) rfl ?_
      refine J_lv [1, 2, 3, 0] rfl ?_
      refine ly_i_L hI u n c x1 z hn hcb (fun z2 hz2 hm2 => ?_) 11 0 _ (by omega) (by omega) rfl hm
      refine J_iinc (q := 2) (z := nI (c + 1)) (lv' := [(2, .int (nI (c + 1))), (0, .ref 1100), (1, .int x1), (3, .int (nI 10))]) dX11_lay_101 rfl (nI_1 c) (by decide) rfl ?_
      refine J_goto (tgt := 14) dX11_lay_104 (by decide) ?_
      refine J_lv [1, 2, 0] rfl ?_
      exact ih (c + 1) _ (by omega) (by omega) (by rw [ly_o_s, ← hz]; exact hz2) hm2
def f_lay (v : fr_V) (n N : Nat) (x1 : Int32) : fr_V := ly_o n x1 (if x1 ≤ 0 then v else f_know v N (v 1100 3)) 4
theorem k_X11_lay {l : Launch} {I : List Nat} (hI : fr_I I) (v : fr_V) (u : fr_U) (n N : Nat) (hn : n ≤ 12) (hm : v 1100 4 = nI n) (hN : v 1100 16 = nI N) (hW : nt_ok (v 1118) (v 1119) N) (x1 : Int32) : Con l mX11_lay I v u [.ref 1100, .int x1] (QN u (fun a => a = f_lay v n N x1)) := by
  refine Con.of (by decide) (Nat.le_of_ble_eq_true rfl) ?_
  show J l mX11_lay I v u 0 [(0, .ref 1100), (1, .int x1)] [] _
  refine J_iload_n dX11_lay_0 rfl 1 rfl ?_
  refine J_if_le (tgt := 12) dX11_lay_1 (by decide) (fun c1 => ?_) (fun c1 => ?_)
  · refine J_iconst (x := 0) dX11_lay_12 (by decide) ?_
    refine J_istore_n (lv' := [(2, .int 0), (0, .ref 1100), (1, .int x1)]) dX11_lay_13 rfl (by decide) rfl ?_
    refine J_lv [1, 2, 0] rfl ?_
    unfold f_lay
    rw [if_pos c1]
    exact ly_o_L hI u n x1 _ hn 5 0 _ (by omega) (by omega) rfl hm
  · refine J_aload_n dX11_lay_4 rfl 0 rfl ?_
    refine J_aload_n dX11_lay_5 rfl 0 rfl ?_
    refine J_gete (ci := 11) (j := 3) (x := v 1100 3) dX11_lay_6 fl_X11_208 (i1100 hI) rfl rfl rfl ?_
    refine J_eVN (z := mX11_know) (As := [.int (v 1100 3)]) (rest := []) (ci := 11) (w := (f_know v N (v 1100 3))) dX11_lay_9 ml_X11_257 ok_X11_know iv_X11_know (by decide) (i1100 hI) rfl rfl rfl rfl (Nat.le_of_ble_eq_true rfl) (k_X11_know hI v u _ N hN hW) ?_
    refine J_iconst (x := 0) dX11_lay_12 (by decide) ?_
    refine J_istore_n (lv' := [(2, .int 0), (0, .ref 1100), (1, .int x1)]) dX11_lay_13 rfl (by decide) rfl ?_
    refine J_lv [1, 2, 0] rfl ?_
    unfold f_lay
    rw [if_neg c1]
    exact ly_o_L hI u n x1 _ hn 5 0 _ (by omega) (by omega) rfl (by rw [f_know_m (by decide) (by decide)]; exact hm)
/-- what lay leaves as it was -/
def ly_off (k j : Nat) : Prop := ¬ (k = 1100 ∧ (j = 49 ∨ j = 50)) ∧ k ≠ 1145 ∧ k ≠ 1146 ∧ k ≠ 1152
theorem ly_i_m {n c : Nat} {x1 : Int32} {w0 : fr_V} {k j : Nat} (h : ly_off k j) : ∀ g, ly_i n c x1 w0 g k j = w0 k j := by
  intro g
  induction g with
  | zero => rfl
  | succ g ih =>
    have key : ∀ (z : fr_V) (a : Nat) (b : Int32), up2 z 1152 a b k j = z k j := fun z a b => by rw [up2_ne h.2.2.2]
    rw [ly_i_s, ← ih]
    unfold ly_i_t
    repeat' split
    all_goals first | exact key _ _ _ | (rw [key]; exact f_years_m h.1)
theorem ly_o_m {n : Nat} {x1 : Int32} {w0 : fr_V} {k j : Nat} (h : ly_off k j) : ∀ c, ly_o n x1 w0 c k j = w0 k j := by
  intro c
  induction c with
  | zero => rfl
  | succ c ih => rw [ly_o_s, ← ih]; exact ly_i_m h _
theorem f_lay_m {v : fr_V} {n N : Nat} {x1 : Int32} {k j : Nat} (h : ly_off k j) : f_lay v n N x1 k j = v k j := by
  unfold f_lay
  rw [ly_o_m h]
  split
  · rfl
  · rw [f_know_m h.2.1 h.2.2.1]
theorem k2_years {l : Launch} {I : List Nat} (hI : fr_I I) (v : fr_V) (u : fr_U) (n : Nat) (hn : n ≤ 12) (hm : v 1100 4 = nI n) (x1 x2 x3 : Int32) (h2 : ∃ g, g ≤ 9 ∧ x2 = nI g) : Con l mX11_years I v u [.ref 1100, .int x1, .int x2, .int x3] (QN u (fun a => a = f_years v n x2.toNatClampNeg x1 x3)) := by
  obtain ⟨g, hg, rfl⟩ := h2
  rw [nI_clamp (by omega)]
  exact k_X11_years hI v u n g hn hg hm x1 x3
def f_X11_own (v : fr_V) (N : Nat) (n : Nat) (x1 x2 x3 x4 : Int32) : Int32 × fr_V := if (f_X11_isIn (up2 v 1100 2 0)  x1 0 3) = 0 then ((-1), up2 v 1100 2 0) else if (f_X11_isIn (up2 v 1100 2 0)  x2 0 9) = 0 then ((-1), up2 v 1100 2 0) else if (f_X11_isHalf (up2 v 1100 2 0)  x3) = 0 then ((-1), up2 v 1100 2 0) else if (f_X11_isIn (up2 v 1100 2 0)  x4 0 4) = 0 then ((-1), up2 v 1100 2 0) else if x4 = 0 then ((f_years (f_know (up2 v 1100 2 0) N x3) n x2.toNatClampNeg x1 x3) 1100 49, f_years (f_know (up2 v 1100 2 0) N x3) n x2.toNatClampNeg x1 x3) else if x4 = 1 then ((f_years (f_know (up2 v 1100 2 0) N x3) n x2.toNatClampNeg x1 x3) 1100 50, f_years (f_know (up2 v 1100 2 0) N x3) n x2.toNatClampNeg x1 x3) else if x4 = 2 then (f_X11_lived (f_years (f_know (up2 v 1100 2 0) N x3) n x2.toNatClampNeg x1 x3) x1 x2 0, f_years (f_know (up2 v 1100 2 0) N x3) n x2.toNatClampNeg x1 x3) else if x4 = 3 then (f_X11_lived (f_years (f_know (up2 v 1100 2 0) N x3) n x2.toNatClampNeg x1 x3) x1 x2 1, f_years (f_know (up2 v 1100 2 0) N x3) n x2.toNatClampNeg x1 x3) else (f_X11_lived (f_years (f_know (up2 v 1100 2 0) N x3) n x2.toNatClampNeg x1 x3) x1 x2 (-1), f_years (f_know (up2 v 1100 2 0) N x3) n x2.toNatClampNeg x1 x3)
theorem k_X11_own {l : Launch} {I : List Nat} (hI : fr_I I) (v : fr_V) (u : fr_U) (N : Nat) (n : Nat) (x1 x2 x3 x4 : Int32) (hN : v 1100 16 = nI N) (hW : nt_ok (v 1118) (v 1119) N) (hL : v 1100 4 = nI n) (hL2 : n ≤ 12) : Con l mX11_own I v u [.ref 1100, .int x1, .int x2, .int x3, .int x4] (QX u (fun a b => a = (f_X11_own v N n x1 x2 x3 x4).1 ∧ b = (f_X11_own v N n x1 x2 x3 x4).2)) := by
  refine Con.of (by decide) (Nat.le_of_ble_eq_true rfl) ?_
  show J l mX11_own I v u 0 [(0, .ref 1100), (1, .int x1), (2, .int x2), (3, .int x3), (4, .int x4)] [] _
  refine J_aload_n dX11_own_0 rfl 0 rfl ?_
  refine J_iconst (x := 0) dX11_own_1 (by decide) ?_
  refine J_puti (ci := 11) (j := 2) dX11_own_2 fl_X11_129 (i1100 hI) rfl rfl (fun q h => by cases h; rfl) rfl ?_
  refine J_iload_n dX11_own_5 rfl 1 rfl ?_
  refine J_iconst (x := 0) dX11_own_6 (by decide) ?_
  refine J_iconst (x := 3) dX11_own_7 (by decide) ?_
  refine J_eSI (z := mX11_isIn) (As := [.int x1, .int 0, .int 3]) (rest := []) (x := f_X11_isIn (up2 v 1100 2 0)  x1 0 3) dX11_own_8 ml_X11_204 ok_X11_isIn iv_X11_isIn (by decide) rfl rfl (Nat.le_of_ble_eq_true rfl) (k_X11_isIn hI (up2 v 1100 2 0) u _ _ _ ) ?_
  refine J_if_eq (tgt := 41) dX11_own_11 (by decide) (fun c1 => ?_) (fun c1 => ?_)
  · refine J_iconst (x := (-1)) dX11_own_41 (by decide) ?_
    exact J_iret dX11_own_42 rfl ⟨_, rfl, rfl, by unfold f_X11_own; rw [if_pos c1], by unfold f_X11_own; rw [if_pos c1]⟩
  · refine J_iload_n dX11_own_14 rfl 2 rfl ?_
    refine J_iconst (x := 0) dX11_own_15 (by decide) ?_
    refine J_bipush (x := 9) dX11_own_16 (by decide) ?_
    refine J_eSI (z := mX11_isIn) (As := [.int x2, .int 0, .int 9]) (rest := []) (x := f_X11_isIn (up2 v 1100 2 0)  x2 0 9) dX11_own_18 ml_X11_204 ok_X11_isIn iv_X11_isIn (by decide) rfl rfl (Nat.le_of_ble_eq_true rfl) (k_X11_isIn hI (up2 v 1100 2 0) u _ _ _ ) ?_
    refine J_if_eq (tgt := 41) dX11_own_21 (by decide) (fun c2 => ?_) (fun c2 => ?_)
    · refine J_iconst (x := (-1)) dX11_own_41 (by decide) ?_
      exact J_iret dX11_own_42 rfl ⟨_, rfl, rfl, by unfold f_X11_own; rw [if_neg c1, if_pos c2], by unfold f_X11_own; rw [if_neg c1, if_pos c2]⟩
    · refine J_iload_n dX11_own_24 rfl 3 rfl ?_
      refine J_eSI (z := mX11_isHalf) (As := [.int x3]) (rest := []) (x := f_X11_isHalf (up2 v 1100 2 0)  x3) dX11_own_25 ml_X11_249 ok_X11_isHalf iv_X11_isHalf (by decide) rfl rfl (Nat.le_of_ble_eq_true rfl) (k_X11_isHalf hI (up2 v 1100 2 0) u _ ) ?_
      refine J_if_eq (tgt := 41) dX11_own_28 (by decide) (fun c3 => ?_) (fun c3 => ?_)
      · refine J_iconst (x := (-1)) dX11_own_41 (by decide) ?_
        exact J_iret dX11_own_42 rfl ⟨_, rfl, rfl, by unfold f_X11_own; rw [if_neg c1, if_neg c2, if_pos c3], by unfold f_X11_own; rw [if_neg c1, if_neg c2, if_pos c3]⟩
      · refine J_iload dX11_own_31 4 rfl ?_
        refine J_iconst (x := 0) dX11_own_33 (by decide) ?_
        refine J_iconst (x := 4) dX11_own_34 (by decide) ?_
        refine J_eSI (z := mX11_isIn) (As := [.int x4, .int 0, .int 4]) (rest := []) (x := f_X11_isIn (up2 v 1100 2 0)  x4 0 4) dX11_own_35 ml_X11_204 ok_X11_isIn iv_X11_isIn (by decide) rfl rfl (Nat.le_of_ble_eq_true rfl) (k_X11_isIn hI (up2 v 1100 2 0) u _ _ _ ) ?_
        refine J_if_ne (tgt := 43) dX11_own_38 (by decide) (fun c4 => ?_) (fun c4 => ?_)
        · refine J_aload_n dX11_own_43 rfl 0 rfl ?_
          refine J_iload_n dX11_own_44 rfl 3 rfl ?_
          refine J_eVN (z := mX11_know) (As := [.int x3]) (rest := []) (ci := 11) (w := (f_know (up2 v 1100 2 0) N x3)) dX11_own_45 ml_X11_257 ok_X11_know iv_X11_know (by decide) (i1100 hI) rfl rfl rfl rfl (Nat.le_of_ble_eq_true rfl) (k_X11_know hI (up2 v 1100 2 0) u _ N hN hW) ?_
          refine J_aload_n dX11_own_48 rfl 0 rfl ?_
          refine J_iload_n dX11_own_49 rfl 1 rfl ?_
          refine J_iload_n dX11_own_50 rfl 2 rfl ?_
          refine J_iload_n dX11_own_51 rfl 3 rfl ?_
          refine J_eVN (z := mX11_years) (As := [.int x1, .int x2, .int x3]) (rest := []) (ci := 11) (w := f_years (f_know (up2 v 1100 2 0) N x3) n x2.toNatClampNeg x1 x3) dX11_own_52 ml_X11_292 ok_X11_years iv_X11_years (by decide) (i1100 hI) rfl rfl rfl rfl (Nat.le_of_ble_eq_true rfl) (k2_years hI (f_know (up2 v 1100 2 0) N x3) u n hL2 (by rw [f_know_m (by decide) (by decide)]; exact hL) _ _ _ (rng_of (m := 9) (by omega) (isIn_ne c2).1 (isIn_ne c2).2)) ?_
          refine J_iload dX11_own_55 4 rfl ?_
          refine J_if_ne (tgt := 67) dX11_own_57 (by decide) (fun c5 => ?_) (fun c5 => ?_)
          · refine J_iload dX11_own_67 4 rfl ?_
            refine J_iconst (x := 1) dX11_own_69 (by decide) ?_
            refine J_icmp_ne (tgt := 80) dX11_own_70 (by decide) (fun c6 => ?_) (fun c6 => ?_)
            · refine J_aload_n dX11_own_80 rfl 0 rfl ?_
              refine J_iload_n dX11_own_81 rfl 1 rfl ?_
              refine J_iload_n dX11_own_82 rfl 2 rfl ?_
              refine J_iload dX11_own_83 4 rfl ?_
              refine J_iconst (x := 2) dX11_own_85 (by decide) ?_
              refine J_icmp_ne (tgt := 93) dX11_own_86 (by decide) (fun c7 => ?_) (fun c7 => ?_)
              · refine J_iload dX11_own_93 4 rfl ?_
                refine J_iconst (x := 3) dX11_own_95 (by decide) ?_
                refine J_icmp_ne (tgt := 103) dX11_own_96 (by decide) (fun c8 => ?_) (fun c8 => ?_)
                · refine J_iconst (x := (-1)) dX11_own_103 (by decide) ?_
                  refine J_eVI (z := mX11_lived) (As := [.int x1, .int x2, .int (-1)]) (rest := []) (ci := 11) (x := f_X11_lived (f_years (f_know (up2 v 1100 2 0) N x3) n x2.toNatClampNeg x1 x3) x1 x2 (-1)) dX11_own_104 ml_X11_296 ok_X11_lived iv_X11_lived (by decide) (i1100 hI) rfl rfl rfl rfl (Nat.le_of_ble_eq_true rfl) (k_X11_lived hI _ _ _ _ _ (tb_in c1 c2)) ?_
                  exact J_iret dX11_own_107 rfl ⟨_, rfl, rfl, by unfold f_X11_own; rw [if_neg c1, if_neg c2, if_neg c3, if_neg c4, if_neg c5, if_neg c6, if_neg c7, if_neg c8], by unfold f_X11_own; rw [if_neg c1, if_neg c2, if_neg c3, if_neg c4, if_neg c5, if_neg c6, if_neg c7, if_neg c8]⟩
                · refine J_iconst (x := 1) dX11_own_99 (by decide) ?_
                  refine J_goto (tgt := 104) dX11_own_100 (by decide) ?_
                  refine J_eVI (z := mX11_lived) (As := [.int x1, .int x2, .int 1]) (rest := []) (ci := 11) (x := f_X11_lived (f_years (f_know (up2 v 1100 2 0) N x3) n x2.toNatClampNeg x1 x3) x1 x2 1) dX11_own_104 ml_X11_296 ok_X11_lived iv_X11_lived (by decide) (i1100 hI) rfl rfl rfl rfl (Nat.le_of_ble_eq_true rfl) (k_X11_lived hI _ _ _ _ _ (tb_in c1 c2)) ?_
                  exact J_iret dX11_own_107 rfl ⟨_, rfl, rfl, by unfold f_X11_own; rw [if_neg c1, if_neg c2, if_neg c3, if_neg c4, if_neg c5, if_neg c6, if_neg c7, if_pos c8], by unfold f_X11_own; rw [if_neg c1, if_neg c2, if_neg c3, if_neg c4, if_neg c5, if_neg c6, if_neg c7, if_pos c8]⟩
              · refine J_iconst (x := 0) dX11_own_89 (by decide) ?_
                refine J_goto (tgt := 104) dX11_own_90 (by decide) ?_
                refine J_eVI (z := mX11_lived) (As := [.int x1, .int x2, .int 0]) (rest := []) (ci := 11) (x := f_X11_lived (f_years (f_know (up2 v 1100 2 0) N x3) n x2.toNatClampNeg x1 x3) x1 x2 0) dX11_own_104 ml_X11_296 ok_X11_lived iv_X11_lived (by decide) (i1100 hI) rfl rfl rfl rfl (Nat.le_of_ble_eq_true rfl) (k_X11_lived hI _ _ _ _ _ (tb_in c1 c2)) ?_
                exact J_iret dX11_own_107 rfl ⟨_, rfl, rfl, by unfold f_X11_own; rw [if_neg c1, if_neg c2, if_neg c3, if_neg c4, if_neg c5, if_neg c6, if_pos c7], by unfold f_X11_own; rw [if_neg c1, if_neg c2, if_neg c3, if_neg c4, if_neg c5, if_neg c6, if_pos c7]⟩
            · refine J_aload_n dX11_own_73 rfl 0 rfl ?_
              refine J_gete (ci := 11) (j := 50) (x := (f_years (f_know (up2 v 1100 2 0) N x3) n x2.toNatClampNeg x1 x3) 1100 50) dX11_own_74 fl_X11_289 (i1100 hI) rfl rfl rfl ?_
              refine J_goto (tgt := 107) dX11_own_77 (by decide) ?_
              exact J_iret dX11_own_107 rfl ⟨_, rfl, rfl, by unfold f_X11_own; rw [if_neg c1, if_neg c2, if_neg c3, if_neg c4, if_neg c5, if_pos c6], by unfold f_X11_own; rw [if_neg c1, if_neg c2, if_neg c3, if_neg c4, if_neg c5, if_pos c6]⟩
          · refine J_aload_n dX11_own_60 rfl 0 rfl ?_
            refine J_gete (ci := 11) (j := 49) (x := (f_years (f_know (up2 v 1100 2 0) N x3) n x2.toNatClampNeg x1 x3) 1100 49) dX11_own_61 fl_X11_286 (i1100 hI) rfl rfl rfl ?_
            refine J_goto (tgt := 107) dX11_own_64 (by decide) ?_
            exact J_iret dX11_own_107 rfl ⟨_, rfl, rfl, by unfold f_X11_own; rw [if_neg c1, if_neg c2, if_neg c3, if_neg c4, if_pos c5], by unfold f_X11_own; rw [if_neg c1, if_neg c2, if_neg c3, if_neg c4, if_pos c5]⟩
        · refine J_iconst (x := (-1)) dX11_own_41 (by decide) ?_
          exact J_iret dX11_own_42 rfl ⟨_, rfl, rfl, by unfold f_X11_own; rw [if_neg c1, if_neg c2, if_neg c3, if_pos c4], by unfold f_X11_own; rw [if_neg c1, if_neg c2, if_neg c3, if_pos c4]⟩
theorem nt_sub {S O : Nat → Int32} {N : Nat} {x a : Int32} (hW : nt_ok S O N) (hN : a = nI N) (h1 : ¬ x < 0) (h2 : ¬ a ≤ x) (h3 : S x.toNatClampNeg = 0) : vp_in (O x.toNatClampNeg) 12 := by
  obtain ⟨j, hj, rfl⟩ := nI_of h1
  rw [hN] at h2
  have h4 : j < N := nz_nle (by have := hW.1; omega) hj h2
  rw [nI_clamp hj] at h3 ⊢
  exact (hW.2 j h4).2 (by rw [h3]; decide)
def f_X11_holds (v : fr_V) (N : Nat) (x1 x2 : Int32) : Int32 × fr_V := if x1 < 0 then ((-1), up2 v 1100 2 0) else if (v 1100 16) ≤ x1 then ((-1), up2 v 1100 2 0) else if (f_X11_isHalf (up2 v 1100 2 0)  x2) = 0 then ((-1), up2 v 1100 2 0) else if ((f_know (up2 v 1100 2 0) N x2) 1145 x1.toNatClampNeg) = 0 then (0, (f_know (up2 v 1100 2 0) N x2)) else if ((f_know (up2 v 1100 2 0) N x2) 1118 x1.toNatClampNeg) = 0 then (if (f_X11_isFalse (f_know (up2 v 1100 2 0) N x2)  x1) = 0 then (1, (f_know (up2 v 1100 2 0) N x2)) else (2, (f_know (up2 v 1100 2 0) N x2))) else (1, (f_know (up2 v 1100 2 0) N x2))
theorem k_X11_holds {l : Launch} {I : List Nat} (hI : fr_I I) (v : fr_V) (u : fr_U) (N : Nat) (x1 x2 : Int32) (hN : v 1100 16 = nI N) (hW : nt_ok (v 1118) (v 1119) N) : Con l mX11_holds I v u [.ref 1100, .int x1, .int x2] (QX u (fun a b => a = (f_X11_holds v N x1 x2).1 ∧ b = (f_X11_holds v N x1 x2).2)) := by
  refine Con.of (by decide) (Nat.le_of_ble_eq_true rfl) ?_
  show J l mX11_holds I v u 0 [(0, .ref 1100), (1, .int x1), (2, .int x2)] [] _
  refine J_aload_n dX11_holds_0 rfl 0 rfl ?_
  refine J_iconst (x := 0) dX11_holds_1 (by decide) ?_
  refine J_puti (ci := 11) (j := 2) dX11_holds_2 fl_X11_129 (i1100 hI) rfl rfl (fun q h => by cases h; rfl) rfl ?_
  refine J_iload_n dX11_holds_5 rfl 1 rfl ?_
  refine J_if_lt (tgt := 24) dX11_holds_6 (by decide) (fun c1 => ?_) (fun c1 => ?_)
  · refine J_iconst (x := (-1)) dX11_holds_24 (by decide) ?_
    exact J_iret dX11_holds_25 rfl ⟨_, rfl, rfl, by unfold f_X11_holds; rw [if_pos c1], by unfold f_X11_holds; rw [if_pos c1]⟩
  · refine J_iload_n dX11_holds_9 rfl 1 rfl ?_
    refine J_aload_n dX11_holds_10 rfl 0 rfl ?_
    refine J_gete (ci := 11) (j := 16) (x := v 1100 16) dX11_holds_11 fl_X11_252 (i1100 hI) rfl rfl rfl ?_
    refine J_icmp_ge (tgt := 24) dX11_holds_14 (by decide) (fun c2 => ?_) (fun c2 => ?_)
    · refine J_iconst (x := (-1)) dX11_holds_24 (by decide) ?_
      exact J_iret dX11_holds_25 rfl ⟨_, rfl, rfl, by unfold f_X11_holds; rw [if_neg c1, if_pos c2], by unfold f_X11_holds; rw [if_neg c1, if_pos c2]⟩
    · refine J_iload_n dX11_holds_17 rfl 2 rfl ?_
      refine J_eSI (z := mX11_isHalf) (As := [.int x2]) (rest := []) (x := f_X11_isHalf (up2 v 1100 2 0)  x2) dX11_holds_18 ml_X11_249 ok_X11_isHalf iv_X11_isHalf (by decide) rfl rfl (Nat.le_of_ble_eq_true rfl) (k_X11_isHalf hI (up2 v 1100 2 0) u _ ) ?_
      refine J_if_ne (tgt := 26) dX11_holds_21 (by decide) (fun c3 => ?_) (fun c3 => ?_)
      · refine J_aload_n dX11_holds_26 rfl 0 rfl ?_
        refine J_iload_n dX11_holds_27 rfl 2 rfl ?_
        refine J_eVN (z := mX11_know) (As := [.int x2]) (rest := []) (ci := 11) (w := (f_know (up2 v 1100 2 0) N x2)) dX11_holds_28 ml_X11_257 ok_X11_know iv_X11_know (by decide) (i1100 hI) rfl rfl rfl rfl (Nat.le_of_ble_eq_true rfl) (k_X11_know hI (up2 v 1100 2 0) u _ N hN hW) ?_
        refine J_aload_n dX11_holds_31 rfl 0 rfl ?_
        refine J_getr (ci := 11) (j := 44) (t := 1145) dX11_holds_32 fl_X11_93 (i1100 hI) rfl rfl rfl ?_
        refine J_iload_n dX11_holds_35 rfl 1 rfl ?_
        refine J_zale (x := (f_know (up2 v 1100 2 0) N x2) 1145 x1.toNatClampNeg) dX11_holds_36 (i1145 hI) rfl (lim_in hN hW.1 (by omega) (by assumption) (by assumption)) rfl ?_
        refine J_if_ne (tgt := 44) dX11_holds_37 (by decide) (fun c4 => ?_) (fun c4 => ?_)
        · refine J_aload_n dX11_holds_44 rfl 0 rfl ?_
          refine J_getr (ci := 11) (j := 17) (t := 1118) dX11_holds_45 fl_X11_40 (i1100 hI) rfl rfl rfl ?_
          refine J_iload_n dX11_holds_48 rfl 1 rfl ?_
          refine J_iale (x := (f_know (up2 v 1100 2 0) N x2) 1118 x1.toNatClampNeg) dX11_holds_49 (i1118 hI) rfl (lim_in hN hW.1 (by omega) (by assumption) (by assumption)) rfl ?_
          refine J_if_ne (tgt := 65) dX11_holds_50 (by decide) (fun c5 => ?_) (fun c5 => ?_)
          · refine J_iconst (x := 1) dX11_holds_65 (by decide) ?_
            exact J_iret dX11_holds_66 rfl ⟨_, rfl, rfl, by unfold f_X11_holds; rw [if_neg c1, if_neg c2, if_neg c3, if_neg c4, if_neg c5], by unfold f_X11_holds; rw [if_neg c1, if_neg c2, if_neg c3, if_neg c4, if_neg c5]⟩
          · refine J_aload_n dX11_holds_53 rfl 0 rfl ?_
            refine J_iload_n dX11_holds_54 rfl 1 rfl ?_
            refine J_eVI (z := mX11_isFalse) (As := [.int x1]) (rest := []) (ci := 11) (x := f_X11_isFalse (f_know (up2 v 1100 2 0) N x2)  x1) dX11_holds_55 ml_X11_261 ok_X11_isFalse iv_X11_isFalse (by decide) (i1100 hI) rfl rfl rfl rfl (Nat.le_of_ble_eq_true rfl) (k_X11_isFalse hI (f_know (up2 v 1100 2 0) N x2) u _ (lim_in hN hW.1 (by omega) (by first | assumption | exact lf_in hL hL2 (by assumption) | exact rt_in hR hR2 (by assumption) | exact nt_in hN hW.1 (by assumption) | exact (fun h => absurd rfl h) | exact (fun _ => lf_in hL hL2 (by assumption)) | exact (fun h => absurd (by assumption) h)) (by first | assumption | exact lf_in hL hL2 (by assumption) | exact rt_in hR hR2 (by assumption) | exact nt_in hN hW.1 (by assumption) | exact (fun h => absurd rfl h) | exact (fun _ => lf_in hL hL2 (by assumption)) | exact (fun h => absurd (by assumption) h))) (nt_sub hW hN (by first | assumption | exact lf_in hL hL2 (by assumption) | exact rt_in hR hR2 (by assumption) | exact nt_in hN hW.1 (by assumption) | exact (fun h => absurd rfl h) | exact (fun _ => lf_in hL hL2 (by assumption)) | exact (fun h => absurd (by assumption) h)) (by first | assumption | exact lf_in hL hL2 (by assumption) | exact rt_in hR hR2 (by assumption) | exact nt_in hN hW.1 (by assumption) | exact (fun h => absurd rfl h) | exact (fun _ => lf_in hL hL2 (by assumption)) | exact (fun h => absurd (by assumption) h)) (by first | assumption | exact lf_in hL hL2 (by assumption) | exact rt_in hR hR2 (by assumption) | exact nt_in hN hW.1 (by assumption) | exact (fun h => absurd rfl h) | exact (fun _ => lf_in hL hL2 (by assumption)) | exact (fun h => absurd (by assumption) h)))) ?_
            refine J_if_eq (tgt := 65) dX11_holds_58 (by decide) (fun c6 => ?_) (fun c6 => ?_)
            · refine J_iconst (x := 1) dX11_holds_65 (by decide) ?_
              exact J_iret dX11_holds_66 rfl ⟨_, rfl, rfl, by unfold f_X11_holds; rw [if_neg c1, if_neg c2, if_neg c3, if_neg c4, if_pos c5, if_pos c6], by unfold f_X11_holds; rw [if_neg c1, if_neg c2, if_neg c3, if_neg c4, if_pos c5, if_pos c6]⟩
            · refine J_iconst (x := 2) dX11_holds_61 (by decide) ?_
              refine J_goto (tgt := 66) dX11_holds_62 (by decide) ?_
              exact J_iret dX11_holds_66 rfl ⟨_, rfl, rfl, by unfold f_X11_holds; rw [if_neg c1, if_neg c2, if_neg c3, if_neg c4, if_pos c5, if_neg c6], by unfold f_X11_holds; rw [if_neg c1, if_neg c2, if_neg c3, if_neg c4, if_pos c5, if_neg c6]⟩
        · refine J_iconst (x := 0) dX11_holds_40 (by decide) ?_
          refine J_goto (tgt := 66) dX11_holds_41 (by decide) ?_
          exact J_iret dX11_holds_66 rfl ⟨_, rfl, rfl, by unfold f_X11_holds; rw [if_neg c1, if_neg c2, if_neg c3, if_pos c4], by unfold f_X11_holds; rw [if_neg c1, if_neg c2, if_neg c3, if_pos c4]⟩
      · refine J_iconst (x := (-1)) dX11_holds_24 (by decide) ?_
        exact J_iret dX11_holds_25 rfl ⟨_, rfl, rfl, by unfold f_X11_holds; rw [if_neg c1, if_neg c2, if_pos c3], by unfold f_X11_holds; rw [if_neg c1, if_neg c2, if_pos c3]⟩
theorem lf_lay {v : fr_V} {n N P : Nat} {x1 x : Int32} (h : lfOK v x P) : lfOK (f_lay v n N x1) x P := by
  obtain ⟨h1, ⟨i, hi, hc⟩, hp, hP⟩ := h
  have e : f_X11_ageIn (f_lay v n N x1) x (f_lay v n N x1 1100 3) = f_X11_ageIn v x (v 1100 3) := by
    unfold f_X11_ageIn
    rw [f_lay_m (by unfold ly_off; decide), f_lay_m (by unfold ly_off; exact ⟨by omega, by decide, by decide, by decide⟩)]
  refine ⟨h1, ⟨i, hi, ?_⟩, by rw [e]; exact hp, hP⟩
  rw [f_lay_m (by unfold ly_off; exact ⟨by omega, by decide, by decide, by decide⟩)]
  exact hc
theorem nz_99 {P : Nat} {x : Int32} (hx : x = nI P) (hP : P < 1000) (h : ¬ 99 < x) : P ≤ 99 := by
  rw [hx] at h
  exact Nat.le_of_not_lt (fun q => h (nI_lt (a := 99) q (by omega)))
theorem nz_99' {P : Nat} {x : Int32} (hx : x = nI P) (hP : P < 1000) (h : x ≤ 99) : P ≤ 99 := by
  rw [hx] at h
  exact nz_le (b := 99) (by omega) (by omega) h
def f_X11_worth (v : fr_V) (N : Nat) (n : Nat) (P : Nat) (Q0 : Nat) (x1 x2 x3 : Int32) : Int32 × fr_V := if (f_X11_isLife (up2 v 1100 2 0)  x1) = 0 then ((-1), up2 v 1100 2 0) else if x2 = (-1) then (if (f_X11_isIn (up2 v 1100 2 0)  x3 0 3) = 0 then ((-1), up2 v 1100 2 0) else if 99 < (f_X11_ageIn (up2 v 1100 2 0)  x1 (v 1100 3)) then ((-1), up2 v 1100 2 0) else if x2 = (-1) then (f_X11_worthOn (f_lay (up2 v 1100 2 0) n N x3) P Q0 x1 x2, f_lay (up2 v 1100 2 0) n N x3) else if (f_X11_ageIn (up2 v 1100 2 0) x2 (v 1100 3)) ≤ 99 then (f_X11_worthOn (f_lay (up2 v 1100 2 0) n N x3) P Q0 x1 x2, f_lay (up2 v 1100 2 0) n N x3) else ((-1), up2 v 1100 2 0)) else if (f_X11_isLife (up2 v 1100 2 0)  x2) = 0 then ((-1), up2 v 1100 2 0) else if x1 = x2 then ((-1), up2 v 1100 2 0) else if (f_X11_isIn (up2 v 1100 2 0)  x3 0 3) = 0 then ((-1), up2 v 1100 2 0) else if 99 < (f_X11_ageIn (up2 v 1100 2 0)  x1 (v 1100 3)) then ((-1), up2 v 1100 2 0) else if x2 = (-1) then (f_X11_worthOn (f_lay (up2 v 1100 2 0) n N x3) P Q0 x1 x2, f_lay (up2 v 1100 2 0) n N x3) else if (f_X11_ageIn (up2 v 1100 2 0)  x2 (v 1100 3)) ≤ 99 then (f_X11_worthOn (f_lay (up2 v 1100 2 0) n N x3) P Q0 x1 x2, f_lay (up2 v 1100 2 0) n N x3) else ((-1), up2 v 1100 2 0)
theorem k_X11_worth {l : Launch} {I : List Nat} (hI : fr_I I) (v : fr_V) (u : fr_U) (N : Nat) (n : Nat) (P : Nat) (Q0 : Nat) (x1 x2 x3 : Int32) (hN : v 1100 16 = nI N) (hW : nt_ok (v 1118) (v 1119) N) (hL : v 1100 4 = nI n) (hL2 : n ≤ 12) (hA : ¬ f_X11_isLife (up2 v 1100 2 0) x1 = 0 → lfOK (up2 v 1100 2 0) x1 P) (hB : ¬ x2 = (-1) → ¬ f_X11_isLife (up2 v 1100 2 0) x2 = 0 → lfOK (up2 v 1100 2 0) x2 Q0) (hr : ¬ v 1141 2 + 1 = 0) : Con l mX11_worth I v u [.ref 1100, .int x1, .int x2, .int x3] (QX u (fun a b => a = (f_X11_worth v N n P Q0 x1 x2 x3).1 ∧ b = (f_X11_worth v N n P Q0 x1 x2 x3).2)) := by
  refine Con.of (by decide) (Nat.le_of_ble_eq_true rfl) ?_
  show J l mX11_worth I v u 0 [(0, .ref 1100), (1, .int x1), (2, .int x2), (3, .int x3)] [] _
  refine J_aload_n dX11_worth_0 rfl 0 rfl ?_
  refine J_iconst (x := 0) dX11_worth_1 (by decide) ?_
  refine J_puti (ci := 11) (j := 2) dX11_worth_2 fl_X11_129 (i1100 hI) rfl rfl (fun q h => by cases h; rfl) rfl ?_
  refine J_aload_n dX11_worth_5 rfl 0 rfl ?_
  refine J_iload_n dX11_worth_6 rfl 1 rfl ?_
  refine J_eVI (z := mX11_isLife) (As := [.int x1]) (rest := []) (ci := 11) (x := f_X11_isLife (up2 v 1100 2 0)  x1) dX11_worth_7 ml_X11_221 ok_X11_isLife iv_X11_isLife (by decide) (i1100 hI) rfl rfl rfl rfl (Nat.le_of_ble_eq_true rfl) (k_X11_isLife hI (up2 v 1100 2 0) u _ ) ?_
  refine J_if_eq (tgt := 73) dX11_worth_10 (by decide) (fun c1 => ?_) (fun c1 => ?_)
  · refine J_iconst (x := (-1)) dX11_worth_73 (by decide) ?_
    exact J_iret dX11_worth_74 rfl ⟨_, rfl, rfl, by unfold f_X11_worth; rw [if_pos c1], by unfold f_X11_worth; rw [if_pos c1]⟩
  · refine J_iload_n dX11_worth_13 rfl 2 rfl ?_
    refine J_iconst (x := (-1)) dX11_worth_14 (by decide) ?_
    refine J_icmp_eq (tgt := 31) dX11_worth_15 (by decide) (fun c2 => ?_) (fun c2 => ?_)
    · refine J_iload_n dX11_worth_31 rfl 3 rfl ?_
      refine J_iconst (x := 0) dX11_worth_32 (by decide) ?_
      refine J_iconst (x := 3) dX11_worth_33 (by decide) ?_
      refine J_eSI (z := mX11_isIn) (As := [.int x3, .int 0, .int 3]) (rest := []) (x := f_X11_isIn (up2 v 1100 2 0)  x3 0 3) dX11_worth_34 ml_X11_204 ok_X11_isIn iv_X11_isIn (by decide) rfl rfl (Nat.le_of_ble_eq_true rfl) (k_X11_isIn hI (up2 v 1100 2 0) u _ _ _ ) ?_
      refine J_if_eq (tgt := 73) dX11_worth_37 (by decide) (fun c3 => ?_) (fun c3 => ?_)
      · refine J_iconst (x := (-1)) dX11_worth_73 (by decide) ?_
        exact J_iret dX11_worth_74 rfl ⟨_, rfl, rfl, by unfold f_X11_worth; rw [if_neg c1, if_pos c2, if_pos c3], by unfold f_X11_worth; rw [if_neg c1, if_pos c2, if_pos c3]⟩
      · refine J_aload_n dX11_worth_40 rfl 0 rfl ?_
        refine J_iload_n dX11_worth_41 rfl 1 rfl ?_
        refine J_aload_n dX11_worth_42 rfl 0 rfl ?_
        refine J_gete (ci := 11) (j := 3) (x := v 1100 3) dX11_worth_43 fl_X11_208 (i1100 hI) rfl rfl rfl ?_
        refine J_eVI (z := mX11_ageIn) (As := [.int x1, .int (v 1100 3)]) (rest := []) (ci := 11) (x := f_X11_ageIn (up2 v 1100 2 0)  x1 (v 1100 3)) dX11_worth_46 ml_X11_214 ok_X11_ageIn iv_X11_ageIn (by decide) (i1100 hI) rfl rfl rfl rfl (Nat.le_of_ble_eq_true rfl) (k_X11_ageIn hI (up2 v 1100 2 0) u _ _ (by first | assumption | exact lf_in hL hL2 (by assumption) | exact rt_in hR hR2 (by assumption) | exact nt_in hN hW.1 (by assumption) | exact (fun h => absurd rfl h) | exact (fun _ => lf_in hL hL2 (by assumption)) | exact (fun h => absurd (by assumption) h))) ?_
        refine J_bipush (x := 99) dX11_worth_49 (by decide) ?_
        refine J_icmp_gt (tgt := 73) dX11_worth_51 (by decide) (fun c4 => ?_) (fun c4 => ?_)
        · refine J_iconst (x := (-1)) dX11_worth_73 (by decide) ?_
          exact J_iret dX11_worth_74 rfl ⟨_, rfl, rfl, by unfold f_X11_worth; rw [if_neg c1, if_pos c2, if_neg c3, if_pos c4], by unfold f_X11_worth; rw [if_neg c1, if_pos c2, if_neg c3, if_pos c4]⟩
        · refine J_iload_n dX11_worth_54 rfl 2 rfl ?_
          refine J_iconst (x := (-1)) dX11_worth_55 (by decide) ?_
          refine J_icmp_eq (tgt := 75) dX11_worth_56 (by decide) (fun c5 => ?_) (fun c5 => ?_)
          · refine J_aload_n dX11_worth_75 rfl 0 rfl ?_
            refine J_iload_n dX11_worth_76 rfl 3 rfl ?_
            refine J_eVN (z := mX11_lay) (As := [.int x3]) (rest := []) (ci := 11) (w := f_lay (up2 v 1100 2 0) n N x3) dX11_worth_77 ml_X11_314 ok_X11_lay iv_X11_lay (by decide) (i1100 hI) rfl rfl rfl rfl (Nat.le_of_ble_eq_true rfl) (k_X11_lay hI (up2 v 1100 2 0) u n N hL2 hL hN hW _) ?_
            refine J_aload_n dX11_worth_80 rfl 0 rfl ?_
            refine J_iload_n dX11_worth_81 rfl 1 rfl ?_
            refine J_iload_n dX11_worth_82 rfl 2 rfl ?_
            refine J_eVI (z := mX11_worthOn) (As := [.int x1, .int x2]) (rest := []) (ci := 11) (x := f_X11_worthOn (f_lay (up2 v 1100 2 0) n N x3) P Q0 x1 x2) dX11_worth_83 ml_X11_317 ok_X11_worthOn iv_X11_worthOn (by decide) (i1100 hI) rfl rfl rfl rfl (Nat.le_of_ble_eq_true rfl) (k_X11_worthOn hI (f_lay (up2 v 1100 2 0) n N x3) u P Q0 _ _ (fun _ => lf_lay (v := up2 v 1100 2 0) (hA (by assumption))) (fun h => absurd c2 h) (fun _ => nz_99 (hA (by assumption)).2.2.1 (hA (by assumption)).2.2.2 (by assumption)) (fun h => absurd (by assumption) h) (by rw [f_lay_m (by unfold ly_off; decide)]; exact hr)) ?_
            exact J_iret dX11_worth_86 rfl ⟨_, rfl, rfl, by unfold f_X11_worth; rw [if_neg c1, if_pos c2, if_neg c3, if_neg c4, if_pos c5], by unfold f_X11_worth; rw [if_neg c1, if_pos c2, if_neg c3, if_neg c4, if_pos c5]⟩
          · refine J_aload_n dX11_worth_59 rfl 0 rfl ?_
            refine J_iload_n dX11_worth_60 rfl 2 rfl ?_
            refine J_aload_n dX11_worth_61 rfl 0 rfl ?_
            refine J_gete (ci := 11) (j := 3) (x := v 1100 3) dX11_worth_62 fl_X11_208 (i1100 hI) rfl rfl rfl ?_
            refine J_eVI (z := mX11_ageIn) (As := [.int x2, .int (v 1100 3)]) (rest := []) (ci := 11) (x := f_X11_ageIn (up2 v 1100 2 0) x2 (v 1100 3)) dX11_worth_65 ml_X11_214 ok_X11_ageIn iv_X11_ageIn (by decide) (i1100 hI) rfl rfl rfl rfl (Nat.le_of_ble_eq_true rfl) (k_X11_ageIn hI (up2 v 1100 2 0) u _ _ (absurd c2 c5)) ?_
            refine J_bipush (x := 99) dX11_worth_68 (by decide) ?_
            refine J_icmp_le (tgt := 75) dX11_worth_70 (by decide) (fun c6 => ?_) (fun c6 => ?_)
            · refine J_aload_n dX11_worth_75 rfl 0 rfl ?_
              refine J_iload_n dX11_worth_76 rfl 3 rfl ?_
              refine J_eVN (z := mX11_lay) (As := [.int x3]) (rest := []) (ci := 11) (w := f_lay (up2 v 1100 2 0) n N x3) dX11_worth_77 ml_X11_314 ok_X11_lay iv_X11_lay (by decide) (i1100 hI) rfl rfl rfl rfl (Nat.le_of_ble_eq_true rfl) (k_X11_lay hI (up2 v 1100 2 0) u n N hL2 hL hN hW _) ?_
              refine J_aload_n dX11_worth_80 rfl 0 rfl ?_
              refine J_iload_n dX11_worth_81 rfl 1 rfl ?_
              refine J_iload_n dX11_worth_82 rfl 2 rfl ?_
              refine J_eVI (z := mX11_worthOn) (As := [.int x1, .int x2]) (rest := []) (ci := 11) (x := f_X11_worthOn (f_lay (up2 v 1100 2 0) n N x3) P Q0 x1 x2) dX11_worth_83 ml_X11_317 ok_X11_worthOn iv_X11_worthOn (by decide) (i1100 hI) rfl rfl rfl rfl (Nat.le_of_ble_eq_true rfl) (k_X11_worthOn hI (f_lay (up2 v 1100 2 0) n N x3) u P Q0 _ _ (fun _ => lf_lay (v := up2 v 1100 2 0) (hA (by assumption))) (fun h => absurd c2 h) (fun _ => nz_99 (hA (by assumption)).2.2.1 (hA (by assumption)).2.2.2 (by assumption)) (fun h => absurd (by assumption) h) (by rw [f_lay_m (by unfold ly_off; decide)]; exact hr)) ?_
              exact J_iret dX11_worth_86 rfl ⟨_, rfl, rfl, by unfold f_X11_worth; rw [if_neg c1, if_pos c2, if_neg c3, if_neg c4, if_neg c5, if_pos c6], by unfold f_X11_worth; rw [if_neg c1, if_pos c2, if_neg c3, if_neg c4, if_neg c5, if_pos c6]⟩
            · refine J_iconst (x := (-1)) dX11_worth_73 (by decide) ?_
              exact J_iret dX11_worth_74 rfl ⟨_, rfl, rfl, by unfold f_X11_worth; rw [if_neg c1, if_pos c2, if_neg c3, if_neg c4, if_neg c5, if_neg c6], by unfold f_X11_worth; rw [if_neg c1, if_pos c2, if_neg c3, if_neg c4, if_neg c5, if_neg c6]⟩
    · refine J_aload_n dX11_worth_18 rfl 0 rfl ?_
      refine J_iload_n dX11_worth_19 rfl 2 rfl ?_
      refine J_eVI (z := mX11_isLife) (As := [.int x2]) (rest := []) (ci := 11) (x := f_X11_isLife (up2 v 1100 2 0)  x2) dX11_worth_20 ml_X11_221 ok_X11_isLife iv_X11_isLife (by decide) (i1100 hI) rfl rfl rfl rfl (Nat.le_of_ble_eq_true rfl) (k_X11_isLife hI (up2 v 1100 2 0) u _ ) ?_
      refine J_if_eq (tgt := 73) dX11_worth_23 (by decide) (fun c7 => ?_) (fun c7 => ?_)
      · refine J_iconst (x := (-1)) dX11_worth_73 (by decide) ?_
        exact J_iret dX11_worth_74 rfl ⟨_, rfl, rfl, by unfold f_X11_worth; rw [if_neg c1, if_neg c2, if_pos c7], by unfold f_X11_worth; rw [if_neg c1, if_neg c2, if_pos c7]⟩
      · refine J_iload_n dX11_worth_26 rfl 1 rfl ?_
        refine J_iload_n dX11_worth_27 rfl 2 rfl ?_
        refine J_icmp_eq (tgt := 73) dX11_worth_28 (by decide) (fun c8 => ?_) (fun c8 => ?_)
        · refine J_iconst (x := (-1)) dX11_worth_73 (by decide) ?_
          exact J_iret dX11_worth_74 rfl ⟨_, rfl, rfl, by unfold f_X11_worth; rw [if_neg c1, if_neg c2, if_neg c7, if_pos c8], by unfold f_X11_worth; rw [if_neg c1, if_neg c2, if_neg c7, if_pos c8]⟩
        · refine J_iload_n dX11_worth_31 rfl 3 rfl ?_
          refine J_iconst (x := 0) dX11_worth_32 (by decide) ?_
          refine J_iconst (x := 3) dX11_worth_33 (by decide) ?_
          refine J_eSI (z := mX11_isIn) (As := [.int x3, .int 0, .int 3]) (rest := []) (x := f_X11_isIn (up2 v 1100 2 0)  x3 0 3) dX11_worth_34 ml_X11_204 ok_X11_isIn iv_X11_isIn (by decide) rfl rfl (Nat.le_of_ble_eq_true rfl) (k_X11_isIn hI (up2 v 1100 2 0) u _ _ _ ) ?_
          refine J_if_eq (tgt := 73) dX11_worth_37 (by decide) (fun c9 => ?_) (fun c9 => ?_)
          · refine J_iconst (x := (-1)) dX11_worth_73 (by decide) ?_
            exact J_iret dX11_worth_74 rfl ⟨_, rfl, rfl, by unfold f_X11_worth; rw [if_neg c1, if_neg c2, if_neg c7, if_neg c8, if_pos c9], by unfold f_X11_worth; rw [if_neg c1, if_neg c2, if_neg c7, if_neg c8, if_pos c9]⟩
          · refine J_aload_n dX11_worth_40 rfl 0 rfl ?_
            refine J_iload_n dX11_worth_41 rfl 1 rfl ?_
            refine J_aload_n dX11_worth_42 rfl 0 rfl ?_
            refine J_gete (ci := 11) (j := 3) (x := v 1100 3) dX11_worth_43 fl_X11_208 (i1100 hI) rfl rfl rfl ?_
            refine J_eVI (z := mX11_ageIn) (As := [.int x1, .int (v 1100 3)]) (rest := []) (ci := 11) (x := f_X11_ageIn (up2 v 1100 2 0)  x1 (v 1100 3)) dX11_worth_46 ml_X11_214 ok_X11_ageIn iv_X11_ageIn (by decide) (i1100 hI) rfl rfl rfl rfl (Nat.le_of_ble_eq_true rfl) (k_X11_ageIn hI (up2 v 1100 2 0) u _ _ (by first | assumption | exact lf_in hL hL2 (by assumption) | exact rt_in hR hR2 (by assumption) | exact nt_in hN hW.1 (by assumption) | exact (fun h => absurd rfl h) | exact (fun _ => lf_in hL hL2 (by assumption)) | exact (fun h => absurd (by assumption) h))) ?_
            refine J_bipush (x := 99) dX11_worth_49 (by decide) ?_
            refine J_icmp_gt (tgt := 73) dX11_worth_51 (by decide) (fun c10 => ?_) (fun c10 => ?_)
            · refine J_iconst (x := (-1)) dX11_worth_73 (by decide) ?_
              exact J_iret dX11_worth_74 rfl ⟨_, rfl, rfl, by unfold f_X11_worth; rw [if_neg c1, if_neg c2, if_neg c7, if_neg c8, if_neg c9, if_pos c10], by unfold f_X11_worth; rw [if_neg c1, if_neg c2, if_neg c7, if_neg c8, if_neg c9, if_pos c10]⟩
            · refine J_iload_n dX11_worth_54 rfl 2 rfl ?_
              refine J_iconst (x := (-1)) dX11_worth_55 (by decide) ?_
              refine J_icmp_eq (tgt := 75) dX11_worth_56 (by decide) (fun c11 => ?_) (fun c11 => ?_)
              · refine J_aload_n dX11_worth_75 rfl 0 rfl ?_
                refine J_iload_n dX11_worth_76 rfl 3 rfl ?_
                refine J_eVN (z := mX11_lay) (As := [.int x3]) (rest := []) (ci := 11) (w := f_lay (up2 v 1100 2 0) n N x3) dX11_worth_77 ml_X11_314 ok_X11_lay iv_X11_lay (by decide) (i1100 hI) rfl rfl rfl rfl (Nat.le_of_ble_eq_true rfl) (k_X11_lay hI (up2 v 1100 2 0) u n N hL2 hL hN hW _) ?_
                refine J_aload_n dX11_worth_80 rfl 0 rfl ?_
                refine J_iload_n dX11_worth_81 rfl 1 rfl ?_
                refine J_iload_n dX11_worth_82 rfl 2 rfl ?_
                refine J_eVI (z := mX11_worthOn) (As := [.int x1, .int x2]) (rest := []) (ci := 11) (x := f_X11_worthOn (f_lay (up2 v 1100 2 0) n N x3) P Q0 x1 x2) dX11_worth_83 ml_X11_317 ok_X11_worthOn iv_X11_worthOn (by decide) (i1100 hI) rfl rfl rfl rfl (Nat.le_of_ble_eq_true rfl) (k_X11_worthOn hI (f_lay (up2 v 1100 2 0) n N x3) u P Q0 _ _ (fun _ => lf_lay (v := up2 v 1100 2 0) (hA (by assumption))) (fun h => lf_lay (v := up2 v 1100 2 0) (hB h (by assumption))) (fun _ => nz_99 (hA (by assumption)).2.2.1 (hA (by assumption)).2.2.2 (by assumption)) (fun h => absurd c11 h) (by rw [f_lay_m (by unfold ly_off; decide)]; exact hr)) ?_
                exact J_iret dX11_worth_86 rfl ⟨_, rfl, rfl, by unfold f_X11_worth; rw [if_neg c1, if_neg c2, if_neg c7, if_neg c8, if_neg c9, if_neg c10, if_pos c11], by unfold f_X11_worth; rw [if_neg c1, if_neg c2, if_neg c7, if_neg c8, if_neg c9, if_neg c10, if_pos c11]⟩
              · refine J_aload_n dX11_worth_59 rfl 0 rfl ?_
                refine J_iload_n dX11_worth_60 rfl 2 rfl ?_
                refine J_aload_n dX11_worth_61 rfl 0 rfl ?_
                refine J_gete (ci := 11) (j := 3) (x := v 1100 3) dX11_worth_62 fl_X11_208 (i1100 hI) rfl rfl rfl ?_
                refine J_eVI (z := mX11_ageIn) (As := [.int x2, .int (v 1100 3)]) (rest := []) (ci := 11) (x := f_X11_ageIn (up2 v 1100 2 0)  x2 (v 1100 3)) dX11_worth_65 ml_X11_214 ok_X11_ageIn iv_X11_ageIn (by decide) (i1100 hI) rfl rfl rfl rfl (Nat.le_of_ble_eq_true rfl) (k_X11_ageIn hI (up2 v 1100 2 0) u _ _ (by first | assumption | exact lf_in hL hL2 (by assumption) | exact rt_in hR hR2 (by assumption) | exact nt_in hN hW.1 (by assumption) | exact (fun h => absurd rfl h) | exact (fun _ => lf_in hL hL2 (by assumption)) | exact (fun h => absurd (by assumption) h))) ?_
                refine J_bipush (x := 99) dX11_worth_68 (by decide) ?_
                refine J_icmp_le (tgt := 75) dX11_worth_70 (by decide) (fun c12 => ?_) (fun c12 => ?_)
                · refine J_aload_n dX11_worth_75 rfl 0 rfl ?_
                  refine J_iload_n dX11_worth_76 rfl 3 rfl ?_
                  refine J_eVN (z := mX11_lay) (As := [.int x3]) (rest := []) (ci := 11) (w := f_lay (up2 v 1100 2 0) n N x3) dX11_worth_77 ml_X11_314 ok_X11_lay iv_X11_lay (by decide) (i1100 hI) rfl rfl rfl rfl (Nat.le_of_ble_eq_true rfl) (k_X11_lay hI (up2 v 1100 2 0) u n N hL2 hL hN hW _) ?_
                  refine J_aload_n dX11_worth_80 rfl 0 rfl ?_
                  refine J_iload_n dX11_worth_81 rfl 1 rfl ?_
                  refine J_iload_n dX11_worth_82 rfl 2 rfl ?_
                  refine J_eVI (z := mX11_worthOn) (As := [.int x1, .int x2]) (rest := []) (ci := 11) (x := f_X11_worthOn (f_lay (up2 v 1100 2 0) n N x3) P Q0 x1 x2) dX11_worth_83 ml_X11_317 ok_X11_worthOn iv_X11_worthOn (by decide) (i1100 hI) rfl rfl rfl rfl (Nat.le_of_ble_eq_true rfl) (k_X11_worthOn hI (f_lay (up2 v 1100 2 0) n N x3) u P Q0 _ _ (fun _ => lf_lay (v := up2 v 1100 2 0) (hA (by assumption))) (fun h => lf_lay (v := up2 v 1100 2 0) (hB h (by assumption))) (fun _ => nz_99 (hA (by assumption)).2.2.1 (hA (by assumption)).2.2.2 (by assumption)) (fun h => nz_99' (hB h (by assumption)).2.2.1 (hB h (by assumption)).2.2.2 (by assumption)) (by rw [f_lay_m (by unfold ly_off; decide)]; exact hr)) ?_
                  exact J_iret dX11_worth_86 rfl ⟨_, rfl, rfl, by unfold f_X11_worth; rw [if_neg c1, if_neg c2, if_neg c7, if_neg c8, if_neg c9, if_neg c10, if_neg c11, if_pos c12], by unfold f_X11_worth; rw [if_neg c1, if_neg c2, if_neg c7, if_neg c8, if_neg c9, if_neg c10, if_neg c11, if_pos c12]⟩
                · refine J_iconst (x := (-1)) dX11_worth_73 (by decide) ?_
                  exact J_iret dX11_worth_74 rfl ⟨_, rfl, rfl, by unfold f_X11_worth; rw [if_neg c1, if_neg c2, if_neg c7, if_neg c8, if_neg c9, if_neg c10, if_neg c11, if_neg c12], by unfold f_X11_worth; rw [if_neg c1, if_neg c2, if_neg c7, if_neg c8, if_neg c9, if_neg c10, if_neg c11, if_neg c12]⟩
