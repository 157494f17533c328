def sp_pt (W : Nat → Int32) (r h half : Int32) (n0 : Int32) : Nat → Int32
  | 0 => n0
  | j + 1 => if W (5 * j) = r then (if W (5 * j + 4) ≤ half then sp_pt W r h half n0 j + ((if W (5 * j + 2) = h then W (5 * j + 3) else 0) - (if W (5 * j + 1) = h then W (5 * j + 3) else 0)) else sp_pt W r h half n0 j) else sp_pt W r h half n0 j
theorem sp_pt_s (W : Nat → Int32) (r h half n0 : Int32) (j : Nat) : sp_pt W r h half n0 (j + 1) = if W (5 * j) = r then (if W (5 * j + 4) ≤ half then sp_pt W r h half n0 j + ((if W (5 * j + 2) = h then W (5 * j + 3) else 0) - (if W (5 * j + 1) = h then W (5 * j + 3) else 0)) else sp_pt W r h half n0 j) else sp_pt W r h half n0 j := rfl
def sp_parts (W : Nat → Int32) (n : Nat) (bought buyer r h half : Int32) : Int32 := if bought ≤ half then sp_pt W r h half (if h = buyer then 60 else 0) n else 0
theorem k_X11_partsOf_L {l : Launch} {I : List Nat} (hI : fr_I I) (v : fr_V) (u : fr_U) (x1 x2 x3 n0 : Int32) (N : Nat) (hN : v 1100 14 = nI N) (h40 : N ≤ 40) : ∀ (d : Nat) (j : Nat) (a : Int32) (hd : N - j < d) (hj : j ≤ N) (ha : a = sp_pt (v 1116) x1 x2 x3 n0 j), J l mX11_partsOf I v u 33 [(0, .ref 1100), (1, .int x1), (2, .int x2), (3, .int x3), (4, .int a), (5, .int (nI j))] [] (QI v u (fun a => a = sp_pt (v 1116) x1 x2 x3 n0 N)) := by
  intro d
  induction d with
  | zero => intros; omega
  | succ d ih =>
    intro j a hd hj ha
    refine J_iload dX11_partsOf_33 5 rfl ?_
    refine J_aload_n dX11_partsOf_35 rfl 0 rfl ?_
    refine J_gete (ci := 11) (j := 14) (x := v 1100 14) dX11_partsOf_36 fl_X11_239 (i1100 hI) rfl rfl rfl ?_
    refine J_icmp_ge (tgt := 145) dX11_partsOf_39 (by decide) (fun c1 => ?_) (fun c1 => ?_)
    · refine J_iload dX11_partsOf_145 4 rfl ?_
      exact J_iret dX11_partsOf_147 rfl ⟨_, rfl, rfl, rfl, by have e : j = N := by {rw [hN] at c1; have := nz_le (by omega) (by omega) c1; omega}; rw [← e]; exact ha⟩
    · have hjN : j < N := by rw [hN] at c1; exact nz_nle (by omega) (by omega) c1
      refine J_aload_n dX11_partsOf_42 rfl 0 rfl ?_
      refine J_getr (ci := 11) (j := 15) (t := 1116) dX11_partsOf_43 fl_X11_37 (i1100 hI) rfl rfl rfl ?_
      refine J_iconst (x := 5) dX11_partsOf_46 (by decide) ?_
      refine J_iload dX11_partsOf_47 5 rfl ?_
      refine J_imul dX11_partsOf_49 ?_
      refine J_iale (x := v 1116 (5 * j)) dX11_partsOf_50 (i1116 hI) rfl (ix_in (j := 5 * j) (by show (nI 5) * (nI j) = _; simp only [nI_add, pk_mul]) (by omega) (by omega)) ((congrArg _ (ix_cl (j := 5 * j) (by show (nI 5) * (nI j) = _; simp only [nI_add, pk_mul]) (by omega))).trans rfl) ?_
      refine J_iload_n dX11_partsOf_51 rfl 1 rfl ?_
      refine J_icmp_ne (tgt := 139) dX11_partsOf_52 (by decide) (fun c2 => ?_) (fun c2 => ?_)
      · refine J_iinc (q := 5) (z := nI (j + 1)) (lv' := [(5, .int (nI (j + 1))), (0, .ref 1100), (1, .int x1), (2, .int x2), (3, .int x3), (4, .int a)]) dX11_partsOf_139 rfl (nI_1 j) (by decide) rfl ?_
        refine J_goto (tgt := 33) dX11_partsOf_142 (by decide) ?_
        refine J_lv [1, 2, 3, 4, 5, 0] rfl ?_
        exact ih (j + 1) _ (by omega) (by omega) (by rw [sp_pt_s, if_neg c2, ha])
      · refine J_aload_n dX11_partsOf_55 rfl 0 rfl ?_
        refine J_getr (ci := 11) (j := 15) (t := 1116) dX11_partsOf_56 fl_X11_37 (i1100 hI) rfl rfl rfl ?_
        refine J_iconst (x := 5) dX11_partsOf_59 (by decide) ?_
        refine J_iload dX11_partsOf_60 5 rfl ?_
        refine J_imul dX11_partsOf_62 ?_
        refine J_iconst (x := 4) dX11_partsOf_63 (by decide) ?_
        refine J_iadd dX11_partsOf_64 ?_
        refine J_iale (x := v 1116 ((5 * j) + 4)) dX11_partsOf_65 (i1116 hI) rfl (ix_in (j := (5 * j) + 4) (by show ((nI 5) * (nI j)) + (nI 4) = _; simp only [nI_add, pk_mul]) (by omega) (by omega)) ((congrArg _ (ix_cl (j := (5 * j) + 4) (by show ((nI 5) * (nI j)) + (nI 4) = _; simp only [nI_add, pk_mul]) (by omega))).trans rfl) ?_
        refine J_iload_n dX11_partsOf_66 rfl 3 rfl ?_
        refine J_icmp_le (tgt := 73) dX11_partsOf_67 (by decide) (fun c3 => ?_) (fun c3 => ?_)
        · refine J_iload dX11_partsOf_73 4 rfl ?_
          refine J_aload_n dX11_partsOf_75 rfl 0 rfl ?_
          refine J_getr (ci := 11) (j := 15) (t := 1116) dX11_partsOf_76 fl_X11_37 (i1100 hI) rfl rfl rfl ?_
          refine J_iconst (x := 5) dX11_partsOf_79 (by decide) ?_
          refine J_iload dX11_partsOf_80 5 rfl ?_
          refine J_imul dX11_partsOf_82 ?_
          refine J_iconst (x := 2) dX11_partsOf_83 (by decide) ?_
          refine J_iadd dX11_partsOf_84 ?_
          refine J_iale (x := v 1116 ((5 * j) + 2)) dX11_partsOf_85 (i1116 hI) rfl (ix_in (j := (5 * j) + 2) (by show ((nI 5) * (nI j)) + (nI 2) = _; simp only [nI_add, pk_mul]) (by omega) (by omega)) ((congrArg _ (ix_cl (j := (5 * j) + 2) (by show ((nI 5) * (nI j)) + (nI 2) = _; simp only [nI_add, pk_mul]) (by omega))).trans rfl) ?_
          refine J_iload_n dX11_partsOf_86 rfl 2 rfl ?_
          refine J_icmp_ne (tgt := 104) dX11_partsOf_87 (by decide) (fun c4 => ?_) (fun c4 => ?_)
          · refine J_iconst (x := 0) dX11_partsOf_104 (by decide) ?_
            refine J_aload_n dX11_partsOf_105 rfl 0 rfl ?_
            refine J_getr (ci := 11) (j := 15) (t := 1116) dX11_partsOf_106 fl_X11_37 (i1100 hI) rfl rfl rfl ?_
            refine J_iconst (x := 5) dX11_partsOf_109 (by decide) ?_
            refine J_iload dX11_partsOf_110 5 rfl ?_
            refine J_imul dX11_partsOf_112 ?_
            refine J_iconst (x := 1) dX11_partsOf_113 (by decide) ?_
            refine J_iadd dX11_partsOf_114 ?_
            refine J_iale (x := v 1116 ((5 * j) + 1)) dX11_partsOf_115 (i1116 hI) rfl (ix_in (j := (5 * j) + 1) (by show ((nI 5) * (nI j)) + (nI 1) = _; simp only [nI_add, pk_mul]) (by omega) (by omega)) ((congrArg _ (ix_cl (j := (5 * j) + 1) (by show ((nI 5) * (nI j)) + (nI 1) = _; simp only [nI_add, pk_mul]) (by omega))).trans rfl) ?_
            refine J_iload_n dX11_partsOf_116 rfl 2 rfl ?_
            refine J_icmp_ne (tgt := 134) dX11_partsOf_117 (by decide) (fun c5 => ?_) (fun c5 => ?_)
            · refine J_iconst (x := 0) dX11_partsOf_134 (by decide) ?_
              refine J_isub dX11_partsOf_135 ?_
              refine J_iadd dX11_partsOf_136 ?_
              refine J_istore (lv' := [(4, .int (a + (0 - 0))), (0, .ref 1100), (1, .int x1), (2, .int x2), (3, .int x3), (5, .int (nI j))]) dX11_partsOf_137 (by decide) rfl ?_
              refine J_iinc (q := 5) (z := nI (j + 1)) (lv' := [(5, .int (nI (j + 1))), (4, .int (a + (0 - 0))), (0, .ref 1100), (1, .int x1), (2, .int x2), (3, .int x3)]) dX11_partsOf_139 rfl (nI_1 j) (by decide) rfl ?_
              refine J_goto (tgt := 33) dX11_partsOf_142 (by decide) ?_
              refine J_lv [2, 3, 4, 5, 1, 0] rfl ?_
              exact ih (j + 1) _ (by omega) (by omega) (by rw [sp_pt_s, if_pos c2, if_pos c3, if_neg c4, if_neg c5, ha])
            · refine J_aload_n dX11_partsOf_120 rfl 0 rfl ?_
              refine J_getr (ci := 11) (j := 15) (t := 1116) dX11_partsOf_121 fl_X11_37 (i1100 hI) rfl rfl rfl ?_
              refine J_iconst (x := 5) dX11_partsOf_124 (by decide) ?_
              refine J_iload dX11_partsOf_125 5 rfl ?_
              refine J_imul dX11_partsOf_127 ?_
              refine J_iconst (x := 3) dX11_partsOf_128 (by decide) ?_
              refine J_iadd dX11_partsOf_129 ?_
              refine J_iale (x := v 1116 ((5 * j) + 3)) dX11_partsOf_130 (i1116 hI) rfl (ix_in (j := (5 * j) + 3) (by show ((nI 5) * (nI j)) + (nI 3) = _; simp only [nI_add, pk_mul]) (by omega) (by omega)) ((congrArg _ (ix_cl (j := (5 * j) + 3) (by show ((nI 5) * (nI j)) + (nI 3) = _; simp only [nI_add, pk_mul]) (by omega))).trans rfl) ?_
              refine J_goto (tgt := 135) dX11_partsOf_131 (by decide) ?_
              refine J_isub dX11_partsOf_135 ?_
              refine J_iadd dX11_partsOf_136 ?_
              refine J_istore (lv' := [(4, .int (a + (0 - (v 1116 ((5 * j) + 3))))), (0, .ref 1100), (1, .int x1), (2, .int x2), (3, .int x3), (5, .int (nI j))]) dX11_partsOf_137 (by decide) rfl ?_
              refine J_iinc (q := 5) (z := nI (j + 1)) (lv' := [(5, .int (nI (j + 1))), (4, .int (a + (0 - (v 1116 ((5 * j) + 3))))), (0, .ref 1100), (1, .int x1), (2, .int x2), (3, .int x3)]) dX11_partsOf_139 rfl (nI_1 j) (by decide) rfl ?_
              refine J_goto (tgt := 33) dX11_partsOf_142 (by decide) ?_
              refine J_lv [2, 3, 4, 5, 1, 0] rfl ?_
              exact ih (j + 1) _ (by omega) (by omega) (by rw [sp_pt_s, if_pos c2, if_pos c3, if_neg c4, if_pos c5, ha])
          · refine J_aload_n dX11_partsOf_90 rfl 0 rfl ?_
            refine J_getr (ci := 11) (j := 15) (t := 1116) dX11_partsOf_91 fl_X11_37 (i1100 hI) rfl rfl rfl ?_
            refine J_iconst (x := 5) dX11_partsOf_94 (by decide) ?_
            refine J_iload dX11_partsOf_95 5 rfl ?_
            refine J_imul dX11_partsOf_97 ?_
            refine J_iconst (x := 3) dX11_partsOf_98 (by decide) ?_
            refine J_iadd dX11_partsOf_99 ?_
            refine J_iale (x := v 1116 ((5 * j) + 3)) dX11_partsOf_100 (i1116 hI) rfl (ix_in (j := (5 * j) + 3) (by show ((nI 5) * (nI j)) + (nI 3) = _; simp only [nI_add, pk_mul]) (by omega) (by omega)) ((congrArg _ (ix_cl (j := (5 * j) + 3) (by show ((nI 5) * (nI j)) + (nI 3) = _; simp only [nI_add, pk_mul]) (by omega))).trans rfl) ?_
            refine J_goto (tgt := 105) dX11_partsOf_101 (by decide) ?_
            refine J_aload_n dX11_partsOf_105 rfl 0 rfl ?_
            refine J_getr (ci := 11) (j := 15) (t := 1116) dX11_partsOf_106 fl_X11_37 (i1100 hI) rfl rfl rfl ?_
            refine J_iconst (x := 5) dX11_partsOf_109 (by decide) ?_
            refine J_iload dX11_partsOf_110 5 rfl ?_
            refine J_imul dX11_partsOf_112 ?_
            refine J_iconst (x := 1) dX11_partsOf_113 (by decide) ?_
            refine J_iadd dX11_partsOf_114 ?_
            refine J_iale (x := v 1116 ((5 * j) + 1)) dX11_partsOf_115 (i1116 hI) rfl (ix_in (j := (5 * j) + 1) (by show ((nI 5) * (nI j)) + (nI 1) = _; simp only [nI_add, pk_mul]) (by omega) (by omega)) ((congrArg _ (ix_cl (j := (5 * j) + 1) (by show ((nI 5) * (nI j)) + (nI 1) = _; simp only [nI_add, pk_mul]) (by omega))).trans rfl) ?_
            refine J_iload_n dX11_partsOf_116 rfl 2 rfl ?_
            refine J_icmp_ne (tgt := 134) dX11_partsOf_117 (by decide) (fun c6 => ?_) (fun c6 => ?_)
            · refine J_iconst (x := 0) dX11_partsOf_134 (by decide) ?_
              refine J_isub dX11_partsOf_135 ?_
              refine J_iadd dX11_partsOf_136 ?_
              refine J_istore (lv' := [(4, .int (a + ((v 1116 ((5 * j) + 3)) - 0))), (0, .ref 1100), (1, .int x1), (2, .int x2), (3, .int x3), (5, .int (nI j))]) dX11_partsOf_137 (by decide) rfl ?_
              refine J_iinc (q := 5) (z := nI (j + 1)) (lv' := [(5, .int (nI (j + 1))), (4, .int (a + ((v 1116 ((5 * j) + 3)) - 0))), (0, .ref 1100), (1, .int x1), (2, .int x2), (3, .int x3)]) dX11_partsOf_139 rfl (nI_1 j) (by decide) rfl ?_
              refine J_goto (tgt := 33) dX11_partsOf_142 (by decide) ?_
              refine J_lv [2, 3, 4, 5, 1, 0] rfl ?_
              exact ih (j + 1) _ (by omega) (by omega) (by rw [sp_pt_s, if_pos c2, if_pos c3, if_pos c4, if_neg c6, ha])
            · refine J_aload_n dX11_partsOf_120 rfl 0 rfl ?_
              refine J_getr (ci := 11) (j := 15) (t := 1116) dX11_partsOf_121 fl_X11_37 (i1100 hI) rfl rfl rfl ?_
              refine J_iconst (x := 5) dX11_partsOf_124 (by decide) ?_
              refine J_iload dX11_partsOf_125 5 rfl ?_
              refine J_imul dX11_partsOf_127 ?_
              refine J_iconst (x := 3) dX11_partsOf_128 (by decide) ?_
              refine J_iadd dX11_partsOf_129 ?_
              refine J_iale (x := v 1116 ((5 * j) + 3)) dX11_partsOf_130 (i1116 hI) rfl (ix_in (j := (5 * j) + 3) (by show ((nI 5) * (nI j)) + (nI 3) = _; simp only [nI_add, pk_mul]) (by omega) (by omega)) ((congrArg _ (ix_cl (j := (5 * j) + 3) (by show ((nI 5) * (nI j)) + (nI 3) = _; simp only [nI_add, pk_mul]) (by omega))).trans rfl) ?_
              refine J_goto (tgt := 135) dX11_partsOf_131 (by decide) ?_
              refine J_isub dX11_partsOf_135 ?_
              refine J_iadd dX11_partsOf_136 ?_
              refine J_istore (lv' := [(4, .int (a + ((v 1116 ((5 * j) + 3)) - (v 1116 ((5 * j) + 3))))), (0, .ref 1100), (1, .int x1), (2, .int x2), (3, .int x3), (5, .int (nI j))]) dX11_partsOf_137 (by decide) rfl ?_
              refine J_iinc (q := 5) (z := nI (j + 1)) (lv' := [(5, .int (nI (j + 1))), (4, .int (a + ((v 1116 ((5 * j) + 3)) - (v 1116 ((5 * j) + 3))))), (0, .ref 1100), (1, .int x1), (2, .int x2), (3, .int x3)]) dX11_partsOf_139 rfl (nI_1 j) (by decide) rfl ?_
              refine J_goto (tgt := 33) dX11_partsOf_142 (by decide) ?_
              refine J_lv [2, 3, 4, 5, 1, 0] rfl ?_
              exact ih (j + 1) _ (by omega) (by omega) (by rw [sp_pt_s, if_pos c2, if_pos c3, if_pos c4, if_pos c6, ha])
        · refine J_goto (tgt := 139) dX11_partsOf_70 (by decide) ?_
          refine J_iinc (q := 5) (z := nI (j + 1)) (lv' := [(5, .int (nI (j + 1))), (0, .ref 1100), (1, .int x1), (2, .int x2), (3, .int x3), (4, .int a)]) dX11_partsOf_139 rfl (nI_1 j) (by decide) rfl ?_
          refine J_goto (tgt := 33) dX11_partsOf_142 (by decide) ?_
          refine J_lv [1, 2, 3, 4, 5, 0] rfl ?_
          exact ih (j + 1) _ (by omega) (by omega) (by rw [sp_pt_s, if_pos c2, if_neg c3, ha])
theorem k_X11_partsOf {l : Launch} {I : List Nat} (hI : fr_I I) (v : fr_V) (u : fr_U) (x1 x2 x3 : Int32) (N : Nat) (hN : v 1100 14 = nI N) (h40 : N ≤ 40) (h1 : vp_in x1 16) : Con l mX11_partsOf I v u [.ref 1100, .int x1, .int x2, .int x3] (QI v u (fun a => a = sp_parts (v 1116) N (v 1109 x1.toNatClampNeg) (v 1110 x1.toNatClampNeg) x1 x2 x3)) := by
  refine Con.of (by decide) (Nat.le_of_ble_eq_true rfl) ?_
  show J l mX11_partsOf I v u 0 [(0, .ref 1100), (1, .int x1), (2, .int x2), (3, .int x3)] [] _
  refine J_iload_n dX11_partsOf_0 rfl 3 rfl ?_
  refine J_aload_n dX11_partsOf_1 rfl 0 rfl ?_
  refine J_getr (ci := 11) (j := 8) (t := 1109) dX11_partsOf_2 fl_X11_19 (i1100 hI) rfl rfl rfl ?_
  refine J_iload_n dX11_partsOf_5 rfl 1 rfl ?_
  refine J_iale (x := v 1109 x1.toNatClampNeg) dX11_partsOf_6 (i1109 hI) rfl (by first | assumption | exact vp_in_nI (by omega) (by omega)) rfl ?_
  refine J_icmp_ge (tgt := 12) dX11_partsOf_7 (by decide) (fun c1 => ?_) (fun c1 => ?_)
  · refine J_iload_n dX11_partsOf_12 rfl 2 rfl ?_
    refine J_aload_n dX11_partsOf_13 rfl 0 rfl ?_
    refine J_getr (ci := 11) (j := 9) (t := 1110) dX11_partsOf_14 fl_X11_22 (i1100 hI) rfl rfl rfl ?_
    refine J_iload_n dX11_partsOf_17 rfl 1 rfl ?_
    refine J_iale (x := v 1110 x1.toNatClampNeg) dX11_partsOf_18 (i1110 hI) rfl (by first | assumption | exact vp_in_nI (by omega) (by omega)) rfl ?_
    refine J_icmp_ne (tgt := 27) dX11_partsOf_19 (by decide) (fun c2 => ?_) (fun c2 => ?_)
    · refine J_iconst (x := 0) dX11_partsOf_27 (by decide) ?_
      refine J_istore (lv' := [(4, .int 0), (0, .ref 1100), (1, .int x1), (2, .int x2), (3, .int x3)]) dX11_partsOf_28 (by decide) rfl ?_
      refine J_iconst (x := 0) dX11_partsOf_30 (by decide) ?_
      refine J_istore (lv' := [(5, .int 0), (4, .int 0), (0, .ref 1100), (1, .int x1), (2, .int x2), (3, .int x3)]) dX11_partsOf_31 (by decide) rfl ?_
      refine J_lv [2, 3, 4, 5, 1, 0] rfl ?_
      refine J_post (fun r v1 u1 hq => ?_) (k_X11_partsOf_L hI v u x1 x2 x3 0 N hN h40 (N + 1) 0 _ (by omega) (by omega) rfl)
      obtain ⟨x, h1, h2, h3, h4⟩ := hq
      exact ⟨x, h1, h2, h3, by rw [h4]; unfold sp_parts; rw [if_pos c1, if_neg c2]⟩
    · refine J_bipush (x := 60) dX11_partsOf_22 (by decide) ?_
      refine J_goto (tgt := 28) dX11_partsOf_24 (by decide) ?_
      refine J_istore (lv' := [(4, .int 60), (0, .ref 1100), (1, .int x1), (2, .int x2), (3, .int x3)]) dX11_partsOf_28 (by decide) rfl ?_
      refine J_iconst (x := 0) dX11_partsOf_30 (by decide) ?_
      refine J_istore (lv' := [(5, .int 0), (4, .int 60), (0, .ref 1100), (1, .int x1), (2, .int x2), (3, .int x3)]) dX11_partsOf_31 (by decide) rfl ?_
      refine J_lv [2, 3, 4, 5, 1, 0] rfl ?_
      refine J_post (fun r v1 u1 hq => ?_) (k_X11_partsOf_L hI v u x1 x2 x3 60 N hN h40 (N + 1) 0 _ (by omega) (by omega) rfl)
      obtain ⟨x, h1, h2, h3, h4⟩ := hq
      exact ⟨x, h1, h2, h3, by rw [h4]; unfold sp_parts; rw [if_pos c1, if_pos c2]⟩
  · refine J_iconst (x := 0) dX11_partsOf_10 (by decide) ?_
    exact J_iret dX11_partsOf_11 rfl ⟨_, rfl, rfl, rfl, by unfold sp_parts; rw [if_neg c1]⟩
