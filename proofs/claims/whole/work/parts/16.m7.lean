def pl_a_t (j : Nat) (z : fr_V) : fr_V := up2 z 1142 j 0
def pl_a (w0 : fr_V) : Nat → fr_V
  | 0 => w0
  | j + 1 => pl_a_t j (pl_a w0 j)
theorem pl_a_s (w0 : fr_V) (j : Nat) : pl_a w0 (j + 1) = pl_a_t j (pl_a w0 j) := rfl
theorem pl_a_L {l : Launch} {I : List Nat} (hI : fr_I I) (u : fr_U) (w0 : fr_V) : ∀ (d j : Nat) (z : fr_V) (hd : 4 - j < d) (hj : j ≤ 4) (hz : z = pl_a w0 j), J l mX11_plain I z u 33 [(0, .ref 1100), (1, .int (nI j))] [] (QN u (fun a => a = up2 (pl_a w0 4) 1100 39 0)) := by
  intro d
  induction d with
  | zero => intros; omega
  | succ d ih =>
    intro j z hd hj hz
    refine J_iload_n dX11_plain_33 rfl 1 rfl ?_
    refine J_iconst (x := 4) dX11_plain_34 (by decide) ?_
    refine J_icmp_ge (tgt := 51) dX11_plain_35 (by decide) (fun c1 => ?_) (fun c1 => ?_)
    · have e : j = 4 := by have := nz_le (a := 4) (by omega) (by omega) c1; omega
      refine J_aload_n dX11_plain_51 rfl 0 rfl ?_
      refine J_iconst (x := 0) dX11_plain_52 (by decide) ?_
      refine J_puti (ci := 11) (j := 39) dX11_plain_53 fl_X11_167 (i1100 hI) rfl rfl (fun q h => by cases h; rfl) rfl ?_
      exact J_vret dX11_plain_56 rfl ⟨rfl, rfl, by rw [← e, ← hz]⟩
    · have hjn : j < 4 := nz_nle (a := 4) (by omega) (by omega) c1
      refine J_aload_n dX11_plain_38 rfl 0 rfl ?_
      refine J_getr (ci := 11) (j := 41) (t := 1142) dX11_plain_39 fl_X11_89 (i1100 hI) rfl rfl rfl ?_
      refine J_iload_n dX11_plain_42 rfl 1 rfl ?_
      refine J_iconst (x := 0) dX11_plain_43 (by decide) ?_
      refine J_zase (j := j) dX11_plain_44 (i1142 hI) rfl (ix_in (j := j) rfl (by omega) (by omega)) (ix_cl (j := j) rfl (by omega)) (by decide) ?_
      refine J_iinc (q := 1) (z := nI (j + 1)) (lv' := [(1, .int (nI (j + 1))), (0, .ref 1100)]) dX11_plain_45 rfl (nI_1 j) (by decide) rfl ?_
      refine J_goto (tgt := 33) dX11_plain_48 (by decide) ?_
      refine J_lv [1, 0] rfl ?_
      exact ih (j + 1) _ (by omega) (by omega) (by rw [pl_a_s, ← hz]; unfold pl_a_t; rfl)
def f_plain (v : fr_V) : fr_V := up2 (pl_a (up2 (up2 (up2 (up2 v 1141 4 4) 1141 5 0) 1141 6 20) 1141 7 3) 4) 1100 39 0
theorem k_X11_plain {l : Launch} {I : List Nat} (hI : fr_I I) (v : fr_V) (u : fr_U) : Con l mX11_plain I v u [.ref 1100] (QN u (fun a => a = f_plain v)) := by
  refine Con.of (by decide) (Nat.le_of_ble_eq_true rfl) ?_
  show J l mX11_plain I v u 0 [(0, .ref 1100)] [] _
  refine J_aload_n dX11_plain_0 rfl 0 rfl ?_
  refine J_getr (ci := 11) (j := 40) (t := 1141) dX11_plain_1 fl_X11_86 (i1100 hI) rfl rfl rfl ?_
  refine J_iconst (x := 4) dX11_plain_4 (by decide) ?_
  refine J_iconst (x := 4) dX11_plain_5 (by decide) ?_
  refine J_iase (j := 4) dX11_plain_6 (i1141 hI) rfl (ix_in (j := 4) rfl (by omega) (by omega)) (ix_cl (j := 4) rfl (by omega)) ?_
  refine J_aload_n dX11_plain_7 rfl 0 rfl ?_
  refine J_getr (ci := 11) (j := 40) (t := 1141) dX11_plain_8 fl_X11_86 (i1100 hI) rfl rfl rfl ?_
  refine J_iconst (x := 5) dX11_plain_11 (by decide) ?_
  refine J_iconst (x := 0) dX11_plain_12 (by decide) ?_
  refine J_iase (j := 5) dX11_plain_13 (i1141 hI) rfl (ix_in (j := 5) rfl (by omega) (by omega)) (ix_cl (j := 5) rfl (by omega)) ?_
  refine J_aload_n dX11_plain_14 rfl 0 rfl ?_
  refine J_getr (ci := 11) (j := 40) (t := 1141) dX11_plain_15 fl_X11_86 (i1100 hI) rfl rfl rfl ?_
  refine J_bipush (x := 6) dX11_plain_18 (by decide) ?_
  refine J_bipush (x := 20) dX11_plain_20 (by decide) ?_
  refine J_iase (j := 6) dX11_plain_22 (i1141 hI) rfl (ix_in (j := 6) rfl (by omega) (by omega)) (ix_cl (j := 6) rfl (by omega)) ?_
  refine J_aload_n dX11_plain_23 rfl 0 rfl ?_
  refine J_getr (ci := 11) (j := 40) (t := 1141) dX11_plain_24 fl_X11_86 (i1100 hI) rfl rfl rfl ?_
  refine J_bipush (x := 7) dX11_plain_27 (by decide) ?_
  refine J_iconst (x := 3) dX11_plain_29 (by decide) ?_
  refine J_iase (j := 7) dX11_plain_30 (i1141 hI) rfl (ix_in (j := 7) rfl (by omega) (by omega)) (ix_cl (j := 7) rfl (by omega)) ?_
  refine J_iconst (x := 0) dX11_plain_31 (by decide) ?_
  refine J_istore_n (lv' := [(1, .int 0), (0, .ref 1100)]) dX11_plain_32 rfl (by decide) rfl ?_
  refine J_lv [1, 0] rfl ?_
  exact pl_a_L hI u _ 5 0 _ (by omega) (by omega) rfl
def kp_b_t (j : Nat) (z : fr_V) : fr_V := up2 (up2 (up2 (up2 (up2 (up2 (up2 (up2 z 1131 j (z 1131 (24 + j))) 1132 j (z 1132 (24 + j))) 1133 j (z 1133 (24 + j))) 1134 j (z 1134 (24 + j))) 1135 j (z 1135 (24 + j))) 1136 j (z 1136 (24 + j))) 1137 j (z 1137 (24 + j))) 1138 j (z 1138 (24 + j))
def kp_b (w0 : fr_V) : Nat → fr_V
  | 0 => w0
  | j + 1 => kp_b_t j (kp_b w0 j)
theorem kp_b_s (w0 : fr_V) (j : Nat) : kp_b w0 (j + 1) = kp_b_t j (kp_b w0 j) := rfl
theorem kp_b_L {l : Launch} {I : List Nat} (hI : fr_I I) (u : fr_U) (w0 : fr_V) (M : Nat) (hM : M ≤ 24) : ∀ (d j : Nat) (z : fr_V) (hd : M - j < d) (hj : j ≤ M) (hz : z = kp_b w0 j) (hm : z 1100 38 = nI M), J l mX11_keep I z u 37 [(0, .ref 1100), (1, .int (nI j))] [] (QN u (fun a => a = kp_b w0 M)) := by
  intro d
  induction d with
  | zero => intros; omega
  | succ d ih =>
    intro j z hd hj hz hm
    refine J_iload_n dX11_keep_37 rfl 1 rfl ?_
    refine J_aload_n dX11_keep_38 rfl 0 rfl ?_
    refine J_gete (ci := 11) (j := 38) (x := nI M) dX11_keep_39 fl_X11_170 (i1100 hI) rfl rfl hm ?_
    refine J_icmp_ge (tgt := 171) dX11_keep_42 (by decide) (fun c1 => ?_) (fun c1 => ?_)
    · have e : j = M := by have := nz_le (by omega) (by omega) c1; omega
      exact J_vret dX11_keep_171 rfl ⟨rfl, rfl, by rw [hz, e]⟩
    · have hjn : j < M := nz_nle (by omega) (by omega) c1
      refine J_aload_n dX11_keep_45 rfl 0 rfl ?_
      refine J_getr (ci := 11) (j := 30) (t := 1131) dX11_keep_46 fl_X11_62 (i1100 hI) rfl rfl rfl ?_
      refine J_iload_n dX11_keep_49 rfl 1 rfl ?_
      refine J_aload_n dX11_keep_50 rfl 0 rfl ?_
      refine J_getr (ci := 11) (j := 30) (t := 1131) dX11_keep_51 fl_X11_62 (i1100 hI) rfl rfl rfl ?_
      refine J_bipush (x := 24) dX11_keep_54 (by decide) ?_
      refine J_iload_n dX11_keep_56 rfl 1 rfl ?_
      refine J_iadd dX11_keep_57 ?_
      refine J_iale (x := z 1131 (24 + j)) dX11_keep_58 (i1131 hI) rfl (ix_in (j := 24 + j) (by show (nI 24) + (nI j) = _; simp only [nI_add, pk_mul]) (by omega) (by omega)) ((congrArg _ (ix_cl (j := 24 + j) (by show (nI 24) + (nI j) = _; simp only [nI_add, pk_mul]) (by omega))).trans rfl) ?_
      refine J_iase (j := j) dX11_keep_59 (i1131 hI) rfl (ix_in (j := j) rfl (by omega) (by omega)) (ix_cl (j := j) rfl (by omega)) ?_
      refine J_aload_n dX11_keep_60 rfl 0 rfl ?_
      refine J_getr (ci := 11) (j := 31) (t := 1132) dX11_keep_61 fl_X11_65 (i1100 hI) rfl rfl rfl ?_
      refine J_iload_n dX11_keep_64 rfl 1 rfl ?_
      refine J_aload_n dX11_keep_65 rfl 0 rfl ?_
      refine J_getr (ci := 11) (j := 31) (t := 1132) dX11_keep_66 fl_X11_65 (i1100 hI) rfl rfl rfl ?_
      refine J_bipush (x := 24) dX11_keep_69 (by decide) ?_
      refine J_iload_n dX11_keep_71 rfl 1 rfl ?_
      refine J_iadd dX11_keep_72 ?_
      refine J_iale (x := z 1132 (24 + j)) dX11_keep_73 (i1132 hI) rfl (ix_in (j := 24 + j) (by show (nI 24) + (nI j) = _; simp only [nI_add, pk_mul]) (by omega) (by omega)) ((congrArg _ (ix_cl (j := 24 + j) (by show (nI 24) + (nI j) = _; simp only [nI_add, pk_mul]) (by omega))).trans rfl) ?_
      refine J_iase (j := j) dX11_keep_74 (i1132 hI) rfl (ix_in (j := j) rfl (by omega) (by omega)) (ix_cl (j := j) rfl (by omega)) ?_
      refine J_aload_n dX11_keep_75 rfl 0 rfl ?_
      refine J_getr (ci := 11) (j := 32) (t := 1133) dX11_keep_76 fl_X11_68 (i1100 hI) rfl rfl rfl ?_
      refine J_iload_n dX11_keep_79 rfl 1 rfl ?_
      refine J_aload_n dX11_keep_80 rfl 0 rfl ?_
      refine J_getr (ci := 11) (j := 32) (t := 1133) dX11_keep_81 fl_X11_68 (i1100 hI) rfl rfl rfl ?_
      refine J_bipush (x := 24) dX11_keep_84 (by decide) ?_
      refine J_iload_n dX11_keep_86 rfl 1 rfl ?_
      refine J_iadd dX11_keep_87 ?_
      refine J_iale (x := z 1133 (24 + j)) dX11_keep_88 (i1133 hI) rfl (ix_in (j := 24 + j) (by show (nI 24) + (nI j) = _; simp only [nI_add, pk_mul]) (by omega) (by omega)) ((congrArg _ (ix_cl (j := 24 + j) (by show (nI 24) + (nI j) = _; simp only [nI_add, pk_mul]) (by omega))).trans rfl) ?_
      refine J_iase (j := j) dX11_keep_89 (i1133 hI) rfl (ix_in (j := j) rfl (by omega) (by omega)) (ix_cl (j := j) rfl (by omega)) ?_
      refine J_aload_n dX11_keep_90 rfl 0 rfl ?_
      refine J_getr (ci := 11) (j := 33) (t := 1134) dX11_keep_91 fl_X11_71 (i1100 hI) rfl rfl rfl ?_
      refine J_iload_n dX11_keep_94 rfl 1 rfl ?_
      refine J_aload_n dX11_keep_95 rfl 0 rfl ?_
      refine J_getr (ci := 11) (j := 33) (t := 1134) dX11_keep_96 fl_X11_71 (i1100 hI) rfl rfl rfl ?_
      refine J_bipush (x := 24) dX11_keep_99 (by decide) ?_
      refine J_iload_n dX11_keep_101 rfl 1 rfl ?_
      refine J_iadd dX11_keep_102 ?_
      refine J_iale (x := z 1134 (24 + j)) dX11_keep_103 (i1134 hI) rfl (ix_in (j := 24 + j) (by show (nI 24) + (nI j) = _; simp only [nI_add, pk_mul]) (by omega) (by omega)) ((congrArg _ (ix_cl (j := 24 + j) (by show (nI 24) + (nI j) = _; simp only [nI_add, pk_mul]) (by omega))).trans rfl) ?_
      refine J_iase (j := j) dX11_keep_104 (i1134 hI) rfl (ix_in (j := j) rfl (by omega) (by omega)) (ix_cl (j := j) rfl (by omega)) ?_
      refine J_aload_n dX11_keep_105 rfl 0 rfl ?_
      refine J_getr (ci := 11) (j := 34) (t := 1135) dX11_keep_106 fl_X11_74 (i1100 hI) rfl rfl rfl ?_
      refine J_iload_n dX11_keep_109 rfl 1 rfl ?_
      refine J_aload_n dX11_keep_110 rfl 0 rfl ?_
      refine J_getr (ci := 11) (j := 34) (t := 1135) dX11_keep_111 fl_X11_74 (i1100 hI) rfl rfl rfl ?_
      refine J_bipush (x := 24) dX11_keep_114 (by decide) ?_
      refine J_iload_n dX11_keep_116 rfl 1 rfl ?_
      refine J_iadd dX11_keep_117 ?_
      refine J_iale (x := z 1135 (24 + j)) dX11_keep_118 (i1135 hI) rfl (ix_in (j := 24 + j) (by show (nI 24) + (nI j) = _; simp only [nI_add, pk_mul]) (by omega) (by omega)) ((congrArg _ (ix_cl (j := 24 + j) (by show (nI 24) + (nI j) = _; simp only [nI_add, pk_mul]) (by omega))).trans rfl) ?_
      refine J_iase (j := j) dX11_keep_119 (i1135 hI) rfl (ix_in (j := j) rfl (by omega) (by omega)) (ix_cl (j := j) rfl (by omega)) ?_
      refine J_aload_n dX11_keep_120 rfl 0 rfl ?_
      refine J_getr (ci := 11) (j := 35) (t := 1136) dX11_keep_121 fl_X11_77 (i1100 hI) rfl rfl rfl ?_
      refine J_iload_n dX11_keep_124 rfl 1 rfl ?_
      refine J_aload_n dX11_keep_125 rfl 0 rfl ?_
      refine J_getr (ci := 11) (j := 35) (t := 1136) dX11_keep_126 fl_X11_77 (i1100 hI) rfl rfl rfl ?_
      refine J_bipush (x := 24) dX11_keep_129 (by decide) ?_
      refine J_iload_n dX11_keep_131 rfl 1 rfl ?_
      refine J_iadd dX11_keep_132 ?_
      refine J_iale (x := z 1136 (24 + j)) dX11_keep_133 (i1136 hI) rfl (ix_in (j := 24 + j) (by show (nI 24) + (nI j) = _; simp only [nI_add, pk_mul]) (by omega) (by omega)) ((congrArg _ (ix_cl (j := 24 + j) (by show (nI 24) + (nI j) = _; simp only [nI_add, pk_mul]) (by omega))).trans rfl) ?_
      refine J_iase (j := j) dX11_keep_134 (i1136 hI) rfl (ix_in (j := j) rfl (by omega) (by omega)) (ix_cl (j := j) rfl (by omega)) ?_
      refine J_aload_n dX11_keep_135 rfl 0 rfl ?_
      refine J_getr (ci := 11) (j := 36) (t := 1137) dX11_keep_136 fl_X11_80 (i1100 hI) rfl rfl rfl ?_
      refine J_iload_n dX11_keep_139 rfl 1 rfl ?_
      refine J_aload_n dX11_keep_140 rfl 0 rfl ?_
      refine J_getr (ci := 11) (j := 36) (t := 1137) dX11_keep_141 fl_X11_80 (i1100 hI) rfl rfl rfl ?_
      refine J_bipush (x := 24) dX11_keep_144 (by decide) ?_
      refine J_iload_n dX11_keep_146 rfl 1 rfl ?_
      refine J_iadd dX11_keep_147 ?_
      refine J_iale (x := z 1137 (24 + j)) dX11_keep_148 (i1137 hI) rfl (ix_in (j := 24 + j) (by show (nI 24) + (nI j) = _; simp only [nI_add, pk_mul]) (by omega) (by omega)) ((congrArg _ (ix_cl (j := 24 + j) (by show (nI 24) + (nI j) = _; simp only [nI_add, pk_mul]) (by omega))).trans rfl) ?_
      refine J_iase (j := j) dX11_keep_149 (i1137 hI) rfl (ix_in (j := j) rfl (by omega) (by omega)) (ix_cl (j := j) rfl (by omega)) ?_
      refine J_aload_n dX11_keep_150 rfl 0 rfl ?_
      refine J_getr (ci := 11) (j := 37) (t := 1138) dX11_keep_151 fl_X11_83 (i1100 hI) rfl rfl rfl ?_
      refine J_iload_n dX11_keep_154 rfl 1 rfl ?_
      refine J_aload_n dX11_keep_155 rfl 0 rfl ?_
      refine J_getr (ci := 11) (j := 37) (t := 1138) dX11_keep_156 fl_X11_83 (i1100 hI) rfl rfl rfl ?_
      refine J_bipush (x := 24) dX11_keep_159 (by decide) ?_
      refine J_iload_n dX11_keep_161 rfl 1 rfl ?_
      refine J_iadd dX11_keep_162 ?_
      refine J_iale (x := z 1138 (24 + j)) dX11_keep_163 (i1138 hI) rfl (ix_in (j := 24 + j) (by show (nI 24) + (nI j) = _; simp only [nI_add, pk_mul]) (by omega) (by omega)) ((congrArg _ (ix_cl (j := 24 + j) (by show (nI 24) + (nI j) = _; simp only [nI_add, pk_mul]) (by omega))).trans rfl) ?_
      refine J_iase (j := j) dX11_keep_164 (i1138 hI) rfl (ix_in (j := j) rfl (by omega) (by omega)) (ix_cl (j := j) rfl (by omega)) ?_
      refine J_iinc (q := 1) (z := nI (j + 1)) (lv' := [(1, .int (nI (j + 1))), (0, .ref 1100)]) dX11_keep_165 rfl (nI_1 j) (by decide) rfl ?_
      refine J_goto (tgt := 37) dX11_keep_168 (by decide) ?_
      refine J_lv [1, 0] rfl ?_
      exact ih (j + 1) _ (by omega) (by omega) (by rw [kp_b_s, ← hz]; unfold kp_b_t; rfl) (hm)
def kp_a_t (j : Nat) (z : fr_V) : fr_V := up2 z 1141 j (z 1141 (4 + j))
def kp_a (w0 : fr_V) : Nat → fr_V
  | 0 => w0
  | j + 1 => kp_a_t j (kp_a w0 j)
theorem kp_a_s (w0 : fr_V) (j : Nat) : kp_a w0 (j + 1) = kp_a_t j (kp_a w0 j) := rfl
theorem kp_a_L {l : Launch} {I : List Nat} (hI : fr_I I) (u : fr_U) (w0 : fr_V) (M : Nat) (hM : M ≤ 24) : ∀ (d j : Nat) (z : fr_V) (hd : 4 - j < d) (hj : j ≤ 4) (hz : z = kp_a w0 j) (hm : z 1100 39 = nI M), J l mX11_keep I z u 2 [(0, .ref 1100), (1, .int (nI j))] [] (QN u (fun a => a = kp_b (up2 (kp_a w0 4) 1100 38 ((kp_a w0 4) 1100 39)) M)) := by
  intro d
  induction d with
  | zero => intros; omega
  | succ d ih =>
    intro j z hd hj hz hm
    refine J_iload_n dX11_keep_2 rfl 1 rfl ?_
    refine J_iconst (x := 4) dX11_keep_3 (by decide) ?_
    refine J_icmp_ge (tgt := 27) dX11_keep_4 (by decide) (fun c1 => ?_) (fun c1 => ?_)
    · have e : j = 4 := by have := nz_le (a := 4) (by omega) (by omega) c1; omega
      refine J_aload_n dX11_keep_27 rfl 0 rfl ?_
      refine J_aload_n dX11_keep_28 rfl 0 rfl ?_
      refine J_gete (ci := 11) (j := 39) (x := z 1100 39) dX11_keep_29 fl_X11_167 (i1100 hI) rfl rfl rfl ?_
      refine J_puti (ci := 11) (j := 38) dX11_keep_32 fl_X11_170 (i1100 hI) rfl rfl (fun q h => by cases h; rfl) rfl ?_
      refine J_iconst (x := 0) dX11_keep_35 (by decide) ?_
      refine J_istore_n (lv' := [(1, .int 0), (0, .ref 1100)]) dX11_keep_36 rfl (by decide) rfl ?_
      refine J_lv [1, 0] rfl ?_
      rw [hz, e] at hm ⊢
      refine J_post (fun r v1 u1 hq => hq) (kp_b_L hI u _ M hM (M + 1) 0 _ (by omega) (by omega) rfl hm)
    · have hjn : j < 4 := nz_nle (a := 4) (by omega) (by omega) c1
      refine J_aload_n dX11_keep_7 rfl 0 rfl ?_
      refine J_getr (ci := 11) (j := 40) (t := 1141) dX11_keep_8 fl_X11_86 (i1100 hI) rfl rfl rfl ?_
      refine J_iload_n dX11_keep_11 rfl 1 rfl ?_
      refine J_aload_n dX11_keep_12 rfl 0 rfl ?_
      refine J_getr (ci := 11) (j := 40) (t := 1141) dX11_keep_13 fl_X11_86 (i1100 hI) rfl rfl rfl ?_
      refine J_iconst (x := 4) dX11_keep_16 (by decide) ?_
      refine J_iload_n dX11_keep_17 rfl 1 rfl ?_
      refine J_iadd dX11_keep_18 ?_
      refine J_iale (x := z 1141 (4 + j)) dX11_keep_19 (i1141 hI) rfl (ix_in (j := 4 + j) (by show (nI 4) + (nI j) = _; simp only [nI_add, pk_mul]) (by omega) (by omega)) ((congrArg _ (ix_cl (j := 4 + j) (by show (nI 4) + (nI j) = _; simp only [nI_add, pk_mul]) (by omega))).trans rfl) ?_
      refine J_iase (j := j) dX11_keep_20 (i1141 hI) rfl (ix_in (j := j) rfl (by omega) (by omega)) (ix_cl (j := j) rfl (by omega)) ?_
      refine J_iinc (q := 1) (z := nI (j + 1)) (lv' := [(1, .int (nI (j + 1))), (0, .ref 1100)]) dX11_keep_21 rfl (nI_1 j) (by decide) rfl ?_
      refine J_goto (tgt := 2) dX11_keep_24 (by decide) ?_
      refine J_lv [1, 0] rfl ?_
      exact ih (j + 1) _ (by omega) (by omega) (by rw [kp_a_s, ← hz]; unfold kp_a_t; rfl) (hm)
def f_keep (v : fr_V) (M : Nat) : fr_V := kp_b (up2 (kp_a v 4) 1100 38 ((kp_a v 4) 1100 39)) M
theorem k_X11_keep {l : Launch} {I : List Nat} (hI : fr_I I) (v : fr_V) (u : fr_U) (M : Nat) (hM : M ≤ 24) (hm : v 1100 39 = nI M) : Con l mX11_keep I v u [.ref 1100] (QN u (fun a => a = f_keep v M)) := by
  refine Con.of (by decide) (Nat.le_of_ble_eq_true rfl) ?_
  show J l mX11_keep I v u 0 [(0, .ref 1100)] [] _
  refine J_iconst (x := 0) dX11_keep_0 (by decide) ?_
  refine J_istore_n (lv' := [(1, .int 0), (0, .ref 1100)]) dX11_keep_1 rfl (by decide) rfl ?_
  refine J_lv [1, 0] rfl ?_
  exact kp_a_L hI u v M hM 5 0 _ (by omega) (by omega) rfl hm
def fd_a_t (T : Nat) (x1 : Int32) (x2 : Int32) (x3 : Int32) (x4 : Int32) (x5 : Int32) (j : Nat) (z : fr_V) : fr_V := if 4 ≤ (nI j) then (if 8 ≤ (nI j) then (if 12 ≤ (nI j) then (if 16 ≤ (nI j) then up2 z 1101 (T + j) ((x5 >>> ((24 - (8 * ((nI j) - (nI j) / 4 * 4))) &&& 31)) &&& 255) else up2 z 1101 (T + j) ((x4 >>> ((24 - (8 * ((nI j) - (nI j) / 4 * 4))) &&& 31)) &&& 255)) else up2 z 1101 (T + j) ((x3 >>> ((24 - (8 * ((nI j) - (nI j) / 4 * 4))) &&& 31)) &&& 255)) else up2 z 1101 (T + j) ((x2 >>> ((24 - (8 * ((nI j) - (nI j) / 4 * 4))) &&& 31)) &&& 255)) else up2 z 1101 (T + j) ((x1 >>> ((24 - (8 * ((nI j) - (nI j) / 4 * 4))) &&& 31)) &&& 255)
def fd_a (T : Nat) (x1 : Int32) (x2 : Int32) (x3 : Int32) (x4 : Int32) (x5 : Int32) (w0 : fr_V) : Nat → fr_V
  | 0 => w0
  | j + 1 => fd_a_t T x1 x2 x3 x4 x5 j (fd_a T x1 x2 x3 x4 x5 w0 j)
theorem fd_a_s (T : Nat) (x1 : Int32) (x2 : Int32) (x3 : Int32) (x4 : Int32) (x5 : Int32) (w0 : fr_V) (j : Nat) : fd_a T x1 x2 x3 x4 x5 w0 (j + 1) = fd_a_t T x1 x2 x3 x4 x5 j (fd_a T x1 x2 x3 x4 x5 w0 j) := rfl
theorem fd_a_L {l : Launch} {I : List Nat} (hI : fr_I I) (u : fr_U) (T : Nat) (x1 : Int32) (x2 : Int32) (x3 : Int32) (x4 : Int32) (x5 : Int32) (w0 : fr_V) (hT : T + 20 ≤ 500) : ∀ (d j : Nat) (z : fr_V) (hd : 20 - j < d) (hj : j ≤ 20) (hz : z = fd_a T x1 x2 x3 x4 x5 w0 j) (ht : z 1100 1 = nI T), J l mX11_feed I z u 23 [(0, .ref 1100), (1, .int x1), (2, .int x2), (3, .int x3), (4, .int x4), (5, .int x5), (6, .int (nI j))] [] (QX u (fun a b => a = nI T + 20 ∧ b = up2 (fd_a T x1 x2 x3 x4 x5 w0 20) 1100 1 (nI T + 20))) := by
  intro d
  induction d with
  | zero => intros; omega
  | succ d ih =>
    intro j z hd hj hz ht
    refine J_iload dX11_feed_23 6 rfl ?_
    refine J_bipush (x := 20) dX11_feed_25 (by decide) ?_
    refine J_icmp_ge (tgt := 113) dX11_feed_27 (by decide) (fun c1 => ?_) (fun c1 => ?_)
    · have e : j = 20 := by have := nz_le (a := 20) (by omega) (by omega) c1; omega
      refine J_aload_n dX11_feed_113 rfl 0 rfl ?_
      refine J_dup dX11_feed_114 rfl ?_
      refine J_gete (ci := 11) (j := 1) (x := nI T) dX11_feed_115 fl_X11_132 (i1100 hI) rfl rfl ht ?_
      refine J_bipush (x := 20) dX11_feed_118 (by decide) ?_
      refine J_iadd dX11_feed_120 ?_
      refine J_puti (ci := 11) (j := 1) dX11_feed_121 fl_X11_132 (i1100 hI) rfl rfl (fun q h => by cases h; rfl) rfl ?_
      refine J_aload_n dX11_feed_124 rfl 0 rfl ?_
      refine J_gete (ci := 11) (j := 1) (x := (nI T) + 20) dX11_feed_125 fl_X11_132 (i1100 hI) rfl rfl rfl ?_
      exact J_iret dX11_feed_128 rfl ⟨_, rfl, rfl, rfl, by rw [hz, e]⟩
    · have hjn : j < 20 := nz_nle (a := 20) (by omega) (by omega) c1
      refine J_iload dX11_feed_30 6 rfl ?_
      refine J_iconst (x := 4) dX11_feed_32 (by decide) ?_
      refine J_icmp_ge (tgt := 40) dX11_feed_33 (by decide) (fun c2 => ?_) (fun c2 => ?_)
      · refine J_iload dX11_feed_40 6 rfl ?_
        refine J_bipush (x := 8) dX11_feed_42 (by decide) ?_
        refine J_icmp_ge (tgt := 51) dX11_feed_44 (by decide) (fun c3 => ?_) (fun c3 => ?_)
        · refine J_iload dX11_feed_51 6 rfl ?_
          refine J_bipush (x := 12) dX11_feed_53 (by decide) ?_
          refine J_icmp_ge (tgt := 62) dX11_feed_55 (by decide) (fun c4 => ?_) (fun c4 => ?_)
          · refine J_iload dX11_feed_62 6 rfl ?_
            refine J_bipush (x := 16) dX11_feed_64 (by decide) ?_
            refine J_icmp_ge (tgt := 74) dX11_feed_66 (by decide) (fun c5 => ?_) (fun c5 => ?_)
            · refine J_iload dX11_feed_74 5 rfl ?_
              refine J_istore (lv' := [(7, .int x5), (0, .ref 1100), (1, .int x1), (2, .int x2), (3, .int x3), (4, .int x4), (5, .int x5), (6, .int (nI j))]) dX11_feed_76 (by decide) rfl ?_
              refine J_aload_n dX11_feed_78 rfl 1 rfl ?_
              refine J_getr (ci := 11) (j := 0) (t := 1101) dX11_feed_79 fl_X11_7 (i1100 hI) rfl rfl rfl ?_
              refine J_aload_n dX11_feed_82 rfl 1 rfl ?_
              refine J_gete (ci := 11) (j := 1) (x := nI T) dX11_feed_83 fl_X11_132 (i1100 hI) rfl rfl ht ?_
              refine J_iload dX11_feed_86 7 rfl ?_
              refine J_iadd dX11_feed_88 ?_
              refine J_iload dX11_feed_89 0 rfl ?_
              refine J_bipush (x := 24) dX11_feed_91 (by decide) ?_
              refine J_bipush (x := 8) dX11_feed_93 (by decide) ?_
              refine J_iload dX11_feed_95 7 rfl ?_
              refine J_iconst (x := 4) dX11_feed_97 (by decide) ?_
              refine J_irem dX11_feed_98 (by decide) ?_
              refine J_imul dX11_feed_99 ?_
              refine J_isub dX11_feed_100 ?_
              refine J_ishr dX11_feed_101 ?_
              refine J_sipush (x := 255) dX11_feed_102 (by decide) ?_
              refine J_iand dX11_feed_105 ?_
              refine J_iase (j := T + j) dX11_feed_106 (i1101 hI) rfl (ix_in (j := T + j) (by show (nI T) + (nI j) = _; simp only [nI_add, pk_mul]) (by omega) (by omega)) (ix_cl (j := T + j) (by show (nI T) + (nI j) = _; simp only [nI_add, pk_mul]) (by omega)) ?_
              refine J_iinc (q := 7) (z := nI (j + 1)) (lv' := [(6, .int (nI (j + 1))), (7, .int x5), (0, .ref 1100), (1, .int x1), (2, .int x2), (3, .int x3), (4, .int x4), (5, .int x5)]) dX11_feed_107 rfl (nI_1 j) (by decide) rfl ?_
              refine J_goto (tgt := 23) dX11_feed_110 (by decide) ?_
              refine J_lv [2, 3, 4, 5, 6, 7, 0] rfl ?_
              exact ih (j + 1) _ (by omega) (by omega) (by rw [fd_a_s, ← hz]; unfold fd_a_t; rw [if_pos c2, if_pos c3, if_pos c4, if_pos c5]) (ht)
            · refine J_iload dX11_feed_69 4 rfl ?_
              refine J_goto (tgt := 76) dX11_feed_71 (by decide) ?_
              refine J_istore (lv' := [(7, .int x4), (0, .ref 1100), (1, .int x1), (2, .int x2), (3, .int x3), (4, .int x4), (5, .int x5), (6, .int (nI j))]) dX11_feed_76 (by decide) rfl ?_
              refine J_aload_n dX11_feed_78 rfl 1 rfl ?_
              refine J_getr (ci := 11) (j := 0) (t := 1101) dX11_feed_79 fl_X11_7 (i1100 hI) rfl rfl rfl ?_
              refine J_aload_n dX11_feed_82 rfl 1 rfl ?_
              refine J_gete (ci := 11) (j := 1) (x := nI T) dX11_feed_83 fl_X11_132 (i1100 hI) rfl rfl ht ?_
              refine J_iload dX11_feed_86 7 rfl ?_
              refine J_iadd dX11_feed_88 ?_
              refine J_iload dX11_feed_89 0 rfl ?_
              refine J_bipush (x := 24) dX11_feed_91 (by decide) ?_
              refine J_bipush (x := 8) dX11_feed_93 (by decide) ?_
              refine J_iload dX11_feed_95 7 rfl ?_
              refine J_iconst (x := 4) dX11_feed_97 (by decide) ?_
              refine J_irem dX11_feed_98 (by decide) ?_
              refine J_imul dX11_feed_99 ?_
              refine J_isub dX11_feed_100 ?_
              refine J_ishr dX11_feed_101 ?_
              refine J_sipush (x := 255) dX11_feed_102 (by decide) ?_
              refine J_iand dX11_feed_105 ?_
              refine J_iase (j := T + j) dX11_feed_106 (i1101 hI) rfl (ix_in (j := T + j) (by show (nI T) + (nI j) = _; simp only [nI_add, pk_mul]) (by omega) (by omega)) (ix_cl (j := T + j) (by show (nI T) + (nI j) = _; simp only [nI_add, pk_mul]) (by omega)) ?_
              refine J_iinc (q := 7) (z := nI (j + 1)) (lv' := [(6, .int (nI (j + 1))), (7, .int x4), (0, .ref 1100), (1, .int x1), (2, .int x2), (3, .int x3), (4, .int x4), (5, .int x5)]) dX11_feed_107 rfl (nI_1 j) (by decide) rfl ?_
              refine J_goto (tgt := 23) dX11_feed_110 (by decide) ?_
              refine J_lv [2, 3, 4, 5, 6, 7, 0] rfl ?_
              exact ih (j + 1) _ (by omega) (by omega) (by rw [fd_a_s, ← hz]; unfold fd_a_t; rw [if_pos c2, if_pos c3, if_pos c4, if_neg c5]) (ht)
          · refine J_iload_n dX11_feed_58 rfl 3 rfl ?_
            refine J_goto (tgt := 76) dX11_feed_59 (by decide) ?_
            refine J_istore (lv' := [(7, .int x3), (0, .ref 1100), (1, .int x1), (2, .int x2), (3, .int x3), (4, .int x4), (5, .int x5), (6, .int (nI j))]) dX11_feed_76 (by decide) rfl ?_
            refine J_aload_n dX11_feed_78 rfl 1 rfl ?_
            refine J_getr (ci := 11) (j := 0) (t := 1101) dX11_feed_79 fl_X11_7 (i1100 hI) rfl rfl rfl ?_
            refine J_aload_n dX11_feed_82 rfl 1 rfl ?_
            refine J_gete (ci := 11) (j := 1) (x := nI T) dX11_feed_83 fl_X11_132 (i1100 hI) rfl rfl ht ?_
            refine J_iload dX11_feed_86 7 rfl ?_
            refine J_iadd dX11_feed_88 ?_
            refine J_iload dX11_feed_89 0 rfl ?_
            refine J_bipush (x := 24) dX11_feed_91 (by decide) ?_
            refine J_bipush (x := 8) dX11_feed_93 (by decide) ?_
            refine J_iload dX11_feed_95 7 rfl ?_
            refine J_iconst (x := 4) dX11_feed_97 (by decide) ?_
            refine J_irem dX11_feed_98 (by decide) ?_
            refine J_imul dX11_feed_99 ?_
            refine J_isub dX11_feed_100 ?_
            refine J_ishr dX11_feed_101 ?_
            refine J_sipush (x := 255) dX11_feed_102 (by decide) ?_
            refine J_iand dX11_feed_105 ?_
            refine J_iase (j := T + j) dX11_feed_106 (i1101 hI) rfl (ix_in (j := T + j) (by show (nI T) + (nI j) = _; simp only [nI_add, pk_mul]) (by omega) (by omega)) (ix_cl (j := T + j) (by show (nI T) + (nI j) = _; simp only [nI_add, pk_mul]) (by omega)) ?_
            refine J_iinc (q := 7) (z := nI (j + 1)) (lv' := [(6, .int (nI (j + 1))), (7, .int x3), (0, .ref 1100), (1, .int x1), (2, .int x2), (3, .int x3), (4, .int x4), (5, .int x5)]) dX11_feed_107 rfl (nI_1 j) (by decide) rfl ?_
            refine J_goto (tgt := 23) dX11_feed_110 (by decide) ?_
            refine J_lv [2, 3, 4, 5, 6, 7, 0] rfl ?_
            exact ih (j + 1) _ (by omega) (by omega) (by rw [fd_a_s, ← hz]; unfold fd_a_t; rw [if_pos c2, if_pos c3, if_neg c4]) (ht)
        · refine J_iload_n dX11_feed_47 rfl 2 rfl ?_
          refine J_goto (tgt := 76) dX11_feed_48 (by decide) ?_
          refine J_istore (lv' := [(7, .int x2), (0, .ref 1100), (1, .int x1), (2, .int x2), (3, .int x3), (4, .int x4), (5, .int x5), (6, .int (nI j))]) dX11_feed_76 (by decide) rfl ?_
          refine J_aload_n dX11_feed_78 rfl 1 rfl ?_
          refine J_getr (ci := 11) (j := 0) (t := 1101) dX11_feed_79 fl_X11_7 (i1100 hI) rfl rfl rfl ?_
          refine J_aload_n dX11_feed_82 rfl 1 rfl ?_
          refine J_gete (ci := 11) (j := 1) (x := nI T) dX11_feed_83 fl_X11_132 (i1100 hI) rfl rfl ht ?_
          refine J_iload dX11_feed_86 7 rfl ?_
          refine J_iadd dX11_feed_88 ?_
          refine J_iload dX11_feed_89 0 rfl ?_
          refine J_bipush (x := 24) dX11_feed_91 (by decide) ?_
          refine J_bipush (x := 8) dX11_feed_93 (by decide) ?_
          refine J_iload dX11_feed_95 7 rfl ?_
          refine J_iconst (x := 4) dX11_feed_97 (by decide) ?_
          refine J_irem dX11_feed_98 (by decide) ?_
          refine J_imul dX11_feed_99 ?_
          refine J_isub dX11_feed_100 ?_
          refine J_ishr dX11_feed_101 ?_
          refine J_sipush (x := 255) dX11_feed_102 (by decide) ?_
          refine J_iand dX11_feed_105 ?_
          refine J_iase (j := T + j) dX11_feed_106 (i1101 hI) rfl (ix_in (j := T + j) (by show (nI T) + (nI j) = _; simp only [nI_add, pk_mul]) (by omega) (by omega)) (ix_cl (j := T + j) (by show (nI T) + (nI j) = _; simp only [nI_add, pk_mul]) (by omega)) ?_
          refine J_iinc (q := 7) (z := nI (j + 1)) (lv' := [(6, .int (nI (j + 1))), (7, .int x2), (0, .ref 1100), (1, .int x1), (2, .int x2), (3, .int x3), (4, .int x4), (5, .int x5)]) dX11_feed_107 rfl (nI_1 j) (by decide) rfl ?_
          refine J_goto (tgt := 23) dX11_feed_110 (by decide) ?_
          refine J_lv [2, 3, 4, 5, 6, 7, 0] rfl ?_
          exact ih (j + 1) _ (by omega) (by omega) (by rw [fd_a_s, ← hz]; unfold fd_a_t; rw [if_pos c2, if_neg c3]) (ht)
      · refine J_iload_n dX11_feed_36 rfl 1 rfl ?_
        refine J_goto (tgt := 76) dX11_feed_37 (by decide) ?_
        refine J_istore (lv' := [(7, .int x1), (0, .ref 1100), (1, .int x1), (2, .int x2), (3, .int x3), (4, .int x4), (5, .int x5), (6, .int (nI j))]) dX11_feed_76 (by decide) rfl ?_
        refine J_aload_n dX11_feed_78 rfl 1 rfl ?_
        refine J_getr (ci := 11) (j := 0) (t := 1101) dX11_feed_79 fl_X11_7 (i1100 hI) rfl rfl rfl ?_
        refine J_aload_n dX11_feed_82 rfl 1 rfl ?_
        refine J_gete (ci := 11) (j := 1) (x := nI T) dX11_feed_83 fl_X11_132 (i1100 hI) rfl rfl ht ?_
        refine J_iload dX11_feed_86 7 rfl ?_
        refine J_iadd dX11_feed_88 ?_
        refine J_iload dX11_feed_89 0 rfl ?_
        refine J_bipush (x := 24) dX11_feed_91 (by decide) ?_
        refine J_bipush (x := 8) dX11_feed_93 (by decide) ?_
        refine J_iload dX11_feed_95 7 rfl ?_
        refine J_iconst (x := 4) dX11_feed_97 (by decide) ?_
        refine J_irem dX11_feed_98 (by decide) ?_
        refine J_imul dX11_feed_99 ?_
        refine J_isub dX11_feed_100 ?_
        refine J_ishr dX11_feed_101 ?_
        refine J_sipush (x := 255) dX11_feed_102 (by decide) ?_
        refine J_iand dX11_feed_105 ?_
        refine J_iase (j := T + j) dX11_feed_106 (i1101 hI) rfl (ix_in (j := T + j) (by show (nI T) + (nI j) = _; simp only [nI_add, pk_mul]) (by omega) (by omega)) (ix_cl (j := T + j) (by show (nI T) + (nI j) = _; simp only [nI_add, pk_mul]) (by omega)) ?_
        refine J_iinc (q := 7) (z := nI (j + 1)) (lv' := [(6, .int (nI (j + 1))), (7, .int x1), (0, .ref 1100), (1, .int x1), (2, .int x2), (3, .int x3), (4, .int x4), (5, .int x5)]) dX11_feed_107 rfl (nI_1 j) (by decide) rfl ?_
        refine J_goto (tgt := 23) dX11_feed_110 (by decide) ?_
        refine J_lv [2, 3, 4, 5, 6, 7, 0] rfl ?_
        exact ih (j + 1) _ (by omega) (by omega) (by rw [fd_a_s, ← hz]; unfold fd_a_t; rw [if_neg c2]) (ht)
def f_feed (v : fr_V) (T : Nat) (x1 x2 x3 x4 x5 : Int32) : Int32 × fr_V := if nI T + 20 ≤ 500 then (nI T + 20, up2 (fd_a T x1 x2 x3 x4 x5 (up2 v 1100 2 0) 20) 1100 1 (nI T + 20)) else (-1, up2 v 1100 2 0)
theorem k_X11_feed {l : Launch} {I : List Nat} (hI : fr_I I) (v : fr_V) (u : fr_U) (T : Nat) (ht : v 1100 1 = nI T) (hT : T ≤ 500) (x1 x2 x3 x4 x5 : Int32) : Con l mX11_feed I v u [.ref 1100, .int x1, .int x2, .int x3, .int x4, .int x5] (QX u (fun a b => a = (f_feed v T x1 x2 x3 x4 x5).1 ∧ b = (f_feed v T x1 x2 x3 x4 x5).2)) := by
  refine Con.of (by decide) (Nat.le_of_ble_eq_true rfl) ?_
  show J l mX11_feed I v u 0 [(0, .ref 1100), (1, .int x1), (2, .int x2), (3, .int x3), (4, .int x4), (5, .int x5)] [] _
  refine J_aload_n dX11_feed_0 rfl 0 rfl ?_
  refine J_iconst (x := 0) dX11_feed_1 (by decide) ?_
  refine J_puti (ci := 11) (j := 2) dX11_feed_2 fl_X11_129 (i1100 hI) rfl rfl (fun q h => by cases h; rfl) rfl ?_
  refine J_aload_n dX11_feed_5 rfl 0 rfl ?_
  refine J_gete (ci := 11) (j := 1) (x := nI T) dX11_feed_6 fl_X11_132 (i1100 hI) rfl rfl ht ?_
  refine J_bipush (x := 20) dX11_feed_9 (by decide) ?_
  refine J_iadd dX11_feed_11 ?_
  refine J_sipush (x := 500) dX11_feed_12 (by decide) ?_
  refine J_icmp_le (tgt := 20) dX11_feed_15 (by decide) (fun c1 => ?_) (fun c1 => ?_)
  · refine J_iconst (x := 0) dX11_feed_20 (by decide) ?_
    refine J_istore (lv' := [(6, .int 0), (0, .ref 1100), (1, .int x1), (2, .int x2), (3, .int x3), (4, .int x4), (5, .int x5)]) dX11_feed_21 (by decide) rfl ?_
    refine J_lv [1, 2, 3, 4, 5, 6, 0] rfl ?_
    have hT2 : T + 20 ≤ 500 := nz_le (a := T + 20) (b := 500) (by omega) (by omega) (by rw [← nI_add]; exact c1)
    refine J_post (fun r v1 u1 hq => ?_) (fd_a_L hI u T x1 x2 x3 x4 x5 (up2 v 1100 2 0) hT2 21 0 _ (by omega) (by omega) rfl ht)
    obtain ⟨x, h1, h2, h3, h4⟩ := hq
    exact ⟨x, h1, h2, by rw [h3]; unfold f_feed; rw [if_pos c1], by rw [h4]; unfold f_feed; rw [if_pos c1]⟩
  · refine J_iconst (x := (-1)) dX11_feed_18 (by decide) ?_
    exact J_iret dX11_feed_19 rfl ⟨_, rfl, rfl, by unfold f_feed; rw [if_neg c1], by unfold f_feed; rw [if_neg c1]⟩
