def yrN (g : Nat) : Nat := if g = 9 then 40 else 10
def yr_i_t (x3 : Int32) (g i s : Nat) (z : fr_V) : fr_V := if ((z 1106 i) + (2 * (nI (10 * g + s)))) < 0 then z else if x3 < ((z 1106 i) + (2 * (nI (10 * g + s)))) then z else if (z 1146 i) = (-1) then (if (z 1146 i) = ((z 1106 i) + (2 * (nI (10 * g + s)))) then up2 (up2 z 1100 49 ((z 1100 49) + 1)) 1100 50 ((z 1100 50) + 1) else if (z 1146 i) = (((z 1106 i) + (2 * (nI (10 * g + s)))) + 1) then up2 (up2 z 1100 49 ((z 1100 49) + 1)) 1100 50 ((z 1100 50) + 1) else up2 (up2 z 1100 49 ((z 1100 49) + 1)) 1100 50 ((z 1100 50) + 0)) else if ((z 1106 i) + (2 * (nI (10 * g + s)))) ≤ (z 1146 i) then (if (z 1146 i) = ((z 1106 i) + (2 * (nI (10 * g + s)))) then up2 (up2 z 1100 49 ((z 1100 49) + 1)) 1100 50 ((z 1100 50) + 1) else if (z 1146 i) = (((z 1106 i) + (2 * (nI (10 * g + s)))) + 1) then up2 (up2 z 1100 49 ((z 1100 49) + 1)) 1100 50 ((z 1100 50) + 1) else up2 (up2 z 1100 49 ((z 1100 49) + 1)) 1100 50 ((z 1100 50) + 0)) else z
def yr_i (x3 : Int32) (g i : Nat) (w0 : fr_V) : Nat → fr_V
  | 0 => w0
  | s + 1 => yr_i_t x3 g i s (yr_i x3 g i w0 s)
theorem yr_i_s (x3 : Int32) (g i : Nat) (w0 : fr_V) (s : Nat) : yr_i x3 g i w0 (s + 1) = yr_i_t x3 g i s (yr_i x3 g i w0 s) := rfl
theorem yr_i_L {l : Launch} {I : List Nat} (hI : fr_I I) (u : fr_U) (x1 x3 : Int32) (g i : Nat) (hg : g ≤ 9) (n : Nat) (hi : i < n) (hn : n ≤ 12) (w0 : fr_V) {Q : Option Value → fr_V → fr_U → Prop} (hk : ∀ z : fr_V, z = yr_i x3 g i w0 (yrN g) → z 1100 4 = nI n → J l mX11_years I z u 178 [(0, .ref 1100), (1, .int x1), (2, .int (nI g)), (3, .int x3), (4, .int (nI i))] [] Q) : ∀ (d s : Nat) (z : fr_V) (hd : yrN g - s < d) (hs : s ≤ yrN g) (hz : z = yr_i x3 g i w0 s) (hm : z 1100 4 = nI n), J l mX11_years I z u 42 [(0, .ref 1100), (1, .int x1), (2, .int (nI g)), (3, .int x3), (4, .int (nI i)), (5, .int (nI (10 * g + s)))] [] Q := by
  have hN : yrN g ≤ 40 := by unfold yrN; split <;> omega
  intro d
  induction d with
  | zero => intros; omega
  | succ d ih =>
    intro s z hd hs hz hm
    refine J_iload_n dX11_years_42 rfl 2 rfl ?_
    refine J_bipush (x := 9) dX11_years_43 (by decide) ?_
    refine J_icmp_ne (tgt := 59) dX11_years_45 (by decide) (fun c1 => ?_) (fun c1 => ?_)
    · refine J_iload dX11_years_59 5 rfl ?_
      refine J_bipush (x := 10) dX11_years_61 (by decide) ?_
      refine J_iload_n dX11_years_63 rfl 2 rfl ?_
      refine J_imul dX11_years_64 ?_
      refine J_bipush (x := 10) dX11_years_65 (by decide) ?_
      refine J_iadd dX11_years_67 ?_
      refine J_icmp_ge (tgt := 178) dX11_years_68 (by decide) (fun c2 => ?_) (fun c2 => ?_)
      · have e : s = yrN g := by have h9 : ¬ g = 9 := fun q => c1 (by rw [q]; rfl); have h1 : (10 : Int32) * nI g + 10 ≤ nI (10 * g + s) := c2; have h2 : nI (10 * g + 10) ≤ nI (10 * g + s) := by {rw [← nI_add, ← pk_mul]; exact h1}; have := nz_le (by omega) (by omega) h2; unfold yrN at hs ⊢; rw [if_neg h9] at hs ⊢; omega
        refine J_lv [0, 1, 2, 3, 4] rfl ?_
        rw [e] at hz
        rw [hz]
        exact hk _ rfl (hz ▸ hm)
      · have hsn : s < yrN g := by have h9 : ¬ g = 9 := fun q => c1 (by rw [q]; rfl); have h1 : ¬ (10 : Int32) * nI g + 10 ≤ nI (10 * g + s) := c2; have h2 : ¬ nI (10 * g + 10) ≤ nI (10 * g + s) := by {rw [← nI_add, ← pk_mul]; exact h1}; have := nz_nle (by omega) (by omega) h2; unfold yrN; rw [if_neg h9]; omega
        refine J_aload_n dX11_years_71 rfl 0 rfl ?_
        refine J_getr (ci := 11) (j := 5) (t := 1106) dX11_years_72 fl_X11_13 (i1100 hI) rfl rfl rfl ?_
        refine J_iload dX11_years_75 4 rfl ?_
        refine J_iale (x := z 1106 i) dX11_years_77 (i1106 hI) rfl (ix_in (j := i) rfl (by omega) (by omega)) ((congrArg _ (ix_cl (j := i) rfl (by omega))).trans rfl) ?_
        refine J_iconst (x := 2) dX11_years_78 (by decide) ?_
        refine J_iload dX11_years_79 5 rfl ?_
        refine J_imul dX11_years_81 ?_
        refine J_iadd dX11_years_82 ?_
        refine J_istore (lv' := [(6, .int ((z 1106 i) + (2 * (nI (10 * g + s))))), (0, .ref 1100), (1, .int x1), (2, .int (nI g)), (3, .int x3), (4, .int (nI i)), (5, .int (nI (10 * g + s)))]) dX11_years_83 (by decide) rfl ?_
        refine J_iload dX11_years_85 0 rfl ?_
        refine J_if_lt (tgt := 172) dX11_years_87 (by decide) (fun c3 => ?_) (fun c3 => ?_)
        · refine J_iinc (q := 6) (z := nI ((10 * g + s) + 1)) (lv' := [(5, .int (nI ((10 * g + s) + 1))), (6, .int ((z 1106 i) + (2 * (nI (10 * g + s))))), (0, .ref 1100), (1, .int x1), (2, .int (nI g)), (3, .int x3), (4, .int (nI i))]) dX11_years_172 rfl (nI_1 (10 * g + s)) (by decide) rfl ?_
          refine J_goto (tgt := 42) dX11_years_175 (by decide) ?_
          refine J_lv [2, 3, 4, 5, 6, 0] rfl ?_
          exact ih (s + 1) _ (by omega) (by omega) (by rw [yr_i_s, ← hz]; unfold yr_i_t; rw [if_pos c3]) hm
        · refine J_iload dX11_years_90 0 rfl ?_
          refine J_iload_n dX11_years_92 rfl 4 rfl ?_
          refine J_icmp_gt (tgt := 172) dX11_years_93 (by decide) (fun c4 => ?_) (fun c4 => ?_)
          · refine J_iinc (q := 6) (z := nI ((10 * g + s) + 1)) (lv' := [(5, .int (nI ((10 * g + s) + 1))), (6, .int ((z 1106 i) + (2 * (nI (10 * g + s))))), (0, .ref 1100), (1, .int x1), (2, .int (nI g)), (3, .int x3), (4, .int (nI i))]) dX11_years_172 rfl (nI_1 (10 * g + s)) (by decide) rfl ?_
            refine J_goto (tgt := 42) dX11_years_175 (by decide) ?_
            refine J_lv [2, 3, 4, 5, 6, 0] rfl ?_
            exact ih (s + 1) _ (by omega) (by omega) (by rw [yr_i_s, ← hz]; unfold yr_i_t; rw [if_neg c3, if_pos c4]) hm
          · refine J_aload_n dX11_years_96 rfl 1 rfl ?_
            refine J_getr (ci := 11) (j := 45) (t := 1146) dX11_years_97 fl_X11_96 (i1100 hI) rfl rfl rfl ?_
            refine J_iload dX11_years_100 5 rfl ?_
            refine J_iale (x := z 1146 i) dX11_years_102 (i1146 hI) rfl (ix_in (j := i) rfl (by omega) (by omega)) ((congrArg _ (ix_cl (j := i) rfl (by omega))).trans rfl) ?_
            refine J_iconst (x := (-1)) dX11_years_103 (by decide) ?_
            refine J_icmp_eq (tgt := 122) dX11_years_104 (by decide) (fun c5 => ?_) (fun c5 => ?_)
            · refine J_aload_n dX11_years_122 rfl 1 rfl ?_
              refine J_dup dX11_years_123 rfl ?_
              refine J_gete (ci := 11) (j := 49) (x := z 1100 49) dX11_years_124 fl_X11_286 (i1100 hI) rfl rfl rfl ?_
              refine J_iconst (x := 1) dX11_years_127 (by decide) ?_
              refine J_iadd dX11_years_128 ?_
              refine J_puti (ci := 11) (j := 49) dX11_years_129 fl_X11_286 (i1100 hI) rfl rfl (fun q h => by cases h; rfl) rfl ?_
              refine J_aload_n dX11_years_132 rfl 1 rfl ?_
              refine J_dup dX11_years_133 rfl ?_
              refine J_gete (ci := 11) (j := 50) (x := z 1100 50) dX11_years_134 fl_X11_289 (i1100 hI) rfl rfl rfl ?_
              refine J_aload_n dX11_years_137 rfl 1 rfl ?_
              refine J_getr (ci := 11) (j := 45) (t := 1146) dX11_years_138 fl_X11_96 (i1100 hI) rfl rfl rfl ?_
              refine J_iload dX11_years_141 5 rfl ?_
              refine J_iale (x := z 1146 i) dX11_years_143 (i1146 hI) rfl (ix_in (j := i) rfl (by omega) (by omega)) ((congrArg _ (ix_cl (j := i) rfl (by omega))).trans rfl) ?_
              refine J_iload dX11_years_144 0 rfl ?_
              refine J_icmp_eq (tgt := 163) dX11_years_146 (by decide) (fun c6 => ?_) (fun c6 => ?_)
              · refine J_iconst (x := 1) dX11_years_163 (by decide) ?_
                refine J_goto (tgt := 168) dX11_years_164 (by decide) ?_
                refine J_iadd dX11_years_168 ?_
                refine J_puti (ci := 11) (j := 50) dX11_years_169 fl_X11_289 (i1100 hI) rfl rfl (fun q h => by cases h; rfl) rfl ?_
                refine J_iinc (q := 6) (z := nI ((10 * g + s) + 1)) (lv' := [(5, .int (nI ((10 * g + s) + 1))), (6, .int ((z 1106 i) + (2 * (nI (10 * g + s))))), (0, .ref 1100), (1, .int x1), (2, .int (nI g)), (3, .int x3), (4, .int (nI i))]) dX11_years_172 rfl (nI_1 (10 * g + s)) (by decide) rfl ?_
                refine J_goto (tgt := 42) dX11_years_175 (by decide) ?_
                refine J_lv [2, 3, 4, 5, 6, 0] rfl ?_
                exact ih (s + 1) _ (by omega) (by omega) (by rw [yr_i_s, ← hz]; unfold yr_i_t; rw [if_neg c3, if_neg c4, if_pos c5, if_pos c6]) hm
              · refine J_aload_n dX11_years_149 rfl 1 rfl ?_
                refine J_getr (ci := 11) (j := 45) (t := 1146) dX11_years_150 fl_X11_96 (i1100 hI) rfl rfl rfl ?_
                refine J_iload dX11_years_153 5 rfl ?_
                refine J_iale (x := z 1146 i) dX11_years_155 (i1146 hI) rfl (ix_in (j := i) rfl (by omega) (by omega)) ((congrArg _ (ix_cl (j := i) rfl (by omega))).trans rfl) ?_
                refine J_iload dX11_years_156 0 rfl ?_
                refine J_iconst (x := 1) dX11_years_158 (by decide) ?_
                refine J_iadd dX11_years_159 ?_
                refine J_icmp_ne (tgt := 167) dX11_years_160 (by decide) (fun c7 => ?_) (fun c7 => ?_)
                · refine J_iconst (x := 0) dX11_years_167 (by decide) ?_
                  refine J_iadd dX11_years_168 ?_
                  refine J_puti (ci := 11) (j := 50) dX11_years_169 fl_X11_289 (i1100 hI) rfl rfl (fun q h => by cases h; rfl) rfl ?_
                  refine J_iinc (q := 6) (z := nI ((10 * g + s) + 1)) (lv' := [(5, .int (nI ((10 * g + s) + 1))), (6, .int ((z 1106 i) + (2 * (nI (10 * g + s))))), (0, .ref 1100), (1, .int x1), (2, .int (nI g)), (3, .int x3), (4, .int (nI i))]) dX11_years_172 rfl (nI_1 (10 * g + s)) (by decide) rfl ?_
                  refine J_goto (tgt := 42) dX11_years_175 (by decide) ?_
                  refine J_lv [2, 3, 4, 5, 6, 0] rfl ?_
                  exact ih (s + 1) _ (by omega) (by omega) (by rw [yr_i_s, ← hz]; unfold yr_i_t; rw [if_neg c3, if_neg c4, if_pos c5, if_neg c6, if_neg c7]) hm
                · refine J_iconst (x := 1) dX11_years_163 (by decide) ?_
                  refine J_goto (tgt := 168) dX11_years_164 (by decide) ?_
                  refine J_iadd dX11_years_168 ?_
                  refine J_puti (ci := 11) (j := 50) dX11_years_169 fl_X11_289 (i1100 hI) rfl rfl (fun q h => by cases h; rfl) rfl ?_
                  refine J_iinc (q := 6) (z := nI ((10 * g + s) + 1)) (lv' := [(5, .int (nI ((10 * g + s) + 1))), (6, .int ((z 1106 i) + (2 * (nI (10 * g + s))))), (0, .ref 1100), (1, .int x1), (2, .int (nI g)), (3, .int x3), (4, .int (nI i))]) dX11_years_172 rfl (nI_1 (10 * g + s)) (by decide) rfl ?_
                  refine J_goto (tgt := 42) dX11_years_175 (by decide) ?_
                  refine J_lv [2, 3, 4, 5, 6, 0] rfl ?_
                  exact ih (s + 1) _ (by omega) (by omega) (by rw [yr_i_s, ← hz]; unfold yr_i_t; rw [if_neg c3, if_neg c4, if_pos c5, if_neg c6, if_pos c7]) hm
            · refine J_iload dX11_years_107 0 rfl ?_
              refine J_aload_n dX11_years_109 rfl 1 rfl ?_
              refine J_getr (ci := 11) (j := 45) (t := 1146) dX11_years_110 fl_X11_96 (i1100 hI) rfl rfl rfl ?_
              refine J_iload dX11_years_113 5 rfl ?_
              refine J_iale (x := z 1146 i) dX11_years_115 (i1146 hI) rfl (ix_in (j := i) rfl (by omega) (by omega)) ((congrArg _ (ix_cl (j := i) rfl (by omega))).trans rfl) ?_
              refine J_icmp_le (tgt := 122) dX11_years_116 (by decide) (fun c8 => ?_) (fun c8 => ?_)
              · refine J_aload_n dX11_years_122 rfl 1 rfl ?_
                refine J_dup dX11_years_123 rfl ?_
                refine J_gete (ci := 11) (j := 49) (x := z 1100 49) dX11_years_124 fl_X11_286 (i1100 hI) rfl rfl rfl ?_
                refine J_iconst (x := 1) dX11_years_127 (by decide) ?_
                refine J_iadd dX11_years_128 ?_
                refine J_puti (ci := 11) (j := 49) dX11_years_129 fl_X11_286 (i1100 hI) rfl rfl (fun q h => by cases h; rfl) rfl ?_
                refine J_aload_n dX11_years_132 rfl 1 rfl ?_
                refine J_dup dX11_years_133 rfl ?_
                refine J_gete (ci := 11) (j := 50) (x := z 1100 50) dX11_years_134 fl_X11_289 (i1100 hI) rfl rfl rfl ?_
                refine J_aload_n dX11_years_137 rfl 1 rfl ?_
                refine J_getr (ci := 11) (j := 45) (t := 1146) dX11_years_138 fl_X11_96 (i1100 hI) rfl rfl rfl ?_
                refine J_iload dX11_years_141 5 rfl ?_
                refine J_iale (x := z 1146 i) dX11_years_143 (i1146 hI) rfl (ix_in (j := i) rfl (by omega) (by omega)) ((congrArg _ (ix_cl (j := i) rfl (by omega))).trans rfl) ?_
                refine J_iload dX11_years_144 0 rfl ?_
                refine J_icmp_eq (tgt := 163) dX11_years_146 (by decide) (fun c9 => ?_) (fun c9 => ?_)
                · refine J_iconst (x := 1) dX11_years_163 (by decide) ?_
                  refine J_goto (tgt := 168) dX11_years_164 (by decide) ?_
                  refine J_iadd dX11_years_168 ?_
                  refine J_puti (ci := 11) (j := 50) dX11_years_169 fl_X11_289 (i1100 hI) rfl rfl (fun q h => by cases h; rfl) rfl ?_
                  refine J_iinc (q := 6) (z := nI ((10 * g + s) + 1)) (lv' := [(5, .int (nI ((10 * g + s) + 1))), (6, .int ((z 1106 i) + (2 * (nI (10 * g + s))))), (0, .ref 1100), (1, .int x1), (2, .int (nI g)), (3, .int x3), (4, .int (nI i))]) dX11_years_172 rfl (nI_1 (10 * g + s)) (by decide) rfl ?_
                  refine J_goto (tgt := 42) dX11_years_175 (by decide) ?_
                  refine J_lv [2, 3, 4, 5, 6, 0] rfl ?_
                  exact ih (s + 1) _ (by omega) (by omega) (by rw [yr_i_s, ← hz]; unfold yr_i_t; rw [if_neg c3, if_neg c4, if_neg c5, if_pos c8, if_pos c9]) hm
                · refine J_aload_n dX11_years_149 rfl 1 rfl ?_
                  refine J_getr (ci := 11) (j := 45) (t := 1146) dX11_years_150 fl_X11_96 (i1100 hI) rfl rfl rfl ?_
                  refine J_iload dX11_years_153 5 rfl ?_
                  refine J_iale (x := z 1146 i) dX11_years_155 (i1146 hI) rfl (ix_in (j := i) rfl (by omega) (by omega)) ((congrArg _ (ix_cl (j := i) rfl (by omega))).trans rfl) ?_
                  refine J_iload dX11_years_156 0 rfl ?_
                  refine J_iconst (x := 1) dX11_years_158 (by decide) ?_
                  refine J_iadd dX11_years_159 ?_
                  refine J_icmp_ne (tgt := 167) dX11_years_160 (by decide) (fun c10 => ?_) (fun c10 => ?_)
                  · refine J_iconst (x := 0) dX11_years_167 (by decide) ?_
                    refine J_iadd dX11_years_168 ?_
                    refine J_puti (ci := 11) (j := 50) dX11_years_169 fl_X11_289 (i1100 hI) rfl rfl (fun q h => by cases h; rfl) rfl ?_
                    refine J_iinc (q := 6) (z := nI ((10 * g + s) + 1)) (lv' := [(5, .int (nI ((10 * g + s) + 1))), (6, .int ((z 1106 i) + (2 * (nI (10 * g + s))))), (0, .ref 1100), (1, .int x1), (2, .int (nI g)), (3, .int x3), (4, .int (nI i))]) dX11_years_172 rfl (nI_1 (10 * g + s)) (by decide) rfl ?_
                    refine J_goto (tgt := 42) dX11_years_175 (by decide) ?_
                    refine J_lv [2, 3, 4, 5, 6, 0] rfl ?_
                    exact ih (s + 1) _ (by omega) (by omega) (by rw [yr_i_s, ← hz]; unfold yr_i_t; rw [if_neg c3, if_neg c4, if_neg c5, if_pos c8, if_neg c9, if_neg c10]) hm
                  · refine J_iconst (x := 1) dX11_years_163 (by decide) ?_
                    refine J_goto (tgt := 168) dX11_years_164 (by decide) ?_
                    refine J_iadd dX11_years_168 ?_
                    refine J_puti (ci := 11) (j := 50) dX11_years_169 fl_X11_289 (i1100 hI) rfl rfl (fun q h => by cases h; rfl) rfl ?_
                    refine J_iinc (q := 6) (z := nI ((10 * g + s) + 1)) (lv' := [(5, .int (nI ((10 * g + s) + 1))), (6, .int ((z 1106 i) + (2 * (nI (10 * g + s))))), (0, .ref 1100), (1, .int x1), (2, .int (nI g)), (3, .int x3), (4, .int (nI i))]) dX11_years_172 rfl (nI_1 (10 * g + s)) (by decide) rfl ?_
                    refine J_goto (tgt := 42) dX11_years_175 (by decide) ?_
                    refine J_lv [2, 3, 4, 5, 6, 0] rfl ?_
                    exact ih (s + 1) _ (by omega) (by omega) (by rw [yr_i_s, ← hz]; unfold yr_i_t; rw [if_neg c3, if_neg c4, if_neg c5, if_pos c8, if_neg c9, if_pos c10]) hm
              · refine J_goto (tgt := 172) dX11_years_119 (by decide) ?_
                refine J_iinc (q := 6) (z := nI ((10 * g + s) + 1)) (lv' := [(5, .int (nI ((10 * g + s) + 1))), (6, .int ((z 1106 i) + (2 * (nI (10 * g + s))))), (0, .ref 1100), (1, .int x1), (2, .int (nI g)), (3, .int x3), (4, .int (nI i))]) dX11_years_172 rfl (nI_1 (10 * g + s)) (by decide) rfl ?_
                refine J_goto (tgt := 42) dX11_years_175 (by decide) ?_
                refine J_lv [2, 3, 4, 5, 6, 0] rfl ?_
                exact ih (s + 1) _ (by omega) (by omega) (by rw [yr_i_s, ← hz]; unfold yr_i_t; rw [if_neg c3, if_neg c4, if_neg c5, if_neg c8]) hm
    · refine J_iload dX11_years_48 5 rfl ?_
      refine J_sipush (x := 130) dX11_years_50 (by decide) ?_
      refine J_icmp_ge (tgt := 178) dX11_years_53 (by decide) (fun c11 => ?_) (fun c11 => ?_)
      · have e : s = yrN g := by have h9 : g = 9 := (nI_eq (by omega) (by omega)).mp c1; subst h9; have := nz_le (a := 130) (by omega) (by omega) c11; unfold yrN at hs ⊢; rw [if_pos rfl] at hs ⊢; omega
        refine J_lv [0, 1, 2, 3, 4] rfl ?_
        rw [e] at hz
        rw [hz]
        exact hk _ rfl (hz ▸ hm)
      · refine J_goto (tgt := 71) dX11_years_56 (by decide) ?_
        have hsn : s < yrN g := by have h9 : g = 9 := (nI_eq (by omega) (by omega)).mp c1; subst h9; have := nz_nle (a := 130) (by omega) (by omega) c11; unfold yrN; rw [if_pos rfl]; omega
        refine J_aload_n dX11_years_71 rfl 0 rfl ?_
        refine J_getr (ci := 11) (j := 5) (t := 1106) dX11_years_72 fl_X11_13 (i1100 hI) rfl rfl rfl ?_
        refine J_iload dX11_years_75 4 rfl ?_
        refine J_iale (x := z 1106 i) dX11_years_77 (i1106 hI) rfl (ix_in (j := i) rfl (by omega) (by omega)) ((congrArg _ (ix_cl (j := i) rfl (by omega))).trans rfl) ?_
        refine J_iconst (x := 2) dX11_years_78 (by decide) ?_
        refine J_iload dX11_years_79 5 rfl ?_
        refine J_imul dX11_years_81 ?_
        refine J_iadd dX11_years_82 ?_
        refine J_istore (lv' := [(6, .int ((z 1106 i) + (2 * (nI (10 * g + s))))), (0, .ref 1100), (1, .int x1), (2, .int (nI g)), (3, .int x3), (4, .int (nI i)), (5, .int (nI (10 * g + s)))]) dX11_years_83 (by decide) rfl ?_
        refine J_iload dX11_years_85 0 rfl ?_
        refine J_if_lt (tgt := 172) dX11_years_87 (by decide) (fun c12 => ?_) (fun c12 => ?_)
        · refine J_iinc (q := 6) (z := nI ((10 * g + s) + 1)) (lv' := [(5, .int (nI ((10 * g + s) + 1))), (6, .int ((z 1106 i) + (2 * (nI (10 * g + s))))), (0, .ref 1100), (1, .int x1), (2, .int (nI g)), (3, .int x3), (4, .int (nI i))]) dX11_years_172 rfl (nI_1 (10 * g + s)) (by decide) rfl ?_
          refine J_goto (tgt := 42) dX11_years_175 (by decide) ?_
          refine J_lv [2, 3, 4, 5, 6, 0] rfl ?_
          exact ih (s + 1) _ (by omega) (by omega) (by rw [yr_i_s, ← hz]; unfold yr_i_t; rw [if_pos c12]) hm
        · refine J_iload dX11_years_90 0 rfl ?_
          refine J_iload_n dX11_years_92 rfl 4 rfl ?_
          refine J_icmp_gt (tgt := 172) dX11_years_93 (by decide) (fun c13 => ?_) (fun c13 => ?_)
          · refine J_iinc (q := 6) (z := nI ((10 * g + s) + 1)) (lv' := [(5, .int (nI ((10 * g + s) + 1))), (6, .int ((z 1106 i) + (2 * (nI (10 * g + s))))), (0, .ref 1100), (1, .int x1), (2, .int (nI g)), (3, .int x3), (4, .int (nI i))]) dX11_years_172 rfl (nI_1 (10 * g + s)) (by decide) rfl ?_
            refine J_goto (tgt := 42) dX11_years_175 (by decide) ?_
            refine J_lv [2, 3, 4, 5, 6, 0] rfl ?_
            exact ih (s + 1) _ (by omega) (by omega) (by rw [yr_i_s, ← hz]; unfold yr_i_t; rw [if_neg c12, if_pos c13]) hm
          · refine J_aload_n dX11_years_96 rfl 1 rfl ?_
            refine J_getr (ci := 11) (j := 45) (t := 1146) dX11_years_97 fl_X11_96 (i1100 hI) rfl rfl rfl ?_
            refine J_iload dX11_years_100 5 rfl ?_
            refine J_iale (x := z 1146 i) dX11_years_102 (i1146 hI) rfl (ix_in (j := i) rfl (by omega) (by omega)) ((congrArg _ (ix_cl (j := i) rfl (by omega))).trans rfl) ?_
            refine J_iconst (x := (-1)) dX11_years_103 (by decide) ?_
            refine J_icmp_eq (tgt := 122) dX11_years_104 (by decide) (fun c14 => ?_) (fun c14 => ?_)
            · refine J_aload_n dX11_years_122 rfl 1 rfl ?_
              refine J_dup dX11_years_123 rfl ?_
              refine J_gete (ci := 11) (j := 49) (x := z 1100 49) dX11_years_124 fl_X11_286 (i1100 hI) rfl rfl rfl ?_
              refine J_iconst (x := 1) dX11_years_127 (by decide) ?_
              refine J_iadd dX11_years_128 ?_
              refine J_puti (ci := 11) (j := 49) dX11_years_129 fl_X11_286 (i1100 hI) rfl rfl (fun q h => by cases h; rfl) rfl ?_
              refine J_aload_n dX11_years_132 rfl 1 rfl ?_
              refine J_dup dX11_years_133 rfl ?_
              refine J_gete (ci := 11) (j := 50) (x := z 1100 50) dX11_years_134 fl_X11_289 (i1100 hI) rfl rfl rfl ?_
              refine J_aload_n dX11_years_137 rfl 1 rfl ?_
              refine J_getr (ci := 11) (j := 45) (t := 1146) dX11_years_138 fl_X11_96 (i1100 hI) rfl rfl rfl ?_
              refine J_iload dX11_years_141 5 rfl ?_
              refine J_iale (x := z 1146 i) dX11_years_143 (i1146 hI) rfl (ix_in (j := i) rfl (by omega) (by omega)) ((congrArg _ (ix_cl (j := i) rfl (by omega))).trans rfl) ?_
              refine J_iload dX11_years_144 0 rfl ?_
              refine J_icmp_eq (tgt := 163) dX11_years_146 (by decide) (fun c15 => ?_) (fun c15 => ?_)
              · refine J_iconst (x := 1) dX11_years_163 (by decide) ?_
                refine J_goto (tgt := 168) dX11_years_164 (by decide) ?_
                refine J_iadd dX11_years_168 ?_
                refine J_puti (ci := 11) (j := 50) dX11_years_169 fl_X11_289 (i1100 hI) rfl rfl (fun q h => by cases h; rfl) rfl ?_
                refine J_iinc (q := 6) (z := nI ((10 * g + s) + 1)) (lv' := [(5, .int (nI ((10 * g + s) + 1))), (6, .int ((z 1106 i) + (2 * (nI (10 * g + s))))), (0, .ref 1100), (1, .int x1), (2, .int (nI g)), (3, .int x3), (4, .int (nI i))]) dX11_years_172 rfl (nI_1 (10 * g + s)) (by decide) rfl ?_
                refine J_goto (tgt := 42) dX11_years_175 (by decide) ?_
                refine J_lv [2, 3, 4, 5, 6, 0] rfl ?_
                exact ih (s + 1) _ (by omega) (by omega) (by rw [yr_i_s, ← hz]; unfold yr_i_t; rw [if_neg c12, if_neg c13, if_pos c14, if_pos c15]) hm
              · refine J_aload_n dX11_years_149 rfl 1 rfl ?_
                refine J_getr (ci := 11) (j := 45) (t := 1146) dX11_years_150 fl_X11_96 (i1100 hI) rfl rfl rfl ?_
                refine J_iload dX11_years_153 5 rfl ?_
                refine J_iale (x := z 1146 i) dX11_years_155 (i1146 hI) rfl (ix_in (j := i) rfl (by omega) (by omega)) ((congrArg _ (ix_cl (j := i) rfl (by omega))).trans rfl) ?_
                refine J_iload dX11_years_156 0 rfl ?_
                refine J_iconst (x := 1) dX11_years_158 (by decide) ?_
                refine J_iadd dX11_years_159 ?_
                refine J_icmp_ne (tgt := 167) dX11_years_160 (by decide) (fun c16 => ?_) (fun c16 => ?_)
                · refine J_iconst (x := 0) dX11_years_167 (by decide) ?_
                  refine J_iadd dX11_years_168 ?_
                  refine J_puti (ci := 11) (j := 50) dX11_years_169 fl_X11_289 (i1100 hI) rfl rfl (fun q h => by cases h; rfl) rfl ?_
                  refine J_iinc (q := 6) (z := nI ((10 * g + s) + 1)) (lv' := [(5, .int (nI ((10 * g + s) + 1))), (6, .int ((z 1106 i) + (2 * (nI (10 * g + s))))), (0, .ref 1100), (1, .int x1), (2, .int (nI g)), (3, .int x3), (4, .int (nI i))]) dX11_years_172 rfl (nI_1 (10 * g + s)) (by decide) rfl ?_
                  refine J_goto (tgt := 42) dX11_years_175 (by decide) ?_
                  refine J_lv [2, 3, 4, 5, 6, 0] rfl ?_
                  exact ih (s + 1) _ (by omega) (by omega) (by rw [yr_i_s, ← hz]; unfold yr_i_t; rw [if_neg c12, if_neg c13, if_pos c14, if_neg c15, if_neg c16]) hm
                · refine J_iconst (x := 1) dX11_years_163 (by decide) ?_
                  refine J_goto (tgt := 168) dX11_years_164 (by decide) ?_
                  refine J_iadd dX11_years_168 ?_
                  refine J_puti (ci := 11) (j := 50) dX11_years_169 fl_X11_289 (i1100 hI) rfl rfl (fun q h => by cases h; rfl) rfl ?_
                  refine J_iinc (q := 6) (z := nI ((10 * g + s) + 1)) (lv' := [(5, .int (nI ((10 * g + s) + 1))), (6, .int ((z 1106 i) + (2 * (nI (10 * g + s))))), (0, .ref 1100), (1, .int x1), (2, .int (nI g)), (3, .int x3), (4, .int (nI i))]) dX11_years_172 rfl (nI_1 (10 * g + s)) (by decide) rfl ?_
                  refine J_goto (tgt := 42) dX11_years_175 (by decide) ?_
                  refine J_lv [2, 3, 4, 5, 6, 0] rfl ?_
                  exact ih (s + 1) _ (by omega) (by omega) (by rw [yr_i_s, ← hz]; unfold yr_i_t; rw [if_neg c12, if_neg c13, if_pos c14, if_neg c15, if_pos c16]) hm
            · refine J_iload dX11_years_107 0 rfl ?_
              refine J_aload_n dX11_years_109 rfl 1 rfl ?_
              refine J_getr (ci := 11) (j := 45) (t := 1146) dX11_years_110 fl_X11_96 (i1100 hI) rfl rfl rfl ?_
              refine J_iload dX11_years_113 5 rfl ?_
              refine J_iale (x := z 1146 i) dX11_years_115 (i1146 hI) rfl (ix_in (j := i) rfl (by omega) (by omega)) ((congrArg _ (ix_cl (j := i) rfl (by omega))).trans rfl) ?_
              refine J_icmp_le (tgt := 122) dX11_years_116 (by decide) (fun c17 => ?_) (fun c17 => ?_)
              · refine J_aload_n dX11_years_122 rfl 1 rfl ?_
                refine J_dup dX11_years_123 rfl ?_
                refine J_gete (ci := 11) (j := 49) (x := z 1100 49) dX11_years_124 fl_X11_286 (i1100 hI) rfl rfl rfl ?_
                refine J_iconst (x := 1) dX11_years_127 (by decide) ?_
                refine J_iadd dX11_years_128 ?_
                refine J_puti (ci := 11) (j := 49) dX11_years_129 fl_X11_286 (i1100 hI) rfl rfl (fun q h => by cases h; rfl) rfl ?_
                refine J_aload_n dX11_years_132 rfl 1 rfl ?_
                refine J_dup dX11_years_133 rfl ?_
                refine J_gete (ci := 11) (j := 50) (x := z 1100 50) dX11_years_134 fl_X11_289 (i1100 hI) rfl rfl rfl ?_
                refine J_aload_n dX11_years_137 rfl 1 rfl ?_
                refine J_getr (ci := 11) (j := 45) (t := 1146) dX11_years_138 fl_X11_96 (i1100 hI) rfl rfl rfl ?_
                refine J_iload dX11_years_141 5 rfl ?_
                refine J_iale (x := z 1146 i) dX11_years_143 (i1146 hI) rfl (ix_in (j := i) rfl (by omega) (by omega)) ((congrArg _ (ix_cl (j := i) rfl (by omega))).trans rfl) ?_
                refine J_iload dX11_years_144 0 rfl ?_
                refine J_icmp_eq (tgt := 163) dX11_years_146 (by decide) (fun c18 => ?_) (fun c18 => ?_)
                · refine J_iconst (x := 1) dX11_years_163 (by decide) ?_
                  refine J_goto (tgt := 168) dX11_years_164 (by decide) ?_
                  refine J_iadd dX11_years_168 ?_
                  refine J_puti (ci := 11) (j := 50) dX11_years_169 fl_X11_289 (i1100 hI) rfl rfl (fun q h => by cases h; rfl) rfl ?_
                  refine J_iinc (q := 6) (z := nI ((10 * g + s) + 1)) (lv' := [(5, .int (nI ((10 * g + s) + 1))), (6, .int ((z 1106 i) + (2 * (nI (10 * g + s))))), (0, .ref 1100), (1, .int x1), (2, .int (nI g)), (3, .int x3), (4, .int (nI i))]) dX11_years_172 rfl (nI_1 (10 * g + s)) (by decide) rfl ?_
                  refine J_goto (tgt := 42) dX11_years_175 (by decide) ?_
                  refine J_lv [2, 3, 4, 5, 6, 0] rfl ?_
                  exact ih (s + 1) _ (by omega) (by omega) (by rw [yr_i_s, ← hz]; unfold yr_i_t; rw [if_neg c12, if_neg c13, if_neg c14, if_pos c17, if_pos c18]) hm
                · refine J_aload_n dX11_years_149 rfl 1 rfl ?_
                  refine J_getr (ci := 11) (j := 45) (t := 1146) dX11_years_150 fl_X11_96 (i1100 hI) rfl rfl rfl ?_
                  refine J_iload dX11_years_153 5 rfl ?_
                  refine J_iale (x := z 1146 i) dX11_years_155 (i1146 hI) rfl (ix_in (j := i) rfl (by omega) (by omega)) ((congrArg _ (ix_cl (j := i) rfl (by omega))).trans rfl) ?_
                  refine J_iload dX11_years_156 0 rfl ?_
                  refine J_iconst (x := 1) dX11_years_158 (by decide) ?_
                  refine J_iadd dX11_years_159 ?_
                  refine J_icmp_ne (tgt := 167) dX11_years_160 (by decide) (fun c19 => ?_) (fun c19 => ?_)
                  · refine J_iconst (x := 0) dX11_years_167 (by decide) ?_
                    refine J_iadd dX11_years_168 ?_
                    refine J_puti (ci := 11) (j := 50) dX11_years_169 fl_X11_289 (i1100 hI) rfl rfl (fun q h => by cases h; rfl) rfl ?_
                    refine J_iinc (q := 6) (z := nI ((10 * g + s) + 1)) (lv' := [(5, .int (nI ((10 * g + s) + 1))), (6, .int ((z 1106 i) + (2 * (nI (10 * g + s))))), (0, .ref 1100), (1, .int x1), (2, .int (nI g)), (3, .int x3), (4, .int (nI i))]) dX11_years_172 rfl (nI_1 (10 * g + s)) (by decide) rfl ?_
                    refine J_goto (tgt := 42) dX11_years_175 (by decide) ?_
                    refine J_lv [2, 3, 4, 5, 6, 0] rfl ?_
                    exact ih (s + 1) _ (by omega) (by omega) (by rw [yr_i_s, ← hz]; unfold yr_i_t; rw [if_neg c12, if_neg c13, if_neg c14, if_pos c17, if_neg c18, if_neg c19]) hm
                  · refine J_iconst (x := 1) dX11_years_163 (by decide) ?_
                    refine J_goto (tgt := 168) dX11_years_164 (by decide) ?_
                    refine J_iadd dX11_years_168 ?_
                    refine J_puti (ci := 11) (j := 50) dX11_years_169 fl_X11_289 (i1100 hI) rfl rfl (fun q h => by cases h; rfl) rfl ?_
                    refine J_iinc (q := 6) (z := nI ((10 * g + s) + 1)) (lv' := [(5, .int (nI ((10 * g + s) + 1))), (6, .int ((z 1106 i) + (2 * (nI (10 * g + s))))), (0, .ref 1100), (1, .int x1), (2, .int (nI g)), (3, .int x3), (4, .int (nI i))]) dX11_years_172 rfl (nI_1 (10 * g + s)) (by decide) rfl ?_
                    refine J_goto (tgt := 42) dX11_years_175 (by decide) ?_
                    refine J_lv [2, 3, 4, 5, 6, 0] rfl ?_
                    exact ih (s + 1) _ (by omega) (by omega) (by rw [yr_i_s, ← hz]; unfold yr_i_t; rw [if_neg c12, if_neg c13, if_neg c14, if_pos c17, if_neg c18, if_pos c19]) hm
              · refine J_goto (tgt := 172) dX11_years_119 (by decide) ?_
                refine J_iinc (q := 6) (z := nI ((10 * g + s) + 1)) (lv' := [(5, .int (nI ((10 * g + s) + 1))), (6, .int ((z 1106 i) + (2 * (nI (10 * g + s))))), (0, .ref 1100), (1, .int x1), (2, .int (nI g)), (3, .int x3), (4, .int (nI i))]) dX11_years_172 rfl (nI_1 (10 * g + s)) (by decide) rfl ?_
                refine J_goto (tgt := 42) dX11_years_175 (by decide) ?_
                refine J_lv [2, 3, 4, 5, 6, 0] rfl ?_
                exact ih (s + 1) _ (by omega) (by omega) (by rw [yr_i_s, ← hz]; unfold yr_i_t; rw [if_neg c12, if_neg c13, if_neg c14, if_neg c17]) hm
def yr_o_t (x1 x3 : Int32) (g i : Nat) (z : fr_V) : fr_V := if z 1107 i = x1 then yr_i x3 g i z (yrN g) else z
def yr_o (x1 x3 : Int32) (g : Nat) (w0 : fr_V) : Nat → fr_V
  | 0 => w0
  | i + 1 => yr_o_t x1 x3 g i (yr_o x1 x3 g w0 i)
theorem yr_o_s (x1 x3 : Int32) (g : Nat) (w0 : fr_V) (i : Nat) : yr_o x1 x3 g w0 (i + 1) = yr_o_t x1 x3 g i (yr_o x1 x3 g w0 i) := rfl
theorem yr_o_L {l : Launch} {I : List Nat} (hI : fr_I I) (u : fr_U) (x1 x3 : Int32) (g : Nat) (hg : g ≤ 9) (n : Nat) (hn : n ≤ 12) (w0 : fr_V) : ∀ (d i : Nat) (z : fr_V) (hd : n - i < d) (hi : i ≤ n) (hz : z = yr_o x1 x3 g w0 i) (hm : z 1100 4 = nI n), J l mX11_years I z u 13 [(0, .ref 1100), (1, .int x1), (2, .int (nI g)), (3, .int x3), (4, .int (nI i))] [] (QN u (fun a => a = yr_o x1 x3 g w0 n)) := by
  intro d
  induction d with
  | zero => intros; omega
  | succ d ih =>
    intro i z hd hi hz hm
    refine J_iload dX11_years_13 4 rfl ?_
    refine J_aload_n dX11_years_15 rfl 0 rfl ?_
    refine J_gete (ci := 11) (j := 4) (x := nI n) dX11_years_16 fl_X11_211 (i1100 hI) rfl rfl hm ?_
    refine J_icmp_ge (tgt := 184) dX11_years_19 (by decide) (fun c1 => ?_) (fun c1 => ?_)
    · exact J_vret dX11_years_184 rfl ⟨rfl, rfl, by have e : i = n := by {have := nz_le (by omega) (by omega) c1; omega}; rw [hz, e]⟩
    · have hin : i < n := nz_nle (by omega) (by omega) c1
      refine J_aload_n dX11_years_22 rfl 0 rfl ?_
      refine J_getr (ci := 11) (j := 6) (t := 1107) dX11_years_23 fl_X11_16 (i1100 hI) rfl rfl rfl ?_
      refine J_iload dX11_years_26 4 rfl ?_
      refine J_iale (x := z 1107 i) dX11_years_28 (i1107 hI) rfl (ix_in (j := i) rfl (by omega) (by omega)) ((congrArg _ (ix_cl (j := i) rfl (by omega))).trans rfl) ?_
      refine J_iload_n dX11_years_29 rfl 1 rfl ?_
      refine J_icmp_eq (tgt := 36) dX11_years_30 (by decide) (fun c2 => ?_) (fun c2 => ?_)
      · refine J_bipush (x := 10) dX11_years_36 (by decide) ?_
        refine J_iload_n dX11_years_38 rfl 2 rfl ?_
        refine J_imul dX11_years_39 ?_
        refine J_istore (lv' := [(5, .int (10 * (nI g))), (0, .ref 1100), (1, .int x1), (2, .int (nI g)), (3, .int x3), (4, .int (nI i))]) dX11_years_40 (by decide) rfl ?_
        refine J_lv [1, 2, 3, 4, 5, 0] rfl ?_
        rw [show (10 : Int32) * nI g = nI (10 * g + 0) from pk_mul 10 g]
        refine yr_i_L hI u x1 x3 g i hg n hin hn z (fun z2 hz2 hm2 => ?_) (yrN g + 1) 0 _ (by omega) (by omega) rfl hm
        refine J_iinc (q := 4) (z := nI (i + 1)) (lv' := [(4, .int (nI (i + 1))), (0, .ref 1100), (1, .int x1), (2, .int (nI g)), (3, .int x3)]) dX11_years_178 rfl (nI_1 i) (by decide) rfl ?_
        refine J_goto (tgt := 13) dX11_years_181 (by decide) ?_
        refine J_lv [1, 2, 3, 4, 0] rfl ?_
        exact ih (i + 1) _ (by omega) (by omega) (by rw [yr_o_s, ← hz]; unfold yr_o_t; rw [if_pos c2]; exact hz2) hm2
      · refine J_goto (tgt := 178) dX11_years_33 (by decide) ?_
        refine J_iinc (q := 4) (z := nI (i + 1)) (lv' := [(4, .int (nI (i + 1))), (0, .ref 1100), (1, .int x1), (2, .int (nI g)), (3, .int x3)]) dX11_years_178 rfl (nI_1 i) (by decide) rfl ?_
        refine J_goto (tgt := 13) dX11_years_181 (by decide) ?_
        refine J_lv [1, 2, 3, 4, 0] rfl ?_
        exact ih (i + 1) _ (by omega) (by omega) (by rw [yr_o_s, ← hz]; unfold yr_o_t; rw [if_neg c2]) hm
def f_years (v : fr_V) (n g : Nat) (x1 x3 : Int32) : fr_V := yr_o x1 x3 g (up2 (up2 v 1100 49 0) 1100 50 0) n
theorem k_X11_years {l : Launch} {I : List Nat} (hI : fr_I I) (v : fr_V) (u : fr_U) (n g : Nat) (hn : n ≤ 12) (hg : g ≤ 9) (hm : v 1100 4 = nI n) (x1 x3 : Int32) : Con l mX11_years I v u [.ref 1100, .int x1, .int (nI g), .int x3] (QN u (fun a => a = f_years v n g x1 x3)) := by
  refine Con.of (by decide) (Nat.le_of_ble_eq_true rfl) ?_
  show J l mX11_years I v u 0 [(0, .ref 1100), (1, .int x1), (2, .int (nI g)), (3, .int x3)] [] _
  refine J_aload_n dX11_years_0 rfl 0 rfl ?_
  refine J_iconst (x := 0) dX11_years_1 (by decide) ?_
  refine J_puti (ci := 11) (j := 49) dX11_years_2 fl_X11_286 (i1100 hI) rfl rfl (fun q h => by cases h; rfl) rfl ?_
  refine J_aload_n dX11_years_5 rfl 0 rfl ?_
  refine J_iconst (x := 0) dX11_years_6 (by decide) ?_
  refine J_puti (ci := 11) (j := 50) dX11_years_7 fl_X11_289 (i1100 hI) rfl rfl (fun q h => by cases h; rfl) rfl ?_
  refine J_iconst (x := 0) dX11_years_10 (by decide) ?_
  refine J_istore (lv' := [(4, .int 0), (0, .ref 1100), (1, .int x1), (2, .int (nI g)), (3, .int x3)]) dX11_years_11 (by decide) rfl ?_
  refine J_lv [1, 2, 3, 4, 0] rfl ?_
  exact yr_o_L hI u x1 x3 g hg n hn (up2 (up2 v 1100 49 0) 1100 50 0) (n + 1) 0 _ (by omega) (by omega) rfl hm
def sp_bo (Y : Int32 → Int32 → Int32) (f g : Nat → Int32) : Nat → Int32 → Int32
  | 0, w => w
  | s + 1, w => sp_bo Y f g s (Y w (f s * g s / 1000))
theorem sp_bo_s (Y : Int32 → Int32 → Int32) (f g : Nat → Int32) (s : Nat) (w : Int32) : sp_bo Y f g (s + 1) w = sp_bo Y f g s (Y w (f s * g s / 1000)) := rfl
theorem bo_L {l : Launch} {I : List Nat} (hI : fr_I I) (v : fr_V) (u : fr_U) (x1 x2 : Int32) (h1 : vp_in x1 12) (h2 : vp_in x2 12) (i1 i2 : Nat) (hi1 : i1 ≤ 3) (hi2 : i2 ≤ 3) (hc1 : v 1107 x1.toNatClampNeg = nI i1) (hc2 : v 1107 x2.toNatClampNeg = nI i2) (hr : ¬ v 1141 2 + 1 = 0) (P Q0 : Nat) (hP : P < 1000) (hQ : Q0 < 1000) : ∀ (t : Nat) (w : Int32) (ht : t ≤ 100), J l mX11_bothOf I v u 41 [(0, .ref 1100), (1, .int x1), (2, .int x2), (3, .int (nI P)), (4, .int (nI Q0)), (5, .int w), (6, .int (nI t - 1))] [] (QI v u (fun a => a = sp_bo (f_X11_yearBack v) (fun t => f_X11_liveOf v x1 (nI P + nI t)) (fun t => f_X11_liveOf v x2 (nI Q0 + nI t)) t w)) := by
  intro t
  induction t with
  | zero =>
    intro w ht
    refine J_iload dX11_bothOf_41 6 rfl ?_
    refine J_if_lt (tgt := 84) dX11_bothOf_43 (by decide) (fun c1 => ?_) (fun c1 => absurd dn_0 c1)
    refine J_iload dX11_bothOf_84 5 rfl ?_
    exact J_iret dX11_bothOf_86 rfl ⟨_, rfl, rfl, rfl, rfl⟩
  | succ s ih =>
    intro w ht
    rw [nI_pred]
    refine J_iload dX11_bothOf_41 6 rfl ?_
    refine J_if_lt (tgt := 84) dX11_bothOf_43 (by decide) (fun c1 => absurd c1 (nI_pos (by omega))) (fun c1 => ?_)
    refine J_aload_n dX11_bothOf_46 rfl 0 rfl ?_
    refine J_iload dX11_bothOf_47 5 rfl ?_
    refine J_aload_n dX11_bothOf_49 rfl 0 rfl ?_
    refine J_iload_n dX11_bothOf_50 rfl 1 rfl ?_
    refine J_iload_n dX11_bothOf_51 rfl 3 rfl ?_
    refine J_iload dX11_bothOf_52 6 rfl ?_
    refine J_iadd dX11_bothOf_54 ?_
    refine J_eVI (z := mX11_liveOf) (As := [.int x1, .int ((nI P) + (nI s))]) (rest := [.int w, .ref 1100]) (ci := 11) (x := f_X11_liveOf v  x1 ((nI P) + (nI s))) dX11_bothOf_55 ml_X11_302 ok_X11_liveOf iv_X11_liveOf (by decide) (i1100 hI) rfl rfl rfl rfl (Nat.le_of_ble_eq_true rfl) (k_X11_liveOf hI v u _ _ h1 (lo_in (v := v) hi1 hc1 (grp_in (s := P + s) (by omega) (nI_add P s)))) ?_
    refine J_aload_n dX11_bothOf_58 rfl 0 rfl ?_
    refine J_iload_n dX11_bothOf_59 rfl 2 rfl ?_
    refine J_iload dX11_bothOf_60 4 rfl ?_
    refine J_iload dX11_bothOf_62 6 rfl ?_
    refine J_iadd dX11_bothOf_64 ?_
    refine J_eVI (z := mX11_liveOf) (As := [.int x2, .int ((nI Q0) + (nI s))]) (rest := [.int (f_X11_liveOf v  x1 ((nI P) + (nI s))), .int w, .ref 1100]) (ci := 11) (x := f_X11_liveOf v  x2 ((nI Q0) + (nI s))) dX11_bothOf_65 ml_X11_302 ok_X11_liveOf iv_X11_liveOf (by decide) (i1100 hI) rfl rfl rfl rfl (Nat.le_of_ble_eq_true rfl) (k_X11_liveOf hI v u _ _ h2 (lo_in (v := v) hi2 hc2 (grp_in (s := Q0 + s) (by omega) (nI_add Q0 s)))) ?_
    refine J_imul dX11_bothOf_68 ?_
    refine J_sipush (x := 1000) dX11_bothOf_69 (by decide) ?_
    refine J_idiv dX11_bothOf_72 (by decide) ?_
    refine J_eVI (z := mX11_yearBack) (As := [.int w, .int (((f_X11_liveOf v  x1 ((nI P) + (nI s))) * (f_X11_liveOf v  x2 ((nI Q0) + (nI s)))) / 1000)]) (rest := []) (ci := 11) (x := f_X11_yearBack v  w (((f_X11_liveOf v  x1 ((nI P) + (nI s))) * (f_X11_liveOf v  x2 ((nI Q0) + (nI s)))) / 1000)) dX11_bothOf_73 ml_X11_305 ok_X11_yearBack iv_X11_yearBack (by decide) (i1100 hI) rfl rfl rfl rfl (Nat.le_of_ble_eq_true rfl) (k_X11_yearBack hI v u _ _ hr) ?_
    refine J_istore (lv' := [(5, .int (f_X11_yearBack v  w (((f_X11_liveOf v  x1 ((nI P) + (nI s))) * (f_X11_liveOf v  x2 ((nI Q0) + (nI s)))) / 1000))), (0, .ref 1100), (1, .int x1), (2, .int x2), (3, .int (nI P)), (4, .int (nI Q0)), (6, .int (nI s))]) dX11_bothOf_76 (by decide) rfl ?_
    refine J_iinc (q := 6) (z := nI s - 1) (lv' := [(6, .int (nI s - 1)), (5, .int (f_X11_yearBack v  w (((f_X11_liveOf v  x1 ((nI P) + (nI s))) * (f_X11_liveOf v  x2 ((nI Q0) + (nI s)))) / 1000))), (0, .ref 1100), (1, .int x1), (2, .int x2), (3, .int (nI P)), (4, .int (nI Q0))]) dX11_bothOf_78 rfl (dn_1 s) (by decide) rfl ?_
    refine J_goto (tgt := 41) dX11_bothOf_81 (by decide) ?_
    refine J_lv [2, 3, 4, 5, 6, 1, 0] rfl ?_
    rw [sp_bo_s]
    exact ih _ (by omega)
theorem dn_99 {m : Nat} (h : m < 2 ^ 30) : ∃ t, t ≤ 100 ∧ t = 100 - m ∧ (nI (99 - m + 1) - 1 = (99 : Int32) - nI m ∨ ((99 : Int32) - nI m < 0)) := by
  refine ⟨100 - m, by omega, rfl, ?_⟩
  by_cases hm : m ≤ 99
  · left
    rw [nI_pred]
    exact (pk_sub (a := 99) hm).symm
  · right
    exact pk_sneg (a := 99) (by omega) (by omega)
