theorem nz_lt {a b : Nat} (ha : a < 2 ^ 31) (hb : b < 2 ^ 31) (h : nI a < nI b) : a < b := (nI_ltI ha hb).mp h
theorem nz_nlt {a b : Nat} (ha : a < 2 ^ 31) (hb : b < 2 ^ 31) (h : ¬ nI a < nI b) : b ≤ a := Nat.le_of_not_lt (fun q => h ((nI_ltI ha hb).mpr q))
/-- what the payments need of the state -/
def py_ok (nr N NS ar : Nat) (z : fr_V) : Prop := z 1100 7 = nI nr ∧ nr ≤ 16 ∧ z 1100 16 = nI N ∧ nt_ok (z 1118) (z 1119) N ∧ z 1100 14 = nI NS ∧ NS ≤ 40 ∧ z 1141 0 = nI ar ∧ ar ≤ 40 ∧ ∀ r, r < nr → (¬ z 1111 r = (-1) → vp_in (z 1111 r) 12) ∧ (¬ z 1112 r = (-1) → vp_in (z 1112 r) 12)
def py_same (z w : fr_V) : Prop := z 1100 7 = w 1100 7 ∧ z 1100 16 = w 1100 16 ∧ z 1100 14 = w 1100 14 ∧ z 1118 = w 1118 ∧ z 1119 = w 1119 ∧ z 1141 = w 1141 ∧ z 1111 = w 1111 ∧ z 1112 = w 1112
theorem py_ok.of {nr N NS ar : Nat} {z w : fr_V} (h : py_ok nr N NS ar w) (e : py_same z w) : py_ok nr N NS ar z := by
  obtain ⟨e1, e2, e3, e4, e5, e6, e7, e8⟩ := e
  unfold py_ok
  rw [e1, e2, e3, e4, e5, e6, e7, e8]
  exact h
theorem py_same_row {z : fr_V} {k i : Nat} {x : Int32} (hk : k = 1147 ∨ k = 1148) : py_same (up2 z k i x) z := by
  rcases hk with rfl | rfl <;> exact ⟨rfl, rfl, rfl, rfl, rfl, rfl, rfl, rfl⟩
theorem py_same_48 {z : fr_V} {x : Int32} : py_same (up2 z 1100 48 x) z := ⟨rfl, rfl, rfl, rfl, rfl, rfl, rfl, rfl⟩
theorem py_same_sh {z : fr_V} {NS r : Nat} {k : Int32} : py_same (f_shares z NS r k) z := ⟨rfl, rfl, rfl, rfl, rfl, rfl, rfl, rfl⟩
theorem py_same.tr {a b c : fr_V} (h : py_same a b) (g : py_same b c) : py_same a c := by
  obtain ⟨h1, h2, h3, h4, h5, h6, h7, h8⟩ := h
  obtain ⟨g1, g2, g3, g4, g5, g6, g7, g8⟩ := g
  exact ⟨h1.trans g1, h2.trans g2, h3.trans g3, h4.trans g4, h5.trans g5, h6.trans g6, h7.trans g7, h8.trans g8⟩
theorem py_same_kn {z : fr_V} {N : Nat} {k : Int32} : py_same (f_know z N k) z := by
  unfold py_same
  rw [f_know_m (by decide) (by decide), f_know_m (by decide) (by decide), f_know_m (by decide) (by decide), f_know_m (by decide) (by decide), f_know_m (by decide) (by decide), f_know_m (by decide) (by decide)]
  exact ⟨rfl, rfl, rfl, rfl, rfl, rfl, rfl, rfl⟩
noncomputable def f_isProved (v : fr_V) (N r : Nat) (h : Int32) : Int32 := cI (∃ i, i < N ∧ pvP v r h i)
noncomputable def py_h_t (N NS r k h : Nat) (z : fr_V) : fr_V := if z 1147 (80 * r + h) = (-1) then (if f_X11_isDue z (nI r) (nI h) = 0 then z else if f_isProved z N r (nI h) = 0 then z else f_shares (up2 z 1147 (80 * r + h) (nI k)) NS r (nI k)) else z
noncomputable def py_h (N NS r k h0 : Nat) (w0 : fr_V) : Nat → fr_V
  | 0 => w0
  | s + 1 => py_h_t N NS r k (h0 + s) (py_h N NS r k h0 w0 s)
theorem py_h_s (N NS r k h0 : Nat) (w0 : fr_V) (s : Nat) : py_h N NS r k h0 w0 (s + 1) = py_h_t N NS r k (h0 + s) (py_h N NS r k h0 w0 s) := rfl
theorem py_h_L {l : Launch} {I : List Nat} (hI : fr_I I) (u : fr_U) (x1 : Int32) (nr N NS ar r k h0 : Nat) (hr : r < nr) (hnr : nr ≤ 16) (hk80 : k < 80) (hh0 : h0 ≤ k) (w0 : fr_V) {Q : Option Value → fr_V → fr_U → Prop} (hk : ∀ z : fr_V, z = py_h N NS r k h0 w0 (k + 1 - h0) → py_ok nr N NS ar z → J l mX11_pays I z u 165 [(0, .ref 1100), (1, .int x1), (2, .int (nI k)), (3, .int (nI r))] [] Q) : ∀ (d s : Nat) (z : fr_V) (hd : k + 1 - h0 - s < d) (hs : s ≤ k + 1 - h0) (hz : z = py_h N NS r k h0 w0 s) (hv : py_ok nr N NS ar z), J l mX11_pays I z u 95 [(0, .ref 1100), (1, .int x1), (2, .int (nI k)), (3, .int (nI r)), (4, .int (nI (h0 + s)))] [] Q := by
  intro d
  induction d with
  | zero => intros; omega
  | succ d ih =>
    intro s z hd hs hz hv
    refine J_iload dX11_pays_95 4 rfl ?_
    refine J_iload_n dX11_pays_97 rfl 2 rfl ?_
    refine J_icmp_gt (tgt := 165) dX11_pays_98 (by decide) (fun c1 => ?_) (fun c1 => ?_)
    · have e : s = k + 1 - h0 := by have := nz_lt (by omega) (by omega) c1; omega
      refine J_lv [0, 1, 2, 3] rfl ?_
      rw [e] at hz
      exact hk z hz hv
    · have hsk : h0 + s ≤ k := nz_nlt (by omega) (by omega) c1
      refine J_aload_n dX11_pays_101 rfl 0 rfl ?_
      refine J_getr (ci := 11) (j := 46) (t := 1147) dX11_pays_102 fl_X11_99 (i1100 hI) rfl rfl rfl ?_
      refine J_bipush (x := 80) dX11_pays_105 (by decide) ?_
      refine J_iload_n dX11_pays_107 rfl 3 rfl ?_
      refine J_imul dX11_pays_108 ?_
      refine J_iload dX11_pays_109 4 rfl ?_
      refine J_iadd dX11_pays_111 ?_
      refine J_iale (x := z 1147 ((80 * r) + (h0 + s))) dX11_pays_112 (i1147 hI) rfl (ix_in (j := (80 * r) + (h0 + s)) (by show ((nI 80) * (nI r)) + (nI (h0 + s)) = _; simp only [nI_add, pk_mul]) (by omega) (by omega)) ((congrArg _ (ix_cl (j := (80 * r) + (h0 + s)) (by show ((nI 80) * (nI r)) + (nI (h0 + s)) = _; simp only [nI_add, pk_mul]) (by omega))).trans rfl) ?_
      refine J_iconst (x := (-1)) dX11_pays_113 (by decide) ?_
      refine J_icmp_ne (tgt := 159) dX11_pays_114 (by decide) (fun c2 => ?_) (fun c2 => ?_)
      · refine J_iinc (q := 4) (z := nI ((h0 + s) + 1)) (lv' := [(4, .int (nI ((h0 + s) + 1))), (0, .ref 1100), (1, .int x1), (2, .int (nI k)), (3, .int (nI r))]) dX11_pays_159 rfl (nI_1 (h0 + s)) (by decide) rfl ?_
        refine J_goto (tgt := 95) dX11_pays_162 (by decide) ?_
        refine J_lv [1, 2, 3, 4, 0] rfl ?_
        exact ih (s + 1) _ (by omega) (by omega) (by rw [py_h_s, ← hz]; unfold py_h_t; rw [if_neg c2]) hv
      · refine J_aload_n dX11_pays_117 rfl 0 rfl ?_
        refine J_iload_n dX11_pays_118 rfl 3 rfl ?_
        refine J_iload dX11_pays_119 4 rfl ?_
        refine J_eVI (z := mX11_isDue) (As := [.int (nI r), .int (nI (h0 + s))]) (rest := []) (ci := 11) (x := f_X11_isDue z (nI r) (nI (h0 + s))) dX11_pays_121 ml_X11_269 ok_X11_isDue iv_X11_isDue (by decide) (i1100 hI) rfl rfl rfl rfl (Nat.le_of_ble_eq_true rfl) (k_X11_isDue hI z u _ _ (vp_in_nI (by omega) (by omega)) (by rw [nI_clamp (by omega)]; exact (hv.2.2.2.2.2.2.2.2 r hr).1) (by rw [nI_clamp (by omega)]; exact (hv.2.2.2.2.2.2.2.2 r hr).2)) ?_
        refine J_if_eq (tgt := 159) dX11_pays_124 (by decide) (fun c3 => ?_) (fun c3 => ?_)
        · refine J_iinc (q := 4) (z := nI ((h0 + s) + 1)) (lv' := [(4, .int (nI ((h0 + s) + 1))), (0, .ref 1100), (1, .int x1), (2, .int (nI k)), (3, .int (nI r))]) dX11_pays_159 rfl (nI_1 (h0 + s)) (by decide) rfl ?_
          refine J_goto (tgt := 95) dX11_pays_162 (by decide) ?_
          refine J_lv [1, 2, 3, 4, 0] rfl ?_
          exact ih (s + 1) _ (by omega) (by omega) (by rw [py_h_s, ← hz]; unfold py_h_t; rw [if_pos c2, if_pos c3]) hv
        · refine J_aload_n dX11_pays_127 rfl 0 rfl ?_
          refine J_iload_n dX11_pays_128 rfl 3 rfl ?_
          refine J_iload dX11_pays_129 4 rfl ?_
          refine J_eVI (z := mX11_isProved) (As := [.int (nI r), .int (nI (h0 + s))]) (rest := []) (ci := 11) (x := f_isProved z N r (nI (h0 + s))) dX11_pays_131 ml_X11_272 ok_X11_isProved iv_X11_isProved (by decide) (i1100 hI) rfl rfl rfl rfl (Nat.le_of_ble_eq_true rfl) (k_X11_isProved hI z u r (by omega) _ N hv.2.2.1 hv.2.2.2.1) ?_
          refine J_if_ne (tgt := 140) dX11_pays_134 (by decide) (fun c4 => ?_) (fun c4 => ?_)
          · refine J_aload_n dX11_pays_140 rfl 0 rfl ?_
            refine J_getr (ci := 11) (j := 46) (t := 1147) dX11_pays_141 fl_X11_99 (i1100 hI) rfl rfl rfl ?_
            refine J_bipush (x := 80) dX11_pays_144 (by decide) ?_
            refine J_iload_n dX11_pays_146 rfl 3 rfl ?_
            refine J_imul dX11_pays_147 ?_
            refine J_iload dX11_pays_148 4 rfl ?_
            refine J_iadd dX11_pays_150 ?_
            refine J_iload_n dX11_pays_151 rfl 2 rfl ?_
            refine J_iase (j := (80 * r) + (h0 + s)) dX11_pays_152 (i1147 hI) rfl (ix_in (j := (80 * r) + (h0 + s)) (by show ((nI 80) * (nI r)) + (nI (h0 + s)) = _; simp only [nI_add, pk_mul]) (by omega) (by omega)) (ix_cl (j := (80 * r) + (h0 + s)) (by show ((nI 80) * (nI r)) + (nI (h0 + s)) = _; simp only [nI_add, pk_mul]) (by omega)) ?_
            refine J_aload_n dX11_pays_153 rfl 0 rfl ?_
            refine J_iload_n dX11_pays_154 rfl 3 rfl ?_
            refine J_iload_n dX11_pays_155 rfl 2 rfl ?_
            refine J_eVN (z := mX11_shares) (As := [.int (nI r), .int (nI k)]) (rest := []) (ci := 11) (w := f_shares (up2 z 1147 ((80 * r) + (h0 + s)) (nI k)) NS r (nI k)) dX11_pays_156 ml_X11_275 ok_X11_shares iv_X11_shares (by decide) (i1100 hI) rfl rfl rfl rfl (Nat.le_of_ble_eq_true rfl) (k_X11_shares hI (up2 z 1147 ((80 * r) + (h0 + s)) (nI k)) u NS r (by omega) hv.2.2.2.2.1 hv.2.2.2.2.2.1 _) ?_
            refine J_iinc (q := 4) (z := nI ((h0 + s) + 1)) (lv' := [(4, .int (nI ((h0 + s) + 1))), (0, .ref 1100), (1, .int x1), (2, .int (nI k)), (3, .int (nI r))]) dX11_pays_159 rfl (nI_1 (h0 + s)) (by decide) rfl ?_
            refine J_goto (tgt := 95) dX11_pays_162 (by decide) ?_
            refine J_lv [1, 2, 3, 4, 0] rfl ?_
            exact ih (s + 1) _ (by omega) (by omega) (by rw [py_h_s, ← hz]; unfold py_h_t; rw [if_pos c2, if_neg c3, if_neg c4]) (hv.of (py_same_sh.tr (py_same_row (Or.inl rfl))))
          · refine J_goto (tgt := 159) dX11_pays_137 (by decide) ?_
            refine J_iinc (q := 4) (z := nI ((h0 + s) + 1)) (lv' := [(4, .int (nI ((h0 + s) + 1))), (0, .ref 1100), (1, .int x1), (2, .int (nI k)), (3, .int (nI r))]) dX11_pays_159 rfl (nI_1 (h0 + s)) (by decide) rfl ?_
            refine J_goto (tgt := 95) dX11_pays_162 (by decide) ?_
            refine J_lv [1, 2, 3, 4, 0] rfl ?_
            exact ih (s + 1) _ (by omega) (by omega) (by rw [py_h_s, ← hz]; unfold py_h_t; rw [if_pos c2, if_neg c3, if_pos c4]) hv
noncomputable def py_r (N NS ar k : Nat) (w0 : fr_V) : Nat → fr_V
  | 0 => w0
  | r + 1 => py_h N NS r k (k - ar) (py_r N NS ar k w0 r) (k + 1 - (k - ar))
theorem py_r_s (N NS ar k : Nat) (w0 : fr_V) (r : Nat) : py_r N NS ar k w0 (r + 1) = py_h N NS r k (k - ar) (py_r N NS ar k w0 r) (k + 1 - (k - ar)) := rfl
theorem py_0 {k ar : Nat} (hk : k < 80) (ha : ar ≤ 40) (h : ¬ (0 : Int32) ≤ nI k - nI ar) : k - ar = 0 := by
  by_cases q : ar ≤ k
  · rw [pk_sub q] at h; exact absurd (nI_pos' (by omega)) h
  · omega
theorem py_1 {k ar : Nat} (hk : k < 80) (ha : ar ≤ 40) (h : (0 : Int32) ≤ nI k - nI ar) : nI k - nI ar = nI (k - ar + 0) := by
  by_cases q : ar ≤ k
  · exact pk_sub q
  · have := pk_sneg (a := k) (b := ar) (by omega) (by omega)
    exact absurd this (Int32.not_lt.mpr h)
theorem J_li {l : Launch} {y : fr_M} {I : List Nat} {v : fr_V} {u : fr_U} {Q : Option Value → fr_V → fr_U → Prop} {pc : Nat} {q0 q1 q2 q3 : Nat × Value} {i : Nat} {a b : Int32} {st : List Value} (h : a = b) (k : J l y I v u pc [q0, q1, q2, q3, (i, .int b)] st Q) : J l y I v u pc [q0, q1, q2, q3, (i, .int a)] st Q := by subst h; exact k
theorem py_r_L {l : Launch} {I : List Nat} (hI : fr_I I) (u : fr_U) (x1 : Int32) (nr N NS ar k : Nat) (hk80 : k < 80) (w0 : fr_V) (hnr : nr ≤ 16) {Q : Option Value → fr_V → fr_U → Prop} (hk : ∀ z : fr_V, z = py_r N NS ar k w0 nr → py_ok nr N NS ar z → J l mX11_pays I z u 171 [(0, .ref 1100), (1, .int x1), (2, .int (nI k))] [] Q) : ∀ (d r : Nat) (z : fr_V) (hd : nr - r < d) (hr : r ≤ nr) (hz : z = py_r N NS ar k w0 r) (hv : py_ok nr N NS ar z), J l mX11_pays I z u 62 [(0, .ref 1100), (1, .int x1), (2, .int (nI k)), (3, .int (nI r))] [] Q := by
  intro d
  induction d with
  | zero => intros; omega
  | succ d ih =>
    intro r z hd hr hz hv
    refine J_iload_n dX11_pays_62 rfl 3 rfl ?_
    refine J_aload_n dX11_pays_63 rfl 0 rfl ?_
    refine J_gete (ci := 11) (j := 7) (x := nI nr) dX11_pays_64 fl_X11_233 (i1100 hI) rfl rfl hv.1 ?_
    refine J_icmp_ge (tgt := 171) dX11_pays_67 (by decide) (fun c1 => ?_) (fun c1 => ?_)
    · have e : r = nr := by have := nz_le (by omega) (by omega) c1; omega
      refine J_lv [0, 1, 2] rfl ?_
      rw [e] at hz
      exact hk z hz hv
    · have hrn : r < nr := nz_nle (by omega) (by omega) c1
      have har : ar ≤ 40 := hv.2.2.2.2.2.2.2.1
      refine J_iload_n dX11_pays_70 rfl 2 rfl ?_
      refine J_aload_n dX11_pays_71 rfl 0 rfl ?_
      refine J_getr (ci := 11) (j := 40) (t := 1141) dX11_pays_72 fl_X11_86 (i1100 hI) rfl rfl rfl ?_
      refine J_iconst (x := 0) dX11_pays_75 (by decide) ?_
      refine J_iale (x := nI ar) dX11_pays_76 (i1141 hI) rfl (ix_in (j := 0) rfl (by omega) (by omega)) ((congrArg _ (ix_cl (j := 0) rfl (by omega))).trans hv.2.2.2.2.2.2.1) ?_
      refine J_isub dX11_pays_77 ?_
      refine J_if_ge (tgt := 85) dX11_pays_78 (by decide) (fun c2 => ?_) (fun c2 => ?_)
      · refine J_iload_n dX11_pays_85 rfl 2 rfl ?_
        refine J_aload_n dX11_pays_86 rfl 0 rfl ?_
        refine J_getr (ci := 11) (j := 40) (t := 1141) dX11_pays_87 fl_X11_86 (i1100 hI) rfl rfl rfl ?_
        refine J_iconst (x := 0) dX11_pays_90 (by decide) ?_
        refine J_iale (x := nI ar) dX11_pays_91 (i1141 hI) rfl (ix_in (j := 0) rfl (by omega) (by omega)) ((congrArg _ (ix_cl (j := 0) rfl (by omega))).trans hv.2.2.2.2.2.2.1) ?_
        refine J_isub dX11_pays_92 ?_
        refine J_istore (lv' := [(4, .int ((nI k) - (nI ar))), (0, .ref 1100), (1, .int x1), (2, .int (nI k)), (3, .int (nI r))]) dX11_pays_93 (by decide) rfl ?_
        refine J_lv [1, 2, 3, 4, 0] rfl ?_
        rw [py_1 hk80 hv.2.2.2.2.2.2.2.1 c2]
        refine py_h_L hI u x1 nr N NS ar r k (k - ar) hrn hv.2.1 hk80 (by omega) z (fun z2 hz2 hv2 => ?_) (k + 1 - (k - ar) + 1) 0 _ (by omega) (by omega) rfl hv
        refine J_iinc (q := 3) (z := nI (r + 1)) (lv' := [(3, .int (nI (r + 1))), (0, .ref 1100), (1, .int x1), (2, .int (nI k))]) dX11_pays_165 rfl (nI_1 r) (by decide) rfl ?_
        refine J_goto (tgt := 62) dX11_pays_168 (by decide) ?_
        refine J_lv [1, 2, 3, 0] rfl ?_
        exact ih (r + 1) _ (by omega) (by omega) (by rw [py_r_s, ← hz]; exact hz2) hv2
      · refine J_iconst (x := 0) dX11_pays_81 (by decide) ?_
        refine J_goto (tgt := 93) dX11_pays_82 (by decide) ?_
        refine J_istore (lv' := [(4, .int 0), (0, .ref 1100), (1, .int x1), (2, .int (nI k)), (3, .int (nI r))]) dX11_pays_93 (by decide) rfl ?_
        refine J_lv [1, 2, 3, 4, 0] rfl ?_
        have e0 : (0 : Int32) = nI (k - ar + 0) := by rw [py_0 hk80 hv.2.2.2.2.2.2.2.1 c2]; rfl
        refine J_li (a := 0) (b := nI (k - ar + 0)) e0 ?_
        refine py_h_L hI u x1 nr N NS ar r k (k - ar) hrn hv.2.1 hk80 (by omega) z (fun z2 hz2 hv2 => ?_) (k + 1 - (k - ar) + 1) 0 _ (by omega) (by omega) rfl hv
        refine J_iinc (q := 3) (z := nI (r + 1)) (lv' := [(3, .int (nI (r + 1))), (0, .ref 1100), (1, .int x1), (2, .int (nI k))]) dX11_pays_165 rfl (nI_1 r) (by decide) rfl ?_
        refine J_goto (tgt := 62) dX11_pays_168 (by decide) ?_
        refine J_lv [1, 2, 3, 0] rfl ?_
        exact ih (r + 1) _ (by omega) (by omega) (by rw [py_r_s, ← hz]; exact hz2) hv2
noncomputable def py_k (nr N NS ar : Nat) (w0 : fr_V) : Nat → fr_V
  | 0 => w0
  | k + 1 => py_r N NS ar k (f_know (py_k nr N NS ar w0 k) N (nI k)) nr
theorem py_k_s (nr N NS ar : Nat) (w0 : fr_V) (k : Nat) : py_k nr N NS ar w0 (k + 1) = py_r N NS ar k (f_know (py_k nr N NS ar w0 k) N (nI k)) nr := rfl
theorem py_k_L {l : Launch} {I : List Nat} (hI : fr_I I) (u : fr_U) (nr N NS ar E : Nat) (hE : E < 80) (w0 : fr_V) : ∀ (d k : Nat) (z : fr_V) (hd : E + 1 - k < d) (hk : k ≤ E + 1) (hz : z = py_k nr N NS ar w0 k) (hv : py_ok nr N NS ar z), J l mX11_pays I z u 50 [(0, .ref 1100), (1, .int (nI E)), (2, .int (nI k))] [] (QN u (fun a => a = py_k nr N NS ar w0 (E + 1))) := by
  intro d
  induction d with
  | zero => intros; omega
  | succ d ih =>
    intro k z hd hk hz hv
    refine J_iload_n dX11_pays_50 rfl 2 rfl ?_
    refine J_iload_n dX11_pays_51 rfl 1 rfl ?_
    refine J_icmp_gt (tgt := 177) dX11_pays_52 (by decide) (fun c1 => ?_) (fun c1 => ?_)
    · exact J_vret dX11_pays_177 rfl ⟨rfl, rfl, by have e : k = E + 1 := by {have := nz_lt (by omega) (by omega) c1; omega}; rw [hz, e]⟩
    · have hkE : k ≤ E := nz_nlt (by omega) (by omega) c1
      refine J_aload_n dX11_pays_55 rfl 0 rfl ?_
      refine J_iload_n dX11_pays_56 rfl 2 rfl ?_
      refine J_eVN (z := mX11_know) (As := [.int (nI k)]) (rest := []) (ci := 11) (w := f_know z N (nI k)) dX11_pays_57 ml_X11_257 ok_X11_know iv_X11_know (by decide) (i1100 hI) rfl rfl rfl rfl (Nat.le_of_ble_eq_true rfl) (k_X11_know hI z u _ N hv.2.2.1 hv.2.2.2.1) ?_
      refine J_iconst (x := 0) dX11_pays_60 (by decide) ?_
      refine J_istore_n (lv' := [(3, .int 0), (0, .ref 1100), (1, .int (nI E)), (2, .int (nI k))]) dX11_pays_61 rfl (by decide) rfl ?_
      refine J_lv [1, 2, 3, 0] rfl ?_
      refine py_r_L hI u (nI E) nr N NS ar k (by omega) (f_know z N (nI k)) hv.2.1 (fun z2 hz2 hv2 => ?_) (nr + 1) 0 _ (by omega) (by omega) rfl (hv.of py_same_kn)
      refine J_iinc (q := 2) (z := nI (k + 1)) (lv' := [(2, .int (nI (k + 1))), (0, .ref 1100), (1, .int (nI E))]) dX11_pays_171 rfl (nI_1 k) (by decide) rfl ?_
      refine J_goto (tgt := 50) dX11_pays_174 (by decide) ?_
      refine J_lv [1, 2, 0] rfl ?_
      exact ih (k + 1) _ (by omega) (by omega) (by rw [py_k_s, ← hz]; exact hz2) hv2
def py_b_t (j : Nat) (z : fr_V) : fr_V := up2 z 1148 j 0
def py_b (w0 : fr_V) : Nat → fr_V
  | 0 => w0
  | j + 1 => py_b_t j (py_b w0 j)
theorem py_b_s (w0 : fr_V) (j : Nat) : py_b w0 (j + 1) = py_b_t j (py_b w0 j) := rfl
theorem py_b_L {l : Launch} {I : List Nat} (hI : fr_I I) (u : fr_U) (w0 : fr_V) (x1 : Int32) {nr N NS ar : Nat} {Q : Option Value → fr_V → fr_U → Prop} (hk : ∀ z : fr_V, z = py_b w0 8 → py_ok nr N NS ar z → J l mX11_pays I z u 43 [(0, .ref 1100), (1, .int x1), (2, .int (nI 8))] [] Q) : ∀ (d j : Nat) (z : fr_V) (hd : 8 - j < d) (hj : j ≤ 8) (hz : z = py_b w0 j) (hv : py_ok nr N NS ar z), J l mX11_pays I z u 24 [(0, .ref 1100), (1, .int x1), (2, .int (nI j))] [] Q := by
  intro d
  induction d with
  | zero => intros; omega
  | succ d ih =>
    intro j z hd hj hz hv
    refine J_iload_n dX11_pays_24 rfl 2 rfl ?_
    refine J_bipush (x := 8) dX11_pays_25 (by decide) ?_
    refine J_icmp_ge (tgt := 43) dX11_pays_27 (by decide) (fun c1 => ?_) (fun c1 => ?_)
    · have e : j = 8 := by have := nz_le (a := 8) (by omega) (by omega) c1; omega
      refine J_lv [0, 1, 2] rfl ?_
      subst e
      exact hk z hz hv
    · have hj8 : j < 8 := nz_nle (a := 8) (by omega) (by omega) c1
      refine J_aload_n dX11_pays_30 rfl 0 rfl ?_
      refine J_getr (ci := 11) (j := 47) (t := 1148) dX11_pays_31 fl_X11_102 (i1100 hI) rfl rfl rfl ?_
      refine J_iload_n dX11_pays_34 rfl 2 rfl ?_
      refine J_iconst (x := 0) dX11_pays_35 (by decide) ?_
      refine J_iase (j := j) dX11_pays_36 (i1148 hI) rfl (ix_in (j := j) rfl (by omega) (by omega)) (ix_cl (j := j) rfl (by omega)) ?_
      refine J_iinc (q := 2) (z := nI (j + 1)) (lv' := [(2, .int (nI (j + 1))), (0, .ref 1100), (1, .int x1)]) dX11_pays_37 rfl (nI_1 j) (by decide) rfl ?_
      refine J_goto (tgt := 24) dX11_pays_40 (by decide) ?_
      refine J_lv [1, 2, 0] rfl ?_
      exact ih (j + 1) _ (by omega) (by omega) (by rw [py_b_s, ← hz]; unfold py_b_t; rfl) ((hv.of (py_same_row (Or.inr rfl))))
def py_a_t (j : Nat) (z : fr_V) : fr_V := up2 z 1147 j (-1)
def py_a (w0 : fr_V) : Nat → fr_V
  | 0 => w0
  | j + 1 => py_a_t j (py_a w0 j)
theorem py_a_s (w0 : fr_V) (j : Nat) : py_a w0 (j + 1) = py_a_t j (py_a w0 j) := rfl
theorem py_a_L {l : Launch} {I : List Nat} (hI : fr_I I) (u : fr_U) (w0 : fr_V) (x1 : Int32) {nr N NS ar : Nat} {Q : Option Value → fr_V → fr_U → Prop} (hk : ∀ z : fr_V, z = py_a w0 1280 → py_ok nr N NS ar z → J l mX11_pays I z u 22 [(0, .ref 1100), (1, .int x1), (2, .int (nI 1280))] [] Q) : ∀ (d j : Nat) (z : fr_V) (hd : 1280 - j < d) (hj : j ≤ 1280) (hz : z = py_a w0 j) (hv : py_ok nr N NS ar z), J l mX11_pays I z u 2 [(0, .ref 1100), (1, .int x1), (2, .int (nI j))] [] Q := by
  intro d
  induction d with
  | zero => intros; omega
  | succ d ih =>
    intro j z hd hj hz hv
    refine J_iload_n dX11_pays_2 rfl 2 rfl ?_
    refine J_sipush (x := 1280) dX11_pays_3 (by decide) ?_
    refine J_icmp_ge (tgt := 22) dX11_pays_6 (by decide) (fun c1 => ?_) (fun c1 => ?_)
    · have e : j = 1280 := by have := nz_le (a := 1280) (by omega) (by omega) c1; omega
      refine J_lv [0, 1, 2] rfl ?_
      subst e
      exact hk z hz hv
    · have hj8 : j < 1280 := nz_nle (a := 1280) (by omega) (by omega) c1
      refine J_aload_n dX11_pays_9 rfl 0 rfl ?_
      refine J_getr (ci := 11) (j := 46) (t := 1147) dX11_pays_10 fl_X11_99 (i1100 hI) rfl rfl rfl ?_
      refine J_iload_n dX11_pays_13 rfl 2 rfl ?_
      refine J_iconst (x := (-1)) dX11_pays_14 (by decide) ?_
      refine J_iase (j := j) dX11_pays_15 (i1147 hI) rfl (ix_in (j := j) rfl (by omega) (by omega)) (ix_cl (j := j) rfl (by omega)) ?_
      refine J_iinc (q := 2) (z := nI (j + 1)) (lv' := [(2, .int (nI (j + 1))), (0, .ref 1100), (1, .int x1)]) dX11_pays_16 rfl (nI_1 j) (by decide) rfl ?_
      refine J_goto (tgt := 2) dX11_pays_19 (by decide) ?_
      refine J_lv [1, 2, 0] rfl ?_
      exact ih (j + 1) _ (by omega) (by omega) (by rw [py_a_s, ← hz]; unfold py_a_t; rfl) ((hv.of (py_same_row (Or.inl rfl))))
noncomputable def f_pays (v : fr_V) (nr N NS ar E : Nat) : fr_V := py_k nr N NS ar (up2 (py_b (py_a v 1280) 8) 1100 48 0) (E + 1)
theorem k_X11_pays {l : Launch} {I : List Nat} (hI : fr_I I) (v : fr_V) (u : fr_U) (nr N NS ar E : Nat) (hE : E < 80) (hv : py_ok nr N NS ar v) : Con l mX11_pays I v u [.ref 1100, .int (nI E)] (QN u (fun a => a = f_pays v nr N NS ar E)) := by
  refine Con.of (by decide) (Nat.le_of_ble_eq_true rfl) ?_
  show J l mX11_pays I v u 0 [(0, .ref 1100), (1, .int (nI E))] [] _
  refine J_iconst (x := 0) dX11_pays_0 (by decide) ?_
  refine J_istore_n (lv' := [(2, .int 0), (0, .ref 1100), (1, .int (nI E))]) dX11_pays_1 rfl (by decide) rfl ?_
  refine J_lv [1, 2, 0] rfl ?_
  refine py_a_L hI u v (nI E) (fun za hza hva => ?_) 1281 0 _ (by omega) (by omega) rfl hv
  refine J_iconst (x := 0) dX11_pays_22 (by decide) ?_
  refine J_istore_n (lv' := [(2, .int 0), (0, .ref 1100), (1, .int (nI E))]) dX11_pays_23 rfl (by decide) rfl ?_
  refine J_lv [1, 2, 0] rfl ?_
  refine py_b_L hI u za (nI E) (fun zb hzb hvb => ?_) 9 0 _ (by omega) (by omega) rfl hva
  refine J_aload_n dX11_pays_43 rfl 0 rfl ?_
  refine J_iconst (x := 0) dX11_pays_44 (by decide) ?_
  refine J_puti (ci := 11) (j := 48) dX11_pays_45 fl_X11_266 (i1100 hI) rfl rfl (fun q h => by cases h; rfl) rfl ?_
  refine J_iconst (x := 0) dX11_pays_48 (by decide) ?_
  refine J_istore_n (lv' := [(2, .int 0), (0, .ref 1100), (1, .int (nI E))]) dX11_pays_49 rfl (by decide) rfl ?_
  refine J_lv [1, 2, 0] rfl ?_
  unfold f_pays
  rw [← hza, ← hzb]
  exact py_k_L hI u nr N NS ar E hE _ (E + 2) 0 _ (by omega) (by omega) rfl (hvb.of py_same_48)
