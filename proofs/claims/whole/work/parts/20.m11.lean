theorem J_eVY {l : Launch} {y : fr_M} {I : List Nat} {v : fr_V} {u : fr_U} {Q : Option Value → fr_V → fr_U → Prop} {pc : Nat} {lv : List (Nat × Value)} {st : List Value} {z : fr_M} {idx o ci n : Nat} {As rest : List Value} {x : Int64} {w : fr_V} (d : decode y.2.1 pc = .ok (.invokevirtual idx, 3)) (hw : Cond.methodLink y.1.cls idx z.1 ∈ gt) (hz : MOK z n) (hv : Cond.instanceMethod z.1 ∈ gt ∧ Cond.selects z.1.cls z.1 z.1 ∈ gt) (hR : z.2.2.2.2.1 + 1 ≤ y.2.2.2.2.1 ∧ 8 + (z.2.2.1 + 11) + z.2.2.2.2.2 ≤ y.2.2.2.2.2) (ho : o ∈ I) (hs : (sh o).1 = ci) (hc : (fr_cls[ci]?).map (fun q => q.1) = some z.1.cls) (hst : st = As.reverse ++ .ref o :: rest) (hn : As.length = n) (hsum : (rest.map fun x => x.category).sum ≤ 8) (hC : Con l z I v u (.ref o :: As) (QY u (fun a b => a = x ∧ b = w))) (k : J l y I w u (pc + 3) lv (.long x :: rest) Q) : J l y I v u pc lv st Q := by
  refine J_callV d hw hz hv hR ho hs hc hst hn hsum hC (fun r v' u' hq => ?_)
  obtain ⟨x', rfl, rfl, rfl, rfl⟩ := hq
  exact k
theorem k_X11_fails {l : Launch} {I : List Nat} (hI : fr_I I) (v : fr_V) (u : fr_U) (x1 : Int32) : Con l mX11_fails I v u [.ref 1100, .int x1] (QY u (fun a b => a = 0 ∧ b = up2 v 1100 2 x1)) := by
  refine Con.of (by decide) (Nat.le_of_ble_eq_true rfl) ?_
  show J l mX11_fails I v u 0 [(0, .ref 1100), (1, .int x1)] [] _
  refine J_aload_n dX11_fails_0 rfl 0 rfl ?_
  refine J_iload_n dX11_fails_1 rfl 1 rfl ?_
  refine J_puti (ci := 11) (j := 2) dX11_fails_2 fl_X11_129 (i1100 hI) rfl rfl (fun q h => by cases h; rfl) rfl ?_
  refine J_lconst (x := 0) dX11_fails_5 (by decide) ?_
  exact J_lret dX11_fails_6 rfl ⟨_, rfl, rfl, rfl, rfl⟩
def rkc (F S C : Nat → Int32) (l : Int32) : Nat → Int32
  | 0 => 0
  | j + 1 => if F j = l then (if S j = (-1) then rkc F S C l j + C j else rkc F S C l j) else rkc F S C l j
theorem rkc_s (F S C : Nat → Int32) (l : Int32) (j : Nat) : rkc F S C l (j + 1) = if F j = l then (if S j = (-1) then rkc F S C l j + C j else rkc F S C l j) else rkc F S C l j := rfl
def rks (F S B : Nat → Int32) (l : Int32) : Nat → Int32
  | 0 => (-1)
  | j + 1 => if F j = l then (if S j = (-1) then (if rks F S B l j = (-1) then B j else rks F S B l j) else rks F S B l j) else rks F S B l j
theorem rks_s (F S B : Nat → Int32) (l : Int32) (j : Nat) : rks F S B l (j + 1) = if F j = l then (if S j = (-1) then (if rks F S B l j = (-1) then B j else rks F S B l j) else rks F S B l j) else rks F S B l j := rfl
def rkl (S C O H : Nat → Int32) (X : Nat → Int32) (l : Int32) : Nat → Int32
  | 0 => (-1)
  | j + 1 => if S j = 0 then (if C j = 0 then rkl S C O H X l j else if O j = l then (if X j = 0 then (if H j ≤ rkl S C O H X l j then rkl S C O H X l j else H j) else rkl S C O H X l j) else rkl S C O H X l j) else rkl S C O H X l j
theorem rkl_s (S C O H : Nat → Int32) (X : Nat → Int32) (l : Int32) (j : Nat) : rkl S C O H X l (j + 1) = if S j = 0 then (if C j = 0 then rkl S C O H X l j else if O j = l then (if X j = 0 then (if H j ≤ rkl S C O H X l j then rkl S C O H X l j else H j) else rkl S C O H X l j) else rkl S C O H X l j) else rkl S C O H X l j := rfl
def rk_lat (v : fr_V) (N : Nat) (l : Int32) : Int32 := rkl (v 1118) (v 1145) (v 1119) (v 1120) (fun j => f_X11_isFalse v (nI j)) l N
def rk_end (v : fr_V) (N : Nat) (l a b : Int32) : Int64 := a.toInt64 * (1000 - v 1122 (10 * v 1107 l.toNatClampNeg + f_X11_groupOf v (f_X11_ageIn v l (v 1100 3))).toNatClampNeg).toInt64 * (v 1100 3 - (if rk_lat v N l = (-1) then b else rk_lat v N l)).toInt64
def f_riskOf (v : fr_V) (nr N : Nat) (l : Int32) : Int64 := if rkc (v 1111) (v 1112) (v 1113) l nr = 0 then 0 else rk_end v N l (rkc (v 1111) (v 1112) (v 1113) l nr) (rks (v 1111) (v 1112) (v 1109) l nr)
theorem rk_in {v : fr_V} {x : Int32} {P : Nat} (h : lfOK v x P) : vp_in (10 * v 1107 x.toNatClampNeg + f_X11_groupOf v (f_X11_ageIn v x (v 1100 3))) 40 := by
  obtain ⟨h1, ⟨i, hi, hc⟩, hp, hP⟩ := h
  exact lo_in (v := v) hi hc (grp_in (by omega) hp)
theorem rk_L2 {l : Launch} {I : List Nat} (hI : fr_I I) (v : fr_V) (u : fr_U) (x1 : Int32) (P : Nat) (hA : lfOK v x1 P) (N : Nat) (hN : v 1100 16 = nI N) (hW : nt_ok (v 1118) (v 1119) N) (a b : Int32) : ∀ (d j : Nat) (c : Int32) (hd : N - j < d) (hj : j ≤ N) (hc : c = rkl (v 1118) (v 1145) (v 1119) (v 1120) (fun j => f_X11_isFalse v (nI j)) x1 j), J l mX11_riskOf I v u 82 [(0, .ref 1100), (1, .int x1), (2, .int a), (3, .int b), (4, .int c), (5, .int (nI j))] [] (QL v u (fun z => z = rk_end v N x1 a b)) := by
  have hN60 : N ≤ 60 := hW.1
  intro d
  induction d with
  | zero => intros; omega
  | succ d ih =>
    intro j c hd hj hc
    refine J_iload dX11_riskOf_82 5 rfl ?_
    refine J_aload_n dX11_riskOf_84 rfl 0 rfl ?_
    refine J_gete (ci := 11) (j := 16) (x := nI N) dX11_riskOf_85 fl_X11_252 (i1100 hI) rfl rfl hN ?_
    refine J_icmp_ge (tgt := 158) dX11_riskOf_88 (by decide) (fun c1 => ?_) (fun c1 => ?_)
    · refine J_iload dX11_riskOf_158 4 rfl ?_
      refine J_iconst (x := (-1)) dX11_riskOf_160 (by decide) ?_
      refine J_icmp_eq (tgt := 167) dX11_riskOf_161 (by decide) (fun c2 => ?_) (fun c2 => ?_)
      · refine J_iload_n dX11_riskOf_167 rfl 2 rfl ?_
        refine J_i2l dX11_riskOf_168 ?_
        refine J_sipush (x := 1000) dX11_riskOf_169 (by decide) ?_
        refine J_aload_n dX11_riskOf_172 rfl 0 rfl ?_
        refine J_getr (ci := 11) (j := 21) (t := 1122) dX11_riskOf_173 fl_X11_52 (i1100 hI) rfl rfl rfl ?_
        refine J_bipush (x := 10) dX11_riskOf_176 (by decide) ?_
        refine J_aload_n dX11_riskOf_178 rfl 0 rfl ?_
        refine J_getr (ci := 11) (j := 6) (t := 1107) dX11_riskOf_179 fl_X11_16 (i1100 hI) rfl rfl rfl ?_
        refine J_iload_n dX11_riskOf_182 rfl 1 rfl ?_
        refine J_iale (x := v 1107 x1.toNatClampNeg) dX11_riskOf_183 (i1107 hI) rfl hA.1 rfl ?_
        refine J_imul dX11_riskOf_184 ?_
        refine J_aload_n dX11_riskOf_185 rfl 0 rfl ?_
        refine J_iload_n dX11_riskOf_186 rfl 1 rfl ?_
        refine J_aload_n dX11_riskOf_187 rfl 0 rfl ?_
        refine J_gete (ci := 11) (j := 3) (x := v 1100 3) dX11_riskOf_188 fl_X11_208 (i1100 hI) rfl rfl rfl ?_
        refine J_eVI (z := mX11_ageIn) (As := [.int x1, .int (v 1100 3)]) (rest := [.int (10 * (v 1107 x1.toNatClampNeg)), .ref 1122, .int 1000, .long a.toInt64]) (ci := 11) (x := f_X11_ageIn v x1 (v 1100 3)) dX11_riskOf_191 ml_X11_214 ok_X11_ageIn iv_X11_ageIn (by decide) (i1100 hI) rfl rfl rfl rfl (Nat.le_of_ble_eq_true rfl) (k_X11_ageIn hI v u _ _ hA.1) ?_
        refine J_eSI (z := mX11_groupOf) (As := [.int (f_X11_ageIn v x1 (v 1100 3))]) (rest := [.int (10 * (v 1107 x1.toNatClampNeg)), .ref 1122, .int 1000, .long a.toInt64]) (x := f_X11_groupOf v  (f_X11_ageIn v x1 (v 1100 3))) dX11_riskOf_194 ml_X11_299 ok_X11_groupOf iv_X11_groupOf (by decide) rfl rfl (Nat.le_of_ble_eq_true rfl) (k_X11_groupOf hI v u _ ) ?_
        refine J_iadd dX11_riskOf_197 ?_
        refine J_iale (x := v 1122 (((10 * (v 1107 x1.toNatClampNeg)) + (f_X11_groupOf v  (f_X11_ageIn v x1 (v 1100 3)))).toNatClampNeg)) dX11_riskOf_198 (i1122 hI) rfl (rk_in hA) rfl ?_
        refine J_isub dX11_riskOf_199 ?_
        refine J_i2l dX11_riskOf_200 ?_
        refine J_lmul dX11_riskOf_201 ?_
        refine J_aload_n dX11_riskOf_202 rfl 0 rfl ?_
        refine J_gete (ci := 11) (j := 3) (x := v 1100 3) dX11_riskOf_203 fl_X11_208 (i1100 hI) rfl rfl rfl ?_
        refine J_iload_n dX11_riskOf_206 rfl 3 rfl ?_
        refine J_isub dX11_riskOf_207 ?_
        refine J_i2l dX11_riskOf_208 ?_
        refine J_lmul dX11_riskOf_209 ?_
        exact J_lret dX11_riskOf_210 rfl ⟨_, rfl, rfl, rfl, by have e : j = N := by {have := nz_le (by omega) (by omega) c1; omega}; unfold rk_end; rw [show rk_lat v N x1 = c from by unfold rk_lat; rw [hc, e], if_pos c2]⟩
      · refine J_iload dX11_riskOf_164 4 rfl ?_
        refine J_istore_n (lv' := [(3, .int c), (0, .ref 1100), (1, .int x1), (2, .int a), (4, .int c), (5, .int (nI j))]) dX11_riskOf_166 rfl (by decide) rfl ?_
        refine J_iload_n dX11_riskOf_167 rfl 3 rfl ?_
        refine J_i2l dX11_riskOf_168 ?_
        refine J_sipush (x := 1000) dX11_riskOf_169 (by decide) ?_
        refine J_aload_n dX11_riskOf_172 rfl 1 rfl ?_
        refine J_getr (ci := 11) (j := 21) (t := 1122) dX11_riskOf_173 fl_X11_52 (i1100 hI) rfl rfl rfl ?_
        refine J_bipush (x := 10) dX11_riskOf_176 (by decide) ?_
        refine J_aload_n dX11_riskOf_178 rfl 1 rfl ?_
        refine J_getr (ci := 11) (j := 6) (t := 1107) dX11_riskOf_179 fl_X11_16 (i1100 hI) rfl rfl rfl ?_
        refine J_iload_n dX11_riskOf_182 rfl 2 rfl ?_
        refine J_iale (x := v 1107 x1.toNatClampNeg) dX11_riskOf_183 (i1107 hI) rfl hA.1 rfl ?_
        refine J_imul dX11_riskOf_184 ?_
        refine J_aload_n dX11_riskOf_185 rfl 1 rfl ?_
        refine J_iload_n dX11_riskOf_186 rfl 2 rfl ?_
        refine J_aload_n dX11_riskOf_187 rfl 1 rfl ?_
        refine J_gete (ci := 11) (j := 3) (x := v 1100 3) dX11_riskOf_188 fl_X11_208 (i1100 hI) rfl rfl rfl ?_
        refine J_eVI (z := mX11_ageIn) (As := [.int x1, .int (v 1100 3)]) (rest := [.int (10 * (v 1107 x1.toNatClampNeg)), .ref 1122, .int 1000, .long a.toInt64]) (ci := 11) (x := f_X11_ageIn v x1 (v 1100 3)) dX11_riskOf_191 ml_X11_214 ok_X11_ageIn iv_X11_ageIn (by decide) (i1100 hI) rfl rfl rfl rfl (Nat.le_of_ble_eq_true rfl) (k_X11_ageIn hI v u _ _ hA.1) ?_
        refine J_eSI (z := mX11_groupOf) (As := [.int (f_X11_ageIn v x1 (v 1100 3))]) (rest := [.int (10 * (v 1107 x1.toNatClampNeg)), .ref 1122, .int 1000, .long a.toInt64]) (x := f_X11_groupOf v  (f_X11_ageIn v x1 (v 1100 3))) dX11_riskOf_194 ml_X11_299 ok_X11_groupOf iv_X11_groupOf (by decide) rfl rfl (Nat.le_of_ble_eq_true rfl) (k_X11_groupOf hI v u _ ) ?_
        refine J_iadd dX11_riskOf_197 ?_
        refine J_iale (x := v 1122 (((10 * (v 1107 x1.toNatClampNeg)) + (f_X11_groupOf v  (f_X11_ageIn v x1 (v 1100 3)))).toNatClampNeg)) dX11_riskOf_198 (i1122 hI) rfl (rk_in hA) rfl ?_
        refine J_isub dX11_riskOf_199 ?_
        refine J_i2l dX11_riskOf_200 ?_
        refine J_lmul dX11_riskOf_201 ?_
        refine J_aload_n dX11_riskOf_202 rfl 1 rfl ?_
        refine J_gete (ci := 11) (j := 3) (x := v 1100 3) dX11_riskOf_203 fl_X11_208 (i1100 hI) rfl rfl rfl ?_
        refine J_iload_n dX11_riskOf_206 rfl 0 rfl ?_
        refine J_isub dX11_riskOf_207 ?_
        refine J_i2l dX11_riskOf_208 ?_
        refine J_lmul dX11_riskOf_209 ?_
        exact J_lret dX11_riskOf_210 rfl ⟨_, rfl, rfl, rfl, by have e : j = N := by {have := nz_le (by omega) (by omega) c1; omega}; unfold rk_end; rw [show rk_lat v N x1 = c from by unfold rk_lat; rw [hc, e], if_neg c2]⟩
    · have hjN : j < N := nz_nle (by omega) (by omega) c1
      refine J_aload_n dX11_riskOf_91 rfl 0 rfl ?_
      refine J_getr (ci := 11) (j := 17) (t := 1118) dX11_riskOf_92 fl_X11_40 (i1100 hI) rfl rfl rfl ?_
      refine J_iload dX11_riskOf_95 5 rfl ?_
      refine J_iale (x := v 1118 j) dX11_riskOf_97 (i1118 hI) rfl (ix_in (j := j) rfl (by omega) (by omega)) ((congrArg _ (ix_cl (j := j) rfl (by omega))).trans rfl) ?_
      refine J_if_ne (tgt := 152) dX11_riskOf_98 (by decide) (fun c3 => ?_) (fun c3 => ?_)
      · refine J_iinc (q := 5) (z := nI (j + 1)) (lv' := [(5, .int (nI (j + 1))), (0, .ref 1100), (1, .int x1), (2, .int a), (3, .int b), (4, .int c)]) dX11_riskOf_152 rfl (nI_1 j) (by decide) rfl ?_
        refine J_goto (tgt := 82) dX11_riskOf_155 (by decide) ?_
        refine J_lv [1, 2, 3, 4, 5, 0] rfl ?_
        exact ih (j + 1) _ (by omega) (by omega) (by rw [rkl_s, ← hc, if_neg c3])
      · refine J_aload_n dX11_riskOf_101 rfl 0 rfl ?_
        refine J_getr (ci := 11) (j := 44) (t := 1145) dX11_riskOf_102 fl_X11_93 (i1100 hI) rfl rfl rfl ?_
        refine J_iload dX11_riskOf_105 5 rfl ?_
        refine J_zale (x := v 1145 j) dX11_riskOf_107 (i1145 hI) rfl (ix_in (j := j) rfl (by omega) (by omega)) ((congrArg _ (ix_cl (j := j) rfl (by omega))).trans rfl) ?_
        refine J_if_eq (tgt := 152) dX11_riskOf_108 (by decide) (fun c4 => ?_) (fun c4 => ?_)
        · refine J_iinc (q := 5) (z := nI (j + 1)) (lv' := [(5, .int (nI (j + 1))), (0, .ref 1100), (1, .int x1), (2, .int a), (3, .int b), (4, .int c)]) dX11_riskOf_152 rfl (nI_1 j) (by decide) rfl ?_
          refine J_goto (tgt := 82) dX11_riskOf_155 (by decide) ?_
          refine J_lv [1, 2, 3, 4, 5, 0] rfl ?_
          exact ih (j + 1) _ (by omega) (by omega) (by rw [rkl_s, ← hc, if_pos c3, if_pos c4])
        · refine J_aload_n dX11_riskOf_111 rfl 0 rfl ?_
          refine J_getr (ci := 11) (j := 18) (t := 1119) dX11_riskOf_112 fl_X11_43 (i1100 hI) rfl rfl rfl ?_
          refine J_iload dX11_riskOf_115 5 rfl ?_
          refine J_iale (x := v 1119 j) dX11_riskOf_117 (i1119 hI) rfl (ix_in (j := j) rfl (by omega) (by omega)) ((congrArg _ (ix_cl (j := j) rfl (by omega))).trans rfl) ?_
          refine J_iload_n dX11_riskOf_118 rfl 1 rfl ?_
          refine J_icmp_ne (tgt := 152) dX11_riskOf_119 (by decide) (fun c5 => ?_) (fun c5 => ?_)
          · refine J_iinc (q := 5) (z := nI (j + 1)) (lv' := [(5, .int (nI (j + 1))), (0, .ref 1100), (1, .int x1), (2, .int a), (3, .int b), (4, .int c)]) dX11_riskOf_152 rfl (nI_1 j) (by decide) rfl ?_
            refine J_goto (tgt := 82) dX11_riskOf_155 (by decide) ?_
            refine J_lv [1, 2, 3, 4, 5, 0] rfl ?_
            exact ih (j + 1) _ (by omega) (by omega) (by rw [rkl_s, ← hc, if_pos c3, if_neg c4, if_neg c5])
          · refine J_aload_n dX11_riskOf_122 rfl 0 rfl ?_
            refine J_iload dX11_riskOf_123 5 rfl ?_
            refine J_eVI (z := mX11_isFalse) (As := [.int (nI j)]) (rest := []) (ci := 11) (x := f_X11_isFalse v (nI j)) dX11_riskOf_125 ml_X11_261 ok_X11_isFalse iv_X11_isFalse (by decide) (i1100 hI) rfl rfl rfl rfl (Nat.le_of_ble_eq_true rfl) (k_X11_isFalse hI v u _ (vp_in_nI (by omega) (by omega)) (by rw [nI_clamp (by omega)]; exact (hW.2 j hjN).2 (by rw [c3]; decide))) ?_
            refine J_if_ne (tgt := 152) dX11_riskOf_128 (by decide) (fun c6 => ?_) (fun c6 => ?_)
            · refine J_iinc (q := 5) (z := nI (j + 1)) (lv' := [(5, .int (nI (j + 1))), (0, .ref 1100), (1, .int x1), (2, .int a), (3, .int b), (4, .int c)]) dX11_riskOf_152 rfl (nI_1 j) (by decide) rfl ?_
              refine J_goto (tgt := 82) dX11_riskOf_155 (by decide) ?_
              refine J_lv [1, 2, 3, 4, 5, 0] rfl ?_
              exact ih (j + 1) _ (by omega) (by omega) (by rw [rkl_s, ← hc, if_pos c3, if_neg c4, if_pos c5, if_neg c6])
            · refine J_aload_n dX11_riskOf_131 rfl 0 rfl ?_
              refine J_getr (ci := 11) (j := 19) (t := 1120) dX11_riskOf_132 fl_X11_46 (i1100 hI) rfl rfl rfl ?_
              refine J_iload dX11_riskOf_135 5 rfl ?_
              refine J_iale (x := v 1120 j) dX11_riskOf_137 (i1120 hI) rfl (ix_in (j := j) rfl (by omega) (by omega)) ((congrArg _ (ix_cl (j := j) rfl (by omega))).trans rfl) ?_
              refine J_iload dX11_riskOf_138 4 rfl ?_
              refine J_icmp_le (tgt := 152) dX11_riskOf_140 (by decide) (fun c7 => ?_) (fun c7 => ?_)
              · refine J_iinc (q := 5) (z := nI (j + 1)) (lv' := [(5, .int (nI (j + 1))), (0, .ref 1100), (1, .int x1), (2, .int a), (3, .int b), (4, .int c)]) dX11_riskOf_152 rfl (nI_1 j) (by decide) rfl ?_
                refine J_goto (tgt := 82) dX11_riskOf_155 (by decide) ?_
                refine J_lv [1, 2, 3, 4, 5, 0] rfl ?_
                exact ih (j + 1) _ (by omega) (by omega) (by rw [rkl_s, ← hc, if_pos c3, if_neg c4, if_pos c5, if_pos c6, if_pos c7])
              · refine J_aload_n dX11_riskOf_143 rfl 0 rfl ?_
                refine J_getr (ci := 11) (j := 19) (t := 1120) dX11_riskOf_144 fl_X11_46 (i1100 hI) rfl rfl rfl ?_
                refine J_iload dX11_riskOf_147 5 rfl ?_
                refine J_iale (x := v 1120 j) dX11_riskOf_149 (i1120 hI) rfl (ix_in (j := j) rfl (by omega) (by omega)) ((congrArg _ (ix_cl (j := j) rfl (by omega))).trans rfl) ?_
                refine J_istore (lv' := [(4, .int (v 1120 j)), (0, .ref 1100), (1, .int x1), (2, .int a), (3, .int b), (5, .int (nI j))]) dX11_riskOf_150 (by decide) rfl ?_
                refine J_iinc (q := 5) (z := nI (j + 1)) (lv' := [(5, .int (nI (j + 1))), (4, .int (v 1120 j)), (0, .ref 1100), (1, .int x1), (2, .int a), (3, .int b)]) dX11_riskOf_152 rfl (nI_1 j) (by decide) rfl ?_
                refine J_goto (tgt := 82) dX11_riskOf_155 (by decide) ?_
                refine J_lv [2, 3, 4, 5, 1, 0] rfl ?_
                exact ih (j + 1) _ (by omega) (by omega) (by rw [rkl_s, ← hc, if_pos c3, if_neg c4, if_pos c5, if_pos c6, if_neg c7])
theorem rk_L1 {l : Launch} {I : List Nat} (hI : fr_I I) (v : fr_V) (u : fr_U) (x1 : Int32) (P : Nat) (hA : lfOK v x1 P) (N : Nat) (hN : v 1100 16 = nI N) (hW : nt_ok (v 1118) (v 1119) N) (nr : Nat) (hR : v 1100 7 = nI nr) (hR2 : nr ≤ 16) : ∀ (d j : Nat) (a b : Int32) (hd : nr - j < d) (hj : j ≤ nr) (ha : a = rkc (v 1111) (v 1112) (v 1113) x1 j) (hb : b = rks (v 1111) (v 1112) (v 1109) x1 j), J l mX11_riskOf I v u 7 [(0, .ref 1100), (1, .int x1), (2, .int a), (3, .int b), (4, .int (nI j))] [] (QL v u (fun z => z = f_riskOf v nr N x1)) := by
  intro d
  induction d with
  | zero => intros; omega
  | succ d ih =>
    intro j a b hd hj ha hb
    refine J_iload dX11_riskOf_7 4 rfl ?_
    refine J_aload_n dX11_riskOf_9 rfl 0 rfl ?_
    refine J_gete (ci := 11) (j := 7) (x := nI nr) dX11_riskOf_10 fl_X11_233 (i1100 hI) rfl rfl hR ?_
    refine J_icmp_ge (tgt := 70) dX11_riskOf_13 (by decide) (fun c1 => ?_) (fun c1 => ?_)
    · refine J_iload_n dX11_riskOf_70 rfl 2 rfl ?_
      refine J_if_ne (tgt := 76) dX11_riskOf_71 (by decide) (fun c2 => ?_) (fun c2 => ?_)
      · refine J_iconst (x := (-1)) dX11_riskOf_76 (by decide) ?_
        refine J_istore (lv' := [(4, .int (-1)), (0, .ref 1100), (1, .int x1), (2, .int a), (3, .int b)]) dX11_riskOf_77 (by decide) rfl ?_
        refine J_iconst (x := 0) dX11_riskOf_79 (by decide) ?_
        refine J_istore (lv' := [(5, .int 0), (4, .int (-1)), (0, .ref 1100), (1, .int x1), (2, .int a), (3, .int b)]) dX11_riskOf_80 (by decide) rfl ?_
        have e : j = nr := by {have := nz_le (by omega) (by omega) c1; omega}
        refine J_lv [2, 3, 4, 5, 1, 0] rfl ?_
        unfold f_riskOf
        rw [← e, ← ha, ← hb, if_neg c2]
        exact rk_L2 hI v u x1 P hA N hN hW a b (N + 1) 0 _ (by omega) (by omega) rfl
      · refine J_lconst (x := 0) dX11_riskOf_74 (by decide) ?_
        exact J_lret dX11_riskOf_75 rfl ⟨_, rfl, rfl, rfl, by have e : j = nr := by {have := nz_le (by omega) (by omega) c1; omega}; unfold f_riskOf; rw [← e, ← ha, if_pos c2]⟩
    · have hjn : j < nr := nz_nle (by omega) (by omega) c1
      refine J_aload_n dX11_riskOf_16 rfl 0 rfl ?_
      refine J_getr (ci := 11) (j := 10) (t := 1111) dX11_riskOf_17 fl_X11_25 (i1100 hI) rfl rfl rfl ?_
      refine J_iload dX11_riskOf_20 4 rfl ?_
      refine J_iale (x := v 1111 j) dX11_riskOf_22 (i1111 hI) rfl (ix_in (j := j) rfl (by omega) (by omega)) ((congrArg _ (ix_cl (j := j) rfl (by omega))).trans rfl) ?_
      refine J_iload_n dX11_riskOf_23 rfl 1 rfl ?_
      refine J_icmp_ne (tgt := 64) dX11_riskOf_24 (by decide) (fun c3 => ?_) (fun c3 => ?_)
      · refine J_iinc (q := 4) (z := nI (j + 1)) (lv' := [(4, .int (nI (j + 1))), (0, .ref 1100), (1, .int x1), (2, .int a), (3, .int b)]) dX11_riskOf_64 rfl (nI_1 j) (by decide) rfl ?_
        refine J_goto (tgt := 7) dX11_riskOf_67 (by decide) ?_
        refine J_lv [1, 2, 3, 4, 0] rfl ?_
        exact ih (j + 1) _ _ (by omega) (by omega) (by rw [rkc_s, ← ha, if_neg c3]) (by rw [rks_s, ← hb, if_neg c3])
      · refine J_aload_n dX11_riskOf_27 rfl 0 rfl ?_
        refine J_getr (ci := 11) (j := 11) (t := 1112) dX11_riskOf_28 fl_X11_28 (i1100 hI) rfl rfl rfl ?_
        refine J_iload dX11_riskOf_31 4 rfl ?_
        refine J_iale (x := v 1112 j) dX11_riskOf_33 (i1112 hI) rfl (ix_in (j := j) rfl (by omega) (by omega)) ((congrArg _ (ix_cl (j := j) rfl (by omega))).trans rfl) ?_
        refine J_iconst (x := (-1)) dX11_riskOf_34 (by decide) ?_
        refine J_icmp_eq (tgt := 41) dX11_riskOf_35 (by decide) (fun c4 => ?_) (fun c4 => ?_)
        · refine J_iload_n dX11_riskOf_41 rfl 2 rfl ?_
          refine J_aload_n dX11_riskOf_42 rfl 0 rfl ?_
          refine J_getr (ci := 11) (j := 12) (t := 1113) dX11_riskOf_43 fl_X11_31 (i1100 hI) rfl rfl rfl ?_
          refine J_iload dX11_riskOf_46 4 rfl ?_
          refine J_iale (x := v 1113 j) dX11_riskOf_48 (i1113 hI) rfl (ix_in (j := j) rfl (by omega) (by omega)) ((congrArg _ (ix_cl (j := j) rfl (by omega))).trans rfl) ?_
          refine J_iadd dX11_riskOf_49 ?_
          refine J_istore_n (lv' := [(2, .int (a + (v 1113 j))), (0, .ref 1100), (1, .int x1), (3, .int b), (4, .int (nI j))]) dX11_riskOf_50 rfl (by decide) rfl ?_
          refine J_iload_n dX11_riskOf_51 rfl 3 rfl ?_
          refine J_iconst (x := (-1)) dX11_riskOf_52 (by decide) ?_
          refine J_icmp_ne (tgt := 64) dX11_riskOf_53 (by decide) (fun c5 => ?_) (fun c5 => ?_)
          · refine J_iinc (q := 4) (z := nI (j + 1)) (lv' := [(4, .int (nI (j + 1))), (2, .int (a + (v 1113 j))), (0, .ref 1100), (1, .int x1), (3, .int b)]) dX11_riskOf_64 rfl (nI_1 j) (by decide) rfl ?_
            refine J_goto (tgt := 7) dX11_riskOf_67 (by decide) ?_
            refine J_lv [2, 3, 1, 4, 0] rfl ?_
            exact ih (j + 1) _ _ (by omega) (by omega) (by rw [rkc_s, ← ha, if_pos c3, if_pos c4]) (by rw [rks_s, ← hb, if_pos c3, if_pos c4, if_neg c5])
          · refine J_aload_n dX11_riskOf_56 rfl 1 rfl ?_
            refine J_getr (ci := 11) (j := 8) (t := 1109) dX11_riskOf_57 fl_X11_19 (i1100 hI) rfl rfl rfl ?_
            refine J_iload dX11_riskOf_60 4 rfl ?_
            refine J_iale (x := v 1109 j) dX11_riskOf_62 (i1109 hI) rfl (ix_in (j := j) rfl (by omega) (by omega)) ((congrArg _ (ix_cl (j := j) rfl (by omega))).trans rfl) ?_
            refine J_istore_n (lv' := [(3, .int (v 1109 j)), (2, .int (a + (v 1113 j))), (0, .ref 1100), (1, .int x1), (4, .int (nI j))]) dX11_riskOf_63 rfl (by decide) rfl ?_
            refine J_iinc (q := 4) (z := nI (j + 1)) (lv' := [(4, .int (nI (j + 1))), (3, .int (v 1109 j)), (2, .int (a + (v 1113 j))), (0, .ref 1100), (1, .int x1)]) dX11_riskOf_64 rfl (nI_1 j) (by decide) rfl ?_
            refine J_goto (tgt := 7) dX11_riskOf_67 (by decide) ?_
            refine J_lv [3, 4, 2, 1, 0] rfl ?_
            exact ih (j + 1) _ _ (by omega) (by omega) (by rw [rkc_s, ← ha, if_pos c3, if_pos c4]) (by rw [rks_s, ← hb, if_pos c3, if_pos c4, if_pos c5])
        · refine J_goto (tgt := 64) dX11_riskOf_38 (by decide) ?_
          refine J_iinc (q := 4) (z := nI (j + 1)) (lv' := [(4, .int (nI (j + 1))), (0, .ref 1100), (1, .int x1), (2, .int a), (3, .int b)]) dX11_riskOf_64 rfl (nI_1 j) (by decide) rfl ?_
          refine J_goto (tgt := 7) dX11_riskOf_67 (by decide) ?_
          refine J_lv [1, 2, 3, 4, 0] rfl ?_
          exact ih (j + 1) _ _ (by omega) (by omega) (by rw [rkc_s, ← ha, if_pos c3, if_neg c4]) (by rw [rks_s, ← hb, if_pos c3, if_neg c4])
theorem k_X11_riskOf {l : Launch} {I : List Nat} (hI : fr_I I) (v : fr_V) (u : fr_U) (x1 : Int32) (P : Nat) (hA : lfOK v x1 P) (N : Nat) (hN : v 1100 16 = nI N) (hW : nt_ok (v 1118) (v 1119) N) (nr : Nat) (hR : v 1100 7 = nI nr) (hR2 : nr ≤ 16) : Con l mX11_riskOf I v u [.ref 1100, .int x1] (QL v u (fun z => z = f_riskOf v nr N x1)) := by
  refine Con.of (by decide) (Nat.le_of_ble_eq_true rfl) ?_
  show J l mX11_riskOf I v u 0 [(0, .ref 1100), (1, .int x1)] [] _
  refine J_iconst (x := 0) dX11_riskOf_0 (by decide) ?_
  refine J_istore_n (lv' := [(2, .int 0), (0, .ref 1100), (1, .int x1)]) dX11_riskOf_1 rfl (by decide) rfl ?_
  refine J_iconst (x := (-1)) dX11_riskOf_2 (by decide) ?_
  refine J_istore_n (lv' := [(3, .int (-1)), (2, .int 0), (0, .ref 1100), (1, .int x1)]) dX11_riskOf_3 rfl (by decide) rfl ?_
  refine J_iconst (x := 0) dX11_riskOf_4 (by decide) ?_
  refine J_istore (lv' := [(4, .int 0), (3, .int (-1)), (2, .int 0), (0, .ref 1100), (1, .int x1)]) dX11_riskOf_5 (by decide) rfl ?_
  refine J_lv [3, 4, 2, 1, 0] rfl ?_
  exact rk_L1 hI v u x1 P hA N hN hW nr hR hR2 (nr + 1) 0 _ _ (by omega) (by omega) rfl rfl
theorem sw_cases (x : Int32) (n : Nat) (hn : n < 2 ^ 31) : (∃ k, k ≤ n ∧ x = nI k) ∨ (x.toInt < 0 ∨ (n : Int) < x.toInt) := by
  by_cases h : x < 0
  · right; left
    exact Int32.lt_iff_toInt_lt.mp h
  · obtain ⟨j, hj, rfl⟩ := nI_of h
    by_cases h2 : j ≤ n
    · exact Or.inl ⟨j, h2, rfl⟩
    · right; right
      rw [nI_toInt hj]; omega
def f_count (v : fr_V) (x : Int32) : Int32 := if x = 0 then v 1100 3 else if x = 1 then v 1100 4 else if x = 2 then v 1100 7 else if x = 3 then v 1100 16 else if x = 4 then v 1141 0 else if x = 5 then v 1141 1 else if x = 6 then v 1141 2 else if x = 7 then v 1141 3 else if x = 8 then v 1100 38 else (-1)
theorem f_count_o {v : fr_V} {x : Int32} (h : x.toInt < 0 ∨ (8 : Int) < x.toInt) : f_count v x = (-1) := by
  have ne : ∀ k : Int32, 0 ≤ k.toInt → k.toInt ≤ 8 → ¬ x = k := fun k h1 h2 e => by subst e; omega
  unfold f_count
  rw [if_neg (ne 0 (by decide) (by decide)), if_neg (ne 1 (by decide) (by decide)), if_neg (ne 2 (by decide) (by decide)), if_neg (ne 3 (by decide) (by decide)), if_neg (ne 4 (by decide) (by decide)), if_neg (ne 5 (by decide) (by decide)), if_neg (ne 6 (by decide) (by decide)), if_neg (ne 7 (by decide) (by decide)), if_neg (ne 8 (by decide) (by decide))]
theorem k_X11_count {l : Launch} {I : List Nat} (hI : fr_I I) (v : fr_V) (u : fr_U) (x1 : Int32) : Con l mX11_count I v u [.ref 1100, .int x1] (QX u (fun a b => a = f_count v x1 ∧ b = up2 v 1100 2 0)) := by
  refine Con.of (by decide) (Nat.le_of_ble_eq_true rfl) ?_
  show J l mX11_count I v u 0 [(0, .ref 1100), (1, .int x1)] [] _
  refine J_aload_n dX11_count_0 rfl 0 rfl ?_
  refine J_iconst (x := 0) dX11_count_1 (by decide) ?_
  refine J_puti (ci := 11) (j := 2) dX11_count_2 fl_X11_129 (i1100 hI) rfl rfl (fun q h => by cases h; rfl) rfl ?_
  refine J_iload_n dX11_count_5 rfl 1 rfl ?_
  rcases sw_cases x1 8 (by omega) with ⟨k, hk, rfl⟩ | ho
  · match k, hk with
    | 0, _ =>
      refine J_tableIn (off := 50) (tgt := 56) dX11_count_6 (by decide) (by decide) (by decide) (by decide) ?_
      refine J_aload_n dX11_count_56 rfl 0 rfl ?_
      refine J_gete (ci := 11) (j := 3) (x := v 1100 3) dX11_count_57 fl_X11_208 (i1100 hI) rfl rfl rfl ?_
      exact J_iret dX11_count_60 rfl ⟨_, rfl, rfl, rfl, rfl⟩
    | 1, _ =>
      refine J_tableIn (off := 55) (tgt := 61) dX11_count_6 (by decide) (by decide) (by decide) (by decide) ?_
      refine J_aload_n dX11_count_61 rfl 0 rfl ?_
      refine J_gete (ci := 11) (j := 4) (x := v 1100 4) dX11_count_62 fl_X11_211 (i1100 hI) rfl rfl rfl ?_
      exact J_iret dX11_count_65 rfl ⟨_, rfl, rfl, rfl, rfl⟩
    | 2, _ =>
      refine J_tableIn (off := 60) (tgt := 66) dX11_count_6 (by decide) (by decide) (by decide) (by decide) ?_
      refine J_aload_n dX11_count_66 rfl 0 rfl ?_
      refine J_gete (ci := 11) (j := 7) (x := v 1100 7) dX11_count_67 fl_X11_233 (i1100 hI) rfl rfl rfl ?_
      exact J_iret dX11_count_70 rfl ⟨_, rfl, rfl, rfl, rfl⟩
    | 3, _ =>
      refine J_tableIn (off := 65) (tgt := 71) dX11_count_6 (by decide) (by decide) (by decide) (by decide) ?_
      refine J_aload_n dX11_count_71 rfl 0 rfl ?_
      refine J_gete (ci := 11) (j := 16) (x := v 1100 16) dX11_count_72 fl_X11_252 (i1100 hI) rfl rfl rfl ?_
      exact J_iret dX11_count_75 rfl ⟨_, rfl, rfl, rfl, rfl⟩
    | 4, _ =>
      refine J_tableIn (off := 70) (tgt := 76) dX11_count_6 (by decide) (by decide) (by decide) (by decide) ?_
      refine J_aload_n dX11_count_76 rfl 0 rfl ?_
      refine J_getr (ci := 11) (j := 40) (t := 1141) dX11_count_77 fl_X11_86 (i1100 hI) rfl rfl rfl ?_
      refine J_iload_n dX11_count_80 rfl 1 rfl ?_
      refine J_iconst (x := 4) dX11_count_81 (by decide) ?_
      refine J_isub dX11_count_82 ?_
      refine J_iale (x := v 1141 (((nI 4) - 4).toNatClampNeg)) dX11_count_83 (i1141 hI) rfl (by unfold vp_in; decide) rfl ?_
      exact J_iret dX11_count_84 rfl ⟨_, rfl, rfl, rfl, rfl⟩
    | 5, _ =>
      refine J_tableIn (off := 70) (tgt := 76) dX11_count_6 (by decide) (by decide) (by decide) (by decide) ?_
      refine J_aload_n dX11_count_76 rfl 0 rfl ?_
      refine J_getr (ci := 11) (j := 40) (t := 1141) dX11_count_77 fl_X11_86 (i1100 hI) rfl rfl rfl ?_
      refine J_iload_n dX11_count_80 rfl 1 rfl ?_
      refine J_iconst (x := 4) dX11_count_81 (by decide) ?_
      refine J_isub dX11_count_82 ?_
      refine J_iale (x := v 1141 (((nI 5) - 4).toNatClampNeg)) dX11_count_83 (i1141 hI) rfl (by unfold vp_in; decide) rfl ?_
      exact J_iret dX11_count_84 rfl ⟨_, rfl, rfl, rfl, rfl⟩
    | 6, _ =>
      refine J_tableIn (off := 70) (tgt := 76) dX11_count_6 (by decide) (by decide) (by decide) (by decide) ?_
      refine J_aload_n dX11_count_76 rfl 0 rfl ?_
      refine J_getr (ci := 11) (j := 40) (t := 1141) dX11_count_77 fl_X11_86 (i1100 hI) rfl rfl rfl ?_
      refine J_iload_n dX11_count_80 rfl 1 rfl ?_
      refine J_iconst (x := 4) dX11_count_81 (by decide) ?_
      refine J_isub dX11_count_82 ?_
      refine J_iale (x := v 1141 (((nI 6) - 4).toNatClampNeg)) dX11_count_83 (i1141 hI) rfl (by unfold vp_in; decide) rfl ?_
      exact J_iret dX11_count_84 rfl ⟨_, rfl, rfl, rfl, rfl⟩
    | 7, _ =>
      refine J_tableIn (off := 70) (tgt := 76) dX11_count_6 (by decide) (by decide) (by decide) (by decide) ?_
      refine J_aload_n dX11_count_76 rfl 0 rfl ?_
      refine J_getr (ci := 11) (j := 40) (t := 1141) dX11_count_77 fl_X11_86 (i1100 hI) rfl rfl rfl ?_
      refine J_iload_n dX11_count_80 rfl 1 rfl ?_
      refine J_iconst (x := 4) dX11_count_81 (by decide) ?_
      refine J_isub dX11_count_82 ?_
      refine J_iale (x := v 1141 (((nI 7) - 4).toNatClampNeg)) dX11_count_83 (i1141 hI) rfl (by unfold vp_in; decide) rfl ?_
      exact J_iret dX11_count_84 rfl ⟨_, rfl, rfl, rfl, rfl⟩
    | 8, _ =>
      refine J_tableIn (off := 79) (tgt := 85) dX11_count_6 (by decide) (by decide) (by decide) (by decide) ?_
      refine J_aload_n dX11_count_85 rfl 0 rfl ?_
      refine J_gete (ci := 11) (j := 38) (x := v 1100 38) dX11_count_86 fl_X11_170 (i1100 hI) rfl rfl rfl ?_
      exact J_iret dX11_count_89 rfl ⟨_, rfl, rfl, rfl, rfl⟩
    | k + 9, hk => omega
  · refine J_tableOut (tgt := 90) dX11_count_6 ho (by decide) ?_
    refine J_iconst (x := (-1)) dX11_count_90 (by decide) ?_
    exact J_iret dX11_count_91 rfl ⟨_, rfl, rfl, (f_count_o ho).symm, rfl⟩
