def cvV (v : fr_V) (ac m N n w : Nat) (f1 f2 c one other : Int32) : Int32 := if lg_cmp ((f_lump v ac m f1 f2).toInt64 * (2 * c.toInt64) * (f_wn v ac N n w one other 0).toInt64 / 100) (2 * c.toInt64 * (f_wn v ac N n w one other 1).toInt64) ≤ 0 then 0 else 1
def cvT (B : fr_V) (ac m N n w : Nat) (f1 f2 c : Int32) : Int32 := if f_X1_isDead B f1 = 0 then (if f2 = (-1) then cvV B ac m N n w f1 f2 c f1 (-1) else if f_X1_isDead B f2 = 0 then cvV B ac m N n w f1 f2 c f1 f2 else cvV B ac m N n w f1 f2 c f1 (-1)) else (if f2 = (-1) then 0 else if f_X1_isDead B f2 = 0 then cvV B ac m N n w f1 f2 c f2 (-1) else 0)
def f_conv10 (v : fr_V) (ac m N n w : Nat) (x1 : Int32) : Int32 := if f_X3_has v x1 = 0 then (-1) else cvT (f_kw v N (nI w)) ac m N n w (v (2000 + 10 * x1.toNatClampNeg) 1) (v (2000 + 10 * x1.toNatClampNeg) 2) (v (2000 + 10 * x1.toNatClampNeg) 3)
theorem vp_m1 {x : Int32} (h : vp_in x 12) : ¬ x = (-1) := fun e => h (Or.inl (by rw [e]; decide))
theorem k_X10_converts {l : Launch} {I : List Nat} (hI : fr_I I) (v : fr_V) (u : fr_U) (ac m N n nr w : Nat) (x1 : Int32) (hac : ac = 10 ∨ ac = 20) (ha : v 1000 1 = nI ac) (hln : lnOK v ac m) (hw : v 1000 3 = nI w) (hw8 : w < 80) (hN : v 100 5 = nI N) (hW : nt_ok (v 102) (v 103) N) (hl : lf8 n v) (hset : ¬ f_set v ac 2 + 1 = 0) (hn : rnOK I nr v) (hrl : ∀ r, r < nr → lvOK v w (v (2000 + 10 * r) 1) ∧ (¬ v (2000 + 10 * r) 2 = (-1) → lvOK v w (v (2000 + 10 * r) 2))) : Con l mX10_converts I v u [.ref 1000, .int x1] (QX u (fun a b => a = f_conv10 v ac m N n w x1 ∧ (b = v ∨ (fw3 (f_kw v N (nI w)) b ∧ b 200 = (f_kw v N (nI w)) 200)))) := by
  refine Con.of (by decide) (Nat.le_of_ble_eq_true rfl) ?_
  show J l mX10_converts I v u 0 [(0, .ref 1000), (1, .int x1)] [] _
  refine J_aload_n dX10_converts_0 rfl 0 rfl ?_
  refine J_getr (ci := 10) (j := 6) (t := 300) dX10_converts_1 fl_X10_47 (i1000 hI) rfl rfl rfl ?_
  refine J_iload_n dX10_converts_4 rfl 1 rfl ?_
  refine J_eVI (z := mX3_has) (As := [.int x1]) (rest := []) (ci := 3) (x := f_X3_has v x1) dX10_converts_5 ml_X10_132 ok_X3_has iv_X3_has (by decide) (i300 hI) rfl rfl rfl rfl (Nat.le_of_ble_eq_true rfl) (k_X3_has hI v u x1) ?_
  refine J_if_ne (tgt := 13) dX10_converts_8 (by decide) (fun c1 => ?_) (fun c1 => ?_)
  · obtain ⟨r, hr, rfl⟩ := has3N hn.2.1 hn.1 c1
    have hn16 := hn.1
    have q := sm3.kw (v := v) (N := N) (x := nI w)
    have q1000 := q.1 1000 (by omega) (by omega) (by omega) (by omega) (by omega)
    have ha2 : (f_kw v N (nI w)) 1000 1 = nI ac := by rw [q1000]; exact ha
    have hw2 : (f_kw v N (nI w)) 1000 3 = nI w := by rw [q1000]; exact hw
    have hN2 : (f_kw v N (nI w)) 100 5 = nI N := by rw [q.2.1 5 (by omega)]; exact hN
    have hW2 : nt_ok ((f_kw v N (nI w)) 102) ((f_kw v N (nI w)) 103) N := by rw [q.1 102 (by omega) (by omega) (by omega) (by omega) (by omega), q.1 103 (by omega) (by omega) (by omega) (by omega) (by omega)]; exact hW
    have hr2 : ¬ f_set (f_kw v N (nI w)) ac 2 + 1 = 0 := by rw [q.set hac]; exact hset
    have hf1 : ¬ v (2000 + 10 * r) 1 = (-1) := vp_m1 (hrl r hr).1.1
    refine J_aload_n dX10_converts_13 rfl 0 rfl ?_
    refine J_getr (ci := 10) (j := 6) (t := 300) dX10_converts_14 fl_X10_47 (i1000 hI) rfl rfl rfl ?_
    refine J_getr (ci := 3) (j := 1) (t := 302) dX10_converts_17 fl_X10_167 (i300 hI) rfl rfl rfl ?_
    refine J_iload_n dX10_converts_20 rfl 1 rfl ?_
    refine J_aldR (t := 2000 + 10 * r) dX10_converts_21 (i302 hI) rfl (vp_in_nI (by omega) (by omega)) (rn_0 hn hr) (rn_1 hn hr) ?_
    refine J_astore_n (lv' := [(2, .ref (2000 + 10 * r)), (0, .ref 1000), (1, .int (nI r))]) dX10_converts_22 rfl (by decide) rfl ?_
    refine J_aload_n dX10_converts_23 rfl 1 rfl ?_
    refine J_getr (ci := 10) (j := 5) (t := 100) dX10_converts_24 fl_X10_38 (i1000 hI) rfl rfl rfl ?_
    refine J_aload_n dX10_converts_27 rfl 1 rfl ?_
    refine J_gete (ci := 10) (j := 3) (x := nI w) dX10_converts_28 fl_X10_92 (i1000 hI) rfl rfl hw ?_
    refine J_eVN (z := mX1_know) (As := [.int (nI w)]) (rest := []) (ci := 1) (w := (f_kw v N (nI w))) dX10_converts_31 ml_X10_149 ok_X1_know iv_X1_know (by decide) (i100 hI) rfl rfl rfl rfl (Nat.le_of_ble_eq_true rfl) (k_X1_know hI v u (nI w) N hN hW) ?_
    refine J_aload_n dX10_converts_34 rfl 1 rfl ?_
    refine J_getr (ci := 10) (j := 5) (t := 100) dX10_converts_35 fl_X10_38 (i1000 hI) rfl rfl rfl ?_
    refine J_aload_n dX10_converts_38 rfl 0 rfl ?_
    refine J_gete (ci := 7) (j := 1) (x := v (2000 + 10 * r) 1) dX10_converts_39 fl_X10_276 (hn.2.2 r hr).1 (by rw [sh_rent]) rfl (congrFun (q.2.2 r) 1) ?_
    refine J_eVI (z := mX1_isDead) (As := [.int (v (2000 + 10 * r) 1)]) (rest := []) (ci := 1) (x := f_X1_isDead (f_kw v N (nI w)) (v (2000 + 10 * r) 1)) dX10_converts_42 ml_X10_239 ok_X1_isDead iv_X1_isDead (by decide) (i100 hI) rfl rfl rfl rfl (Nat.le_of_ble_eq_true rfl) (k_X1_isDead hI (f_kw v N (nI w)) u (v (2000 + 10 * r) 1) (hrl r hr).1.1) ?_
    refine J_if_eq (tgt := 52) dX10_converts_45 (by decide) (fun c2 => ?_) (fun c2 => ?_)
    · refine J_aload_n dX10_converts_52 rfl 0 rfl ?_
      refine J_gete (ci := 7) (j := 1) (x := v (2000 + 10 * r) 1) dX10_converts_53 fl_X10_276 (hn.2.2 r hr).1 (by rw [sh_rent]) rfl (congrFun (q.2.2 r) 1) ?_
      refine J_istore_n (lv' := [(3, .int (v (2000 + 10 * r) 1)), (2, .ref (2000 + 10 * r)), (0, .ref 1000), (1, .int (nI r))]) dX10_converts_56 rfl (by decide) rfl ?_
      refine J_aload_n dX10_converts_57 rfl 1 rfl ?_
      refine J_gete (ci := 7) (j := 2) (x := v (2000 + 10 * r) 2) dX10_converts_58 fl_X10_279 (hn.2.2 r hr).1 (by rw [sh_rent]) rfl (congrFun (q.2.2 r) 2) ?_
      refine J_iconst (x := (-1)) dX10_converts_61 (by decide) ?_
      refine J_icmp_eq (tgt := 79) dX10_converts_62 (by decide) (fun c3 => ?_) (fun c3 => ?_)
      · refine J_iconst (x := (-1)) dX10_converts_79 (by decide) ?_
        refine J_goto (tgt := 87) dX10_converts_80 (by decide) ?_
        refine J_istore (lv' := [(4, .int (-1)), (3, .int (v (2000 + 10 * r) 1)), (2, .ref (2000 + 10 * r)), (0, .ref 1000), (1, .int (nI r))]) dX10_converts_87 (by decide) rfl ?_
        refine J_iload_n dX10_converts_89 rfl 1 rfl ?_
        refine J_iconst (x := (-1)) dX10_converts_90 (by decide) ?_
        refine J_icmp_ne (tgt := 100) dX10_converts_91 (by decide) (fun c4 => ?_) (fun c4 => absurd c4 hf1)
        refine J_iload_n dX10_converts_100 rfl 1 rfl ?_
        refine J_iconst (x := (-1)) dX10_converts_101 (by decide) ?_
        refine J_icmp_ne (tgt := 107) dX10_converts_102 (by decide) (fun c5 => ?_) (fun c5 => absurd c5 hf1)
        refine J_ldc2 (x := 2) dX10_converts_107 cl_X10_282 ?_
        refine J_aload_n dX10_converts_110 rfl 2 rfl ?_
        refine J_gete (ci := 7) (j := 3) (x := v (2000 + 10 * r) 3) dX10_converts_111 fl_X10_284 (hn.2.2 r hr).1 (by rw [sh_rent]) rfl (congrFun (q.2.2 r) 3) ?_
        refine J_i2l dX10_converts_114 ?_
        refine J_lmul dX10_converts_115 ?_
        refine J_lstore (lv' := [(5, .long (2 * ((v (2000 + 10 * r) 3).toInt64))), (4, .int (-1)), (3, .int (v (2000 + 10 * r) 1)), (2, .ref (2000 + 10 * r)), (0, .ref 1000), (1, .int (nI r))]) dX10_converts_116 (by decide) rfl ?_
        refine J_aload_n dX10_converts_118 rfl 4 rfl ?_
        refine J_aload_n dX10_converts_119 rfl 3 rfl ?_
        refine J_gete (ci := 7) (j := 1) (x := v (2000 + 10 * r) 1) dX10_converts_120 fl_X10_276 (hn.2.2 r hr).1 (by rw [sh_rent]) rfl (congrFun (q.2.2 r) 1) ?_
        refine J_aload_n dX10_converts_123 rfl 3 rfl ?_
        refine J_gete (ci := 7) (j := 2) (x := v (2000 + 10 * r) 2) dX10_converts_124 fl_X10_279 (hn.2.2 r hr).1 (by rw [sh_rent]) rfl (congrFun (q.2.2 r) 2) ?_
        refine J_eVI (z := mX10_lumpOn) (As := [.int (v (2000 + 10 * r) 1), .int (v (2000 + 10 * r) 2)]) (rest := []) (ci := 10) (x := f_lump (f_kw v N (nI w)) ac m (v (2000 + 10 * r) 1) (v (2000 + 10 * r) 2)) dX10_converts_127 ml_X10_113 ok_X10_lumpOn iv_X10_lumpOn (by decide) (i1000 hI) rfl rfl rfl rfl (Nat.le_of_ble_eq_true rfl) (k_X10_lumpOn hI (f_kw v N (nI w)) u ac m (v (2000 + 10 * r) 1) (v (2000 + 10 * r) 2) hac ha2 (q.ln hac hln) (hrl r hr).1.1 (fun g => ((hrl r hr).2 g).1)) ?_
        refine J_i2l dX10_converts_130 ?_
        refine J_lload dX10_converts_131 0 rfl ?_
        refine J_lmul dX10_converts_133 ?_
        refine J_aload_n dX10_converts_134 rfl 4 rfl ?_
        refine J_iload_n dX10_converts_135 rfl 2 rfl ?_
        refine J_iload dX10_converts_136 1 rfl ?_
        refine J_iconst (x := 0) dX10_converts_138 (by decide) ?_
        refine J_cVX (z := mX10_worthNow) (As := [.int (v (2000 + 10 * r) 1), .int (-1), .int 0]) (rest := [.long (((f_lump (f_kw v N (nI w)) ac m (v (2000 + 10 * r) 1) (v (2000 + 10 * r) 2)).toInt64) * (2 * ((v (2000 + 10 * r) 3).toInt64)))]) (ci := 10) dX10_converts_139 ml_X10_226 ok_X10_worthNow iv_X10_worthNow (by decide) (i1000 hI) rfl rfl rfl rfl (Nat.le_of_ble_eq_true rfl) (k_wn3 hI (f_kw v N (nI w)) u ac N n w (v (2000 + 10 * r) 1) (-1) 0 (f_kw v N (nI w)) fw3.rfl (kw_6 _ _ _) hac ha2 hw2 hw8 hN2 hW2 (q.lf hl) hr2 (q.lv (hrl r hr).1) (fun g => absurd rfl g)) (fun b y hy => ?_)
        refine J_i2l dX10_converts_142 ?_
        refine J_lmul dX10_converts_143 ?_
        refine J_ldc2 (x := 100) dX10_converts_144 cl_X10_287 ?_
        refine J_ldiv dX10_converts_147 (by decide) ?_
        refine J_lstore (lv' := [(7, .long (((((f_lump (f_kw v N (nI w)) ac m (v (2000 + 10 * r) 1) (v (2000 + 10 * r) 2)).toInt64) * (2 * ((v (2000 + 10 * r) 3).toInt64))) * b.toInt64) / 100)), (5, .long (2 * ((v (2000 + 10 * r) 3).toInt64))), (4, .int (-1)), (3, .int (v (2000 + 10 * r) 1)), (2, .ref (2000 + 10 * r)), (0, .ref 1000), (1, .int (nI r))]) dX10_converts_148 (by decide) rfl ?_
        refine J_lload dX10_converts_150 0 rfl ?_
        refine J_lload dX10_converts_152 1 rfl ?_
        refine J_aload_n dX10_converts_154 rfl 5 rfl ?_
        refine J_iload_n dX10_converts_155 rfl 3 rfl ?_
        refine J_iload dX10_converts_156 2 rfl ?_
        refine J_iconst (x := 1) dX10_converts_158 (by decide) ?_
        refine J_cVX (z := mX10_worthNow) (As := [.int (v (2000 + 10 * r) 1), .int (-1), .int 1]) (rest := [.long (2 * ((v (2000 + 10 * r) 3).toInt64)), .long (((((f_lump (f_kw v N (nI w)) ac m (v (2000 + 10 * r) 1) (v (2000 + 10 * r) 2)).toInt64) * (2 * ((v (2000 + 10 * r) 3).toInt64))) * b.toInt64) / 100)]) (ci := 10) dX10_converts_159 ml_X10_226 ok_X10_worthNow iv_X10_worthNow (by decide) (i1000 hI) rfl rfl rfl rfl (Nat.le_of_ble_eq_true rfl) (k_wn3 hI (f_kw v N (nI w)) u ac N n w (v (2000 + 10 * r) 1) (-1) 1 y hy.2.1 (kw_6 _ _ _) hac ha2 hw2 hw8 hN2 hW2 (q.lf hl) hr2 (q.lv (hrl r hr).1) (fun g => absurd rfl g)) (fun b2 y2 hy2 => ?_)
        refine J_i2l dX10_converts_162 ?_
        refine J_lmul dX10_converts_163 ?_
        refine J_lcmp dX10_converts_164 ?_
        refine J_if_le (tgt := 172) dX10_converts_165 (by decide) (fun c6 => ?_) (fun c6 => ?_)
        · refine J_iconst (x := 0) dX10_converts_172 (by decide) ?_
          exact J_iret dX10_converts_173 rfl ⟨_, rfl, rfl, by unfold f_conv10; rw [if_neg c1, nI_clamp (show r < 2 ^ 31 by omega)]; unfold cvT; rw [if_pos c2, if_pos c3]; unfold cvV; rw [← hy.1, ← hy2.1, if_pos c6], Or.inr ⟨hy2.2.1, hy2.2.2.1.trans hy.2.2.1⟩⟩
        · refine J_iconst (x := 1) dX10_converts_168 (by decide) ?_
          refine J_goto (tgt := 173) dX10_converts_169 (by decide) ?_
          exact J_iret dX10_converts_173 rfl ⟨_, rfl, rfl, by unfold f_conv10; rw [if_neg c1, nI_clamp (show r < 2 ^ 31 by omega)]; unfold cvT; rw [if_pos c2, if_pos c3]; unfold cvV; rw [← hy.1, ← hy2.1, if_neg c6], Or.inr ⟨hy2.2.1, hy2.2.2.1.trans hy.2.2.1⟩⟩
      · refine J_aload_n dX10_converts_65 rfl 2 rfl ?_
        refine J_getr (ci := 10) (j := 5) (t := 100) dX10_converts_66 fl_X10_38 (i1000 hI) rfl rfl rfl ?_
        refine J_aload_n dX10_converts_69 rfl 1 rfl ?_
        refine J_gete (ci := 7) (j := 2) (x := v (2000 + 10 * r) 2) dX10_converts_70 fl_X10_279 (hn.2.2 r hr).1 (by rw [sh_rent]) rfl (congrFun (q.2.2 r) 2) ?_
        refine J_eVI (z := mX1_isDead) (As := [.int (v (2000 + 10 * r) 2)]) (rest := []) (ci := 1) (x := f_X1_isDead (f_kw v N (nI w)) (v (2000 + 10 * r) 2)) dX10_converts_73 ml_X10_239 ok_X1_isDead iv_X1_isDead (by decide) (i100 hI) rfl rfl rfl rfl (Nat.le_of_ble_eq_true rfl) (k_X1_isDead hI (f_kw v N (nI w)) u (v (2000 + 10 * r) 2) ((hrl r hr).2 c3).1) ?_
        refine J_if_eq (tgt := 83) dX10_converts_76 (by decide) (fun c7 => ?_) (fun c7 => ?_)
        · have hsec : ¬ v (2000 + 10 * r) 2 = (-1) := c3
          refine J_aload_n dX10_converts_83 rfl 1 rfl ?_
          refine J_gete (ci := 7) (j := 2) (x := v (2000 + 10 * r) 2) dX10_converts_84 fl_X10_279 (hn.2.2 r hr).1 (by rw [sh_rent]) rfl (congrFun (q.2.2 r) 2) ?_
          refine J_istore (lv' := [(4, .int (v (2000 + 10 * r) 2)), (3, .int (v (2000 + 10 * r) 1)), (2, .ref (2000 + 10 * r)), (0, .ref 1000), (1, .int (nI r))]) dX10_converts_87 (by decide) rfl ?_
          refine J_iload_n dX10_converts_89 rfl 1 rfl ?_
          refine J_iconst (x := (-1)) dX10_converts_90 (by decide) ?_
          refine J_icmp_ne (tgt := 100) dX10_converts_91 (by decide) (fun c8 => ?_) (fun c8 => absurd c8 hf1)
          refine J_iload_n dX10_converts_100 rfl 1 rfl ?_
          refine J_iconst (x := (-1)) dX10_converts_101 (by decide) ?_
          refine J_icmp_ne (tgt := 107) dX10_converts_102 (by decide) (fun c9 => ?_) (fun c9 => absurd c9 hf1)
          refine J_ldc2 (x := 2) dX10_converts_107 cl_X10_282 ?_
          refine J_aload_n dX10_converts_110 rfl 2 rfl ?_
          refine J_gete (ci := 7) (j := 3) (x := v (2000 + 10 * r) 3) dX10_converts_111 fl_X10_284 (hn.2.2 r hr).1 (by rw [sh_rent]) rfl (congrFun (q.2.2 r) 3) ?_
          refine J_i2l dX10_converts_114 ?_
          refine J_lmul dX10_converts_115 ?_
          refine J_lstore (lv' := [(5, .long (2 * ((v (2000 + 10 * r) 3).toInt64))), (4, .int (v (2000 + 10 * r) 2)), (3, .int (v (2000 + 10 * r) 1)), (2, .ref (2000 + 10 * r)), (0, .ref 1000), (1, .int (nI r))]) dX10_converts_116 (by decide) rfl ?_
          refine J_aload_n dX10_converts_118 rfl 4 rfl ?_
          refine J_aload_n dX10_converts_119 rfl 3 rfl ?_
          refine J_gete (ci := 7) (j := 1) (x := v (2000 + 10 * r) 1) dX10_converts_120 fl_X10_276 (hn.2.2 r hr).1 (by rw [sh_rent]) rfl (congrFun (q.2.2 r) 1) ?_
          refine J_aload_n dX10_converts_123 rfl 3 rfl ?_
          refine J_gete (ci := 7) (j := 2) (x := v (2000 + 10 * r) 2) dX10_converts_124 fl_X10_279 (hn.2.2 r hr).1 (by rw [sh_rent]) rfl (congrFun (q.2.2 r) 2) ?_
          refine J_eVI (z := mX10_lumpOn) (As := [.int (v (2000 + 10 * r) 1), .int (v (2000 + 10 * r) 2)]) (rest := []) (ci := 10) (x := f_lump (f_kw v N (nI w)) ac m (v (2000 + 10 * r) 1) (v (2000 + 10 * r) 2)) dX10_converts_127 ml_X10_113 ok_X10_lumpOn iv_X10_lumpOn (by decide) (i1000 hI) rfl rfl rfl rfl (Nat.le_of_ble_eq_true rfl) (k_X10_lumpOn hI (f_kw v N (nI w)) u ac m (v (2000 + 10 * r) 1) (v (2000 + 10 * r) 2) hac ha2 (q.ln hac hln) (hrl r hr).1.1 (fun g => ((hrl r hr).2 g).1)) ?_
          refine J_i2l dX10_converts_130 ?_
          refine J_lload dX10_converts_131 0 rfl ?_
          refine J_lmul dX10_converts_133 ?_
          refine J_aload_n dX10_converts_134 rfl 4 rfl ?_
          refine J_iload_n dX10_converts_135 rfl 2 rfl ?_
          refine J_iload dX10_converts_136 1 rfl ?_
          refine J_iconst (x := 0) dX10_converts_138 (by decide) ?_
          refine J_cVX (z := mX10_worthNow) (As := [.int (v (2000 + 10 * r) 1), .int (v (2000 + 10 * r) 2), .int 0]) (rest := [.long (((f_lump (f_kw v N (nI w)) ac m (v (2000 + 10 * r) 1) (v (2000 + 10 * r) 2)).toInt64) * (2 * ((v (2000 + 10 * r) 3).toInt64)))]) (ci := 10) dX10_converts_139 ml_X10_226 ok_X10_worthNow iv_X10_worthNow (by decide) (i1000 hI) rfl rfl rfl rfl (Nat.le_of_ble_eq_true rfl) (k_wn3 hI (f_kw v N (nI w)) u ac N n w (v (2000 + 10 * r) 1) (v (2000 + 10 * r) 2) 0 (f_kw v N (nI w)) fw3.rfl (kw_6 _ _ _) hac ha2 hw2 hw8 hN2 hW2 (q.lf hl) hr2 (q.lv (hrl r hr).1) (fun g => q.lv ((hrl r hr).2 g))) (fun b y hy => ?_)
          refine J_i2l dX10_converts_142 ?_
          refine J_lmul dX10_converts_143 ?_
          refine J_ldc2 (x := 100) dX10_converts_144 cl_X10_287 ?_
          refine J_ldiv dX10_converts_147 (by decide) ?_
          refine J_lstore (lv' := [(7, .long (((((f_lump (f_kw v N (nI w)) ac m (v (2000 + 10 * r) 1) (v (2000 + 10 * r) 2)).toInt64) * (2 * ((v (2000 + 10 * r) 3).toInt64))) * b.toInt64) / 100)), (5, .long (2 * ((v (2000 + 10 * r) 3).toInt64))), (4, .int (v (2000 + 10 * r) 2)), (3, .int (v (2000 + 10 * r) 1)), (2, .ref (2000 + 10 * r)), (0, .ref 1000), (1, .int (nI r))]) dX10_converts_148 (by decide) rfl ?_
          refine J_lload dX10_converts_150 0 rfl ?_
          refine J_lload dX10_converts_152 1 rfl ?_
          refine J_aload_n dX10_converts_154 rfl 5 rfl ?_
          refine J_iload_n dX10_converts_155 rfl 3 rfl ?_
          refine J_iload dX10_converts_156 2 rfl ?_
          refine J_iconst (x := 1) dX10_converts_158 (by decide) ?_
          refine J_cVX (z := mX10_worthNow) (As := [.int (v (2000 + 10 * r) 1), .int (v (2000 + 10 * r) 2), .int 1]) (rest := [.long (2 * ((v (2000 + 10 * r) 3).toInt64)), .long (((((f_lump (f_kw v N (nI w)) ac m (v (2000 + 10 * r) 1) (v (2000 + 10 * r) 2)).toInt64) * (2 * ((v (2000 + 10 * r) 3).toInt64))) * b.toInt64) / 100)]) (ci := 10) dX10_converts_159 ml_X10_226 ok_X10_worthNow iv_X10_worthNow (by decide) (i1000 hI) rfl rfl rfl rfl (Nat.le_of_ble_eq_true rfl) (k_wn3 hI (f_kw v N (nI w)) u ac N n w (v (2000 + 10 * r) 1) (v (2000 + 10 * r) 2) 1 y hy.2.1 (kw_6 _ _ _) hac ha2 hw2 hw8 hN2 hW2 (q.lf hl) hr2 (q.lv (hrl r hr).1) (fun g => q.lv ((hrl r hr).2 g))) (fun b2 y2 hy2 => ?_)
          refine J_i2l dX10_converts_162 ?_
          refine J_lmul dX10_converts_163 ?_
          refine J_lcmp dX10_converts_164 ?_
          refine J_if_le (tgt := 172) dX10_converts_165 (by decide) (fun c10 => ?_) (fun c10 => ?_)
          · refine J_iconst (x := 0) dX10_converts_172 (by decide) ?_
            exact J_iret dX10_converts_173 rfl ⟨_, rfl, rfl, by unfold f_conv10; rw [if_neg c1, nI_clamp (show r < 2 ^ 31 by omega)]; unfold cvT; rw [if_pos c2, if_neg c3, if_pos c7]; unfold cvV; rw [← hy.1, ← hy2.1, if_pos c10], Or.inr ⟨hy2.2.1, hy2.2.2.1.trans hy.2.2.1⟩⟩
          · refine J_iconst (x := 1) dX10_converts_168 (by decide) ?_
            refine J_goto (tgt := 173) dX10_converts_169 (by decide) ?_
            exact J_iret dX10_converts_173 rfl ⟨_, rfl, rfl, by unfold f_conv10; rw [if_neg c1, nI_clamp (show r < 2 ^ 31 by omega)]; unfold cvT; rw [if_pos c2, if_neg c3, if_pos c7]; unfold cvV; rw [← hy.1, ← hy2.1, if_neg c10], Or.inr ⟨hy2.2.1, hy2.2.2.1.trans hy.2.2.1⟩⟩
        · refine J_iconst (x := (-1)) dX10_converts_79 (by decide) ?_
          refine J_goto (tgt := 87) dX10_converts_80 (by decide) ?_
          refine J_istore (lv' := [(4, .int (-1)), (3, .int (v (2000 + 10 * r) 1)), (2, .ref (2000 + 10 * r)), (0, .ref 1000), (1, .int (nI r))]) dX10_converts_87 (by decide) rfl ?_
          refine J_iload_n dX10_converts_89 rfl 1 rfl ?_
          refine J_iconst (x := (-1)) dX10_converts_90 (by decide) ?_
          refine J_icmp_ne (tgt := 100) dX10_converts_91 (by decide) (fun c11 => ?_) (fun c11 => absurd c11 hf1)
          refine J_iload_n dX10_converts_100 rfl 1 rfl ?_
          refine J_iconst (x := (-1)) dX10_converts_101 (by decide) ?_
          refine J_icmp_ne (tgt := 107) dX10_converts_102 (by decide) (fun c12 => ?_) (fun c12 => absurd c12 hf1)
          refine J_ldc2 (x := 2) dX10_converts_107 cl_X10_282 ?_
          refine J_aload_n dX10_converts_110 rfl 2 rfl ?_
          refine J_gete (ci := 7) (j := 3) (x := v (2000 + 10 * r) 3) dX10_converts_111 fl_X10_284 (hn.2.2 r hr).1 (by rw [sh_rent]) rfl (congrFun (q.2.2 r) 3) ?_
          refine J_i2l dX10_converts_114 ?_
          refine J_lmul dX10_converts_115 ?_
          refine J_lstore (lv' := [(5, .long (2 * ((v (2000 + 10 * r) 3).toInt64))), (4, .int (-1)), (3, .int (v (2000 + 10 * r) 1)), (2, .ref (2000 + 10 * r)), (0, .ref 1000), (1, .int (nI r))]) dX10_converts_116 (by decide) rfl ?_
          refine J_aload_n dX10_converts_118 rfl 4 rfl ?_
          refine J_aload_n dX10_converts_119 rfl 3 rfl ?_
          refine J_gete (ci := 7) (j := 1) (x := v (2000 + 10 * r) 1) dX10_converts_120 fl_X10_276 (hn.2.2 r hr).1 (by rw [sh_rent]) rfl (congrFun (q.2.2 r) 1) ?_
          refine J_aload_n dX10_converts_123 rfl 3 rfl ?_
          refine J_gete (ci := 7) (j := 2) (x := v (2000 + 10 * r) 2) dX10_converts_124 fl_X10_279 (hn.2.2 r hr).1 (by rw [sh_rent]) rfl (congrFun (q.2.2 r) 2) ?_
          refine J_eVI (z := mX10_lumpOn) (As := [.int (v (2000 + 10 * r) 1), .int (v (2000 + 10 * r) 2)]) (rest := []) (ci := 10) (x := f_lump (f_kw v N (nI w)) ac m (v (2000 + 10 * r) 1) (v (2000 + 10 * r) 2)) dX10_converts_127 ml_X10_113 ok_X10_lumpOn iv_X10_lumpOn (by decide) (i1000 hI) rfl rfl rfl rfl (Nat.le_of_ble_eq_true rfl) (k_X10_lumpOn hI (f_kw v N (nI w)) u ac m (v (2000 + 10 * r) 1) (v (2000 + 10 * r) 2) hac ha2 (q.ln hac hln) (hrl r hr).1.1 (fun g => ((hrl r hr).2 g).1)) ?_
          refine J_i2l dX10_converts_130 ?_
          refine J_lload dX10_converts_131 0 rfl ?_
          refine J_lmul dX10_converts_133 ?_
          refine J_aload_n dX10_converts_134 rfl 4 rfl ?_
          refine J_iload_n dX10_converts_135 rfl 2 rfl ?_
          refine J_iload dX10_converts_136 1 rfl ?_
          refine J_iconst (x := 0) dX10_converts_138 (by decide) ?_
          refine J_cVX (z := mX10_worthNow) (As := [.int (v (2000 + 10 * r) 1), .int (-1), .int 0]) (rest := [.long (((f_lump (f_kw v N (nI w)) ac m (v (2000 + 10 * r) 1) (v (2000 + 10 * r) 2)).toInt64) * (2 * ((v (2000 + 10 * r) 3).toInt64)))]) (ci := 10) dX10_converts_139 ml_X10_226 ok_X10_worthNow iv_X10_worthNow (by decide) (i1000 hI) rfl rfl rfl rfl (Nat.le_of_ble_eq_true rfl) (k_wn3 hI (f_kw v N (nI w)) u ac N n w (v (2000 + 10 * r) 1) (-1) 0 (f_kw v N (nI w)) fw3.rfl (kw_6 _ _ _) hac ha2 hw2 hw8 hN2 hW2 (q.lf hl) hr2 (q.lv (hrl r hr).1) (fun g => absurd rfl g)) (fun b y hy => ?_)
          refine J_i2l dX10_converts_142 ?_
          refine J_lmul dX10_converts_143 ?_
          refine J_ldc2 (x := 100) dX10_converts_144 cl_X10_287 ?_
          refine J_ldiv dX10_converts_147 (by decide) ?_
          refine J_lstore (lv' := [(7, .long (((((f_lump (f_kw v N (nI w)) ac m (v (2000 + 10 * r) 1) (v (2000 + 10 * r) 2)).toInt64) * (2 * ((v (2000 + 10 * r) 3).toInt64))) * b.toInt64) / 100)), (5, .long (2 * ((v (2000 + 10 * r) 3).toInt64))), (4, .int (-1)), (3, .int (v (2000 + 10 * r) 1)), (2, .ref (2000 + 10 * r)), (0, .ref 1000), (1, .int (nI r))]) dX10_converts_148 (by decide) rfl ?_
          refine J_lload dX10_converts_150 0 rfl ?_
          refine J_lload dX10_converts_152 1 rfl ?_
          refine J_aload_n dX10_converts_154 rfl 5 rfl ?_
          refine J_iload_n dX10_converts_155 rfl 3 rfl ?_
          refine J_iload dX10_converts_156 2 rfl ?_
          refine J_iconst (x := 1) dX10_converts_158 (by decide) ?_
          refine J_cVX (z := mX10_worthNow) (As := [.int (v (2000 + 10 * r) 1), .int (-1), .int 1]) (rest := [.long (2 * ((v (2000 + 10 * r) 3).toInt64)), .long (((((f_lump (f_kw v N (nI w)) ac m (v (2000 + 10 * r) 1) (v (2000 + 10 * r) 2)).toInt64) * (2 * ((v (2000 + 10 * r) 3).toInt64))) * b.toInt64) / 100)]) (ci := 10) dX10_converts_159 ml_X10_226 ok_X10_worthNow iv_X10_worthNow (by decide) (i1000 hI) rfl rfl rfl rfl (Nat.le_of_ble_eq_true rfl) (k_wn3 hI (f_kw v N (nI w)) u ac N n w (v (2000 + 10 * r) 1) (-1) 1 y hy.2.1 (kw_6 _ _ _) hac ha2 hw2 hw8 hN2 hW2 (q.lf hl) hr2 (q.lv (hrl r hr).1) (fun g => absurd rfl g)) (fun b2 y2 hy2 => ?_)
          refine J_i2l dX10_converts_162 ?_
          refine J_lmul dX10_converts_163 ?_
          refine J_lcmp dX10_converts_164 ?_
          refine J_if_le (tgt := 172) dX10_converts_165 (by decide) (fun c13 => ?_) (fun c13 => ?_)
          · refine J_iconst (x := 0) dX10_converts_172 (by decide) ?_
            exact J_iret dX10_converts_173 rfl ⟨_, rfl, rfl, by unfold f_conv10; rw [if_neg c1, nI_clamp (show r < 2 ^ 31 by omega)]; unfold cvT; rw [if_pos c2, if_neg c3, if_neg c7]; unfold cvV; rw [← hy.1, ← hy2.1, if_pos c13], Or.inr ⟨hy2.2.1, hy2.2.2.1.trans hy.2.2.1⟩⟩
          · refine J_iconst (x := 1) dX10_converts_168 (by decide) ?_
            refine J_goto (tgt := 173) dX10_converts_169 (by decide) ?_
            exact J_iret dX10_converts_173 rfl ⟨_, rfl, rfl, by unfold f_conv10; rw [if_neg c1, nI_clamp (show r < 2 ^ 31 by omega)]; unfold cvT; rw [if_pos c2, if_neg c3, if_neg c7]; unfold cvV; rw [← hy.1, ← hy2.1, if_neg c13], Or.inr ⟨hy2.2.1, hy2.2.2.1.trans hy.2.2.1⟩⟩
    · refine J_iconst (x := (-1)) dX10_converts_48 (by decide) ?_
      refine J_goto (tgt := 56) dX10_converts_49 (by decide) ?_
      refine J_istore_n (lv' := [(3, .int (-1)), (2, .ref (2000 + 10 * r)), (0, .ref 1000), (1, .int (nI r))]) dX10_converts_56 rfl (by decide) rfl ?_
      refine J_aload_n dX10_converts_57 rfl 1 rfl ?_
      refine J_gete (ci := 7) (j := 2) (x := v (2000 + 10 * r) 2) dX10_converts_58 fl_X10_279 (hn.2.2 r hr).1 (by rw [sh_rent]) rfl (congrFun (q.2.2 r) 2) ?_
      refine J_iconst (x := (-1)) dX10_converts_61 (by decide) ?_
      refine J_icmp_eq (tgt := 79) dX10_converts_62 (by decide) (fun c14 => ?_) (fun c14 => ?_)
      · refine J_iconst (x := (-1)) dX10_converts_79 (by decide) ?_
        refine J_goto (tgt := 87) dX10_converts_80 (by decide) ?_
        refine J_istore (lv' := [(4, .int (-1)), (3, .int (-1)), (2, .ref (2000 + 10 * r)), (0, .ref 1000), (1, .int (nI r))]) dX10_converts_87 (by decide) rfl ?_
        refine J_iload_n dX10_converts_89 rfl 1 rfl ?_
        refine J_iconst (x := (-1)) dX10_converts_90 (by decide) ?_
        refine J_icmp_ne (tgt := 100) dX10_converts_91 (by decide) (fun c15 => absurd rfl c15) (fun c15 => ?_)
        refine J_iload dX10_converts_94 0 rfl ?_
        refine J_istore_n (lv' := [(3, .int (-1)), (4, .int (-1)), (2, .ref (2000 + 10 * r)), (0, .ref 1000), (1, .int (nI r))]) dX10_converts_96 rfl (by decide) rfl ?_
        refine J_iconst (x := (-1)) dX10_converts_97 (by decide) ?_
        refine J_istore (lv' := [(4, .int (-1)), (3, .int (-1)), (2, .ref (2000 + 10 * r)), (0, .ref 1000), (1, .int (nI r))]) dX10_converts_98 (by decide) rfl ?_
        refine J_iload_n dX10_converts_100 rfl 1 rfl ?_
        refine J_iconst (x := (-1)) dX10_converts_101 (by decide) ?_
        refine J_icmp_ne (tgt := 107) dX10_converts_102 (by decide) (fun c16 => absurd rfl c16) (fun c16 => ?_)
        refine J_iconst (x := 0) dX10_converts_105 (by decide) ?_
        exact J_iret dX10_converts_106 rfl ⟨_, rfl, rfl, by unfold f_conv10; rw [if_neg c1, nI_clamp (show r < 2 ^ 31 by omega)]; unfold cvT; rw [if_neg c2, if_pos c14], Or.inr ⟨fw3.rfl, rfl⟩⟩
      · refine J_aload_n dX10_converts_65 rfl 2 rfl ?_
        refine J_getr (ci := 10) (j := 5) (t := 100) dX10_converts_66 fl_X10_38 (i1000 hI) rfl rfl rfl ?_
        refine J_aload_n dX10_converts_69 rfl 1 rfl ?_
        refine J_gete (ci := 7) (j := 2) (x := v (2000 + 10 * r) 2) dX10_converts_70 fl_X10_279 (hn.2.2 r hr).1 (by rw [sh_rent]) rfl (congrFun (q.2.2 r) 2) ?_
        refine J_eVI (z := mX1_isDead) (As := [.int (v (2000 + 10 * r) 2)]) (rest := []) (ci := 1) (x := f_X1_isDead (f_kw v N (nI w)) (v (2000 + 10 * r) 2)) dX10_converts_73 ml_X10_239 ok_X1_isDead iv_X1_isDead (by decide) (i100 hI) rfl rfl rfl rfl (Nat.le_of_ble_eq_true rfl) (k_X1_isDead hI (f_kw v N (nI w)) u (v (2000 + 10 * r) 2) ((hrl r hr).2 c14).1) ?_
        refine J_if_eq (tgt := 83) dX10_converts_76 (by decide) (fun c17 => ?_) (fun c17 => ?_)
        · have hsec : ¬ v (2000 + 10 * r) 2 = (-1) := c14
          refine J_aload_n dX10_converts_83 rfl 1 rfl ?_
          refine J_gete (ci := 7) (j := 2) (x := v (2000 + 10 * r) 2) dX10_converts_84 fl_X10_279 (hn.2.2 r hr).1 (by rw [sh_rent]) rfl (congrFun (q.2.2 r) 2) ?_
          refine J_istore (lv' := [(4, .int (v (2000 + 10 * r) 2)), (3, .int (-1)), (2, .ref (2000 + 10 * r)), (0, .ref 1000), (1, .int (nI r))]) dX10_converts_87 (by decide) rfl ?_
          refine J_iload_n dX10_converts_89 rfl 1 rfl ?_
          refine J_iconst (x := (-1)) dX10_converts_90 (by decide) ?_
          refine J_icmp_ne (tgt := 100) dX10_converts_91 (by decide) (fun c18 => absurd rfl c18) (fun c18 => ?_)
          refine J_iload dX10_converts_94 0 rfl ?_
          refine J_istore_n (lv' := [(3, .int (v (2000 + 10 * r) 2)), (4, .int (v (2000 + 10 * r) 2)), (2, .ref (2000 + 10 * r)), (0, .ref 1000), (1, .int (nI r))]) dX10_converts_96 rfl (by decide) rfl ?_
          refine J_iconst (x := (-1)) dX10_converts_97 (by decide) ?_
          refine J_istore (lv' := [(4, .int (-1)), (3, .int (v (2000 + 10 * r) 2)), (2, .ref (2000 + 10 * r)), (0, .ref 1000), (1, .int (nI r))]) dX10_converts_98 (by decide) rfl ?_
          refine J_iload_n dX10_converts_100 rfl 1 rfl ?_
          refine J_iconst (x := (-1)) dX10_converts_101 (by decide) ?_
          refine J_icmp_ne (tgt := 107) dX10_converts_102 (by decide) (fun c19 => ?_) (fun c19 => absurd c19 hsec)
          refine J_ldc2 (x := 2) dX10_converts_107 cl_X10_282 ?_
          refine J_aload_n dX10_converts_110 rfl 2 rfl ?_
          refine J_gete (ci := 7) (j := 3) (x := v (2000 + 10 * r) 3) dX10_converts_111 fl_X10_284 (hn.2.2 r hr).1 (by rw [sh_rent]) rfl (congrFun (q.2.2 r) 3) ?_
          refine J_i2l dX10_converts_114 ?_
          refine J_lmul dX10_converts_115 ?_
          refine J_lstore (lv' := [(5, .long (2 * ((v (2000 + 10 * r) 3).toInt64))), (4, .int (-1)), (3, .int (v (2000 + 10 * r) 2)), (2, .ref (2000 + 10 * r)), (0, .ref 1000), (1, .int (nI r))]) dX10_converts_116 (by decide) rfl ?_
          refine J_aload_n dX10_converts_118 rfl 4 rfl ?_
          refine J_aload_n dX10_converts_119 rfl 3 rfl ?_
          refine J_gete (ci := 7) (j := 1) (x := v (2000 + 10 * r) 1) dX10_converts_120 fl_X10_276 (hn.2.2 r hr).1 (by rw [sh_rent]) rfl (congrFun (q.2.2 r) 1) ?_
          refine J_aload_n dX10_converts_123 rfl 3 rfl ?_
          refine J_gete (ci := 7) (j := 2) (x := v (2000 + 10 * r) 2) dX10_converts_124 fl_X10_279 (hn.2.2 r hr).1 (by rw [sh_rent]) rfl (congrFun (q.2.2 r) 2) ?_
          refine J_eVI (z := mX10_lumpOn) (As := [.int (v (2000 + 10 * r) 1), .int (v (2000 + 10 * r) 2)]) (rest := []) (ci := 10) (x := f_lump (f_kw v N (nI w)) ac m (v (2000 + 10 * r) 1) (v (2000 + 10 * r) 2)) dX10_converts_127 ml_X10_113 ok_X10_lumpOn iv_X10_lumpOn (by decide) (i1000 hI) rfl rfl rfl rfl (Nat.le_of_ble_eq_true rfl) (k_X10_lumpOn hI (f_kw v N (nI w)) u ac m (v (2000 + 10 * r) 1) (v (2000 + 10 * r) 2) hac ha2 (q.ln hac hln) (hrl r hr).1.1 (fun g => ((hrl r hr).2 g).1)) ?_
          refine J_i2l dX10_converts_130 ?_
          refine J_lload dX10_converts_131 0 rfl ?_
          refine J_lmul dX10_converts_133 ?_
          refine J_aload_n dX10_converts_134 rfl 4 rfl ?_
          refine J_iload_n dX10_converts_135 rfl 2 rfl ?_
          refine J_iload dX10_converts_136 1 rfl ?_
          refine J_iconst (x := 0) dX10_converts_138 (by decide) ?_
          refine J_cVX (z := mX10_worthNow) (As := [.int (v (2000 + 10 * r) 2), .int (-1), .int 0]) (rest := [.long (((f_lump (f_kw v N (nI w)) ac m (v (2000 + 10 * r) 1) (v (2000 + 10 * r) 2)).toInt64) * (2 * ((v (2000 + 10 * r) 3).toInt64)))]) (ci := 10) dX10_converts_139 ml_X10_226 ok_X10_worthNow iv_X10_worthNow (by decide) (i1000 hI) rfl rfl rfl rfl (Nat.le_of_ble_eq_true rfl) (k_wn3 hI (f_kw v N (nI w)) u ac N n w (v (2000 + 10 * r) 2) (-1) 0 (f_kw v N (nI w)) fw3.rfl (kw_6 _ _ _) hac ha2 hw2 hw8 hN2 hW2 (q.lf hl) hr2 (q.lv ((hrl r hr).2 hsec)) (fun g => absurd rfl g)) (fun b y hy => ?_)
          refine J_i2l dX10_converts_142 ?_
          refine J_lmul dX10_converts_143 ?_
          refine J_ldc2 (x := 100) dX10_converts_144 cl_X10_287 ?_
          refine J_ldiv dX10_converts_147 (by decide) ?_
          refine J_lstore (lv' := [(7, .long (((((f_lump (f_kw v N (nI w)) ac m (v (2000 + 10 * r) 1) (v (2000 + 10 * r) 2)).toInt64) * (2 * ((v (2000 + 10 * r) 3).toInt64))) * b.toInt64) / 100)), (5, .long (2 * ((v (2000 + 10 * r) 3).toInt64))), (4, .int (-1)), (3, .int (v (2000 + 10 * r) 2)), (2, .ref (2000 + 10 * r)), (0, .ref 1000), (1, .int (nI r))]) dX10_converts_148 (by decide) rfl ?_
          refine J_lload dX10_converts_150 0 rfl ?_
          refine J_lload dX10_converts_152 1 rfl ?_
          refine J_aload_n dX10_converts_154 rfl 5 rfl ?_
          refine J_iload_n dX10_converts_155 rfl 3 rfl ?_
          refine J_iload dX10_converts_156 2 rfl ?_
          refine J_iconst (x := 1) dX10_converts_158 (by decide) ?_
          refine J_cVX (z := mX10_worthNow) (As := [.int (v (2000 + 10 * r) 2), .int (-1), .int 1]) (rest := [.long (2 * ((v (2000 + 10 * r) 3).toInt64)), .long (((((f_lump (f_kw v N (nI w)) ac m (v (2000 + 10 * r) 1) (v (2000 + 10 * r) 2)).toInt64) * (2 * ((v (2000 + 10 * r) 3).toInt64))) * b.toInt64) / 100)]) (ci := 10) dX10_converts_159 ml_X10_226 ok_X10_worthNow iv_X10_worthNow (by decide) (i1000 hI) rfl rfl rfl rfl (Nat.le_of_ble_eq_true rfl) (k_wn3 hI (f_kw v N (nI w)) u ac N n w (v (2000 + 10 * r) 2) (-1) 1 y hy.2.1 (kw_6 _ _ _) hac ha2 hw2 hw8 hN2 hW2 (q.lf hl) hr2 (q.lv ((hrl r hr).2 hsec)) (fun g => absurd rfl g)) (fun b2 y2 hy2 => ?_)
          refine J_i2l dX10_converts_162 ?_
          refine J_lmul dX10_converts_163 ?_
          refine J_lcmp dX10_converts_164 ?_
          refine J_if_le (tgt := 172) dX10_converts_165 (by decide) (fun c20 => ?_) (fun c20 => ?_)
          · refine J_iconst (x := 0) dX10_converts_172 (by decide) ?_
            exact J_iret dX10_converts_173 rfl ⟨_, rfl, rfl, by unfold f_conv10; rw [if_neg c1, nI_clamp (show r < 2 ^ 31 by omega)]; unfold cvT; rw [if_neg c2, if_neg c14, if_pos c17]; unfold cvV; rw [← hy.1, ← hy2.1, if_pos c20], Or.inr ⟨hy2.2.1, hy2.2.2.1.trans hy.2.2.1⟩⟩
          · refine J_iconst (x := 1) dX10_converts_168 (by decide) ?_
            refine J_goto (tgt := 173) dX10_converts_169 (by decide) ?_
            exact J_iret dX10_converts_173 rfl ⟨_, rfl, rfl, by unfold f_conv10; rw [if_neg c1, nI_clamp (show r < 2 ^ 31 by omega)]; unfold cvT; rw [if_neg c2, if_neg c14, if_pos c17]; unfold cvV; rw [← hy.1, ← hy2.1, if_neg c20], Or.inr ⟨hy2.2.1, hy2.2.2.1.trans hy.2.2.1⟩⟩
        · refine J_iconst (x := (-1)) dX10_converts_79 (by decide) ?_
          refine J_goto (tgt := 87) dX10_converts_80 (by decide) ?_
          refine J_istore (lv' := [(4, .int (-1)), (3, .int (-1)), (2, .ref (2000 + 10 * r)), (0, .ref 1000), (1, .int (nI r))]) dX10_converts_87 (by decide) rfl ?_
          refine J_iload_n dX10_converts_89 rfl 1 rfl ?_
          refine J_iconst (x := (-1)) dX10_converts_90 (by decide) ?_
          refine J_icmp_ne (tgt := 100) dX10_converts_91 (by decide) (fun c21 => absurd rfl c21) (fun c21 => ?_)
          refine J_iload dX10_converts_94 0 rfl ?_
          refine J_istore_n (lv' := [(3, .int (-1)), (4, .int (-1)), (2, .ref (2000 + 10 * r)), (0, .ref 1000), (1, .int (nI r))]) dX10_converts_96 rfl (by decide) rfl ?_
          refine J_iconst (x := (-1)) dX10_converts_97 (by decide) ?_
          refine J_istore (lv' := [(4, .int (-1)), (3, .int (-1)), (2, .ref (2000 + 10 * r)), (0, .ref 1000), (1, .int (nI r))]) dX10_converts_98 (by decide) rfl ?_
          refine J_iload_n dX10_converts_100 rfl 1 rfl ?_
          refine J_iconst (x := (-1)) dX10_converts_101 (by decide) ?_
          refine J_icmp_ne (tgt := 107) dX10_converts_102 (by decide) (fun c22 => absurd rfl c22) (fun c22 => ?_)
          refine J_iconst (x := 0) dX10_converts_105 (by decide) ?_
          exact J_iret dX10_converts_106 rfl ⟨_, rfl, rfl, by unfold f_conv10; rw [if_neg c1, nI_clamp (show r < 2 ^ 31 by omega)]; unfold cvT; rw [if_neg c2, if_neg c14, if_neg c17], Or.inr ⟨fw3.rfl, rfl⟩⟩
  · refine J_iconst (x := (-1)) dX10_converts_11 (by decide) ?_
    exact J_iret dX10_converts_12 rfl ⟨_, rfl, rfl, by unfold f_conv10; rw [if_pos c1], Or.inl rfl⟩
