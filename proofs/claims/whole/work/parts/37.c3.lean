def lpF (H G O : Nat → Int32) (l : Int32) : Nat → Int32
  | 0 => (-1)
  | j + 1 => if H j ≤ lpF H G O l j then lpF H G O l j else if G j = 0 then lpF H G O l j else if O j = l then H j else lpF H G O l j
theorem lpF_s (H G O : Nat → Int32) (l : Int32) (j : Nat) : lpF H G O l (j + 1) = if H j ≤ lpF H G O l j then lpF H G O l j else if G j = 0 then lpF H G O l j else if O j = l then H j else lpF H G O l j := rfl
theorem lp_L {l : Launch} {I : List Nat} (hI : fr_I I) (v : fr_V) (u : fr_U) (x1 : Int32) (N : Nat) (hN : v 100 5 = nI N) (hN6 : N ≤ 60) : ∀ (d j : Nat) (a : Int32) (hd : N - j < d) (hj : j ≤ N) (ha : a = lpF (v 104) (v 109) (v 103) x1 j), J l mX1_latestProof I v u 4 [(0, .ref 100), (1, .int x1), (2, .int a), (3, .int (nI j))] [] (QI v u (fun z => z = lpF (v 104) (v 109) (v 103) x1 N)) := by
  intro d
  induction d with
  | zero => intros; omega
  | succ d ih =>
    intro j a hd hj ha
    refine J_iload_n dX1_latestProof_4 rfl 3 rfl ?_
    refine J_aload_n dX1_latestProof_5 rfl 0 rfl ?_
    refine J_gete (ci := 1) (j := 5) (x := nI N) dX1_latestProof_6 fl_X1_48 (i100 hI) rfl rfl hN ?_
    refine J_icmp_ge (tgt := 54) dX1_latestProof_9 (by decide) (fun c1 => ?_) (fun c1 => ?_)
    · refine J_iload_n dX1_latestProof_54 rfl 2 rfl ?_
      exact J_iret dX1_latestProof_55 rfl ⟨_, rfl, rfl, rfl, by have e : j = N := by {have := nz_le (by omega) (by omega) c1; omega}; rw [ha, e]⟩
    · have hjN : j < N := nz_nle (by omega) (by omega) c1
      refine J_aload_n dX1_latestProof_12 rfl 0 rfl ?_
      refine J_getr (ci := 1) (j := 3) (t := 104) dX1_latestProof_13 fl_X1_18 (i100 hI) rfl rfl rfl ?_
      refine J_iload_n dX1_latestProof_16 rfl 3 rfl ?_
      refine J_iale (x := v 104 j) dX1_latestProof_17 (i104 hI) rfl (ix_in (j := j) rfl (by omega) (by omega)) ((congrArg _ (ix_cl (j := j) rfl (by omega))).trans rfl) ?_
      refine J_iload_n dX1_latestProof_18 rfl 2 rfl ?_
      refine J_icmp_le (tgt := 48) dX1_latestProof_19 (by decide) (fun c2 => ?_) (fun c2 => ?_)
      · refine J_iinc (q := 3) (z := nI (j + 1)) (lv' := [(3, .int (nI (j + 1))), (0, .ref 100), (1, .int x1), (2, .int a)]) dX1_latestProof_48 rfl (nI_1 j) (by decide) rfl ?_
        refine J_goto (tgt := 4) dX1_latestProof_51 (by decide) ?_
        refine J_lv [1, 2, 3, 0] rfl ?_
        exact ih (j + 1) _ (by omega) (by omega) (by rw [lpF_s, ← ha, if_pos c2])
      · refine J_aload_n dX1_latestProof_22 rfl 0 rfl ?_
        refine J_getr (ci := 1) (j := 8) (t := 109) dX1_latestProof_23 fl_X1_32 (i100 hI) rfl rfl rfl ?_
        refine J_iload_n dX1_latestProof_26 rfl 3 rfl ?_
        refine J_zale (x := v 109 j) dX1_latestProof_27 (i109 hI) rfl (ix_in (j := j) rfl (by omega) (by omega)) ((congrArg _ (ix_cl (j := j) rfl (by omega))).trans rfl) ?_
        refine J_if_eq (tgt := 48) dX1_latestProof_28 (by decide) (fun c3 => ?_) (fun c3 => ?_)
        · refine J_iinc (q := 3) (z := nI (j + 1)) (lv' := [(3, .int (nI (j + 1))), (0, .ref 100), (1, .int x1), (2, .int a)]) dX1_latestProof_48 rfl (nI_1 j) (by decide) rfl ?_
          refine J_goto (tgt := 4) dX1_latestProof_51 (by decide) ?_
          refine J_lv [1, 2, 3, 0] rfl ?_
          exact ih (j + 1) _ (by omega) (by omega) (by rw [lpF_s, ← ha, if_neg c2, if_pos c3])
        · refine J_aload_n dX1_latestProof_31 rfl 0 rfl ?_
          refine J_getr (ci := 1) (j := 2) (t := 103) dX1_latestProof_32 fl_X1_15 (i100 hI) rfl rfl rfl ?_
          refine J_iload_n dX1_latestProof_35 rfl 3 rfl ?_
          refine J_iale (x := v 103 j) dX1_latestProof_36 (i103 hI) rfl (ix_in (j := j) rfl (by omega) (by omega)) ((congrArg _ (ix_cl (j := j) rfl (by omega))).trans rfl) ?_
          refine J_iload_n dX1_latestProof_37 rfl 1 rfl ?_
          refine J_icmp_ne (tgt := 48) dX1_latestProof_38 (by decide) (fun c4 => ?_) (fun c4 => ?_)
          · refine J_iinc (q := 3) (z := nI (j + 1)) (lv' := [(3, .int (nI (j + 1))), (0, .ref 100), (1, .int x1), (2, .int a)]) dX1_latestProof_48 rfl (nI_1 j) (by decide) rfl ?_
            refine J_goto (tgt := 4) dX1_latestProof_51 (by decide) ?_
            refine J_lv [1, 2, 3, 0] rfl ?_
            exact ih (j + 1) _ (by omega) (by omega) (by rw [lpF_s, ← ha, if_neg c2, if_neg c3, if_neg c4])
          · refine J_aload_n dX1_latestProof_41 rfl 0 rfl ?_
            refine J_getr (ci := 1) (j := 3) (t := 104) dX1_latestProof_42 fl_X1_18 (i100 hI) rfl rfl rfl ?_
            refine J_iload_n dX1_latestProof_45 rfl 3 rfl ?_
            refine J_iale (x := v 104 j) dX1_latestProof_46 (i104 hI) rfl (ix_in (j := j) rfl (by omega) (by omega)) ((congrArg _ (ix_cl (j := j) rfl (by omega))).trans rfl) ?_
            refine J_istore_n (lv' := [(2, .int (v 104 j)), (0, .ref 100), (1, .int x1), (3, .int (nI j))]) dX1_latestProof_47 rfl (by decide) rfl ?_
            refine J_iinc (q := 3) (z := nI (j + 1)) (lv' := [(3, .int (nI (j + 1))), (2, .int (v 104 j)), (0, .ref 100), (1, .int x1)]) dX1_latestProof_48 rfl (nI_1 j) (by decide) rfl ?_
            refine J_goto (tgt := 4) dX1_latestProof_51 (by decide) ?_
            refine J_lv [2, 3, 1, 0] rfl ?_
            exact ih (j + 1) _ (by omega) (by omega) (by rw [lpF_s, ← ha, if_neg c2, if_neg c3, if_pos c4])
theorem k_X1_latestProof {l : Launch} {I : List Nat} (hI : fr_I I) (v : fr_V) (u : fr_U) (x1 : Int32) (N : Nat) (hN : v 100 5 = nI N) (hN6 : N ≤ 60) : Con l mX1_latestProof I v u [.ref 100, .int x1] (QI v u (fun z => z = lpF (v 104) (v 109) (v 103) x1 N)) := by
  refine Con.of (by decide) (Nat.le_of_ble_eq_true rfl) ?_
  show J l mX1_latestProof I v u 0 [(0, .ref 100), (1, .int x1)] [] _
  refine J_iconst (x := (-1)) dX1_latestProof_0 (by decide) ?_
  refine J_istore_n (lv' := [(2, .int (-1)), (0, .ref 100), (1, .int x1)]) dX1_latestProof_1 rfl (by decide) rfl ?_
  refine J_iconst (x := 0) dX1_latestProof_2 (by decide) ?_
  refine J_istore_n (lv' := [(3, .int 0), (2, .int (-1)), (0, .ref 100), (1, .int x1)]) dX1_latestProof_3 rfl (by decide) rfl ?_
  refine J_lv [2, 3, 1, 0] rfl ?_
  exact lp_L hI v u x1 N hN hN6 (N + 1) 0 _ (by omega) (by omega) rfl
def f_knowDeaths (v : fr_V) (N : Nat) : fr_V := upA v 110 (kn4 (v 102) (v 103) (v 104) (v 108) (fl (-1) (v 110) 12) N)
theorem kd_L {l : Launch} {I : List Nat} (hI : fr_I I) (v : fr_V) (u : fr_U) (N : Nat) (hN : v 100 5 = nI N) (hW : nt_ok (v 102) (v 103) N) (hN6 : N ≤ 60) : ∀ (d j : Nat) (G : Nat → Int32) (hd : N - j < d) (hj : j ≤ N) (hG : G = kn4 (v 102) (v 103) (v 104) (v 108) (fl (-1) (v 110) 12) j), J l mX1_knowDeaths I (upA v 110 G) u 10 [(0, .ref 100), (1, .int (nI j))] [] (QN u (fun a => a = f_knowDeaths v N)) := by
  intro d
  induction d with
  | zero => intros; omega
  | succ d ih =>
    intro j G hd hj hG
    refine J_iload_n dX1_knowDeaths_10 rfl 1 rfl ?_
    refine J_aload_n dX1_knowDeaths_11 rfl 0 rfl ?_
    refine J_gete (ci := 1) (j := 5) (x := nI N) dX1_knowDeaths_12 fl_X1_48 (i100 hI) rfl rfl hN ?_
    refine J_icmp_ge (tgt := 60) dX1_knowDeaths_15 (by decide) (fun c1 => ?_) (fun c1 => ?_)
    · exact J_vret dX1_knowDeaths_60 rfl ⟨rfl, rfl, by have e : j = N := by {have := nz_le (by omega) (by omega) c1; omega}; unfold f_knowDeaths; rw [hG, e]⟩
    · have hjN : j < N := nz_nle (by omega) (by omega) c1
      refine J_aload_n dX1_knowDeaths_18 rfl 0 rfl ?_
      refine J_getr (ci := 1) (j := 7) (t := 108) dX1_knowDeaths_19 fl_X1_28 (i100 hI) rfl rfl rfl ?_
      refine J_iload_n dX1_knowDeaths_22 rfl 1 rfl ?_
      refine J_zale (x := v 108 j) dX1_knowDeaths_23 (i108 hI) rfl (ix_in (j := j) rfl (by omega) (by omega)) ((congrArg _ (ix_cl (j := j) rfl (by omega))).trans rfl) ?_
      refine J_if_eq (tgt := 54) dX1_knowDeaths_24 (by decide) (fun c2 => ?_) (fun c2 => ?_)
      · refine J_iinc (q := 1) (z := nI (j + 1)) (lv' := [(1, .int (nI (j + 1))), (0, .ref 100)]) dX1_knowDeaths_54 rfl (nI_1 j) (by decide) rfl ?_
        refine J_goto (tgt := 10) dX1_knowDeaths_57 (by decide) ?_
        refine J_lv [1, 0] rfl ?_
        exact ih (j + 1) _ (by omega) (by omega) (by rw [kn4_s, hG]; split <;> first | rfl | (rw [if_pos c2]))
      · refine J_aload_n dX1_knowDeaths_27 rfl 0 rfl ?_
        refine J_getr (ci := 1) (j := 1) (t := 102) dX1_knowDeaths_28 fl_X1_9 (i100 hI) rfl rfl rfl ?_
        refine J_iload_n dX1_knowDeaths_31 rfl 1 rfl ?_
        refine J_iale (x := v 102 j) dX1_knowDeaths_32 (i102 hI) rfl (ix_in (j := j) rfl (by omega) (by omega)) ((congrArg _ (ix_cl (j := j) rfl (by omega))).trans rfl) ?_
        refine J_iconst (x := 1) dX1_knowDeaths_33 (by decide) ?_
        refine J_icmp_ne (tgt := 54) dX1_knowDeaths_34 (by decide) (fun c3 => ?_) (fun c3 => ?_)
        · refine J_iinc (q := 1) (z := nI (j + 1)) (lv' := [(1, .int (nI (j + 1))), (0, .ref 100)]) dX1_knowDeaths_54 rfl (nI_1 j) (by decide) rfl ?_
          refine J_goto (tgt := 10) dX1_knowDeaths_57 (by decide) ?_
          refine J_lv [1, 0] rfl ?_
          exact ih (j + 1) _ (by omega) (by omega) (by rw [kn4_s, if_neg c3, hG])
        · refine J_aload_n dX1_knowDeaths_37 rfl 0 rfl ?_
          refine J_getr (ci := 1) (j := 9) (t := 110) dX1_knowDeaths_38 fl_X1_35 (i100 hI) rfl rfl rfl ?_
          refine J_aload_n dX1_knowDeaths_41 rfl 0 rfl ?_
          refine J_getr (ci := 1) (j := 2) (t := 103) dX1_knowDeaths_42 fl_X1_15 (i100 hI) rfl rfl rfl ?_
          refine J_iload_n dX1_knowDeaths_45 rfl 1 rfl ?_
          refine J_iale (x := v 103 j) dX1_knowDeaths_46 (i103 hI) rfl (ix_in (j := j) rfl (by omega) (by omega)) ((congrArg _ (ix_cl (j := j) rfl (by omega))).trans rfl) ?_
          refine J_aload_n dX1_knowDeaths_47 rfl 0 rfl ?_
          refine J_getr (ci := 1) (j := 3) (t := 104) dX1_knowDeaths_48 fl_X1_18 (i100 hI) rfl rfl rfl ?_
          refine J_iload_n dX1_knowDeaths_51 rfl 1 rfl ?_
          refine J_iale (x := v 104 j) dX1_knowDeaths_52 (i104 hI) rfl (ix_in (j := j) rfl (by omega) (by omega)) ((congrArg _ (ix_cl (j := j) rfl (by omega))).trans rfl) ?_
          refine J_iast dX1_knowDeaths_53 (i110 hI) rfl ((hW.2 j hjN).2 (by rw [c3]; decide)) ?_
          refine J_iinc (q := 1) (z := nI (j + 1)) (lv' := [(1, .int (nI (j + 1))), (0, .ref 100)]) dX1_knowDeaths_54 rfl (nI_1 j) (by decide) rfl ?_
          refine J_goto (tgt := 10) dX1_knowDeaths_57 (by decide) ?_
          refine J_lv [1, 0] rfl ?_
          rw [up2_upA]
          exact ih (j + 1) _ (by omega) (by omega) (by rw [kn4_s, if_pos c3, if_neg c2, hG])
theorem k_X1_knowDeaths {l : Launch} {I : List Nat} (hI : fr_I I) (v : fr_V) (u : fr_U) (N : Nat) (hN : v 100 5 = nI N) (hW : nt_ok (v 102) (v 103) N) : Con l mX1_knowDeaths I v u [.ref 100] (QN u (fun a => a = f_knowDeaths v N)) := by
  refine Con.of (by decide) (Nat.le_of_ble_eq_true rfl) ?_
  show J l mX1_knowDeaths I v u 0 [(0, .ref 100)] [] _
  refine J_aload_n dX1_knowDeaths_0 rfl 0 rfl ?_
  refine J_getr (ci := 1) (j := 9) (t := 110) dX1_knowDeaths_1 fl_X1_35 (i100 hI) rfl rfl rfl ?_
  refine J_iconst (x := (-1)) dX1_knowDeaths_4 (by decide) ?_
  refine J_eSN (z := mJ7_fill_53178) (As := [.ref 110, .int (-1)]) (rest := []) (w := upA v 110 (fl (-1) (v 110) 12)) dX1_knowDeaths_5 ml_X1_42 ok_J7_fill_53178 iv_J7_fill_53178 (by decide) rfl rfl (Nat.le_of_ble_eq_true rfl) (k_fill hI v u 110 12 (i110 hI) rfl (by omega) (-1)) ?_
  refine J_iconst (x := 0) dX1_knowDeaths_8 (by decide) ?_
  refine J_istore_n (lv' := [(1, .int 0), (0, .ref 100)]) dX1_knowDeaths_9 rfl (by decide) rfl ?_
  refine J_lv [1, 0] rfl ?_
  exact kd_L hI v u N hN hW hW.1 (N + 1) 0 _ (by omega) (by omega) rfl
def gdF (C S Lv f0 : Nat → Int32) : Nat → Nat → Int32
  | 0 => f0
  | j + 1 => upd (gdF C S Lv f0 j) j (if C j = 0 then 0 else if S j = 0 then (if Lv j = 0 then 0 else 1) else 0)
theorem gdF_s (C S Lv f0 : Nat → Int32) (j : Nat) : gdF C S Lv f0 (j + 1) = upd (gdF C S Lv f0 j) j (if C j = 0 then 0 else if S j = 0 then (if Lv j = 0 then 0 else 1) else 0) := rfl
theorem kw_3 {l : Launch} {I : List Nat} (hI : fr_I I) (v : fr_V) (u : fr_U) (x1 : Int32) (N : Nat) (hN : v 100 5 = nI N) (hW : nt_ok (v 102) (v 103) N) (hN6 : N ≤ 60) : ∀ (d j : Nat) (G : Nat → Int32) (hd : N - j < d) (hj : j ≤ N) (hG : G = gdF (v 108) (v 102) (fun j => f_X1_livedIn v (v 103 j) (v 104 j)) (v 109) j), J l mX1_know I (upA v 109 G) u 105 [(0, .ref 100), (1, .int x1), (2, .int (nI j))] [] (QN u (fun a => a = upA v 109 (gdF (v 108) (v 102) (fun j => f_X1_livedIn v (v 103 j) (v 104 j)) (v 109) N))) := by
  intro d
  induction d with
  | zero => intros; omega
  | succ d ih =>
    intro j G hd hj hG
    refine J_iload_n dX1_know_105 rfl 2 rfl ?_
    refine J_aload_n dX1_know_106 rfl 0 rfl ?_
    refine J_gete (ci := 1) (j := 5) (x := nI N) dX1_know_107 fl_X1_48 (i100 hI) rfl rfl hN ?_
    refine J_icmp_ge (tgt := 167) dX1_know_110 (by decide) (fun c1 => ?_) (fun c1 => ?_)
    · exact J_vret dX1_know_167 rfl ⟨rfl, rfl, by have e : j = N := by {have := nz_le (by omega) (by omega) c1; omega}; rw [hG, e]⟩
    · have hjN : j < N := nz_nle (by omega) (by omega) c1
      refine J_aload_n dX1_know_113 rfl 0 rfl ?_
      refine J_getr (ci := 1) (j := 8) (t := 109) dX1_know_114 fl_X1_32 (i100 hI) rfl rfl rfl ?_
      refine J_iload_n dX1_know_117 rfl 2 rfl ?_
      refine J_aload_n dX1_know_118 rfl 0 rfl ?_
      refine J_getr (ci := 1) (j := 7) (t := 108) dX1_know_119 fl_X1_28 (i100 hI) rfl rfl rfl ?_
      refine J_iload_n dX1_know_122 rfl 2 rfl ?_
      refine J_zale (x := v 108 j) dX1_know_123 (i108 hI) rfl (ix_in (j := j) rfl (by omega) (by omega)) ((congrArg _ (ix_cl (j := j) rfl (by omega))).trans rfl) ?_
      refine J_if_eq (tgt := 159) dX1_know_124 (by decide) (fun c2 => ?_) (fun c2 => ?_)
      · refine J_iconst (x := 0) dX1_know_159 (by decide) ?_
        refine J_zase (j := j) dX1_know_160 (i109 hI) rfl (ix_in (j := j) rfl (by omega) (by omega)) (ix_cl (j := j) rfl (by omega)) (by decide) ?_
        refine J_iinc (q := 2) (z := nI (j + 1)) (lv' := [(2, .int (nI (j + 1))), (0, .ref 100), (1, .int x1)]) dX1_know_161 rfl (nI_1 j) (by decide) rfl ?_
        refine J_goto (tgt := 105) dX1_know_164 (by decide) ?_
        refine J_lv [1, 2, 0] rfl ?_
        rw [up2_upA]
        exact ih (j + 1) _ (by omega) (by omega) (by rw [gdF_s, if_pos c2, hG])
      · refine J_aload_n dX1_know_127 rfl 0 rfl ?_
        refine J_getr (ci := 1) (j := 1) (t := 102) dX1_know_128 fl_X1_9 (i100 hI) rfl rfl rfl ?_
        refine J_iload_n dX1_know_131 rfl 2 rfl ?_
        refine J_iale (x := v 102 j) dX1_know_132 (i102 hI) rfl (ix_in (j := j) rfl (by omega) (by omega)) ((congrArg _ (ix_cl (j := j) rfl (by omega))).trans rfl) ?_
        refine J_if_ne (tgt := 159) dX1_know_133 (by decide) (fun c3 => ?_) (fun c3 => ?_)
        · refine J_iconst (x := 0) dX1_know_159 (by decide) ?_
          refine J_zase (j := j) dX1_know_160 (i109 hI) rfl (ix_in (j := j) rfl (by omega) (by omega)) (ix_cl (j := j) rfl (by omega)) (by decide) ?_
          refine J_iinc (q := 2) (z := nI (j + 1)) (lv' := [(2, .int (nI (j + 1))), (0, .ref 100), (1, .int x1)]) dX1_know_161 rfl (nI_1 j) (by decide) rfl ?_
          refine J_goto (tgt := 105) dX1_know_164 (by decide) ?_
          refine J_lv [1, 2, 0] rfl ?_
          rw [up2_upA]
          exact ih (j + 1) _ (by omega) (by omega) (by rw [gdF_s, if_neg c2, if_neg c3, hG])
        · refine J_aload_n dX1_know_136 rfl 0 rfl ?_
          refine J_aload_n dX1_know_137 rfl 0 rfl ?_
          refine J_getr (ci := 1) (j := 2) (t := 103) dX1_know_138 fl_X1_15 (i100 hI) rfl rfl rfl ?_
          refine J_iload_n dX1_know_141 rfl 2 rfl ?_
          refine J_iale (x := v 103 j) dX1_know_142 (i103 hI) rfl (ix_in (j := j) rfl (by omega) (by omega)) ((congrArg _ (ix_cl (j := j) rfl (by omega))).trans rfl) ?_
          refine J_aload_n dX1_know_143 rfl 0 rfl ?_
          refine J_getr (ci := 1) (j := 3) (t := 104) dX1_know_144 fl_X1_18 (i100 hI) rfl rfl rfl ?_
          refine J_iload_n dX1_know_147 rfl 2 rfl ?_
          refine J_iale (x := v 104 j) dX1_know_148 (i104 hI) rfl (ix_in (j := j) rfl (by omega) (by omega)) ((congrArg _ (ix_cl (j := j) rfl (by omega))).trans rfl) ?_
          refine J_eVI (z := mX1_livedIn) (As := [.int (v 103 j), .int (v 104 j)]) (rest := [.int (nI j), .ref 109]) (ci := 1) (x := f_X1_livedIn v (v 103 j) (v 104 j)) dX1_know_149 ml_X1_54 ok_X1_livedIn iv_X1_livedIn (by decide) (i100 hI) rfl rfl rfl rfl (Nat.le_of_ble_eq_true rfl) (k_X1_livedIn hI (upA v 109 G) u _ _ ((hW.2 j hjN).2 (by rw [c3]; decide))) ?_
          refine J_if_eq (tgt := 159) dX1_know_152 (by decide) (fun c4 => ?_) (fun c4 => ?_)
          · refine J_iconst (x := 0) dX1_know_159 (by decide) ?_
            refine J_zase (j := j) dX1_know_160 (i109 hI) rfl (ix_in (j := j) rfl (by omega) (by omega)) (ix_cl (j := j) rfl (by omega)) (by decide) ?_
            refine J_iinc (q := 2) (z := nI (j + 1)) (lv' := [(2, .int (nI (j + 1))), (0, .ref 100), (1, .int x1)]) dX1_know_161 rfl (nI_1 j) (by decide) rfl ?_
            refine J_goto (tgt := 105) dX1_know_164 (by decide) ?_
            refine J_lv [1, 2, 0] rfl ?_
            rw [up2_upA]
            exact ih (j + 1) _ (by omega) (by omega) (by rw [gdF_s, if_neg c2, if_pos c3, if_pos c4, hG])
          · refine J_iconst (x := 1) dX1_know_155 (by decide) ?_
            refine J_goto (tgt := 160) dX1_know_156 (by decide) ?_
            refine J_zase (j := j) dX1_know_160 (i109 hI) rfl (ix_in (j := j) rfl (by omega) (by omega)) (ix_cl (j := j) rfl (by omega)) (by decide) ?_
            refine J_iinc (q := 2) (z := nI (j + 1)) (lv' := [(2, .int (nI (j + 1))), (0, .ref 100), (1, .int x1)]) dX1_know_161 rfl (nI_1 j) (by decide) rfl ?_
            refine J_goto (tgt := 105) dX1_know_164 (by decide) ?_
            refine J_lv [1, 2, 0] rfl ?_
            rw [up2_upA]
            exact ih (j + 1) _ (by omega) (by omega) (by rw [gdF_s, if_neg c2, if_pos c3, if_neg c4, hG])
def kw_end (v : fr_V) (N : Nat) (C : Nat → Int32) : fr_V := upA (f_knowDeaths (upA v 108 C) N) 109 (gdF C (v 102) (fun j => f_X1_livedIn (f_knowDeaths (upA v 108 C) N) (v 103 j) (v 104 j)) (v 109) N)
theorem kw_2 {l : Launch} {I : List Nat} (hI : fr_I I) (v : fr_V) (u : fr_U) (x1 : Int32) (N : Nat) (hN : v 100 5 = nI N) (hW : nt_ok (v 102) (v 103) N) (hN6 : N ≤ 60) : ∀ (t : Nat) (f : Nat → Int32) (ht : t ≤ N), J l mX1_know I (upA v 108 f) u 58 [(0, .ref 100), (1, .int x1), (2, .int (nI t - 1))] [] (QN u (fun a => a = kw_end v N (kn2 (v 102) (v 103) t f))) := by
  intro t
  induction t with
  | zero =>
    intro f ht
    refine J_iload_n dX1_know_58 rfl 2 rfl ?_
    refine J_if_lt (tgt := 99) dX1_know_59 (by decide) (fun c1 => ?_) (fun c1 => absurd dn_0 c1)
    refine J_aload_n dX1_know_99 rfl 0 rfl ?_
    refine J_eVN (z := mX1_knowDeaths) (As := []) (rest := []) (ci := 1) (w := f_knowDeaths (upA v 108 f) N) dX1_know_100 ml_X1_51 ok_X1_knowDeaths iv_X1_knowDeaths (by decide) (i100 hI) rfl rfl rfl rfl (Nat.le_of_ble_eq_true rfl) (k_X1_knowDeaths hI (upA v 108 f) u N hN hW) ?_
    refine J_iconst (x := 0) dX1_know_103 (by decide) ?_
    refine J_istore_n (lv' := [(2, .int 0), (0, .ref 100), (1, .int x1)]) dX1_know_104 rfl (by decide) rfl ?_
    refine J_lv [1, 2, 0] rfl ?_
    refine J_ve (w := upA (f_knowDeaths (upA v 108 f) N) 109 (f_knowDeaths (upA v 108 f) N 109)) (upA_id _ 109).symm ?_
    exact kw_3 hI (f_knowDeaths (upA v 108 f) N) u x1 N hN hW hN6 (N + 1) 0 _ (by omega) (by omega) rfl
  | succ s ih =>
    intro f ht
    rw [nI_pred]
    refine J_iload_n dX1_know_58 rfl 2 rfl ?_
    refine J_if_lt (tgt := 99) dX1_know_59 (by decide) (fun c1 => absurd c1 (nI_pos (by omega))) (fun c1 => ?_)
    refine J_aload_n dX1_know_62 rfl 0 rfl ?_
    refine J_getr (ci := 1) (j := 7) (t := 108) dX1_know_63 fl_X1_28 (i100 hI) rfl rfl rfl ?_
    refine J_iload_n dX1_know_66 rfl 2 rfl ?_
    refine J_zale (x := f s) dX1_know_67 (i108 hI) rfl (ix_in (j := s) rfl (by omega) (by omega)) ((congrArg _ (ix_cl (j := s) rfl (by omega))).trans rfl) ?_
    refine J_if_eq (tgt := 93) dX1_know_68 (by decide) (fun c2 => ?_) (fun c2 => ?_)
    · refine J_iinc (q := 2) (z := nI s - 1) (lv' := [(2, .int (nI s - 1)), (0, .ref 100), (1, .int x1)]) dX1_know_93 rfl (dn_1 s) (by decide) rfl ?_
      refine J_goto (tgt := 58) dX1_know_96 (by decide) ?_
      refine J_lv [1, 2, 0] rfl ?_
      rw [kn2_s, show (if v 102 s = 2 then (if f s = 0 then f else upd f (v 103 s).toNatClampNeg 0) else f) = f from by split <;> first | rfl | (rw [if_pos c2])]
      exact ih _ (by omega)
    · refine J_aload_n dX1_know_71 rfl 0 rfl ?_
      refine J_getr (ci := 1) (j := 1) (t := 102) dX1_know_72 fl_X1_9 (i100 hI) rfl rfl rfl ?_
      refine J_iload_n dX1_know_75 rfl 2 rfl ?_
      refine J_iale (x := v 102 s) dX1_know_76 (i102 hI) rfl (ix_in (j := s) rfl (by omega) (by omega)) ((congrArg _ (ix_cl (j := s) rfl (by omega))).trans rfl) ?_
      refine J_iconst (x := 2) dX1_know_77 (by decide) ?_
      refine J_icmp_ne (tgt := 93) dX1_know_78 (by decide) (fun c3 => ?_) (fun c3 => ?_)
      · refine J_iinc (q := 2) (z := nI s - 1) (lv' := [(2, .int (nI s - 1)), (0, .ref 100), (1, .int x1)]) dX1_know_93 rfl (dn_1 s) (by decide) rfl ?_
        refine J_goto (tgt := 58) dX1_know_96 (by decide) ?_
        refine J_lv [1, 2, 0] rfl ?_
        rw [kn2_s, if_neg c3]
        exact ih _ (by omega)
      · refine J_aload_n dX1_know_81 rfl 0 rfl ?_
        refine J_getr (ci := 1) (j := 7) (t := 108) dX1_know_82 fl_X1_28 (i100 hI) rfl rfl rfl ?_
        refine J_aload_n dX1_know_85 rfl 0 rfl ?_
        refine J_getr (ci := 1) (j := 2) (t := 103) dX1_know_86 fl_X1_15 (i100 hI) rfl rfl rfl ?_
        refine J_iload_n dX1_know_89 rfl 2 rfl ?_
        refine J_iale (x := v 103 s) dX1_know_90 (i103 hI) rfl (ix_in (j := s) rfl (by omega) (by omega)) ((congrArg _ (ix_cl (j := s) rfl (by omega))).trans rfl) ?_
        refine J_iconst (x := 0) dX1_know_91 (by decide) ?_
        refine J_zast dX1_know_92 (i108 hI) rfl ((hW.2 s (by omega)).1 c3) (by decide) ?_
        refine J_iinc (q := 2) (z := nI s - 1) (lv' := [(2, .int (nI s - 1)), (0, .ref 100), (1, .int x1)]) dX1_know_93 rfl (dn_1 s) (by decide) rfl ?_
        refine J_goto (tgt := 58) dX1_know_96 (by decide) ?_
        refine J_lv [1, 2, 0] rfl ?_
        rw [up2_upA]
        rw [kn2_s, if_pos c3, if_neg c2]
        exact ih _ (by omega)
theorem kw_1 {l : Launch} {I : List Nat} (hI : fr_I I) (v : fr_V) (u : fr_U) (x1 : Int32) (N : Nat) (hN : v 100 5 = nI N) (hW : nt_ok (v 102) (v 103) N) (hN6 : N ≤ 60) : ∀ (d j : Nat) (F : Nat → Int32) (hd : N - j < d) (hj : j ≤ N) (hF : F = kn1 (v 105) x1 (v 108) j), J l mX1_know I (upA v 108 F) u 16 [(0, .ref 100), (1, .int x1), (2, .int (nI j))] [] (QN u (fun a => a = kw_end v N (kn2 (v 102) (v 103) N (kn1 (v 105) x1 (v 108) N)))) := by
  intro d
  induction d with
  | zero => intros; omega
  | succ d ih =>
    intro j F hd hj hF
    refine J_iload_n dX1_know_16 rfl 2 rfl ?_
    refine J_aload_n dX1_know_17 rfl 0 rfl ?_
    refine J_gete (ci := 1) (j := 5) (x := nI N) dX1_know_18 fl_X1_48 (i100 hI) rfl rfl hN ?_
    refine J_icmp_ge (tgt := 51) dX1_know_21 (by decide) (fun c1 => ?_) (fun c1 => ?_)
    · refine J_aload_n dX1_know_51 rfl 0 rfl ?_
      refine J_gete (ci := 1) (j := 5) (x := nI N) dX1_know_52 fl_X1_48 (i100 hI) rfl rfl hN ?_
      refine J_iconst (x := 1) dX1_know_55 (by decide) ?_
      refine J_isub dX1_know_56 ?_
      refine J_istore_n (lv' := [(2, .int ((nI N) - 1)), (0, .ref 100), (1, .int x1)]) dX1_know_57 rfl (by decide) rfl ?_
      refine J_lv [1, 2, 0] rfl ?_
      have e : j = N := by have := nz_le (by omega) (by omega) c1; omega
      rw [hF, e]
      exact kw_2 hI v u x1 N hN hW hN6 N _ (Nat.le_refl _)
    · have hjN : j < N := nz_nle (by omega) (by omega) c1
      refine J_aload_n dX1_know_24 rfl 0 rfl ?_
      refine J_getr (ci := 1) (j := 7) (t := 108) dX1_know_25 fl_X1_28 (i100 hI) rfl rfl rfl ?_
      refine J_iload_n dX1_know_28 rfl 2 rfl ?_
      refine J_aload_n dX1_know_29 rfl 0 rfl ?_
      refine J_getr (ci := 1) (j := 4) (t := 105) dX1_know_30 fl_X1_21 (i100 hI) rfl rfl rfl ?_
      refine J_iload_n dX1_know_33 rfl 2 rfl ?_
      refine J_iale (x := v 105 j) dX1_know_34 (i105 hI) rfl (ix_in (j := j) rfl (by omega) (by omega)) ((congrArg _ (ix_cl (j := j) rfl (by omega))).trans rfl) ?_
      refine J_iload_n dX1_know_35 rfl 1 rfl ?_
      refine J_icmp_gt (tgt := 43) dX1_know_36 (by decide) (fun c2 => ?_) (fun c2 => ?_)
      · refine J_iconst (x := 0) dX1_know_43 (by decide) ?_
        refine J_zase (j := j) dX1_know_44 (i108 hI) rfl (ix_in (j := j) rfl (by omega) (by omega)) (ix_cl (j := j) rfl (by omega)) (by decide) ?_
        refine J_iinc (q := 2) (z := nI (j + 1)) (lv' := [(2, .int (nI (j + 1))), (0, .ref 100), (1, .int x1)]) dX1_know_45 rfl (nI_1 j) (by decide) rfl ?_
        refine J_goto (tgt := 16) dX1_know_48 (by decide) ?_
        refine J_lv [1, 2, 0] rfl ?_
        rw [up2_upA]
        exact ih (j + 1) _ (by omega) (by omega) (by rw [kn1_s, if_pos c2, hF])
      · refine J_iconst (x := 1) dX1_know_39 (by decide) ?_
        refine J_goto (tgt := 44) dX1_know_40 (by decide) ?_
        refine J_zase (j := j) dX1_know_44 (i108 hI) rfl (ix_in (j := j) rfl (by omega) (by omega)) (ix_cl (j := j) rfl (by omega)) (by decide) ?_
        refine J_iinc (q := 2) (z := nI (j + 1)) (lv' := [(2, .int (nI (j + 1))), (0, .ref 100), (1, .int x1)]) dX1_know_45 rfl (nI_1 j) (by decide) rfl ?_
        refine J_goto (tgt := 16) dX1_know_48 (by decide) ?_
        refine J_lv [1, 2, 0] rfl ?_
        rw [up2_upA]
        exact ih (j + 1) _ (by omega) (by omega) (by rw [kn1_s, if_neg c2, hF])
def f_kw (v : fr_V) (N : Nat) (x1 : Int32) : fr_V := if x1 = v 100 6 then v else kw_end (up2 v 100 6 x1) N (kn2 (v 102) (v 103) N (kn1 (v 105) x1 (v 108) N))
theorem k_X1_know {l : Launch} {I : List Nat} (hI : fr_I I) (v : fr_V) (u : fr_U) (x1 : Int32) (N : Nat) (hN : v 100 5 = nI N) (hW : nt_ok (v 102) (v 103) N) : Con l mX1_know I v u [.ref 100, .int x1] (QN u (fun a => a = f_kw v N x1)) := by
  refine Con.of (by decide) (Nat.le_of_ble_eq_true rfl) ?_
  show J l mX1_know I v u 0 [(0, .ref 100), (1, .int x1)] [] _
  refine J_iload_n dX1_know_0 rfl 1 rfl ?_
  refine J_aload_n dX1_know_1 rfl 0 rfl ?_
  refine J_gete (ci := 1) (j := 6) (x := v 100 6) dX1_know_2 fl_X1_24 (i100 hI) rfl rfl rfl ?_
  refine J_icmp_ne (tgt := 9) dX1_know_5 (by decide) (fun c1 => ?_) (fun c1 => ?_)
  · refine J_aload_n dX1_know_9 rfl 0 rfl ?_
    refine J_iload_n dX1_know_10 rfl 1 rfl ?_
    refine J_puti (ci := 1) (j := 6) dX1_know_11 fl_X1_24 (i100 hI) rfl rfl (fun q h => by cases h; rfl) rfl ?_
    refine J_iconst (x := 0) dX1_know_14 (by decide) ?_
    refine J_istore_n (lv' := [(2, .int 0), (0, .ref 100), (1, .int x1)]) dX1_know_15 rfl (by decide) rfl ?_
    refine J_lv [1, 2, 0] rfl ?_
    refine J_ve (w := upA (up2 v 100 6 x1) 108 (up2 v 100 6 x1 108)) (upA_id _ 108).symm ?_
    unfold f_kw
    rw [if_neg c1]
    exact kw_1 hI (up2 v 100 6 x1) u x1 N hN hW hW.1 (N + 1) 0 _ (by omega) (by omega) rfl
  · exact J_vret dX1_know_8 rfl ⟨rfl, rfl, by unfold f_kw; rw [if_pos c1]⟩
