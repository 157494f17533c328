def crF (x1 : Int32) : Nat → Int32 → Int32
  | 0, a => a
  | d + 1, a => if 5000 < a then a else crF x1 d (a * (x1 + 1))
theorem crF_s (x1 : Int32) (d : Nat) (a : Int32) : crF x1 (d + 1) a = if 5000 < a then a else crF x1 d (a * (x1 + 1)) := rfl
theorem cr_L {l : Launch} {I : List Nat} (hI : fr_I I) (v : fr_V) (u : fr_U) (x1 : Int32) (n : Nat) (hn : v 200 3 = nI n) (hn2 : n ≤ 12) : ∀ (d j : Nat) (a : Int32) (hd : d + j = n), J l mX2_countRows I v u 4 [(0, .ref 200), (1, .int x1), (2, .int a), (3, .int (nI j))] [] (QI v u (fun z => z = crF x1 d a)) := by
  intro d
  induction d with
  | zero =>
    intro j a hd
    refine J_iload_n dX2_countRows_4 rfl 3 rfl ?_
    refine J_aload_n dX2_countRows_5 rfl 0 rfl ?_
    refine J_gete (ci := 2) (j := 3) (x := nI n) dX2_countRows_6 fl_X2_27 (i200 hI) rfl rfl hn ?_
    refine J_icmp_ge (tgt := 31) dX2_countRows_9 (by decide) (fun c1 => ?_) (fun c1 => absurd (nI_le (by omega) (by omega)) c1)
    refine J_iload_n dX2_countRows_31 rfl 2 rfl ?_
    exact J_iret dX2_countRows_32 rfl ⟨_, rfl, rfl, rfl, rfl⟩
  | succ d ih =>
    intro j a hd
    refine J_iload_n dX2_countRows_4 rfl 3 rfl ?_
    refine J_aload_n dX2_countRows_5 rfl 0 rfl ?_
    refine J_gete (ci := 2) (j := 3) (x := nI n) dX2_countRows_6 fl_X2_27 (i200 hI) rfl rfl hn ?_
    refine J_icmp_ge (tgt := 31) dX2_countRows_9 (by decide) (fun c1 => absurd c1 (nI_ge (a := j) (b := n) (by omega) (by omega))) (fun c1 => ?_)
    refine J_iload_n dX2_countRows_12 rfl 2 rfl ?_
    refine J_sipush (x := 5000) dX2_countRows_13 (by decide) ?_
    refine J_icmp_gt (tgt := 31) dX2_countRows_16 (by decide) (fun c2 => ?_) (fun c2 => ?_)
    · refine J_iload_n dX2_countRows_31 rfl 2 rfl ?_
      exact J_iret dX2_countRows_32 rfl ⟨_, rfl, rfl, rfl, by rw [crF_s, if_pos c2]⟩
    · refine J_iload_n dX2_countRows_19 rfl 2 rfl ?_
      refine J_iload_n dX2_countRows_20 rfl 1 rfl ?_
      refine J_iconst (x := 1) dX2_countRows_21 (by decide) ?_
      refine J_iadd dX2_countRows_22 ?_
      refine J_imul dX2_countRows_23 ?_
      refine J_istore_n (lv' := [(2, .int (a * (x1 + 1))), (0, .ref 200), (1, .int x1), (3, .int (nI j))]) dX2_countRows_24 rfl (by decide) rfl ?_
      refine J_iinc (q := 3) (z := nI (j + 1)) (lv' := [(3, .int (nI (j + 1))), (2, .int (a * (x1 + 1))), (0, .ref 200), (1, .int x1)]) dX2_countRows_25 rfl (nI_1 j) (by decide) rfl ?_
      refine J_goto (tgt := 4) dX2_countRows_28 (by decide) ?_
      refine J_lv [2, 3, 1, 0] rfl ?_
      rw [crF_s, if_neg c2]
      exact ih (j + 1) _ (by omega)
theorem k_X2_countRows {l : Launch} {I : List Nat} (hI : fr_I I) (v : fr_V) (u : fr_U) (x1 : Int32) (n : Nat) (hn : v 200 3 = nI n) (hn2 : n ≤ 12) : Con l mX2_countRows I v u [.ref 200, .int x1] (QI v u (fun z => z = crF x1 n 1)) := by
  refine Con.of (by decide) (Nat.le_of_ble_eq_true rfl) ?_
  show J l mX2_countRows I v u 0 [(0, .ref 200), (1, .int x1)] [] _
  refine J_iconst (x := 1) dX2_countRows_0 (by decide) ?_
  refine J_istore_n (lv' := [(2, .int 1), (0, .ref 200), (1, .int x1)]) dX2_countRows_1 rfl (by decide) rfl ?_
  refine J_iconst (x := 0) dX2_countRows_2 (by decide) ?_
  refine J_istore_n (lv' := [(3, .int 0), (2, .int 1), (0, .ref 200), (1, .int x1)]) dX2_countRows_3 rfl (by decide) rfl ?_
  refine J_lv [2, 3, 1, 0] rfl ?_
  exact cr_L hI v u x1 n hn hn2 n 0 _ rfl
def tnG (x1 : Int32) (k : fr_V → fr_V) (s : Nat) (z : fr_V) : fr_V := if x1 ≤ (z 205 s) then k (up2 (up2 (up2 z 200 5 ((z 200 5) - ((z 205 s) * (z 202 s)))) 200 6 ((z 200 6) - ((z 205 s) * (z 203 s)))) 205 s 0) else up2 (up2 (up2 z 205 s ((z 205 s) + 1)) 200 5 ((z 200 5) + (z 202 s))) 200 6 ((z 200 6) + (z 203 s))
def tnF (x1 : Int32) : Nat → fr_V → fr_V
  | 0, z => z
  | s + 1, z => tnG x1 (tnF x1 s) s z
theorem tnF_s (x1 : Int32) (s : Nat) (z : fr_V) : tnF x1 (s + 1) z = tnG x1 (tnF x1 s) s z := rfl
theorem tn_L {l : Launch} {I : List Nat} (hI : fr_I I) (u : fr_U) (x1 : Int32) (n : Nat) (hn2 : n ≤ 12) : ∀ (t : Nat) (z : fr_V) (ht : t ≤ n), J l mX2_turn I z u 7 [(0, .ref 200), (1, .int x1), (2, .int (nI t - 1))] [] (QN u (fun a => a = tnF x1 t z)) := by
  intro t
  induction t with
  | zero =>
    intro z ht
    refine J_iload_n dX2_turn_7 rfl 2 rfl ?_
    refine J_if_lt (tgt := 119) dX2_turn_8 (by decide) (fun c1 => ?_) (fun c1 => absurd dn_0 c1)
    exact J_vret dX2_turn_119 rfl ⟨rfl, rfl, rfl⟩
  | succ s ih =>
    intro z ht
    rw [nI_pred]
    refine J_iload_n dX2_turn_7 rfl 2 rfl ?_
    refine J_if_lt (tgt := 119) dX2_turn_8 (by decide) (fun c1 => absurd c1 (nI_pos (by omega))) (fun c1 => ?_)
    refine J_aload_n dX2_turn_11 rfl 0 rfl ?_
    refine J_getr (ci := 2) (j := 4) (t := 205) dX2_turn_12 fl_X2_21 (i200 hI) rfl rfl rfl ?_
    refine J_iload_n dX2_turn_15 rfl 2 rfl ?_
    refine J_iale (x := z 205 s) dX2_turn_16 (i205 hI) rfl (ix_in (j := s) rfl (by omega) (by omega)) ((congrArg _ (ix_cl (j := s) rfl (by omega))).trans rfl) ?_
    refine J_iload_n dX2_turn_17 rfl 1 rfl ?_
    refine J_icmp_ge (tgt := 62) dX2_turn_18 (by decide) (fun c2 => ?_) (fun c2 => ?_)
    · refine J_aload_n dX2_turn_62 rfl 0 rfl ?_
      refine J_dup dX2_turn_63 rfl ?_
      refine J_gete (ci := 2) (j := 5) (x := z 200 5) dX2_turn_64 fl_X2_44 (i200 hI) rfl rfl rfl ?_
      refine J_aload_n dX2_turn_67 rfl 0 rfl ?_
      refine J_getr (ci := 2) (j := 4) (t := 205) dX2_turn_68 fl_X2_21 (i200 hI) rfl rfl rfl ?_
      refine J_iload_n dX2_turn_71 rfl 2 rfl ?_
      refine J_iale (x := z 205 s) dX2_turn_72 (i205 hI) rfl (ix_in (j := s) rfl (by omega) (by omega)) ((congrArg _ (ix_cl (j := s) rfl (by omega))).trans rfl) ?_
      refine J_aload_n dX2_turn_73 rfl 0 rfl ?_
      refine J_getr (ci := 2) (j := 1) (t := 202) dX2_turn_74 fl_X2_15 (i200 hI) rfl rfl rfl ?_
      refine J_iload_n dX2_turn_77 rfl 2 rfl ?_
      refine J_iale (x := z 202 s) dX2_turn_78 (i202 hI) rfl (ix_in (j := s) rfl (by omega) (by omega)) ((congrArg _ (ix_cl (j := s) rfl (by omega))).trans rfl) ?_
      refine J_imul dX2_turn_79 ?_
      refine J_isub dX2_turn_80 ?_
      refine J_puti (ci := 2) (j := 5) dX2_turn_81 fl_X2_44 (i200 hI) rfl rfl (fun q h => by cases h; rfl) rfl ?_
      refine J_aload_n dX2_turn_84 rfl 0 rfl ?_
      refine J_dup dX2_turn_85 rfl ?_
      refine J_gete (ci := 2) (j := 6) (x := z 200 6) dX2_turn_86 fl_X2_47 (i200 hI) rfl rfl rfl ?_
      refine J_aload_n dX2_turn_89 rfl 0 rfl ?_
      refine J_getr (ci := 2) (j := 4) (t := 205) dX2_turn_90 fl_X2_21 (i200 hI) rfl rfl rfl ?_
      refine J_iload_n dX2_turn_93 rfl 2 rfl ?_
      refine J_iale (x := z 205 s) dX2_turn_94 (i205 hI) rfl (ix_in (j := s) rfl (by omega) (by omega)) ((congrArg _ (ix_cl (j := s) rfl (by omega))).trans rfl) ?_
      refine J_aload_n dX2_turn_95 rfl 0 rfl ?_
      refine J_getr (ci := 2) (j := 2) (t := 203) dX2_turn_96 fl_X2_18 (i200 hI) rfl rfl rfl ?_
      refine J_iload_n dX2_turn_99 rfl 2 rfl ?_
      refine J_iale (x := z 203 s) dX2_turn_100 (i203 hI) rfl (ix_in (j := s) rfl (by omega) (by omega)) ((congrArg _ (ix_cl (j := s) rfl (by omega))).trans rfl) ?_
      refine J_imul dX2_turn_101 ?_
      refine J_isub dX2_turn_102 ?_
      refine J_puti (ci := 2) (j := 6) dX2_turn_103 fl_X2_47 (i200 hI) rfl rfl (fun q h => by cases h; rfl) rfl ?_
      refine J_aload_n dX2_turn_106 rfl 0 rfl ?_
      refine J_getr (ci := 2) (j := 4) (t := 205) dX2_turn_107 fl_X2_21 (i200 hI) rfl rfl rfl ?_
      refine J_iload_n dX2_turn_110 rfl 2 rfl ?_
      refine J_iconst (x := 0) dX2_turn_111 (by decide) ?_
      refine J_iase (j := s) dX2_turn_112 (i205 hI) rfl (ix_in (j := s) rfl (by omega) (by omega)) (ix_cl (j := s) rfl (by omega)) ?_
      refine J_iinc (q := 2) (z := nI s - 1) (lv' := [(2, .int (nI s - 1)), (0, .ref 200), (1, .int x1)]) dX2_turn_113 rfl (dn_1 s) (by decide) rfl ?_
      refine J_goto (tgt := 7) dX2_turn_116 (by decide) ?_
      refine J_lv [1, 2, 0] rfl ?_
      rw [tnF_s]
      unfold tnG
      rw [if_pos c2]
      exact ih _ (by omega)
    · refine J_aload_n dX2_turn_21 rfl 0 rfl ?_
      refine J_getr (ci := 2) (j := 4) (t := 205) dX2_turn_22 fl_X2_21 (i200 hI) rfl rfl rfl ?_
      refine J_iload_n dX2_turn_25 rfl 2 rfl ?_
      refine J_dup2 dX2_turn_26 rfl rfl ?_
      refine J_iale (x := z 205 s) dX2_turn_27 (i205 hI) rfl (ix_in (j := s) rfl (by omega) (by omega)) ((congrArg _ (ix_cl (j := s) rfl (by omega))).trans rfl) ?_
      refine J_iconst (x := 1) dX2_turn_28 (by decide) ?_
      refine J_iadd dX2_turn_29 ?_
      refine J_iase (j := s) dX2_turn_30 (i205 hI) rfl (ix_in (j := s) rfl (by omega) (by omega)) (ix_cl (j := s) rfl (by omega)) ?_
      refine J_aload_n dX2_turn_31 rfl 0 rfl ?_
      refine J_dup dX2_turn_32 rfl ?_
      refine J_gete (ci := 2) (j := 5) (x := z 200 5) dX2_turn_33 fl_X2_44 (i200 hI) rfl rfl rfl ?_
      refine J_aload_n dX2_turn_36 rfl 0 rfl ?_
      refine J_getr (ci := 2) (j := 1) (t := 202) dX2_turn_37 fl_X2_15 (i200 hI) rfl rfl rfl ?_
      refine J_iload_n dX2_turn_40 rfl 2 rfl ?_
      refine J_iale (x := z 202 s) dX2_turn_41 (i202 hI) rfl (ix_in (j := s) rfl (by omega) (by omega)) ((congrArg _ (ix_cl (j := s) rfl (by omega))).trans rfl) ?_
      refine J_iadd dX2_turn_42 ?_
      refine J_puti (ci := 2) (j := 5) dX2_turn_43 fl_X2_44 (i200 hI) rfl rfl (fun q h => by cases h; rfl) rfl ?_
      refine J_aload_n dX2_turn_46 rfl 0 rfl ?_
      refine J_dup dX2_turn_47 rfl ?_
      refine J_gete (ci := 2) (j := 6) (x := z 200 6) dX2_turn_48 fl_X2_47 (i200 hI) rfl rfl rfl ?_
      refine J_aload_n dX2_turn_51 rfl 0 rfl ?_
      refine J_getr (ci := 2) (j := 2) (t := 203) dX2_turn_52 fl_X2_18 (i200 hI) rfl rfl rfl ?_
      refine J_iload_n dX2_turn_55 rfl 2 rfl ?_
      refine J_iale (x := z 203 s) dX2_turn_56 (i203 hI) rfl (ix_in (j := s) rfl (by omega) (by omega)) ((congrArg _ (ix_cl (j := s) rfl (by omega))).trans rfl) ?_
      refine J_iadd dX2_turn_57 ?_
      refine J_puti (ci := 2) (j := 6) dX2_turn_58 fl_X2_47 (i200 hI) rfl rfl (fun q h => by cases h; rfl) rfl ?_
      exact J_vret dX2_turn_61 rfl ⟨rfl, rfl, by rw [tnF_s]; unfold tnG; rw [if_neg c2]⟩
theorem k_X2_turn {l : Launch} {I : List Nat} (hI : fr_I I) (v : fr_V) (u : fr_U) (x1 : Int32) (n : Nat) (hn : v 200 3 = nI n) (hn2 : n ≤ 12) : Con l mX2_turn I v u [.ref 200, .int x1] (QN u (fun a => a = tnF x1 n v)) := by
  refine Con.of (by decide) (Nat.le_of_ble_eq_true rfl) ?_
  show J l mX2_turn I v u 0 [(0, .ref 200), (1, .int x1)] [] _
  refine J_aload_n dX2_turn_0 rfl 0 rfl ?_
  refine J_gete (ci := 2) (j := 3) (x := nI n) dX2_turn_1 fl_X2_27 (i200 hI) rfl rfl hn ?_
  refine J_iconst (x := 1) dX2_turn_4 (by decide) ?_
  refine J_isub dX2_turn_5 ?_
  refine J_istore_n (lv' := [(2, .int ((nI n) - 1)), (0, .ref 200), (1, .int x1)]) dX2_turn_6 rfl (by decide) rfl ?_
  refine J_lv [1, 2, 0] rfl ?_
  exact tn_L hI u x1 n hn2 n v (Nat.le_refl _)
def kbF (w0 : fr_V) : Nat → fr_V
  | 0 => w0
  | j + 1 => up2 (kbF w0 j) 210 (kbF w0 j 201 j).toNatClampNeg (kbF w0 j 205 j)
theorem kbF_s (w0 : fr_V) (j : Nat) : kbF w0 (j + 1) = up2 (kbF w0 j) 210 (kbF w0 j 201 j).toNatClampNeg (kbF w0 j 205 j) := rfl
def f_keep2 (v : fr_V) (n : Nat) : fr_V := kbF (up2 (up2 v 200 7 (v 200 5)) 200 8 (v 200 6)) n
theorem kb_L {l : Launch} {I : List Nat} (hI : fr_I I) (u : fr_U) (n : Nat) (hn2 : n ≤ 12) (w0 : fr_V) : ∀ (d j : Nat) (z : fr_V) (hd : n - j < d) (hj : j ≤ n) (hz : z = kbF w0 j) (hm : z 200 3 = nI n) (hl : ∀ i, i < n → vp_in (z 201 i) 12), J l mX2_keep I z u 18 [(0, .ref 200), (1, .int (nI j))] [] (QN u (fun a => a = kbF w0 n)) := by
  intro d
  induction d with
  | zero => intros; omega
  | succ d ih =>
    intro j z hd hj hz hm hl
    refine J_iload_n dX2_keep_18 rfl 1 rfl ?_
    refine J_aload_n dX2_keep_19 rfl 0 rfl ?_
    refine J_gete (ci := 2) (j := 3) (x := nI n) dX2_keep_20 fl_X2_27 (i200 hI) rfl rfl hm ?_
    refine J_icmp_ge (tgt := 49) dX2_keep_23 (by decide) (fun c1 => ?_) (fun c1 => ?_)
    · exact J_vret dX2_keep_49 rfl ⟨rfl, rfl, by have e : j = n := by {have := nz_le (by omega) (by omega) c1; omega}; rw [hz, e]⟩
    · have hjn : j < n := nz_nle (by omega) (by omega) c1
      refine J_aload_n dX2_keep_26 rfl 0 rfl ?_
      refine J_getr (ci := 2) (j := 9) (t := 210) dX2_keep_27 fl_X2_24 (i200 hI) rfl rfl rfl ?_
      refine J_aload_n dX2_keep_30 rfl 0 rfl ?_
      refine J_getr (ci := 2) (j := 0) (t := 201) dX2_keep_31 fl_X2_9 (i200 hI) rfl rfl rfl ?_
      refine J_iload_n dX2_keep_34 rfl 1 rfl ?_
      refine J_iale (x := z 201 j) dX2_keep_35 (i201 hI) rfl (ix_in (j := j) rfl (by omega) (by omega)) ((congrArg _ (ix_cl (j := j) rfl (by omega))).trans rfl) ?_
      refine J_aload_n dX2_keep_36 rfl 0 rfl ?_
      refine J_getr (ci := 2) (j := 4) (t := 205) dX2_keep_37 fl_X2_21 (i200 hI) rfl rfl rfl ?_
      refine J_iload_n dX2_keep_40 rfl 1 rfl ?_
      refine J_iale (x := z 205 j) dX2_keep_41 (i205 hI) rfl (ix_in (j := j) rfl (by omega) (by omega)) ((congrArg _ (ix_cl (j := j) rfl (by omega))).trans rfl) ?_
      refine J_iast dX2_keep_42 (i210 hI) rfl (hl j hjn) ?_
      refine J_iinc (q := 1) (z := nI (j + 1)) (lv' := [(1, .int (nI (j + 1))), (0, .ref 200)]) dX2_keep_43 rfl (nI_1 j) (by decide) rfl ?_
      refine J_goto (tgt := 18) dX2_keep_46 (by decide) ?_
      refine J_lv [1, 0] rfl ?_
      exact ih (j + 1) _ (by omega) (by omega) (by rw [kbF_s, ← hz]) hm hl
theorem k_X2_keep {l : Launch} {I : List Nat} (hI : fr_I I) (v : fr_V) (u : fr_U) (n : Nat) (hn2 : n ≤ 12) (hm : v 200 3 = nI n) (hl : ∀ i, i < n → vp_in (v 201 i) 12) : Con l mX2_keep I v u [.ref 200] (QN u (fun a => a = f_keep2 v n)) := by
  refine Con.of (by decide) (Nat.le_of_ble_eq_true rfl) ?_
  show J l mX2_keep I v u 0 [(0, .ref 200)] [] _
  refine J_aload_n dX2_keep_0 rfl 0 rfl ?_
  refine J_aload_n dX2_keep_1 rfl 0 rfl ?_
  refine J_gete (ci := 2) (j := 5) (x := v 200 5) dX2_keep_2 fl_X2_44 (i200 hI) rfl rfl rfl ?_
  refine J_puti (ci := 2) (j := 7) dX2_keep_5 fl_X2_50 (i200 hI) rfl rfl (fun q h => by cases h; rfl) rfl ?_
  refine J_aload_n dX2_keep_8 rfl 0 rfl ?_
  refine J_aload_n dX2_keep_9 rfl 0 rfl ?_
  refine J_gete (ci := 2) (j := 6) (x := v 200 6) dX2_keep_10 fl_X2_47 (i200 hI) rfl rfl rfl ?_
  refine J_puti (ci := 2) (j := 8) dX2_keep_13 fl_X2_53 (i200 hI) rfl rfl (fun q h => by cases h; rfl) rfl ?_
  refine J_iconst (x := 0) dX2_keep_16 (by decide) ?_
  refine J_istore_n (lv' := [(1, .int 0), (0, .ref 200)]) dX2_keep_17 rfl (by decide) rfl ?_
  refine J_lv [1, 0] rfl ?_
  exact kb_L hI u n hn2 (up2 (up2 v 200 7 (v 200 5)) 200 8 (v 200 6)) (n + 1) 0 _ (by omega) (by omega) rfl hm hl
