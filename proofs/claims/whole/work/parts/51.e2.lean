def f_X6_isLetter (v : fr_V) (x0 : Int32) : Int32 := if x0 < 97 then 0 else if 122 < x0 then 0 else 1
theorem k_X6_isLetter {l : Launch} {I : List Nat} (hI : fr_I I) (v : fr_V) (u : fr_U) (x0 : Int32) : Con l mX6_isLetter I v u [.int x0] (QI v u (fun a => a = f_X6_isLetter v x0)) := by
  refine Con.of (by decide) (Nat.le_of_ble_eq_true rfl) ?_
  show J l mX6_isLetter I v u 0 [(0, .int x0)] [] _
  refine J_iload_n dX6_isLetter_0 rfl 0 rfl ?_
  refine J_bipush (x := 97) dX6_isLetter_1 (by decide) ?_
  refine J_icmp_lt (tgt := 16) dX6_isLetter_3 (by decide) (fun c1 => ?_) (fun c1 => ?_)
  · refine J_iconst (x := 0) dX6_isLetter_16 (by decide) ?_
    exact J_zret dX6_isLetter_17 rfl (by decide) ⟨_, rfl, rfl, rfl, by unfold f_X6_isLetter; rw [if_pos c1]⟩
  · refine J_iload_n dX6_isLetter_6 rfl 0 rfl ?_
    refine J_bipush (x := 122) dX6_isLetter_7 (by decide) ?_
    refine J_icmp_gt (tgt := 16) dX6_isLetter_9 (by decide) (fun c2 => ?_) (fun c2 => ?_)
    · refine J_iconst (x := 0) dX6_isLetter_16 (by decide) ?_
      exact J_zret dX6_isLetter_17 rfl (by decide) ⟨_, rfl, rfl, rfl, by unfold f_X6_isLetter; rw [if_neg c1, if_pos c2]⟩
    · refine J_iconst (x := 1) dX6_isLetter_12 (by decide) ?_
      refine J_goto (tgt := 17) dX6_isLetter_13 (by decide) ?_
      exact J_zret dX6_isLetter_17 rfl (by decide) ⟨_, rfl, rfl, rfl, by unfold f_X6_isLetter; rw [if_neg c1, if_neg c2]⟩
def f_X6_isDigit (v : fr_V) (x0 : Int32) : Int32 := if x0 < 48 then 0 else if 57 < x0 then 0 else 1
theorem k_X6_isDigit {l : Launch} {I : List Nat} (hI : fr_I I) (v : fr_V) (u : fr_U) (x0 : Int32) : Con l mX6_isDigit I v u [.int x0] (QI v u (fun a => a = f_X6_isDigit v x0)) := by
  refine Con.of (by decide) (Nat.le_of_ble_eq_true rfl) ?_
  show J l mX6_isDigit I v u 0 [(0, .int x0)] [] _
  refine J_iload_n dX6_isDigit_0 rfl 0 rfl ?_
  refine J_bipush (x := 48) dX6_isDigit_1 (by decide) ?_
  refine J_icmp_lt (tgt := 16) dX6_isDigit_3 (by decide) (fun c1 => ?_) (fun c1 => ?_)
  · refine J_iconst (x := 0) dX6_isDigit_16 (by decide) ?_
    exact J_zret dX6_isDigit_17 rfl (by decide) ⟨_, rfl, rfl, rfl, by unfold f_X6_isDigit; rw [if_pos c1]⟩
  · refine J_iload_n dX6_isDigit_6 rfl 0 rfl ?_
    refine J_bipush (x := 57) dX6_isDigit_7 (by decide) ?_
    refine J_icmp_gt (tgt := 16) dX6_isDigit_9 (by decide) (fun c2 => ?_) (fun c2 => ?_)
    · refine J_iconst (x := 0) dX6_isDigit_16 (by decide) ?_
      exact J_zret dX6_isDigit_17 rfl (by decide) ⟨_, rfl, rfl, rfl, by unfold f_X6_isDigit; rw [if_neg c1, if_pos c2]⟩
    · refine J_iconst (x := 1) dX6_isDigit_12 (by decide) ?_
      refine J_goto (tgt := 17) dX6_isDigit_13 (by decide) ?_
      exact J_zret dX6_isDigit_17 rfl (by decide) ⟨_, rfl, rfl, rfl, by unfold f_X6_isDigit; rw [if_neg c1, if_neg c2]⟩
theorem lt6 {v z : fr_V} {p : Nat} : f_X6_isLetter z (v 601 p) = 0 ↔ ¬ isLt (v 601) p := by
  unfold f_X6_isLetter isLt
  by_cases h1 : v 601 p < 97
  · simp [h1]
  · by_cases h2 : 122 < v 601 p
    · simp [h1, h2]
    · simp [h1, h2]
theorem dg6i {v z : fr_V} {p : Nat} : f_X6_isDigit z (v 601 p) = 0 ↔ ¬ isDg (v 601) p := by
  unfold f_X6_isDigit isDg
  by_cases h1 : v 601 p < 48
  · simp [h1]
  · by_cases h2 : 57 < v 601 p
    · simp [h1, h2]
    · simp [h1, h2]
def f_putBytes (v : fr_V) (t : Nat) (x1 : Int32) : fr_V := up2 (up2 (up2 (up2 (up2 (up2 (up2 (up2 v 601 t (((x1.toUInt32 >>> ((24 : Int32).toUInt32 &&& Int32.toUInt32 31)).toInt32) &&& 255)) 600 1 ((nI t) + 1)) 601 (t + 1) (((x1.toUInt32 >>> ((16 : Int32).toUInt32 &&& Int32.toUInt32 31)).toInt32) &&& 255)) 600 1 (((nI t) + 1) + 1)) 601 ((t + 1) + 1) (((x1.toUInt32 >>> ((8 : Int32).toUInt32 &&& Int32.toUInt32 31)).toInt32) &&& 255)) 600 1 ((((nI t) + 1) + 1) + 1)) 601 (((t + 1) + 1) + 1) (((x1.toUInt32 >>> ((0 : Int32).toUInt32 &&& Int32.toUInt32 31)).toInt32) &&& 255)) 600 1 (((((nI t) + 1) + 1) + 1) + 1)
theorem k_X6_putBytes {l : Launch} {I : List Nat} (hI : fr_I I) (v : fr_V) (u : fr_U) (t : Nat) (x1 : Int32) (ht : v 600 1 = nI t) (ht2 : t ≤ 496) : Con l mX6_putBytes I v u [.ref 600, .int x1] (QN u (fun a => a = f_putBytes v t x1)) := by
  refine Con.of (by decide) (Nat.le_of_ble_eq_true rfl) ?_
  show J l mX6_putBytes I v u 0 [(0, .ref 600), (1, .int x1)] [] _
  refine J_bipush (x := 24) dX6_putBytes_0 (by decide) ?_
  refine J_istore_n (lv' := [(2, .int 24), (0, .ref 600), (1, .int x1)]) dX6_putBytes_2 rfl (by decide) rfl ?_
  refine J_iload_n dX6_putBytes_3 rfl 0 rfl ?_
  refine J_if_lt (tgt := 49) dX6_putBytes_4 (by decide) (fun c1 => absurd c1 (by decide)) (fun c1 => ?_)
  refine J_aload_n dX6_putBytes_7 rfl 1 rfl ?_
  refine J_gete (ci := 6) (j := 1) (x := nI t) dX6_putBytes_8 fl_X6_19 (i600 hI) rfl rfl ht ?_
  refine J_sipush (x := 500) dX6_putBytes_11 (by decide) ?_
  refine J_icmp_ge (tgt := 49) dX6_putBytes_14 (by decide) (fun c2 => absurd c2 (by rw [show (nI t : Int32) = nI (t) from rfl]; exact nI_ge (b := 500) (by omega) (by omega))) (fun c2 => ?_)
  refine J_aload_n dX6_putBytes_17 rfl 1 rfl ?_
  refine J_getr (ci := 6) (j := 0) (t := 601) dX6_putBytes_18 fl_X6_9 (i600 hI) rfl rfl rfl ?_
  refine J_aload_n dX6_putBytes_21 rfl 1 rfl ?_
  refine J_gete (ci := 6) (j := 1) (x := nI t) dX6_putBytes_22 fl_X6_19 (i600 hI) rfl rfl ht ?_
  refine J_iload_n dX6_putBytes_25 rfl 2 rfl ?_
  refine J_iload_n dX6_putBytes_26 rfl 0 rfl ?_
  refine J_iushr dX6_putBytes_27 ?_
  refine J_sipush (x := 255) dX6_putBytes_28 (by decide) ?_
  refine J_iand dX6_putBytes_31 ?_
  refine J_iase (j := t) dX6_putBytes_32 (i601 hI) rfl (ix_in (j := t) rfl (by omega) (by omega)) (ix_cl (j := t) rfl (by omega)) ?_
  refine J_aload_n dX6_putBytes_33 rfl 1 rfl ?_
  refine J_dup dX6_putBytes_34 rfl ?_
  refine J_gete (ci := 6) (j := 1) (x := nI t) dX6_putBytes_35 fl_X6_19 (i600 hI) rfl rfl ht ?_
  refine J_iconst (x := 1) dX6_putBytes_38 (by decide) ?_
  refine J_iadd dX6_putBytes_39 ?_
  refine J_puti (ci := 6) (j := 1) dX6_putBytes_40 fl_X6_19 (i600 hI) rfl rfl (fun q h => by cases h; rfl) rfl ?_
  refine J_iinc (q := 0) (z := 16) (lv' := [(2, .int 16), (0, .ref 600), (1, .int x1)]) dX6_putBytes_43 rfl (by decide) (by decide) rfl ?_
  refine J_goto (tgt := 3) dX6_putBytes_46 (by decide) ?_
  refine J_iload_n dX6_putBytes_3 rfl 0 rfl ?_
  refine J_if_lt (tgt := 49) dX6_putBytes_4 (by decide) (fun c3 => absurd c3 (by decide)) (fun c3 => ?_)
  refine J_aload_n dX6_putBytes_7 rfl 1 rfl ?_
  refine J_gete (ci := 6) (j := 1) (x := (nI t) + 1) dX6_putBytes_8 fl_X6_19 (i600 hI) rfl rfl rfl ?_
  refine J_sipush (x := 500) dX6_putBytes_11 (by decide) ?_
  refine J_icmp_ge (tgt := 49) dX6_putBytes_14 (by decide) (fun c4 => absurd c4 (by rw [show ((nI t) + 1 : Int32) = nI (t + 1) from (by show (nI t) + (nI 1) = _; simp only [nI_add, pk_mul])]; exact nI_ge (b := 500) (by omega) (by omega))) (fun c4 => ?_)
  refine J_aload_n dX6_putBytes_17 rfl 1 rfl ?_
  refine J_getr (ci := 6) (j := 0) (t := 601) dX6_putBytes_18 fl_X6_9 (i600 hI) rfl rfl rfl ?_
  refine J_aload_n dX6_putBytes_21 rfl 1 rfl ?_
  refine J_gete (ci := 6) (j := 1) (x := (nI t) + 1) dX6_putBytes_22 fl_X6_19 (i600 hI) rfl rfl rfl ?_
  refine J_iload_n dX6_putBytes_25 rfl 2 rfl ?_
  refine J_iload_n dX6_putBytes_26 rfl 0 rfl ?_
  refine J_iushr dX6_putBytes_27 ?_
  refine J_sipush (x := 255) dX6_putBytes_28 (by decide) ?_
  refine J_iand dX6_putBytes_31 ?_
  refine J_iase (j := t + 1) dX6_putBytes_32 (i601 hI) rfl (ix_in (j := t + 1) (by show (nI t) + (nI 1) = _; simp only [nI_add, pk_mul]) (by omega) (by omega)) (ix_cl (j := t + 1) (by show (nI t) + (nI 1) = _; simp only [nI_add, pk_mul]) (by omega)) ?_
  refine J_aload_n dX6_putBytes_33 rfl 1 rfl ?_
  refine J_dup dX6_putBytes_34 rfl ?_
  refine J_gete (ci := 6) (j := 1) (x := (nI t) + 1) dX6_putBytes_35 fl_X6_19 (i600 hI) rfl rfl rfl ?_
  refine J_iconst (x := 1) dX6_putBytes_38 (by decide) ?_
  refine J_iadd dX6_putBytes_39 ?_
  refine J_puti (ci := 6) (j := 1) dX6_putBytes_40 fl_X6_19 (i600 hI) rfl rfl (fun q h => by cases h; rfl) rfl ?_
  refine J_iinc (q := 0) (z := 8) (lv' := [(2, .int 8), (0, .ref 600), (1, .int x1)]) dX6_putBytes_43 rfl (by decide) (by decide) rfl ?_
  refine J_goto (tgt := 3) dX6_putBytes_46 (by decide) ?_
  refine J_iload_n dX6_putBytes_3 rfl 0 rfl ?_
  refine J_if_lt (tgt := 49) dX6_putBytes_4 (by decide) (fun c5 => absurd c5 (by decide)) (fun c5 => ?_)
  refine J_aload_n dX6_putBytes_7 rfl 1 rfl ?_
  refine J_gete (ci := 6) (j := 1) (x := ((nI t) + 1) + 1) dX6_putBytes_8 fl_X6_19 (i600 hI) rfl rfl rfl ?_
  refine J_sipush (x := 500) dX6_putBytes_11 (by decide) ?_
  refine J_icmp_ge (tgt := 49) dX6_putBytes_14 (by decide) (fun c6 => absurd c6 (by rw [show (((nI t) + 1) + 1 : Int32) = nI ((t + 1) + 1) from (by show ((nI t) + (nI 1)) + (nI 1) = _; simp only [nI_add, pk_mul])]; exact nI_ge (b := 500) (by omega) (by omega))) (fun c6 => ?_)
  refine J_aload_n dX6_putBytes_17 rfl 1 rfl ?_
  refine J_getr (ci := 6) (j := 0) (t := 601) dX6_putBytes_18 fl_X6_9 (i600 hI) rfl rfl rfl ?_
  refine J_aload_n dX6_putBytes_21 rfl 1 rfl ?_
  refine J_gete (ci := 6) (j := 1) (x := ((nI t) + 1) + 1) dX6_putBytes_22 fl_X6_19 (i600 hI) rfl rfl rfl ?_
  refine J_iload_n dX6_putBytes_25 rfl 2 rfl ?_
  refine J_iload_n dX6_putBytes_26 rfl 0 rfl ?_
  refine J_iushr dX6_putBytes_27 ?_
  refine J_sipush (x := 255) dX6_putBytes_28 (by decide) ?_
  refine J_iand dX6_putBytes_31 ?_
  refine J_iase (j := (t + 1) + 1) dX6_putBytes_32 (i601 hI) rfl (ix_in (j := (t + 1) + 1) (by show ((nI t) + (nI 1)) + (nI 1) = _; simp only [nI_add, pk_mul]) (by omega) (by omega)) (ix_cl (j := (t + 1) + 1) (by show ((nI t) + (nI 1)) + (nI 1) = _; simp only [nI_add, pk_mul]) (by omega)) ?_
  refine J_aload_n dX6_putBytes_33 rfl 1 rfl ?_
  refine J_dup dX6_putBytes_34 rfl ?_
  refine J_gete (ci := 6) (j := 1) (x := ((nI t) + 1) + 1) dX6_putBytes_35 fl_X6_19 (i600 hI) rfl rfl rfl ?_
  refine J_iconst (x := 1) dX6_putBytes_38 (by decide) ?_
  refine J_iadd dX6_putBytes_39 ?_
  refine J_puti (ci := 6) (j := 1) dX6_putBytes_40 fl_X6_19 (i600 hI) rfl rfl (fun q h => by cases h; rfl) rfl ?_
  refine J_iinc (q := 0) (z := 0) (lv' := [(2, .int 0), (0, .ref 600), (1, .int x1)]) dX6_putBytes_43 rfl (by decide) (by decide) rfl ?_
  refine J_goto (tgt := 3) dX6_putBytes_46 (by decide) ?_
  refine J_iload_n dX6_putBytes_3 rfl 0 rfl ?_
  refine J_if_lt (tgt := 49) dX6_putBytes_4 (by decide) (fun c7 => absurd c7 (by decide)) (fun c7 => ?_)
  refine J_aload_n dX6_putBytes_7 rfl 1 rfl ?_
  refine J_gete (ci := 6) (j := 1) (x := (((nI t) + 1) + 1) + 1) dX6_putBytes_8 fl_X6_19 (i600 hI) rfl rfl rfl ?_
  refine J_sipush (x := 500) dX6_putBytes_11 (by decide) ?_
  refine J_icmp_ge (tgt := 49) dX6_putBytes_14 (by decide) (fun c8 => absurd c8 (by rw [show ((((nI t) + 1) + 1) + 1 : Int32) = nI (((t + 1) + 1) + 1) from (by show (((nI t) + (nI 1)) + (nI 1)) + (nI 1) = _; simp only [nI_add, pk_mul])]; exact nI_ge (b := 500) (by omega) (by omega))) (fun c8 => ?_)
  refine J_aload_n dX6_putBytes_17 rfl 1 rfl ?_
  refine J_getr (ci := 6) (j := 0) (t := 601) dX6_putBytes_18 fl_X6_9 (i600 hI) rfl rfl rfl ?_
  refine J_aload_n dX6_putBytes_21 rfl 1 rfl ?_
  refine J_gete (ci := 6) (j := 1) (x := (((nI t) + 1) + 1) + 1) dX6_putBytes_22 fl_X6_19 (i600 hI) rfl rfl rfl ?_
  refine J_iload_n dX6_putBytes_25 rfl 2 rfl ?_
  refine J_iload_n dX6_putBytes_26 rfl 0 rfl ?_
  refine J_iushr dX6_putBytes_27 ?_
  refine J_sipush (x := 255) dX6_putBytes_28 (by decide) ?_
  refine J_iand dX6_putBytes_31 ?_
  refine J_iase (j := ((t + 1) + 1) + 1) dX6_putBytes_32 (i601 hI) rfl (ix_in (j := ((t + 1) + 1) + 1) (by show (((nI t) + (nI 1)) + (nI 1)) + (nI 1) = _; simp only [nI_add, pk_mul]) (by omega) (by omega)) (ix_cl (j := ((t + 1) + 1) + 1) (by show (((nI t) + (nI 1)) + (nI 1)) + (nI 1) = _; simp only [nI_add, pk_mul]) (by omega)) ?_
  refine J_aload_n dX6_putBytes_33 rfl 1 rfl ?_
  refine J_dup dX6_putBytes_34 rfl ?_
  refine J_gete (ci := 6) (j := 1) (x := (((nI t) + 1) + 1) + 1) dX6_putBytes_35 fl_X6_19 (i600 hI) rfl rfl rfl ?_
  refine J_iconst (x := 1) dX6_putBytes_38 (by decide) ?_
  refine J_iadd dX6_putBytes_39 ?_
  refine J_puti (ci := 6) (j := 1) dX6_putBytes_40 fl_X6_19 (i600 hI) rfl rfl (fun q h => by cases h; rfl) rfl ?_
  refine J_iinc (q := 0) (z := (-8)) (lv' := [(2, .int (-8)), (0, .ref 600), (1, .int x1)]) dX6_putBytes_43 rfl (by decide) (by decide) rfl ?_
  refine J_goto (tgt := 3) dX6_putBytes_46 (by decide) ?_
  refine J_iload_n dX6_putBytes_3 rfl 0 rfl ?_
  refine J_if_lt (tgt := 49) dX6_putBytes_4 (by decide) (fun c9 => ?_) (fun c9 => absurd (by decide) c9)
  exact J_vret dX6_putBytes_49 rfl ⟨rfl, rfl, rfl⟩
theorem sk6_L {l : Launch} {I : List Nat} (hI : fr_I I) (v : fr_V) (u : fr_U) (E : Nat) (hE : E ≤ 500) (hE0 : v 600 2 = nI E) : ∀ (d p : Nat) (hp : d + p = E), J l mX6_skipBlanks I (up2 v 600 9 (nI p)) u 8 [(0, .ref 600)] [] (QN u (fun a => a = up2 v 600 9 (nI (sc (isBl (v 601)) E d)))) := by
  intro d
  induction d with
  | zero =>
    intro p hp
    have e : E = p := by omega
    subst e
    refine J_aload_n dX6_skipBlanks_8 rfl 0 rfl ?_
    refine J_gete (ci := 6) (j := 9) (x := nI E) dX6_skipBlanks_9 fl_X6_72 (i600 hI) rfl rfl rfl ?_
    refine J_aload_n dX6_skipBlanks_12 rfl 0 rfl ?_
    refine J_gete (ci := 6) (j := 2) (x := nI E) dX6_skipBlanks_13 fl_X6_28 (i600 hI) rfl rfl hE0 ?_
    refine J_icmp_ge (tgt := 60) dX6_skipBlanks_16 (by decide) (fun c1 => ?_) (fun c1 => absurd (nI_le (Nat.le_refl _) (by omega)) c1)
    exact J_vret dX6_skipBlanks_60 rfl ⟨rfl, rfl, rfl⟩
  | succ d ih =>
    intro p hp
    have hpd : p = E - (d + 1) := by omega
    refine J_aload_n dX6_skipBlanks_8 rfl 0 rfl ?_
    refine J_gete (ci := 6) (j := 9) (x := nI p) dX6_skipBlanks_9 fl_X6_72 (i600 hI) rfl rfl rfl ?_
    refine J_aload_n dX6_skipBlanks_12 rfl 0 rfl ?_
    refine J_gete (ci := 6) (j := 2) (x := nI E) dX6_skipBlanks_13 fl_X6_28 (i600 hI) rfl rfl hE0 ?_
    refine J_icmp_ge (tgt := 60) dX6_skipBlanks_16 (by decide) (fun c1 => absurd c1 (nI_ge (a := p) (b := E) (by omega) (by omega))) (fun c1 => ?_)
    refine J_aload_n dX6_skipBlanks_19 rfl 0 rfl ?_
    refine J_getr (ci := 6) (j := 0) (t := 601) dX6_skipBlanks_20 fl_X6_9 (i600 hI) rfl rfl rfl ?_
    refine J_aload_n dX6_skipBlanks_23 rfl 0 rfl ?_
    refine J_gete (ci := 6) (j := 9) (x := nI p) dX6_skipBlanks_24 fl_X6_72 (i600 hI) rfl rfl rfl ?_
    refine J_iale (x := v 601 p) dX6_skipBlanks_27 (i601 hI) rfl (ix_in (j := p) rfl (by omega) (by omega)) ((congrArg _ (ix_cl (j := p) rfl (by omega))).trans rfl) ?_
    refine J_bipush (x := 10) dX6_skipBlanks_28 (by decide) ?_
    refine J_icmp_eq (tgt := 47) dX6_skipBlanks_30 (by decide) (fun c2 => ?_) (fun c2 => ?_)
    · refine J_aload_n dX6_skipBlanks_47 rfl 0 rfl ?_
      refine J_dup dX6_skipBlanks_48 rfl ?_
      refine J_gete (ci := 6) (j := 9) (x := nI p) dX6_skipBlanks_49 fl_X6_72 (i600 hI) rfl rfl rfl ?_
      refine J_iconst (x := 1) dX6_skipBlanks_52 (by decide) ?_
      refine J_iadd dX6_skipBlanks_53 ?_
      refine J_puti (ci := 6) (j := 9) dX6_skipBlanks_54 fl_X6_72 (i600 hI) rfl rfl (fun q h => by cases h; rfl) rfl ?_
      refine J_goto (tgt := 8) dX6_skipBlanks_57 (by decide) ?_
      refine J_lv [0] rfl ?_
      rw [up2_up2, nI_1]
      have hb : isBl (v 601) p := Or.inl c2
      rw [sc_p (by rw [← hpd]; exact hb)]
      exact ih (p + 1) (by omega)
    · refine J_aload_n dX6_skipBlanks_33 rfl 0 rfl ?_
      refine J_getr (ci := 6) (j := 0) (t := 601) dX6_skipBlanks_34 fl_X6_9 (i600 hI) rfl rfl rfl ?_
      refine J_aload_n dX6_skipBlanks_37 rfl 0 rfl ?_
      refine J_gete (ci := 6) (j := 9) (x := nI p) dX6_skipBlanks_38 fl_X6_72 (i600 hI) rfl rfl rfl ?_
      refine J_iale (x := v 601 p) dX6_skipBlanks_41 (i601 hI) rfl (ix_in (j := p) rfl (by omega) (by omega)) ((congrArg _ (ix_cl (j := p) rfl (by omega))).trans rfl) ?_
      refine J_bipush (x := 32) dX6_skipBlanks_42 (by decide) ?_
      refine J_icmp_ne (tgt := 60) dX6_skipBlanks_44 (by decide) (fun c3 => ?_) (fun c3 => ?_)
      · exact J_vret dX6_skipBlanks_60 rfl ⟨rfl, rfl, by rw [sc_n (by rw [← hpd]; exact fun q => q.elim c2 c3), ← hpd]⟩
      · refine J_aload_n dX6_skipBlanks_47 rfl 0 rfl ?_
        refine J_dup dX6_skipBlanks_48 rfl ?_
        refine J_gete (ci := 6) (j := 9) (x := nI p) dX6_skipBlanks_49 fl_X6_72 (i600 hI) rfl rfl rfl ?_
        refine J_iconst (x := 1) dX6_skipBlanks_52 (by decide) ?_
        refine J_iadd dX6_skipBlanks_53 ?_
        refine J_puti (ci := 6) (j := 9) dX6_skipBlanks_54 fl_X6_72 (i600 hI) rfl rfl (fun q h => by cases h; rfl) rfl ?_
        refine J_goto (tgt := 8) dX6_skipBlanks_57 (by decide) ?_
        refine J_lv [0] rfl ?_
        rw [up2_up2, nI_1]
        have hb : isBl (v 601) p := Or.inr c3
        rw [sc_p (by rw [← hpd]; exact hb)]
        exact ih (p + 1) (by omega)
noncomputable def f_skip (v : fr_V) (E b : Nat) : fr_V := up2 v 600 9 (nI (sc (isBl (v 601)) E (E - b)))
theorem k_X6_skipBlanks {l : Launch} {I : List Nat} (hI : fr_I I) (v : fr_V) (u : fr_U) (E : Nat) (hE : E ≤ 500) (hE0 : v 600 2 = nI E) (b : Nat) (hb : v 600 10 = nI b) (hb2 : b ≤ E) : Con l mX6_skipBlanks I v u [.ref 600] (QN u (fun a => a = f_skip v E b)) := by
  refine Con.of (by decide) (Nat.le_of_ble_eq_true rfl) ?_
  show J l mX6_skipBlanks I v u 0 [(0, .ref 600)] [] _
  refine J_aload_n dX6_skipBlanks_0 rfl 0 rfl ?_
  refine J_aload_n dX6_skipBlanks_1 rfl 0 rfl ?_
  refine J_gete (ci := 6) (j := 10) (x := nI b) dX6_skipBlanks_2 fl_X6_66 (i600 hI) rfl rfl hb ?_
  refine J_puti (ci := 6) (j := 9) dX6_skipBlanks_5 fl_X6_72 (i600 hI) rfl rfl (fun q h => by cases h; rfl) rfl ?_
  refine J_lv [0] rfl ?_
  exact sk6_L hI v u E hE hE0 (E - b) b (by omega)
theorem w_len : ∀ w, w < 15 → fr_len.getD w 0 = wlen w := by decide
theorem w_chr : ∀ w, w < 15 → ∀ i, i < wlen w → wch w i = wd (wst w + i) := by decide +kernel
theorem w_7 : ∀ w, w < 15 → wlen w ≤ 7 := by decide
theorem lt_sp {P : Nat → Prop} {i : Nat} (h : ∀ q, q < i → P q) (hi : P i) : ∀ q, q < i + 1 → P q := by
  intro q hq
  by_cases e : q = i
  · rw [e]; exact hi
  · exact h q (by omega)
theorem sp6_L {l : Launch} {I : List Nat} (hI : fr_I I) (v : fr_V) (u : fr_U) (a b w : Nat) (ha : v 600 9 = nI a) (hb : v 600 10 = nI b) (hab : a ≤ b) (hb5 : b ≤ 500) (hw : w < 15) (h7 : wlen w ≤ 7) (hlen : wlen w = b - a) : ∀ (d i : Nat) (hd : wlen w - i < d) (hj : i ≤ wlen w) (hno : ∀ q, q < i → wd (wst w + q) = v 601 (a + q)), J l mX6_spells I v u 20 [(0, .ref 600), (1, .ref (3100 + w)), (2, .int (nI i))] [] (QI v u (fun x => x = cI (wm (v 601) a b w))) := by
  intro d
  induction d with
  | zero => intros; omega
  | succ d ih =>
    intro i hd hj hno
    refine J_iload_n dX6_spells_20 rfl 2 rfl ?_
    refine J_aload_n dX6_spells_21 rfl 1 rfl ?_
    refine J_eVSI (z := mJ0_length_8abf5) (As := []) (rest := [.int (nI i)]) (x := nI (wlen w)) dX6_spells_22 ml_X6_115 ok_J0_length_8abf5 iv_J0_length_8abf5 (by decide) hw rfl rfl rfl (Nat.le_of_ble_eq_true rfl) (w_len w hw ▸ k_J0_length hI v u w hw) ?_
    refine J_icmp_ge (tgt := 55) dX6_spells_25 (by decide) (fun c1 => ?_) (fun c1 => ?_)
    · refine J_iconst (x := 1) dX6_spells_55 (by decide) ?_
      exact J_zret dX6_spells_56 rfl (by decide) ⟨_, rfl, rfl, rfl, (cI_pos ⟨hlen, fun q hq => hno q (by have := nz_le (by omega) (by omega) c1; omega)⟩).symm⟩
    · have hiw : i < wlen w := nz_nle (by omega) (by omega) c1
      refine J_aload_n dX6_spells_28 rfl 1 rfl ?_
      refine J_iload_n dX6_spells_29 rfl 2 rfl ?_
      refine J_eVSI (z := mJ0_charAt_5068e) (As := [.int (nI i)]) (rest := []) (x := wd (wst w + i)) dX6_spells_30 ml_X6_119 ok_J0_charAt_5068e iv_J0_charAt_5068e (by decide) hw rfl rfl rfl (Nat.le_of_ble_eq_true rfl) (w_chr w hw i hiw ▸ k_J0_charAt hI v u w hw i (by rw [w_len w hw]; exact hiw)) ?_
      refine J_aload_n dX6_spells_33 rfl 0 rfl ?_
      refine J_getr (ci := 6) (j := 0) (t := 601) dX6_spells_34 fl_X6_9 (i600 hI) rfl rfl rfl ?_
      refine J_aload_n dX6_spells_37 rfl 0 rfl ?_
      refine J_gete (ci := 6) (j := 9) (x := nI a) dX6_spells_38 fl_X6_72 (i600 hI) rfl rfl ha ?_
      refine J_iload_n dX6_spells_41 rfl 2 rfl ?_
      refine J_iadd dX6_spells_42 ?_
      refine J_iale (x := v 601 (a + i)) dX6_spells_43 (i601 hI) rfl (ix_in (j := a + i) (by show (nI a) + (nI i) = _; simp only [nI_add, pk_mul]) (by omega) (by omega)) ((congrArg _ (ix_cl (j := a + i) (by show (nI a) + (nI i) = _; simp only [nI_add, pk_mul]) (by omega))).trans rfl) ?_
      refine J_icmp_eq (tgt := 49) dX6_spells_44 (by decide) (fun c2 => ?_) (fun c2 => ?_)
      · refine J_iinc (q := 2) (z := nI (i + 1)) (lv' := [(2, .int (nI (i + 1))), (0, .ref 600), (1, .ref (3100 + w))]) dX6_spells_49 rfl (nI_1 i) (by decide) rfl ?_
        refine J_goto (tgt := 20) dX6_spells_52 (by decide) ?_
        refine J_lv [1, 2, 0] rfl ?_
        exact ih (i + 1) (by omega) (by omega) (lt_sp hno c2)
      · refine J_iconst (x := 0) dX6_spells_47 (by decide) ?_
        exact J_zret dX6_spells_48 rfl (by decide) ⟨_, rfl, rfl, rfl, (cI_neg (fun q => c2 (q.2 i hiw))).symm⟩
theorem k_X6_spells {l : Launch} {I : List Nat} (hI : fr_I I) (v : fr_V) (u : fr_U) (a b w : Nat) (ha : v 600 9 = nI a) (hb : v 600 10 = nI b) (hab : a ≤ b) (hb5 : b ≤ 500) (hw : w < 15) : Con l mX6_spells I v u [.ref 600, .ref (3100 + w)] (QI v u (fun x => x = cI (wm (v 601) a b w))) := by
  refine Con.of (by decide) (Nat.le_of_ble_eq_true rfl) ?_
  show J l mX6_spells I v u 0 [(0, .ref 600), (1, .ref (3100 + w))] [] _
  refine J_aload_n dX6_spells_0 rfl 1 rfl ?_
  refine J_eVSI (z := mJ0_length_8abf5) (As := []) (rest := []) (x := nI (wlen w)) dX6_spells_1 ml_X6_115 ok_J0_length_8abf5 iv_J0_length_8abf5 (by decide) hw rfl rfl rfl (Nat.le_of_ble_eq_true rfl) (w_len w hw ▸ k_J0_length hI v u w hw) ?_
  refine J_aload_n dX6_spells_4 rfl 0 rfl ?_
  refine J_gete (ci := 6) (j := 10) (x := nI b) dX6_spells_5 fl_X6_66 (i600 hI) rfl rfl hb ?_
  refine J_aload_n dX6_spells_8 rfl 0 rfl ?_
  refine J_gete (ci := 6) (j := 9) (x := nI a) dX6_spells_9 fl_X6_72 (i600 hI) rfl rfl ha ?_
  refine J_isub dX6_spells_12 ?_
  refine J_icmp_eq (tgt := 18) dX6_spells_13 (by decide) (fun c1 => ?_) (fun c1 => ?_)
  · refine J_iconst (x := 0) dX6_spells_18 (by decide) ?_
    refine J_istore_n (lv' := [(2, .int 0), (0, .ref 600), (1, .ref (3100 + w))]) dX6_spells_19 rfl (by decide) rfl ?_
    refine J_lv [1, 2, 0] rfl ?_
    have hlen : wlen w = b - a := (nI_eq (by have := w_7 w hw; omega) (by omega)).mp (c1.trans (pk_sub hab))
    exact sp6_L hI v u a b w ha hb hab hb5 hw (w_7 w hw) hlen (wlen w + 1) 0 (by omega) (by omega) (fun q hq => absurd hq (Nat.not_lt_zero q))
  · refine J_iconst (x := 0) dX6_spells_16 (by decide) ?_
    exact J_zret dX6_spells_17 rfl (by decide) ⟨_, rfl, rfl, rfl, (cI_neg (fun q => c1 (by rw [pk_sub hab, q.1]))).symm⟩
