theorem tw_L {l : Launch} {I : List Nat} (hI : fr_I I) (v : fr_V) (u : fr_U) (E : Nat) (hE : E ≤ 500) (hE0 : v 600 2 = nI E) {Q : Option Value → fr_V → fr_U → Prop} : ∀ (d p : Nat) (hk : J l mX6_takeWord I (up2 v 600 10 (nI (sc (isLt (v 601)) E d))) u 44 [(0, .ref 600)] [] Q) (hp : d + p = E), J l mX6_takeWord I (up2 v 600 10 (nI p)) u 5 [(0, .ref 600)] [] Q := by
  intro d
  induction d with
  | zero =>
    intro p hk hp
    have e : E = p := by omega
    subst e
    refine J_aload_n dX6_takeWord_5 rfl 0 rfl ?_
    refine J_gete (ci := 6) (j := 10) (x := nI E) dX6_takeWord_6 fl_X6_66 (i600 hI) rfl rfl rfl ?_
    refine J_aload_n dX6_takeWord_9 rfl 0 rfl ?_
    refine J_gete (ci := 6) (j := 2) (x := nI E) dX6_takeWord_10 fl_X6_28 (i600 hI) rfl rfl hE0 ?_
    refine J_icmp_ge (tgt := 44) dX6_takeWord_13 (by decide) (fun c1 => ?_) (fun c1 => absurd (nI_le (Nat.le_refl _) (by omega)) c1)
    refine J_lv [0] rfl ?_
    exact hk
  | succ d ih =>
    intro p hk hp
    have hpd : p = E - (d + 1) := by omega
    refine J_aload_n dX6_takeWord_5 rfl 0 rfl ?_
    refine J_gete (ci := 6) (j := 10) (x := nI p) dX6_takeWord_6 fl_X6_66 (i600 hI) rfl rfl rfl ?_
    refine J_aload_n dX6_takeWord_9 rfl 0 rfl ?_
    refine J_gete (ci := 6) (j := 2) (x := nI E) dX6_takeWord_10 fl_X6_28 (i600 hI) rfl rfl hE0 ?_
    refine J_icmp_ge (tgt := 44) dX6_takeWord_13 (by decide) (fun c1 => absurd c1 (nI_ge (a := p) (b := E) (by omega) (by omega))) (fun c1 => ?_)
    refine J_aload_n dX6_takeWord_16 rfl 0 rfl ?_
    refine J_getr (ci := 6) (j := 0) (t := 601) dX6_takeWord_17 fl_X6_9 (i600 hI) rfl rfl rfl ?_
    refine J_aload_n dX6_takeWord_20 rfl 0 rfl ?_
    refine J_gete (ci := 6) (j := 10) (x := nI p) dX6_takeWord_21 fl_X6_66 (i600 hI) rfl rfl rfl ?_
    refine J_iale (x := v 601 p) dX6_takeWord_24 (i601 hI) rfl (ix_in (j := p) rfl (by omega) (by omega)) ((congrArg _ (ix_cl (j := p) rfl (by omega))).trans rfl) ?_
    refine J_eSI (z := mX6_isLetter) (As := [.int (v 601 p)]) (rest := []) (x := f_X6_isLetter (up2 v 600 10 (nI p)) (v 601 p)) dX6_takeWord_25 ml_X6_88 ok_X6_isLetter iv_X6_isLetter (by decide) rfl rfl (Nat.le_of_ble_eq_true rfl) (k_X6_isLetter hI (up2 v 600 10 (nI p)) u (v 601 p)) ?_
    refine J_if_eq (tgt := 44) dX6_takeWord_28 (by decide) (fun c2 => ?_) (fun c2 => ?_)
    · refine J_lv [0] rfl ?_
      have hl : ¬ isLt (v 601) p := lt6.mp c2
      rw [sc_n (by rw [← hpd]; exact hl), ← hpd] at hk
      exact hk
    · refine J_aload_n dX6_takeWord_31 rfl 0 rfl ?_
      refine J_dup dX6_takeWord_32 rfl ?_
      refine J_gete (ci := 6) (j := 10) (x := nI p) dX6_takeWord_33 fl_X6_66 (i600 hI) rfl rfl rfl ?_
      refine J_iconst (x := 1) dX6_takeWord_36 (by decide) ?_
      refine J_iadd dX6_takeWord_37 ?_
      refine J_puti (ci := 6) (j := 10) dX6_takeWord_38 fl_X6_66 (i600 hI) rfl rfl (fun q h => by cases h; rfl) rfl ?_
      refine J_goto (tgt := 5) dX6_takeWord_41 (by decide) ?_
      refine J_lv [0] rfl ?_
      rw [up2_up2, nI_1]
      have hl : isLt (v 601) p := Classical.byContradiction (fun q => c2 (lt6.mpr q))
      rw [sc_p (by rw [← hpd]; exact hl)] at hk
      exact ih (p + 1) hk (by omega)
noncomputable def kwF (W : Nat → Int32) (a b : Nat) (x0 : Int32) : Nat → Int32
  | 0 => x0
  | j + 1 => @ite Int32 (wm W a b j) (Classical.propDecidable _) (nI (3000 + j)) (kwF W a b x0 j)
theorem kwF_p {W : Nat → Int32} {a b j : Nat} {x0 : Int32} (h : wm W a b j) : kwF W a b x0 (j + 1) = nI (3000 + j) := if_pos h
theorem kwF_n {W : Nat → Int32} {a b j : Nat} {x0 : Int32} (h : ¬ wm W a b j) : kwF W a b x0 (j + 1) = kwF W a b x0 j := if_neg h
theorem kw_L {l : Launch} {I : List Nat} (hI : fr_I I) (v : fr_V) (u : fr_U) (a b : Nat) (ha : v 600 9 = nI a) (hb : v 600 10 = nI b) (hab : a ≤ b) (hb5 : b ≤ 500) (x0 : Int32) : ∀ (d j : Nat) (x : Int32) (hd : 15 - j < d) (hj : j ≤ 15) (hx : x = kwF (v 601) a b x0 j), J l mX6_takeWord I (up2 v 600 13 x) u 53 [(0, .ref 600), (1, .ref 3201), (2, .int 15), (3, .int (nI j))] [] (QN u (fun z => z = up2 v 600 13 (kwF (v 601) a b x0 15))) := by
  intro d
  induction d with
  | zero => intros; omega
  | succ d ih =>
    intro j x hd hj hx
    refine J_iload_n dX6_takeWord_53 rfl 3 rfl ?_
    refine J_iload_n dX6_takeWord_54 rfl 2 rfl ?_
    refine J_icmp_ge (tgt := 87) dX6_takeWord_55 (by decide) (fun c1 => ?_) (fun c1 => ?_)
    · exact J_vret dX6_takeWord_87 rfl ⟨rfl, rfl, by have e : j = 15 := by {have := nz_le (a := 15) (by omega) (by omega) c1; omega}; rw [hx, e]⟩
    · have hj15 : j < 15 := nz_nle (a := 15) (by omega) (by omega) c1
      refine J_aload_n dX6_takeWord_58 rfl 1 rfl ?_
      refine J_iload_n dX6_takeWord_59 rfl 3 rfl ?_
      refine J_wald (j := j) dX6_takeWord_60 (by omega) ?_
      refine J_astore (lv' := [(4, .ref (3000 + j)), (0, .ref 600), (1, .ref 3201), (2, .int 15), (3, .int (nI j))]) dX6_takeWord_61 (by decide) rfl ?_
      refine J_aload_n dX6_takeWord_63 rfl 1 rfl ?_
      refine J_aload dX6_takeWord_64 0 rfl ?_
      refine J_wtext (w := j) dX6_takeWord_66 el_X6_108 (by omega) ?_
      refine J_eVI (z := mX6_spells) (As := [.ref (3100 + j)]) (rest := []) (ci := 6) (x := cI (wm (v 601) a b j)) dX6_takeWord_69 ml_X6_111 ok_X6_spells iv_X6_spells (by decide) (i600 hI) rfl rfl rfl rfl (Nat.le_of_ble_eq_true rfl) (k_X6_spells hI (up2 v 600 13 x) u a b j ha hb hab hb5 (by omega)) ?_
      refine J_if_eq (tgt := 81) dX6_takeWord_72 (by decide) (fun c2 => ?_) (fun c2 => ?_)
      · refine J_iinc (q := 4) (z := nI (j + 1)) (lv' := [(3, .int (nI (j + 1))), (4, .ref (3000 + j)), (0, .ref 600), (1, .ref 3201), (2, .int 15)]) dX6_takeWord_81 rfl (nI_1 j) (by decide) rfl ?_
        refine J_goto (tgt := 53) dX6_takeWord_84 (by decide) ?_
        refine J_lv [2, 3, 4, 0] rfl ?_
        have hm : ¬ wm (v 601) a b j := fun q => absurd ((cI_pos q).symm.trans c2) (by decide)
        exact ih (j + 1) _ (by omega) (by omega) (by rw [kwF_n hm]; exact hx)
      · refine J_aload_n dX6_takeWord_75 rfl 1 rfl ?_
        refine J_aload dX6_takeWord_76 0 rfl ?_
        refine J_putd (ci := 6) (j := 13) (t := 3000 + j) dX6_takeWord_78 fl_X6_82 (i600 hI) rfl rfl (by omega) (fun q h => by cases h; rfl) (fun a => rfl) (fun a => rfl) ?_
        refine J_iinc (q := 4) (z := nI (j + 1)) (lv' := [(3, .int (nI (j + 1))), (4, .ref (3000 + j)), (0, .ref 600), (1, .ref 3201), (2, .int 15)]) dX6_takeWord_81 rfl (nI_1 j) (by decide) rfl ?_
        refine J_goto (tgt := 53) dX6_takeWord_84 (by decide) ?_
        refine J_lv [2, 3, 4, 0] rfl ?_
        have hm : wm (v 601) a b j := Classical.byContradiction (fun q => c2 (cI_neg q))
        rw [up2_up2]
        exact ih (j + 1) _ (by omega) (by omega) (by rw [kwF_p hm])
noncomputable def f_tw (v : fr_V) (E a p : Nat) : fr_V := up2 (up2 (up2 v 600 11 0) 600 10 (nI (sc (isLt (v 601)) E (E - p)))) 600 13 (kwF (v 601) a (sc (isLt (v 601)) E (E - p)) (v 600 13) 15)
theorem k_X6_takeWord {l : Launch} {I : List Nat} (hI : fr_I I) (v : fr_V) (u : fr_U) (E : Nat) (hE : E ≤ 500) (hE0 : v 600 2 = nI E) (a p : Nat) (ha : v 600 9 = nI a) (hp : v 600 10 = nI p) (hap : a < p) (hpE : p ≤ E) : Con l mX6_takeWord I v u [.ref 600] (QN u (fun z => z = f_tw v E a p)) := by
  refine Con.of (by decide) (Nat.le_of_ble_eq_true rfl) ?_
  show J l mX6_takeWord I v u 0 [(0, .ref 600)] [] _
  refine J_aload_n dX6_takeWord_0 rfl 0 rfl ?_
  refine J_iconst (x := 0) dX6_takeWord_1 (by decide) ?_
  refine J_puti (ci := 6) (j := 11) dX6_takeWord_2 fl_X6_101 (i600 hI) rfl rfl (fun q h => by cases h; rfl) rfl ?_
  refine J_lv [0] rfl ?_
  have hse := sc_le (isLt (v 601)) E (E - p) (by omega)
  refine J_ve (w := up2 (up2 v 600 11 0) 600 10 (nI p)) (up2_id (show up2 v 600 11 0 600 10 = nI p from hp)).symm ?_
  refine tw_L hI (up2 v 600 11 0) u E hE hE0 (E - p) p ?_ (by omega)
  refine J_getsN (x := .ref 3201) dX6_takeWord_44 (fun U h => h.2.2.2.2.2.1) x_words ?_
  refine J_astore_n (lv' := [(1, .ref 3201), (0, .ref 600)]) dX6_takeWord_47 rfl (by decide) rfl ?_
  refine J_aload_n dX6_takeWord_48 rfl 0 rfl ?_
  refine J_wlen dX6_takeWord_49 ?_
  refine J_istore_n (lv' := [(2, .int 15), (1, .ref 3201), (0, .ref 600)]) dX6_takeWord_50 rfl (by decide) rfl ?_
  refine J_iconst (x := 0) dX6_takeWord_51 (by decide) ?_
  refine J_istore_n (lv' := [(3, .int 0), (2, .int 15), (1, .ref 3201), (0, .ref 600)]) dX6_takeWord_52 rfl (by decide) rfl ?_
  refine J_lv [3, 2, 1, 0] rfl ?_
  refine J_ve (w := up2 (up2 (up2 v 600 11 0) 600 10 (nI (sc (isLt (v 601)) E (E - p)))) 600 13 (v 600 13)) (up2_id rfl).symm ?_
  exact kw_L hI (up2 (up2 v 600 11 0) 600 10 (nI (sc (isLt (v 601)) E (E - p)))) u a (sc (isLt (v 601)) E (E - p)) ha rfl (by omega) (by omega) (v 600 13) 16 0 _ (by omega) (by omega) rfl
noncomputable def dg6 (W : Nat → Int32) (E : Nat) : Nat → Int32 → Int32
  | 0, w => w
  | d + 1, w => @ite Int32 (isDg W (E - (d + 1))) (Classical.propDecidable _) (dg6 W E d (if w * 10 + W (E - (d + 1)) - 48 < 100000 then w * 10 + W (E - (d + 1)) - 48 else 100000)) w
theorem dg6_p {W : Nat → Int32} {E d : Nat} {w : Int32} (h : isDg W (E - (d + 1))) : dg6 W E (d + 1) w = dg6 W E d (if w * 10 + W (E - (d + 1)) - 48 < 100000 then w * 10 + W (E - (d + 1)) - 48 else 100000) := if_pos h
theorem dg6_n {W : Nat → Int32} {E d : Nat} {w : Int32} (h : ¬ isDg W (E - (d + 1))) : dg6 W E (d + 1) w = w := if_neg h
theorem tn6_L {l : Launch} {I : List Nat} (hI : fr_I I) (v : fr_V) (u : fr_U) (E : Nat) (hE : E ≤ 500) (hE0 : v 600 2 = nI E) : ∀ (d p : Nat) (w : Int32) (hp : d + p = E), J l mX6_takeNumber I (up2 (up2 v 600 12 w) 600 10 (nI p)) u 21 [(0, .ref 600)] [] (QN u (fun z => z = up2 (up2 v 600 12 (dg6 (v 601) E d w)) 600 10 (nI (sc (isDg (v 601)) E d)))) := by
  intro d
  induction d with
  | zero =>
    intro p w hp
    have e : E = p := by omega
    subst e
    refine J_aload_n dX6_takeNumber_21 rfl 0 rfl ?_
    refine J_gete (ci := 6) (j := 10) (x := nI E) dX6_takeNumber_22 fl_X6_66 (i600 hI) rfl rfl rfl ?_
    refine J_aload_n dX6_takeNumber_25 rfl 0 rfl ?_
    refine J_gete (ci := 6) (j := 2) (x := nI E) dX6_takeNumber_26 fl_X6_28 (i600 hI) rfl rfl hE0 ?_
    refine J_icmp_ge (tgt := 89) dX6_takeNumber_29 (by decide) (fun c1 => ?_) (fun c1 => absurd (nI_le (Nat.le_refl _) (by omega)) c1)
    exact J_vret dX6_takeNumber_89 rfl ⟨rfl, rfl, rfl⟩
  | succ d ih =>
    intro p w hp
    have hpd : p = E - (d + 1) := by omega
    refine J_aload_n dX6_takeNumber_21 rfl 0 rfl ?_
    refine J_gete (ci := 6) (j := 10) (x := nI p) dX6_takeNumber_22 fl_X6_66 (i600 hI) rfl rfl rfl ?_
    refine J_aload_n dX6_takeNumber_25 rfl 0 rfl ?_
    refine J_gete (ci := 6) (j := 2) (x := nI E) dX6_takeNumber_26 fl_X6_28 (i600 hI) rfl rfl hE0 ?_
    refine J_icmp_ge (tgt := 89) dX6_takeNumber_29 (by decide) (fun c1 => absurd c1 (nI_ge (a := p) (b := E) (by omega) (by omega))) (fun c1 => ?_)
    refine J_aload_n dX6_takeNumber_32 rfl 0 rfl ?_
    refine J_getr (ci := 6) (j := 0) (t := 601) dX6_takeNumber_33 fl_X6_9 (i600 hI) rfl rfl rfl ?_
    refine J_aload_n dX6_takeNumber_36 rfl 0 rfl ?_
    refine J_gete (ci := 6) (j := 10) (x := nI p) dX6_takeNumber_37 fl_X6_66 (i600 hI) rfl rfl rfl ?_
    refine J_iale (x := v 601 p) dX6_takeNumber_40 (i601 hI) rfl (ix_in (j := p) rfl (by omega) (by omega)) ((congrArg _ (ix_cl (j := p) rfl (by omega))).trans rfl) ?_
    refine J_eSI (z := mX6_isDigit) (As := [.int (v 601 p)]) (rest := []) (x := f_X6_isDigit (up2 (up2 v 600 12 w) 600 10 (nI p)) (v 601 p)) dX6_takeNumber_41 ml_X6_95 ok_X6_isDigit iv_X6_isDigit (by decide) rfl rfl (Nat.le_of_ble_eq_true rfl) (k_X6_isDigit hI (up2 (up2 v 600 12 w) 600 10 (nI p)) u (v 601 p)) ?_
    refine J_if_eq (tgt := 89) dX6_takeNumber_44 (by decide) (fun c2 => ?_) (fun c2 => ?_)
    · exact J_vret dX6_takeNumber_89 rfl ⟨rfl, rfl, by rw [sc_n (by rw [← hpd]; exact dg6i.mp c2), dg6_n (by rw [← hpd]; exact dg6i.mp c2), ← hpd]⟩
    · refine J_aload_n dX6_takeNumber_47 rfl 0 rfl ?_
      refine J_ldc (x := 100000) dX6_takeNumber_48 cn_X6_123 ?_
      refine J_aload_n dX6_takeNumber_50 rfl 0 rfl ?_
      refine J_gete (ci := 6) (j := 12) (x := w) dX6_takeNumber_51 fl_X6_85 (i600 hI) rfl rfl rfl ?_
      refine J_bipush (x := 10) dX6_takeNumber_54 (by decide) ?_
      refine J_imul dX6_takeNumber_56 ?_
      refine J_aload_n dX6_takeNumber_57 rfl 0 rfl ?_
      refine J_getr (ci := 6) (j := 0) (t := 601) dX6_takeNumber_58 fl_X6_9 (i600 hI) rfl rfl rfl ?_
      refine J_aload_n dX6_takeNumber_61 rfl 0 rfl ?_
      refine J_gete (ci := 6) (j := 10) (x := nI p) dX6_takeNumber_62 fl_X6_66 (i600 hI) rfl rfl rfl ?_
      refine J_iale (x := v 601 p) dX6_takeNumber_65 (i601 hI) rfl (ix_in (j := p) rfl (by omega) (by omega)) ((congrArg _ (ix_cl (j := p) rfl (by omega))).trans rfl) ?_
      refine J_iadd dX6_takeNumber_66 ?_
      refine J_bipush (x := 48) dX6_takeNumber_67 (by decide) ?_
      refine J_isub dX6_takeNumber_69 ?_
      refine J_mmin dX6_takeNumber_70 ml_X6_22 (by decide) (Nat.le_of_ble_eq_true rfl) ?_
      refine J_puti (ci := 6) (j := 12) dX6_takeNumber_73 fl_X6_85 (i600 hI) rfl rfl (fun q h => by cases h; rfl) rfl ?_
      refine J_aload_n dX6_takeNumber_76 rfl 0 rfl ?_
      refine J_dup dX6_takeNumber_77 rfl ?_
      refine J_gete (ci := 6) (j := 10) (x := nI p) dX6_takeNumber_78 fl_X6_66 (i600 hI) rfl rfl rfl ?_
      refine J_iconst (x := 1) dX6_takeNumber_81 (by decide) ?_
      refine J_iadd dX6_takeNumber_82 ?_
      refine J_puti (ci := 6) (j := 10) dX6_takeNumber_83 fl_X6_66 (i600 hI) rfl rfl (fun q h => by cases h; rfl) rfl ?_
      refine J_goto (tgt := 21) dX6_takeNumber_86 (by decide) ?_
      refine J_lv [0] rfl ?_
      rw [up2_c v 600 (by decide), nI_1]
      have hl : isDg (v 601) p := Classical.byContradiction (fun q => c2 (dg6i.mpr q))
      rw [sc_p (by rw [← hpd]; exact hl), dg6_p (by rw [← hpd]; exact hl), ← hpd]
      exact ih (p + 1) _ (by omega)
noncomputable def f_tn (v : fr_V) (E a p : Nat) : fr_V := up2 (up2 (up2 v 600 11 1) 600 12 (dg6 (v 601) E (E - p) (v 601 a - 48))) 600 10 (nI (sc (isDg (v 601)) E (E - p)))
theorem k_X6_takeNumber {l : Launch} {I : List Nat} (hI : fr_I I) (v : fr_V) (u : fr_U) (E : Nat) (hE : E ≤ 500) (hE0 : v 600 2 = nI E) (a p : Nat) (ha : v 600 9 = nI a) (hp : v 600 10 = nI p) (hap : a < p) (hpE : p ≤ E) : Con l mX6_takeNumber I v u [.ref 600] (QN u (fun z => z = f_tn v E a p)) := by
  refine Con.of (by decide) (Nat.le_of_ble_eq_true rfl) ?_
  show J l mX6_takeNumber I v u 0 [(0, .ref 600)] [] _
  refine J_aload_n dX6_takeNumber_0 rfl 0 rfl ?_
  refine J_iconst (x := 1) dX6_takeNumber_1 (by decide) ?_
  refine J_puti (ci := 6) (j := 11) dX6_takeNumber_2 fl_X6_101 (i600 hI) rfl rfl (fun q h => by cases h; rfl) rfl ?_
  refine J_aload_n dX6_takeNumber_5 rfl 0 rfl ?_
  refine J_aload_n dX6_takeNumber_6 rfl 0 rfl ?_
  refine J_getr (ci := 6) (j := 0) (t := 601) dX6_takeNumber_7 fl_X6_9 (i600 hI) rfl rfl rfl ?_
  refine J_aload_n dX6_takeNumber_10 rfl 0 rfl ?_
  refine J_gete (ci := 6) (j := 9) (x := nI a) dX6_takeNumber_11 fl_X6_72 (i600 hI) rfl rfl ha ?_
  refine J_iale (x := v 601 a) dX6_takeNumber_14 (i601 hI) rfl (ix_in (j := a) rfl (by omega) (by omega)) ((congrArg _ (ix_cl (j := a) rfl (by omega))).trans rfl) ?_
  refine J_bipush (x := 48) dX6_takeNumber_15 (by decide) ?_
  refine J_isub dX6_takeNumber_17 ?_
  refine J_puti (ci := 6) (j := 12) dX6_takeNumber_18 fl_X6_85 (i600 hI) rfl rfl (fun q h => by cases h; rfl) rfl ?_
  refine J_lv [0] rfl ?_
  refine J_ve (w := up2 (up2 (up2 v 600 11 1) 600 12 (v 601 a - 48)) 600 10 (nI p)) (up2_id (show up2 (up2 v 600 11 1) 600 12 (v 601 a - 48) 600 10 = nI p from hp)).symm ?_
  exact tn6_L hI (up2 v 600 11 1) u E hE hE0 (E - p) p _ (by omega)
noncomputable def f_tt (v : fr_V) (E q : Nat) : fr_V :=
  @ite fr_V (isLt (v 601) q) (Classical.propDecidable _) (f_tw (up2 (up2 (up2 v 600 10 (nI (q + 1))) 600 13 (-1)) 600 12 0) E q (q + 1))
  (@ite fr_V (isDg (v 601) q) (Classical.propDecidable _) (f_tn (up2 (up2 (up2 v 600 10 (nI (q + 1))) 600 13 (-1)) 600 12 0) E q (q + 1))
  (up2 (up2 (up2 (up2 v 600 10 (nI (q + 1))) 600 13 (-1)) 600 12 0) 600 11 (if v 601 q = 59 then 2 else 3)))
theorem k_X6_takeToken {l : Launch} {I : List Nat} (hI : fr_I I) (v : fr_V) (u : fr_U) (E : Nat) (hE : E ≤ 500) (hE0 : v 600 2 = nI E) (q : Nat) (ha : v 600 9 = nI q) (hqE : q < E) : Con l mX6_takeToken I v u [.ref 600] (QN u (fun z => z = f_tt v E q)) := by
  refine Con.of (by decide) (Nat.le_of_ble_eq_true rfl) ?_
  show J l mX6_takeToken I v u 0 [(0, .ref 600)] [] _
  refine J_aload_n dX6_takeToken_0 rfl 0 rfl ?_
  refine J_aload_n dX6_takeToken_1 rfl 0 rfl ?_
  refine J_gete (ci := 6) (j := 9) (x := nI q) dX6_takeToken_2 fl_X6_72 (i600 hI) rfl rfl ha ?_
  refine J_iconst (x := 1) dX6_takeToken_5 (by decide) ?_
  refine J_iadd dX6_takeToken_6 ?_
  refine J_puti (ci := 6) (j := 10) dX6_takeToken_7 fl_X6_66 (i600 hI) rfl rfl (fun q h => by cases h; rfl) rfl ?_
  rw [nI_1]
  refine J_aload_n dX6_takeToken_10 rfl 0 rfl ?_
  refine J_null dX6_takeToken_11 ?_
  refine J_putdN (ci := 6) (j := 13) dX6_takeToken_12 fl_X6_82 (i600 hI) rfl rfl (fun q h => by cases h; rfl) rfl rfl ?_
  refine J_aload_n dX6_takeToken_15 rfl 0 rfl ?_
  refine J_iconst (x := 0) dX6_takeToken_16 (by decide) ?_
  refine J_puti (ci := 6) (j := 12) dX6_takeToken_17 fl_X6_85 (i600 hI) rfl rfl (fun q h => by cases h; rfl) rfl ?_
  refine J_aload_n dX6_takeToken_20 rfl 0 rfl ?_
  refine J_getr (ci := 6) (j := 0) (t := 601) dX6_takeToken_21 fl_X6_9 (i600 hI) rfl rfl rfl ?_
  refine J_aload_n dX6_takeToken_24 rfl 0 rfl ?_
  refine J_gete (ci := 6) (j := 9) (x := nI q) dX6_takeToken_25 fl_X6_72 (i600 hI) rfl rfl ha ?_
  refine J_iale (x := v 601 q) dX6_takeToken_28 (i601 hI) rfl (ix_in (j := q) rfl (by omega) (by omega)) ((congrArg _ (ix_cl (j := q) rfl (by omega))).trans rfl) ?_
  refine J_eSI (z := mX6_isLetter) (As := [.int (v 601 q)]) (rest := []) (x := f_X6_isLetter (up2 (up2 (up2 v 600 10 (nI (q + 1))) 600 13 (-1)) 600 12 0) (v 601 q)) dX6_takeToken_29 ml_X6_88 ok_X6_isLetter iv_X6_isLetter (by decide) rfl rfl (Nat.le_of_ble_eq_true rfl) (k_X6_isLetter hI (up2 (up2 (up2 v 600 10 (nI (q + 1))) 600 13 (-1)) 600 12 0) u (v 601 q)) ?_
  refine J_if_eq (tgt := 42) dX6_takeToken_32 (by decide) (fun c1 => ?_) (fun c1 => ?_)
  · refine J_aload_n dX6_takeToken_42 rfl 0 rfl ?_
    refine J_getr (ci := 6) (j := 0) (t := 601) dX6_takeToken_43 fl_X6_9 (i600 hI) rfl rfl rfl ?_
    refine J_aload_n dX6_takeToken_46 rfl 0 rfl ?_
    refine J_gete (ci := 6) (j := 9) (x := nI q) dX6_takeToken_47 fl_X6_72 (i600 hI) rfl rfl ha ?_
    refine J_iale (x := v 601 q) dX6_takeToken_50 (i601 hI) rfl (ix_in (j := q) rfl (by omega) (by omega)) ((congrArg _ (ix_cl (j := q) rfl (by omega))).trans rfl) ?_
    refine J_eSI (z := mX6_isDigit) (As := [.int (v 601 q)]) (rest := []) (x := f_X6_isDigit (up2 (up2 (up2 v 600 10 (nI (q + 1))) 600 13 (-1)) 600 12 0) (v 601 q)) dX6_takeToken_51 ml_X6_95 ok_X6_isDigit iv_X6_isDigit (by decide) rfl rfl (Nat.le_of_ble_eq_true rfl) (k_X6_isDigit hI (up2 (up2 (up2 v 600 10 (nI (q + 1))) 600 13 (-1)) 600 12 0) u (v 601 q)) ?_
    refine J_if_eq (tgt := 64) dX6_takeToken_54 (by decide) (fun c2 => ?_) (fun c2 => ?_)
    · refine J_aload_n dX6_takeToken_64 rfl 0 rfl ?_
      refine J_aload_n dX6_takeToken_65 rfl 0 rfl ?_
      refine J_getr (ci := 6) (j := 0) (t := 601) dX6_takeToken_66 fl_X6_9 (i600 hI) rfl rfl rfl ?_
      refine J_aload_n dX6_takeToken_69 rfl 0 rfl ?_
      refine J_gete (ci := 6) (j := 9) (x := nI q) dX6_takeToken_70 fl_X6_72 (i600 hI) rfl rfl ha ?_
      refine J_iale (x := v 601 q) dX6_takeToken_73 (i601 hI) rfl (ix_in (j := q) rfl (by omega) (by omega)) ((congrArg _ (ix_cl (j := q) rfl (by omega))).trans rfl) ?_
      refine J_bipush (x := 59) dX6_takeToken_74 (by decide) ?_
      refine J_icmp_ne (tgt := 83) dX6_takeToken_76 (by decide) (fun c3 => ?_) (fun c3 => ?_)
      · refine J_iconst (x := 3) dX6_takeToken_83 (by decide) ?_
        refine J_puti (ci := 6) (j := 11) dX6_takeToken_84 fl_X6_101 (i600 hI) rfl rfl (fun q h => by cases h; rfl) rfl ?_
        exact J_vret dX6_takeToken_87 rfl ⟨rfl, rfl, by unfold f_tt; rw [if_neg (lt6.mp c1), if_neg (dg6i.mp c2), if_neg c3]⟩
      · refine J_iconst (x := 2) dX6_takeToken_79 (by decide) ?_
        refine J_goto (tgt := 84) dX6_takeToken_80 (by decide) ?_
        refine J_puti (ci := 6) (j := 11) dX6_takeToken_84 fl_X6_101 (i600 hI) rfl rfl (fun q h => by cases h; rfl) rfl ?_
        exact J_vret dX6_takeToken_87 rfl ⟨rfl, rfl, by unfold f_tt; rw [if_neg (lt6.mp c1), if_neg (dg6i.mp c2), if_pos c3]⟩
    · refine J_aload_n dX6_takeToken_57 rfl 0 rfl ?_
      refine J_eVN (z := mX6_takeNumber) (As := []) (rest := []) (ci := 6) (w := f_tn (up2 (up2 (up2 v 600 10 (nI (q + 1))) 600 13 (-1)) 600 12 0) E q (q + 1)) dX6_takeToken_58 ml_X6_98 ok_X6_takeNumber iv_X6_takeNumber (by decide) (i600 hI) rfl rfl rfl rfl (Nat.le_of_ble_eq_true rfl) (k_X6_takeNumber hI (up2 (up2 (up2 v 600 10 (nI (q + 1))) 600 13 (-1)) 600 12 0) u E hE hE0 q (q + 1) ha rfl (by omega) (by omega)) ?_
      refine J_goto (tgt := 87) dX6_takeToken_61 (by decide) ?_
      exact J_vret dX6_takeToken_87 rfl ⟨rfl, rfl, by unfold f_tt; rw [if_neg (lt6.mp c1), if_pos (Classical.byContradiction (fun h => c2 (dg6i.mpr h)))]⟩
  · refine J_aload_n dX6_takeToken_35 rfl 0 rfl ?_
    refine J_eVN (z := mX6_takeWord) (As := []) (rest := []) (ci := 6) (w := f_tw (up2 (up2 (up2 v 600 10 (nI (q + 1))) 600 13 (-1)) 600 12 0) E q (q + 1)) dX6_takeToken_36 ml_X6_92 ok_X6_takeWord iv_X6_takeWord (by decide) (i600 hI) rfl rfl rfl rfl (Nat.le_of_ble_eq_true rfl) (k_X6_takeWord hI (up2 (up2 (up2 v 600 10 (nI (q + 1))) 600 13 (-1)) 600 12 0) u E hE hE0 q (q + 1) ha rfl (by omega) (by omega)) ?_
    refine J_goto (tgt := 87) dX6_takeToken_39 (by decide) ?_
    exact J_vret dX6_takeToken_87 rfl ⟨rfl, rfl, by unfold f_tt; rw [if_pos (Classical.byContradiction (fun h => c1 (lt6.mpr h)))]⟩
