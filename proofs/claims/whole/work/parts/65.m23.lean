theorem span_adv {E : Nat} {v : fr_V} {x1 : Int32} (h : rdOK E v) (k : ¬ (f_span E v x1).1 = 0) : adv v (f_span E v x1).2 := by
  unfold f_span at k ⊢
  by_cases g0 : ((f_X11_isNumber v 0 x1).1) = 0
  · rw [if_pos g0] at k ⊢
    exact absurd rfl k
  · rw [if_neg g0] at k ⊢
    by_cases g1 : (f_X11_isWord (f_tok E (up2 v 1100 42 (v 1100 28))) 13) = 0
    · rw [if_pos g1] at k ⊢
      exact absurd rfl k
    · rw [if_neg g1] at k ⊢
      by_cases g2 : ((f_X11_isNumber (f_tok E (f_tok E (up2 v 1100 42 (v 1100 28)))) ((f_tok E (f_tok E (up2 v 1100 42 (v 1100 28)))) 1100 42) x1).1) = 0
      · rw [if_pos g2] at k ⊢
        exact absurd rfl k
      · rw [if_neg g2] at k ⊢
        dsimp only
        exact adv.tr (Nat.le_trans (Nat.le_trans (Nat.le_trans (Nat.le_trans (Nat.le_refl _) (Nat.le_of_eq (nx_up (k := 1100) (j := 42) (x := v 1100 28) (by omega)).symm)) (tok_adv ((h).up (k := 1100) (j := 42) (x := v 1100 28) (by omega) (by omega))).1) (tok_adv (f_tok_ok ((h).up (k := 1100) (j := 42) (x := v 1100 28) (by omega) (by omega)))).1) (Nat.le_of_eq (nx_up (k := 1100) (j := 43) (x := (f_tok E (f_tok E (up2 v 1100 42 (v 1100 28)))) 1100 28) (by omega)).symm)) (tok_adv ((f_tok_ok (f_tok_ok ((h).up (k := 1100) (j := 42) (x := v 1100 28) (by omega) (by omega)))).up (k := 1100) (j := 43) (x := (f_tok E (f_tok E (up2 v 1100 42 (v 1100 28)))) 1100 28) (by omega) (by omega)))
theorem isWord_k {v : fr_V} {x : Int32} (h : ¬ f_X11_isWord v x = 0) : ¬ kd v = 0 := by
  unfold f_X11_isWord at h
  unfold kd
  intro e
  rw [e] at h
  exact h rfl
noncomputable def f_cr (E q : Nat) : Nat → fr_V → Int32 × fr_V
  | 0, v => (0, v)
  | d + 1, v => if ((f_X11_isNumber v 0 3).1) = 0 then (0, (f_X11_isNumber v 0 3).2) else if (((v 1135 q) >>> ((v 1100 28) &&& 31)) &&& 1) = 1 then (0, (f_X11_wrong v 3).2) else if (f_X11_isWord (f_tok E (up2 v 1135 q ((v 1135 q) ||| (1 <<< ((v 1100 28) &&& 31))))) 14) = 0 then (1, (f_tok E (up2 v 1135 q ((v 1135 q) ||| (1 <<< ((v 1100 28) &&& 31)))))) else f_cr E q d (f_tok E (f_tok E (up2 v 1135 q ((v 1135 q) ||| (1 <<< ((v 1100 28) &&& 31))))))
theorem f_cr_s (E q d : Nat) (v : fr_V) : f_cr E q (d + 1) v = (if ((f_X11_isNumber v 0 3).1) = 0 then (0, (f_X11_isNumber v 0 3).2) else if (((v 1135 q) >>> ((v 1100 28) &&& 31)) &&& 1) = 1 then (0, (f_X11_wrong v 3).2) else if (f_X11_isWord (f_tok E (up2 v 1135 q ((v 1135 q) ||| (1 <<< ((v 1100 28) &&& 31))))) 14) = 0 then (1, (f_tok E (up2 v 1135 q ((v 1135 q) ||| (1 <<< ((v 1100 28) &&& 31)))))) else f_cr E q d (f_tok E (f_tok E (up2 v 1135 q ((v 1135 q) ||| (1 <<< ((v 1100 28) &&& 31)))))) : Int32 × fr_V) := rfl
theorem crw_L {l : Launch} {I : List Nat} (hI : fr_I I) (u : fr_U) (E q : Nat) (hq : q < 48) : ∀ (d : Nat) (v : fr_V) (h : rdOK E v) (hd : E - nx v < d), J l mX11_classRow I v u 0 [(0, .ref 1100), (1, .int (nI q))] [] (QX u (fun a b => a = (f_cr E q d v).1 ∧ b = (f_cr E q d v).2)) := by
  intro d
  induction d with
  | zero => intro v h hd; omega
  | succ d ih =>
    intro v h hd
    refine J_aload_n dX11_classRow_0 rfl 0 rfl ?_
    refine J_iconst (x := 0) dX11_classRow_1 (by decide) ?_
    refine J_iconst (x := 3) dX11_classRow_2 (by decide) ?_
    refine J_eVX (z := mX11_isNumber) (As := [.int 0, .int 3]) (rest := []) (ci := 11) (x := (f_X11_isNumber v 0 3).1) (w := (f_X11_isNumber v 0 3).2) dX11_classRow_3 ml_X11_173 ok_X11_isNumber iv_X11_isNumber (by decide) (i1100 hI) rfl rfl rfl rfl (Nat.le_of_ble_eq_true rfl) (k_X11_isNumber hI v u 0 3) ?_
    refine J_if_ne (tgt := 11) dX11_classRow_6 (by decide) (fun c1 => ?_) (fun c1 => ?_)
    · refine J_ve (w := v) (isNum_1 c1).1 ?_
      refine J_aload_n dX11_classRow_11 rfl 0 rfl ?_
      refine J_getr (ci := 11) (j := 34) (t := 1135) dX11_classRow_12 fl_X11_74 (i1100 hI) rfl rfl rfl ?_
      refine J_iload_n dX11_classRow_15 rfl 1 rfl ?_
      refine J_iale (x := v 1135 q) dX11_classRow_16 (i1135 hI) rfl (ix_in (j := q) rfl (by omega) (by omega)) ((congrArg _ (ix_cl (j := q) rfl (by omega))).trans rfl) ?_
      refine J_aload_n dX11_classRow_17 rfl 0 rfl ?_
      refine J_gete (ci := 11) (j := 28) (x := v 1100 28) dX11_classRow_18 fl_X11_158 (i1100 hI) rfl rfl rfl ?_
      refine J_ishr dX11_classRow_21 ?_
      refine J_iconst (x := 1) dX11_classRow_22 (by decide) ?_
      refine J_iand dX11_classRow_23 ?_
      refine J_iconst (x := 1) dX11_classRow_24 (by decide) ?_
      refine J_icmp_ne (tgt := 34) dX11_classRow_25 (by decide) (fun c2 => ?_) (fun c2 => ?_)
      · refine J_aload_n dX11_classRow_34 rfl 0 rfl ?_
        refine J_getr (ci := 11) (j := 34) (t := 1135) dX11_classRow_35 fl_X11_74 (i1100 hI) rfl rfl rfl ?_
        refine J_iload_n dX11_classRow_38 rfl 1 rfl ?_
        refine J_dup2 dX11_classRow_39 rfl rfl ?_
        refine J_iale (x := v 1135 q) dX11_classRow_40 (i1135 hI) rfl (ix_in (j := q) rfl (by omega) (by omega)) ((congrArg _ (ix_cl (j := q) rfl (by omega))).trans rfl) ?_
        refine J_iconst (x := 1) dX11_classRow_41 (by decide) ?_
        refine J_aload_n dX11_classRow_42 rfl 0 rfl ?_
        refine J_gete (ci := 11) (j := 28) (x := v 1100 28) dX11_classRow_43 fl_X11_158 (i1100 hI) rfl rfl rfl ?_
        refine J_ishl dX11_classRow_46 ?_
        refine J_ior dX11_classRow_47 ?_
        refine J_iase (j := q) dX11_classRow_48 (i1135 hI) rfl (ix_in (j := q) rfl (by omega) (by omega)) (ix_cl (j := q) rfl (by omega)) ?_
        refine J_aload_n dX11_classRow_49 rfl 0 rfl ?_
        refine J_eVN (z := mX11_take) (As := []) (rest := []) (ci := 11) (w := (f_tok E (up2 v 1135 q ((v 1135 q) ||| (1 <<< ((v 1100 28) &&& 31)))))) dX11_classRow_50 ml_X11_180 ok_X11_take iv_X11_take (by decide) (i1100 hI) rfl rfl rfl rfl (Nat.le_of_ble_eq_true rfl) (k2_take hI (up2 v 1135 q ((v 1135 q) ||| (1 <<< ((v 1100 28) &&& 31)))) u E ((h).up (k := 1135) (j := q) (x := (v 1135 q) ||| (1 <<< ((v 1100 28) &&& 31))) (by omega) (by omega))) ?_
        refine J_aload_n dX11_classRow_53 rfl 0 rfl ?_
        refine J_bipush (x := 14) dX11_classRow_54 (by decide) ?_
        refine J_eVI (z := mX11_isWord) (As := [.int 14]) (rest := []) (ci := 11) (x := f_X11_isWord (f_tok E (up2 v 1135 q ((v 1135 q) ||| (1 <<< ((v 1100 28) &&& 31))))) 14) dX11_classRow_56 ml_X11_183 ok_X11_isWord iv_X11_isWord (by decide) (i1100 hI) rfl rfl rfl rfl (Nat.le_of_ble_eq_true rfl) (k_X11_isWord hI (f_tok E (up2 v 1135 q ((v 1135 q) ||| (1 <<< ((v 1100 28) &&& 31))))) u 14) ?_
        refine J_if_ne (tgt := 64) dX11_classRow_59 (by decide) (fun c3 => ?_) (fun c3 => ?_)
        · refine J_aload_n dX11_classRow_64 rfl 0 rfl ?_
          refine J_eVN (z := mX11_take) (As := []) (rest := []) (ci := 11) (w := (f_tok E (f_tok E (up2 v 1135 q ((v 1135 q) ||| (1 <<< ((v 1100 28) &&& 31))))))) dX11_classRow_65 ml_X11_180 ok_X11_take iv_X11_take (by decide) (i1100 hI) rfl rfl rfl rfl (Nat.le_of_ble_eq_true rfl) (k2_take hI (f_tok E (up2 v 1135 q ((v 1135 q) ||| (1 <<< ((v 1100 28) &&& 31))))) u E (f_tok_ok ((h).up (k := 1135) (j := q) (x := (v 1135 q) ||| (1 <<< ((v 1100 28) &&& 31))) (by omega) (by omega)))) ?_
          refine J_goto (tgt := 0) dX11_classRow_68 (by decide) ?_
          refine J_lv [0, 1] rfl ?_
          have a1 : adv v (f_tok E (up2 v 1135 q ((v 1135 q) ||| (1 <<< ((v 1100 28) &&& 31))))) := adv.tr (Nat.le_trans (Nat.le_refl _) (Nat.le_of_eq (nx_up (k := 1135) (j := q) (x := (v 1135 q) ||| (1 <<< ((v 1100 28) &&& 31))) (by omega)).symm)) (tok_adv ((h).up (k := 1135) (j := q) (x := (v 1135 q) ||| (1 <<< ((v 1100 28) &&& 31))) (by omega) (by omega)))
          have a2 := a1.2 (isWord_k c3)
          have a3 := (tok_adv (f_tok_ok ((h).up (k := 1135) (j := q) (x := (v 1135 q) ||| (1 <<< ((v 1100 28) &&& 31))) (by omega) (by omega)))).1
          have a4 := (nx_le (f_tok_ok (f_tok_ok ((h).up (k := 1135) (j := q) (x := (v 1135 q) ||| (1 <<< ((v 1100 28) &&& 31))) (by omega) (by omega))))).1
          rw [f_cr_s, if_neg c1, if_neg c2, if_neg c3]
          exact ih (f_tok E (f_tok E (up2 v 1135 q ((v 1135 q) ||| (1 <<< ((v 1100 28) &&& 31)))))) (f_tok_ok (f_tok_ok ((h).up (k := 1135) (j := q) (x := (v 1135 q) ||| (1 <<< ((v 1100 28) &&& 31))) (by omega) (by omega)))) (by omega)
        · refine J_iconst (x := 1) dX11_classRow_62 (by decide) ?_
          exact J_zret dX11_classRow_63 rfl (by decide) ⟨_, rfl, rfl, by rw [f_cr_s, if_neg c1, if_neg c2, if_pos c3], by rw [f_cr_s, if_neg c1, if_neg c2, if_pos c3]⟩
      · refine J_aload_n dX11_classRow_28 rfl 0 rfl ?_
        refine J_iconst (x := 3) dX11_classRow_29 (by decide) ?_
        refine J_eVX (z := mX11_wrong) (As := [.int 3]) (rest := []) (ci := 11) (x := 0) (w := (f_X11_wrong v 3).2) dX11_classRow_30 ml_X11_164 ok_X11_wrong iv_X11_wrong (by decide) (i1100 hI) rfl rfl rfl rfl (Nat.le_of_ble_eq_true rfl) (k_X11_wrong hI v u 3) ?_
        exact J_zret dX11_classRow_33 rfl (by decide) ⟨_, rfl, rfl, by rw [f_cr_s, if_neg c1, if_pos c2], by rw [f_cr_s, if_neg c1, if_pos c2]⟩
    · refine J_iconst (x := 0) dX11_classRow_9 (by decide) ?_
      exact J_zret dX11_classRow_10 rfl (by decide) ⟨_, rfl, rfl, by rw [f_cr_s, if_pos c1], by rw [f_cr_s, if_pos c1]⟩
theorem k_f_cr {l : Launch} {I : List Nat} (hI : fr_I I) (v : fr_V) (u : fr_U) (E q : Nat) (hq : q < 48) (h : rdOK E v) : Con l mX11_classRow I v u [.ref 1100, .int (nI q)] (QX u (fun a b => a = (f_cr E q (E + 1) v).1 ∧ b = (f_cr E q (E + 1) v).2)) := by
  refine Con.of (by decide) (Nat.le_of_ble_eq_true rfl) ?_
  exact crw_L hI u E q hq (E + 1) v h (by omega)
theorem f_cr_ok {E q : Nat} : ∀ (d : Nat) {v : fr_V} (h : rdOK E v), rdOK E (f_cr E q d v).2 := by
  intro d
  induction d with
  | zero => intro v h; exact h
  | succ d ih =>
    intro v h
    rw [f_cr_s]
    by_cases g0 : ((f_X11_isNumber v 0 3).1) = 0
    · rw [if_pos g0]
      dsimp only
      exact isNumber_ok (h)
    · rw [if_neg g0]
      by_cases g1 : (((v 1135 q) >>> ((v 1100 28) &&& 31)) &&& 1) = 1
      · rw [if_pos g1]
        dsimp only
        exact wrong_ok (h)
      · rw [if_neg g1]
        by_cases g2 : (f_X11_isWord (f_tok E (up2 v 1135 q ((v 1135 q) ||| (1 <<< ((v 1100 28) &&& 31))))) 14) = 0
        · rw [if_pos g2]
          dsimp only
          exact f_tok_ok ((h).up (k := 1135) (j := q) (x := (v 1135 q) ||| (1 <<< ((v 1100 28) &&& 31))) (by omega) (by omega))
        · rw [if_neg g2]
          exact ih (f_tok_ok (f_tok_ok ((h).up (k := 1135) (j := q) (x := (v 1135 q) ||| (1 <<< ((v 1100 28) &&& 31))) (by omega) (by omega))))
theorem cr_adv {E q : Nat} : ∀ (d : Nat) {v : fr_V} (h : rdOK E v) (k : ¬ (f_cr E q d v).1 = 0), adv v (f_cr E q d v).2 := by
  intro d
  induction d with
  | zero => intro v h k; exact absurd rfl k
  | succ d ih =>
    intro v h k
    rw [f_cr_s] at k ⊢
    by_cases g0 : ((f_X11_isNumber v 0 3).1) = 0
    · rw [if_pos g0] at k ⊢
      exact absurd rfl k
    · rw [if_neg g0] at k ⊢
      by_cases g1 : (((v 1135 q) >>> ((v 1100 28) &&& 31)) &&& 1) = 1
      · rw [if_pos g1] at k ⊢
        exact absurd rfl k
      · rw [if_neg g1] at k ⊢
        by_cases g2 : (f_X11_isWord (f_tok E (up2 v 1135 q ((v 1135 q) ||| (1 <<< ((v 1100 28) &&& 31))))) 14) = 0
        · rw [if_pos g2] at k ⊢
          dsimp only
          exact adv.tr (Nat.le_trans (Nat.le_refl _) (Nat.le_of_eq (nx_up (k := 1135) (j := q) (x := (v 1135 q) ||| (1 <<< ((v 1100 28) &&& 31))) (by omega)).symm)) (tok_adv ((h).up (k := 1135) (j := q) (x := (v 1135 q) ||| (1 <<< ((v 1100 28) &&& 31))) (by omega) (by omega)))
        · rw [if_neg g2] at k ⊢
          exact adv.tr (Nat.le_trans (Nat.le_trans (Nat.le_trans (Nat.le_refl _) (Nat.le_of_eq (nx_up (k := 1135) (j := q) (x := (v 1135 q) ||| (1 <<< ((v 1100 28) &&& 31))) (by omega)).symm)) (tok_adv ((h).up (k := 1135) (j := q) (x := (v 1135 q) ||| (1 <<< ((v 1100 28) &&& 31))) (by omega) (by omega))).1) (tok_adv (f_tok_ok ((h).up (k := 1135) (j := q) (x := (v 1135 q) ||| (1 <<< ((v 1100 28) &&& 31))) (by omega) (by omega)))).1) (ih (f_tok_ok (f_tok_ok ((h).up (k := 1135) (j := q) (x := (v 1135 q) ||| (1 <<< ((v 1100 28) &&& 31))) (by omega) (by omega)))) k)
