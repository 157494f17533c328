def f_X11_isNumber (v : fr_V) (x1 x2 : Int32) : Int32 × fr_V := if (v 1100 27) = 2 then (if (v 1100 28) < x1 then (0, (f_X11_wrong v 2).2) else if (v 1100 28) ≤ x2 then (1, v) else (0, (f_X11_wrong v 2).2)) else (0, (f_X11_wrong v 1).2)
theorem k_X11_isNumber {l : Launch} {I : List Nat} (hI : fr_I I) (v : fr_V) (u : fr_U) (x1 x2 : Int32) : Con l mX11_isNumber I v u [.ref 1100, .int x1, .int x2] (QX u (fun a b => a = (f_X11_isNumber v x1 x2).1 ∧ b = (f_X11_isNumber v x1 x2).2)) := by
  refine Con.of (by decide) (Nat.le_of_ble_eq_true rfl) ?_
  show J l mX11_isNumber I v u 0 [(0, .ref 1100), (1, .int x1), (2, .int x2)] [] _
  refine J_aload_n dX11_isNumber_0 rfl 0 rfl ?_
  refine J_gete (ci := 11) (j := 27) (x := v 1100 27) dX11_isNumber_1 fl_X11_147 (i1100 hI) rfl rfl rfl ?_
  refine J_iconst (x := 2) dX11_isNumber_4 (by decide) ?_
  refine J_icmp_eq (tgt := 14) dX11_isNumber_5 (by decide) (fun c1 => ?_) (fun c1 => ?_)
  · refine J_aload_n dX11_isNumber_14 rfl 0 rfl ?_
    refine J_gete (ci := 11) (j := 28) (x := v 1100 28) dX11_isNumber_15 fl_X11_158 (i1100 hI) rfl rfl rfl ?_
    refine J_iload_n dX11_isNumber_18 rfl 1 rfl ?_
    refine J_icmp_lt (tgt := 30) dX11_isNumber_19 (by decide) (fun c2 => ?_) (fun c2 => ?_)
    · refine J_aload_n dX11_isNumber_30 rfl 0 rfl ?_
      refine J_iconst (x := 2) dX11_isNumber_31 (by decide) ?_
      refine J_eVX (z := mX11_wrong) (As := [.int 2]) (rest := []) (ci := 11) (x := 0) (w := (f_X11_wrong v 2).2) dX11_isNumber_32 ml_X11_164 ok_X11_wrong iv_X11_wrong (by decide) (i1100 hI) rfl rfl rfl rfl (Nat.le_of_ble_eq_true rfl) (k_X11_wrong hI v u _) ?_
      refine J_if_eq (tgt := 42) dX11_isNumber_35 (by decide) (fun c3 => ?_) (fun c3 => absurd (by decide) c3)
      refine J_iconst (x := 0) dX11_isNumber_42 (by decide) ?_
      exact J_zret dX11_isNumber_43 rfl (by decide) ⟨_, rfl, rfl, by unfold f_X11_isNumber; rw [if_pos c1, if_pos c2], by unfold f_X11_isNumber; rw [if_pos c1, if_pos c2]⟩
    · refine J_aload_n dX11_isNumber_22 rfl 0 rfl ?_
      refine J_gete (ci := 11) (j := 28) (x := v 1100 28) dX11_isNumber_23 fl_X11_158 (i1100 hI) rfl rfl rfl ?_
      refine J_iload_n dX11_isNumber_26 rfl 2 rfl ?_
      refine J_icmp_le (tgt := 38) dX11_isNumber_27 (by decide) (fun c4 => ?_) (fun c4 => ?_)
      · refine J_iconst (x := 1) dX11_isNumber_38 (by decide) ?_
        refine J_goto (tgt := 43) dX11_isNumber_39 (by decide) ?_
        exact J_zret dX11_isNumber_43 rfl (by decide) ⟨_, rfl, rfl, by unfold f_X11_isNumber; rw [if_pos c1, if_neg c2, if_pos c4], by unfold f_X11_isNumber; rw [if_pos c1, if_neg c2, if_pos c4]⟩
      · refine J_aload_n dX11_isNumber_30 rfl 0 rfl ?_
        refine J_iconst (x := 2) dX11_isNumber_31 (by decide) ?_
        refine J_eVX (z := mX11_wrong) (As := [.int 2]) (rest := []) (ci := 11) (x := 0) (w := (f_X11_wrong v 2).2) dX11_isNumber_32 ml_X11_164 ok_X11_wrong iv_X11_wrong (by decide) (i1100 hI) rfl rfl rfl rfl (Nat.le_of_ble_eq_true rfl) (k_X11_wrong hI v u _) ?_
        refine J_if_eq (tgt := 42) dX11_isNumber_35 (by decide) (fun c5 => ?_) (fun c5 => absurd (by decide) c5)
        refine J_iconst (x := 0) dX11_isNumber_42 (by decide) ?_
        exact J_zret dX11_isNumber_43 rfl (by decide) ⟨_, rfl, rfl, by unfold f_X11_isNumber; rw [if_pos c1, if_neg c2, if_neg c4], by unfold f_X11_isNumber; rw [if_pos c1, if_neg c2, if_neg c4]⟩
  · refine J_aload_n dX11_isNumber_8 rfl 0 rfl ?_
    refine J_iconst (x := 1) dX11_isNumber_9 (by decide) ?_
    refine J_eVX (z := mX11_wrong) (As := [.int 1]) (rest := []) (ci := 11) (x := 0) (w := (f_X11_wrong v 1).2) dX11_isNumber_10 ml_X11_164 ok_X11_wrong iv_X11_wrong (by decide) (i1100 hI) rfl rfl rfl rfl (Nat.le_of_ble_eq_true rfl) (k_X11_wrong hI v u _) ?_
    exact J_zret dX11_isNumber_13 rfl (by decide) ⟨_, rfl, rfl, by unfold f_X11_isNumber; rw [if_neg c1], by unfold f_X11_isNumber; rw [if_neg c1]⟩
/-- the reader stands: the text's end E, the next place, the words -/
def rdOK (E : Nat) (v : fr_V) : Prop := E ≤ 500 ∧ v 1100 25 = nI E ∧ (∃ p, p ≤ E ∧ v 1100 26 = nI p) ∧ ∀ i, i < 75 → v 1123 i = wd i
noncomputable def f_tok (E : Nat) (v : fr_V) : fr_V := f_take v E (v 1100 26).toNatClampNeg
theorem rdOK.up {E : Nat} {v : fr_V} {k j : Nat} {x : Int32} (h : rdOK E v) (h1 : k ≠ 1123) (h2 : ¬ (k = 1100 ∧ (j = 25 ∨ j = 26))) : rdOK E (up2 v k j x) := by
  have e : ∀ i, i = 25 ∨ i = 26 → up2 v k j x 1100 i = v 1100 i := by
    intro i hi
    by_cases hk : 1100 = k
    · subst hk
      have : ¬ i = j := fun e => h2 ⟨rfl, by rw [← e]; exact hi⟩
      simp [up2, upd, this]
    · rw [up2_ne hk]
  obtain ⟨a1, a2, a3, a4⟩ := h
  refine ⟨a1, by rw [e 25 (Or.inl rfl)]; exact a2, by rw [e 26 (Or.inr rfl)]; exact a3, ?_⟩
  rw [up2_ne (fun q => h1 q.symm)]
  exact a4
theorem k2_take {l : Launch} {I : List Nat} (hI : fr_I I) (v : fr_V) (u : fr_U) (E : Nat) (h : rdOK E v) : Con l mX11_take I v u [.ref 1100] (QN u (fun a => a = f_tok E v)) := by
  obtain ⟨h1, h2, ⟨p, hp, h3⟩, h4⟩ := h
  unfold f_tok
  rw [h3, nI_clamp (by omega)]
  exact k_X11_take hI v u E h1 h2 h4 p h3 hp
theorem rd_26 {E q : Nat} {v : fr_V} {x : Int32} (h : rdOK E v) (hx : ∃ p, p ≤ E ∧ x = nI p) : rdOK E (up2 v 1100 26 x) := by
  obtain ⟨a1, a2, a3, a4⟩ := h
  exact ⟨a1, a2, hx, a4⟩
theorem f_tk_ok {E q : Nat} {v : fr_V} (h : rdOK E v) (hq : q ≤ E) : rdOK E (f_tk v E q) := by
  have hb : rdOK E (up2 (up2 v 1100 26 (nI q)) 1100 29 (nI q)) := (rd_26 (q := q) h ⟨q, hq, rfl⟩).up (by decide) (by decide)
  unfold f_tk
  by_cases h1 : q = E
  · rw [if_pos h1]; exact hb.up (by decide) (by decide)
  · rw [if_neg h1]
    by_cases h2 : isLt (v 1101) q
    · rw [if_pos h2]
      have hs := sc_le (isLt (v 1101)) E (E - q) (by omega)
      exact ((rd_26 (q := q) hb ⟨_, hs.2, rfl⟩).up (by decide) (by decide)).up (by decide) (by decide)
    · rw [if_neg h2]
      by_cases h3 : isDg (v 1101) q
      · rw [if_pos h3]
        have hs := sc_le (isDg (v 1101)) E (E - q) (by omega)
        exact rd_26 (q := q) ((hb.up (by decide) (by decide)).up (by decide) (by decide)) ⟨_, hs.2, rfl⟩
      · rw [if_neg h3]
        exact rd_26 (q := q) (hb.up (by decide) (by decide)) ⟨q + 1, by omega, nI_1 q⟩
theorem f_tok_ok {E : Nat} {v : fr_V} (h : rdOK E v) : rdOK E (f_tok E v) := by
  unfold f_tok f_take
  refine f_tk_ok h ?_
  obtain ⟨h1, h2, ⟨p, hp, h3⟩, h4⟩ := h
  rw [h3, nI_clamp (by omega)]
  have := sc_le (isBl (v 1101)) E (E - p) (by omega)
  omega
theorem wrong_ok {E : Nat} {v : fr_V} {x : Int32} (h : rdOK E v) : rdOK E (f_X11_wrong v x).2 := by
  unfold f_X11_wrong
  exact (h.up (by decide) (by decide)).up (by decide) (by decide)
theorem isNumber_ok {E : Nat} {v : fr_V} {x1 x2 : Int32} (h : rdOK E v) : rdOK E (f_X11_isNumber v x1 x2).2 := by
  unfold f_X11_isNumber
  repeat' split
  all_goals first | exact h | exact wrong_ok h
