theorem isNum_1 {v : fr_V} {a b : Int32} (h : ¬ (f_X11_isNumber v a b).1 = 0) : (f_X11_isNumber v a b).2 = v ∧ v 1100 27 = 2 ∧ ¬ v 1100 28 < a ∧ v 1100 28 ≤ b := by
  unfold f_X11_isNumber at h ⊢
  by_cases c1 : v 1100 27 = 2
  · rw [if_pos c1] at h ⊢
    by_cases c2 : v 1100 28 < a
    · rw [if_pos c2] at h; exact absurd rfl h
    · rw [if_neg c2] at h ⊢
      by_cases c3 : v 1100 28 ≤ b
      · rw [if_pos c3]; exact ⟨rfl, c1, c2, c3⟩
      · rw [if_neg c3] at h; exact absurd rfl h
  · rw [if_neg c1] at h; exact absurd rfl h
def nx (v : fr_V) : Nat := (v 1100 26).toNatClampNeg
def kd (v : fr_V) : Int32 := v 1100 27
theorem nx_le {E : Nat} {v : fr_V} (h : rdOK E v) : nx v ≤ E ∧ v 1100 26 = nI (nx v) := by
  obtain ⟨h1, h2, ⟨p, hp, h3⟩, h4⟩ := h
  unfold nx
  rw [h3, nI_clamp (by omega)]
  exact ⟨hp, rfl⟩
/-- from v to w the reader goes on; and if w's token isn't the end, by a place at least -/
def adv (v w : fr_V) : Prop := nx v ≤ nx w ∧ (¬ kd w = 0 → nx v < nx w)
theorem adv.tr {a b c : fr_V} (h : nx a ≤ nx b) (k : adv b c) : adv a c := ⟨Nat.le_trans h k.1, fun q => Nat.lt_of_le_of_lt h (k.2 q)⟩
theorem tk_adv {E q : Nat} {v : fr_V} (hE : E ≤ 500) (hq : q ≤ E) : q ≤ nx (f_tk v E q) ∧ nx (f_tk v E q) ≤ E ∧ (¬ kd (f_tk v E q) = 0 → q < nx (f_tk v E q)) := by
  have ne : ∀ (w : fr_V) (j i : Nat) (x : Int32), i ≠ j → up2 w 1100 j x 1100 i = w 1100 i := fun w j i x hi => by rw [up2_self, pk_un hi]
  unfold f_tk
  by_cases h1 : q = E
  · rw [if_pos h1]
    have e : nx (up2 (up2 (up2 v 1100 26 (nI q)) 1100 29 (nI q)) 1100 27 0) = q := by
      unfold nx; rw [ne _ 27 26 _ (by omega), ne _ 29 26 _ (by omega), up2_self, pk_us, nI_clamp (by omega)]
    refine ⟨by omega, by omega, fun g => absurd ?_ g⟩
    unfold kd; rw [up2_self, pk_us]
  · rw [if_neg h1]
    by_cases h2 : isLt (v 1101) q
    · rw [if_pos h2]
      have hs : q < sc (isLt (v 1101)) E (E - q) := by
        obtain ⟨d, hd⟩ : ∃ d, E - q = d + 1 := ⟨E - q - 1, by omega⟩
        rw [hd, sc_p (by rw [show E - (d + 1) = q by omega]; exact h2)]
        have := sc_le (isLt (v 1101)) E d (by omega)
        omega
      have hs2 := sc_le (isLt (v 1101)) E (E - q) (by omega)
      have e : ∀ x y, nx (up2 (up2 (up2 (up2 (up2 v 1100 26 (nI q)) 1100 29 (nI q)) 1100 26 (nI (sc (isLt (v 1101)) E (E - q)))) 1100 28 x) 1100 27 y) = sc (isLt (v 1101)) E (E - q) := by
        intro x y; unfold nx; rw [ne _ 27 26 _ (by omega), ne _ 28 26 _ (by omega), up2_self, pk_us, nI_clamp (by omega)]
      rw [e]
      exact ⟨by omega, hs2.2, fun _ => hs⟩
    · rw [if_neg h2]
      by_cases h3 : isDg (v 1101) q
      · rw [if_pos h3]
        have hs : q < sc (isDg (v 1101)) E (E - q) := by
          obtain ⟨d, hd⟩ : ∃ d, E - q = d + 1 := ⟨E - q - 1, by omega⟩
          rw [hd, sc_p (by rw [show E - (d + 1) = q by omega]; exact h3)]
          have := sc_le (isDg (v 1101)) E d (by omega)
          omega
        have hs2 := sc_le (isDg (v 1101)) E (E - q) (by omega)
        have e : ∀ x y, nx (up2 (up2 (up2 (up2 (up2 v 1100 26 (nI q)) 1100 29 (nI q)) 1100 27 x) 1100 28 y) 1100 26 (nI (sc (isDg (v 1101)) E (E - q)))) = sc (isDg (v 1101)) E (E - q) := by
          intro x y; unfold nx; rw [up2_self, pk_us, nI_clamp (by omega)]
        rw [e]
        exact ⟨by omega, hs2.2, fun _ => hs⟩
      · rw [if_neg h3]
        have e : ∀ x, nx (up2 (up2 (up2 (up2 v 1100 26 (nI q)) 1100 29 (nI q)) 1100 27 x) 1100 26 (nI q + 1)) = q + 1 := by
          intro x; unfold nx; rw [up2_self, pk_us, nI_1, nI_clamp (by omega)]
        rw [e]
        exact ⟨by omega, by omega, fun _ => by omega⟩
theorem tok_adv {E : Nat} {v : fr_V} (h : rdOK E v) : adv v (f_tok E v) := by
  obtain ⟨h1, h2⟩ := nx_le h
  unfold f_tok f_take
  rw [h2, nI_clamp (by have := h.1; omega)]
  have hs := sc_le (isBl (v 1101)) E (E - nx v) (by omega)
  obtain ⟨k1, k2, k3⟩ := tk_adv (v := v) h.1 hs.2
  exact ⟨by omega, fun g => by have := k3 g; omega⟩
theorem nx_up {v : fr_V} {k j : Nat} {x : Int32} (h : ¬ (k = 1100 ∧ j = 26)) : nx (up2 v k j x) = nx v := by
  unfold nx
  by_cases hk : k = 1100
  · subst hk; rw [up2_self, pk_un (fun e => h ⟨rfl, e.symm⟩)]
  · rw [up2_ne (fun e => hk e.symm)]
noncomputable def f_span (E : Nat) (v : fr_V) (x1 : Int32) : Int32 × fr_V := if ((f_X11_isNumber v 0 x1).1) = 0 then (0, (f_X11_isNumber v 0 x1).2) else if (f_X11_isWord (f_tok E (up2 v 1100 42 (v 1100 28))) 13) = 0 then (0, (f_X11_wrong (f_tok E (up2 v 1100 42 (v 1100 28))) 1).2) else if ((f_X11_isNumber (f_tok E (f_tok E (up2 v 1100 42 (v 1100 28)))) ((f_tok E (f_tok E (up2 v 1100 42 (v 1100 28)))) 1100 42) x1).1) = 0 then (0, (f_X11_isNumber (f_tok E (f_tok E (up2 v 1100 42 (v 1100 28)))) ((f_tok E (f_tok E (up2 v 1100 42 (v 1100 28)))) 1100 42) x1).2) else (1, (f_tok E (up2 (f_tok E (f_tok E (up2 v 1100 42 (v 1100 28)))) 1100 43 ((f_tok E (f_tok E (up2 v 1100 42 (v 1100 28)))) 1100 28))))
theorem k_f_span {l : Launch} {I : List Nat} (hI : fr_I I) (v : fr_V) (u : fr_U) (E : Nat) (x1 : Int32) (h : rdOK E v) : Con l mX11_span I v u [.ref 1100, .int x1] (QX u (fun a b => a = (f_span E v x1).1 ∧ b = (f_span E v x1).2)) := by
  refine Con.of (by decide) (Nat.le_of_ble_eq_true rfl) ?_
  show J l mX11_span I v u 0 [(0, .ref 1100), (1, .int x1)] [] _
  refine J_aload_n dX11_span_0 rfl 0 rfl ?_
  refine J_iconst (x := 0) dX11_span_1 (by decide) ?_
  refine J_iload_n dX11_span_2 rfl 1 rfl ?_
  refine J_eVX (z := mX11_isNumber) (As := [.int 0, .int x1]) (rest := []) (ci := 11) (x := (f_X11_isNumber v 0 x1).1) (w := (f_X11_isNumber v 0 x1).2) dX11_span_3 ml_X11_173 ok_X11_isNumber iv_X11_isNumber (by decide) (i1100 hI) rfl rfl rfl rfl (Nat.le_of_ble_eq_true rfl) (k_X11_isNumber hI v u 0 x1) ?_
  refine J_if_ne (tgt := 11) dX11_span_6 (by decide) (fun c1 => ?_) (fun c1 => ?_)
  · refine J_ve (w := v) (isNum_1 c1).1 ?_
    refine J_aload_n dX11_span_11 rfl 0 rfl ?_
    refine J_aload_n dX11_span_12 rfl 0 rfl ?_
    refine J_gete (ci := 11) (j := 28) (x := v 1100 28) dX11_span_13 fl_X11_158 (i1100 hI) rfl rfl rfl ?_
    refine J_puti (ci := 11) (j := 42) dX11_span_16 fl_X11_177 (i1100 hI) rfl rfl (fun q h => by cases h; rfl) rfl ?_
    refine J_aload_n dX11_span_19 rfl 0 rfl ?_
    refine J_eVN (z := mX11_take) (As := []) (rest := []) (ci := 11) (w := (f_tok E (up2 v 1100 42 (v 1100 28)))) dX11_span_20 ml_X11_180 ok_X11_take iv_X11_take (by decide) (i1100 hI) rfl rfl rfl rfl (Nat.le_of_ble_eq_true rfl) (k2_take hI (up2 v 1100 42 (v 1100 28)) u E ((h).up (k := 1100) (j := 42) (x := v 1100 28) (by omega) (by omega))) ?_
    refine J_aload_n dX11_span_23 rfl 0 rfl ?_
    refine J_bipush (x := 13) dX11_span_24 (by decide) ?_
    refine J_eVI (z := mX11_isWord) (As := [.int 13]) (rest := []) (ci := 11) (x := f_X11_isWord (f_tok E (up2 v 1100 42 (v 1100 28))) 13) dX11_span_26 ml_X11_183 ok_X11_isWord iv_X11_isWord (by decide) (i1100 hI) rfl rfl rfl rfl (Nat.le_of_ble_eq_true rfl) (k_X11_isWord hI (f_tok E (up2 v 1100 42 (v 1100 28))) u 13) ?_
    refine J_if_ne (tgt := 38) dX11_span_29 (by decide) (fun c2 => ?_) (fun c2 => ?_)
    · refine J_aload_n dX11_span_38 rfl 0 rfl ?_
      refine J_eVN (z := mX11_take) (As := []) (rest := []) (ci := 11) (w := (f_tok E (f_tok E (up2 v 1100 42 (v 1100 28))))) dX11_span_39 ml_X11_180 ok_X11_take iv_X11_take (by decide) (i1100 hI) rfl rfl rfl rfl (Nat.le_of_ble_eq_true rfl) (k2_take hI (f_tok E (up2 v 1100 42 (v 1100 28))) u E (f_tok_ok ((h).up (k := 1100) (j := 42) (x := v 1100 28) (by omega) (by omega)))) ?_
      refine J_aload_n dX11_span_42 rfl 0 rfl ?_
      refine J_aload_n dX11_span_43 rfl 0 rfl ?_
      refine J_gete (ci := 11) (j := 42) (x := (f_tok E (f_tok E (up2 v 1100 42 (v 1100 28)))) 1100 42) dX11_span_44 fl_X11_177 (i1100 hI) rfl rfl rfl ?_
      refine J_iload_n dX11_span_47 rfl 1 rfl ?_
      refine J_eVX (z := mX11_isNumber) (As := [.int ((f_tok E (f_tok E (up2 v 1100 42 (v 1100 28)))) 1100 42), .int x1]) (rest := []) (ci := 11) (x := (f_X11_isNumber (f_tok E (f_tok E (up2 v 1100 42 (v 1100 28)))) ((f_tok E (f_tok E (up2 v 1100 42 (v 1100 28)))) 1100 42) x1).1) (w := (f_X11_isNumber (f_tok E (f_tok E (up2 v 1100 42 (v 1100 28)))) ((f_tok E (f_tok E (up2 v 1100 42 (v 1100 28)))) 1100 42) x1).2) dX11_span_48 ml_X11_173 ok_X11_isNumber iv_X11_isNumber (by decide) (i1100 hI) rfl rfl rfl rfl (Nat.le_of_ble_eq_true rfl) (k_X11_isNumber hI (f_tok E (f_tok E (up2 v 1100 42 (v 1100 28)))) u ((f_tok E (f_tok E (up2 v 1100 42 (v 1100 28)))) 1100 42) x1) ?_
      refine J_if_ne (tgt := 56) dX11_span_51 (by decide) (fun c3 => ?_) (fun c3 => ?_)
      · refine J_ve (w := (f_tok E (f_tok E (up2 v 1100 42 (v 1100 28))))) (isNum_1 c3).1 ?_
        refine J_aload_n dX11_span_56 rfl 0 rfl ?_
        refine J_aload_n dX11_span_57 rfl 0 rfl ?_
        refine J_gete (ci := 11) (j := 28) (x := (f_tok E (f_tok E (up2 v 1100 42 (v 1100 28)))) 1100 28) dX11_span_58 fl_X11_158 (i1100 hI) rfl rfl rfl ?_
        refine J_puti (ci := 11) (j := 43) dX11_span_61 fl_X11_186 (i1100 hI) rfl rfl (fun q h => by cases h; rfl) rfl ?_
        refine J_aload_n dX11_span_64 rfl 0 rfl ?_
        refine J_eVN (z := mX11_take) (As := []) (rest := []) (ci := 11) (w := (f_tok E (up2 (f_tok E (f_tok E (up2 v 1100 42 (v 1100 28)))) 1100 43 ((f_tok E (f_tok E (up2 v 1100 42 (v 1100 28)))) 1100 28)))) dX11_span_65 ml_X11_180 ok_X11_take iv_X11_take (by decide) (i1100 hI) rfl rfl rfl rfl (Nat.le_of_ble_eq_true rfl) (k2_take hI (up2 (f_tok E (f_tok E (up2 v 1100 42 (v 1100 28)))) 1100 43 ((f_tok E (f_tok E (up2 v 1100 42 (v 1100 28)))) 1100 28)) u E ((f_tok_ok (f_tok_ok ((h).up (k := 1100) (j := 42) (x := v 1100 28) (by omega) (by omega)))).up (k := 1100) (j := 43) (x := (f_tok E (f_tok E (up2 v 1100 42 (v 1100 28)))) 1100 28) (by omega) (by omega))) ?_
        refine J_iconst (x := 1) dX11_span_68 (by decide) ?_
        exact J_zret dX11_span_69 rfl (by decide) ⟨_, rfl, rfl, by unfold f_span; rw [if_neg c1, if_neg c2, if_neg c3], by unfold f_span; rw [if_neg c1, if_neg c2, if_neg c3]⟩
      · refine J_iconst (x := 0) dX11_span_54 (by decide) ?_
        exact J_zret dX11_span_55 rfl (by decide) ⟨_, rfl, rfl, by unfold f_span; rw [if_neg c1, if_neg c2, if_pos c3], by unfold f_span; rw [if_neg c1, if_neg c2, if_pos c3]⟩
    · refine J_aload_n dX11_span_32 rfl 0 rfl ?_
      refine J_iconst (x := 1) dX11_span_33 (by decide) ?_
      refine J_eVX (z := mX11_wrong) (As := [.int 1]) (rest := []) (ci := 11) (x := 0) (w := (f_X11_wrong (f_tok E (up2 v 1100 42 (v 1100 28))) 1).2) dX11_span_34 ml_X11_164 ok_X11_wrong iv_X11_wrong (by decide) (i1100 hI) rfl rfl rfl rfl (Nat.le_of_ble_eq_true rfl) (k_X11_wrong hI (f_tok E (up2 v 1100 42 (v 1100 28))) u 1) ?_
      exact J_zret dX11_span_37 rfl (by decide) ⟨_, rfl, rfl, by unfold f_span; rw [if_neg c1, if_pos c2], by unfold f_span; rw [if_neg c1, if_pos c2]⟩
  · refine J_iconst (x := 0) dX11_span_9 (by decide) ?_
    exact J_zret dX11_span_10 rfl (by decide) ⟨_, rfl, rfl, by unfold f_span; rw [if_pos c1], by unfold f_span; rw [if_pos c1]⟩
theorem f_span_ok {E : Nat} {v : fr_V} {x1 : Int32} (h : rdOK E v) : rdOK E (f_span E v x1).2 := by
  unfold f_span
  by_cases g0 : ((f_X11_isNumber v 0 x1).1) = 0
  · rw [if_pos g0]
    dsimp only
    exact isNumber_ok (h)
  · rw [if_neg g0]
    by_cases g1 : (f_X11_isWord (f_tok E (up2 v 1100 42 (v 1100 28))) 13) = 0
    · rw [if_pos g1]
      dsimp only
      exact wrong_ok (f_tok_ok ((h).up (k := 1100) (j := 42) (x := v 1100 28) (by omega) (by omega)))
    · rw [if_neg g1]
      by_cases g2 : ((f_X11_isNumber (f_tok E (f_tok E (up2 v 1100 42 (v 1100 28)))) ((f_tok E (f_tok E (up2 v 1100 42 (v 1100 28)))) 1100 42) x1).1) = 0
      · rw [if_pos g2]
        dsimp only
        exact isNumber_ok (f_tok_ok (f_tok_ok ((h).up (k := 1100) (j := 42) (x := v 1100 28) (by omega) (by omega))))
      · rw [if_neg g2]
        dsimp only
        exact f_tok_ok ((f_tok_ok (f_tok_ok ((h).up (k := 1100) (j := 42) (x := v 1100 28) (by omega) (by omega)))).up (k := 1100) (j := 43) (x := (f_tok E (f_tok E (up2 v 1100 42 (v 1100 28)))) 1100 28) (by omega) (by omega))
noncomputable def f_ofN (E : Nat) (v : fr_V) (k : Nat) : Int32 × fr_V := if (v 1142 k) = 0 then (if (nI k) = 2 then (if (nI k) = 0 then (if ((f_X11_isNumber (f_tok E (up2 v 1142 k 1)) 2 40).1) = 0 then (0, (f_X11_isNumber (f_tok E (up2 v 1142 k 1)) 2 40).2) else (1, (f_tok E (up2 (f_tok E (up2 v 1142 k 1)) 1141 (4 + k) ((f_tok E (up2 v 1142 k 1)) 1100 28))))) else if (nI k) = 1 then (if ((f_X11_isNumber (f_tok E (up2 v 1142 k 1)) 2 9).1) = 0 then (0, (f_X11_isNumber (f_tok E (up2 v 1142 k 1)) 2 9).2) else (1, (f_tok E (up2 (f_tok E (up2 v 1142 k 1)) 1141 (4 + k) ((f_tok E (up2 v 1142 k 1)) 1100 28))))) else if (nI k) = 2 then (if ((f_X11_isNumber (f_tok E (up2 v 1142 k 1)) 2 99).1) = 0 then (0, (f_X11_isNumber (f_tok E (up2 v 1142 k 1)) 2 99).2) else (1, (f_tok E (up2 (f_tok E (up2 v 1142 k 1)) 1141 (4 + k) ((f_tok E (up2 v 1142 k 1)) 1100 28))))) else if ((f_X11_isNumber (f_tok E (up2 v 1142 k 1)) 2 3).1) = 0 then (0, (f_X11_isNumber (f_tok E (up2 v 1142 k 1)) 2 3).2) else (1, (f_tok E (up2 (f_tok E (up2 v 1142 k 1)) 1141 (4 + k) ((f_tok E (up2 v 1142 k 1)) 1100 28))))) else if (nI k) = 3 then (if (nI k) = 0 then (if ((f_X11_isNumber (f_tok E (up2 v 1142 k 1)) 1 40).1) = 0 then (0, (f_X11_isNumber (f_tok E (up2 v 1142 k 1)) 1 40).2) else (1, (f_tok E (up2 (f_tok E (up2 v 1142 k 1)) 1141 (4 + k) ((f_tok E (up2 v 1142 k 1)) 1100 28))))) else if (nI k) = 1 then (if ((f_X11_isNumber (f_tok E (up2 v 1142 k 1)) 1 9).1) = 0 then (0, (f_X11_isNumber (f_tok E (up2 v 1142 k 1)) 1 9).2) else (1, (f_tok E (up2 (f_tok E (up2 v 1142 k 1)) 1141 (4 + k) ((f_tok E (up2 v 1142 k 1)) 1100 28))))) else if (nI k) = 2 then (if ((f_X11_isNumber (f_tok E (up2 v 1142 k 1)) 1 99).1) = 0 then (0, (f_X11_isNumber (f_tok E (up2 v 1142 k 1)) 1 99).2) else (1, (f_tok E (up2 (f_tok E (up2 v 1142 k 1)) 1141 (4 + k) ((f_tok E (up2 v 1142 k 1)) 1100 28))))) else if ((f_X11_isNumber (f_tok E (up2 v 1142 k 1)) 1 3).1) = 0 then (0, (f_X11_isNumber (f_tok E (up2 v 1142 k 1)) 1 3).2) else (1, (f_tok E (up2 (f_tok E (up2 v 1142 k 1)) 1141 (4 + k) ((f_tok E (up2 v 1142 k 1)) 1100 28))))) else if (nI k) = 0 then (if ((f_X11_isNumber (f_tok E (up2 v 1142 k 1)) 0 40).1) = 0 then (0, (f_X11_isNumber (f_tok E (up2 v 1142 k 1)) 0 40).2) else (1, (f_tok E (up2 (f_tok E (up2 v 1142 k 1)) 1141 (4 + k) ((f_tok E (up2 v 1142 k 1)) 1100 28))))) else if (nI k) = 1 then (if ((f_X11_isNumber (f_tok E (up2 v 1142 k 1)) 0 9).1) = 0 then (0, (f_X11_isNumber (f_tok E (up2 v 1142 k 1)) 0 9).2) else (1, (f_tok E (up2 (f_tok E (up2 v 1142 k 1)) 1141 (4 + k) ((f_tok E (up2 v 1142 k 1)) 1100 28))))) else if (nI k) = 2 then (if ((f_X11_isNumber (f_tok E (up2 v 1142 k 1)) 0 99).1) = 0 then (0, (f_X11_isNumber (f_tok E (up2 v 1142 k 1)) 0 99).2) else (1, (f_tok E (up2 (f_tok E (up2 v 1142 k 1)) 1141 (4 + k) ((f_tok E (up2 v 1142 k 1)) 1100 28))))) else if ((f_X11_isNumber (f_tok E (up2 v 1142 k 1)) 0 3).1) = 0 then (0, (f_X11_isNumber (f_tok E (up2 v 1142 k 1)) 0 3).2) else (1, (f_tok E (up2 (f_tok E (up2 v 1142 k 1)) 1141 (4 + k) ((f_tok E (up2 v 1142 k 1)) 1100 28))))) else (0, (f_X11_wrong v 3).2)
theorem k_f_ofN {l : Launch} {I : List Nat} (hI : fr_I I) (v : fr_V) (u : fr_U) (E k : Nat) (h : rdOK E v) (hk : k < 4) : Con l mX11_ofNumber I v u [.ref 1100, .int (nI k)] (QX u (fun a b => a = (f_ofN E v k).1 ∧ b = (f_ofN E v k).2)) := by
  refine Con.of (by decide) (Nat.le_of_ble_eq_true rfl) ?_
  show J l mX11_ofNumber I v u 0 [(0, .ref 1100), (1, .int (nI k))] [] _
  refine J_aload_n dX11_ofNumber_0 rfl 0 rfl ?_
  refine J_getr (ci := 11) (j := 41) (t := 1142) dX11_ofNumber_1 fl_X11_89 (i1100 hI) rfl rfl rfl ?_
  refine J_iload_n dX11_ofNumber_4 rfl 1 rfl ?_
  refine J_zale (x := v 1142 k) dX11_ofNumber_5 (i1142 hI) rfl (ix_in (j := k) rfl (by omega) (by omega)) ((congrArg _ (ix_cl (j := k) rfl (by omega))).trans rfl) ?_
  refine J_if_eq (tgt := 15) dX11_ofNumber_6 (by decide) (fun c1 => ?_) (fun c1 => ?_)
  · refine J_aload_n dX11_ofNumber_15 rfl 0 rfl ?_
    refine J_getr (ci := 11) (j := 41) (t := 1142) dX11_ofNumber_16 fl_X11_89 (i1100 hI) rfl rfl rfl ?_
    refine J_iload_n dX11_ofNumber_19 rfl 1 rfl ?_
    refine J_iconst (x := 1) dX11_ofNumber_20 (by decide) ?_
    refine J_zase (j := k) dX11_ofNumber_21 (i1142 hI) rfl (ix_in (j := k) rfl (by omega) (by omega)) (ix_cl (j := k) rfl (by omega)) (by decide) ?_
    refine J_aload_n dX11_ofNumber_22 rfl 0 rfl ?_
    refine J_eVN (z := mX11_take) (As := []) (rest := []) (ci := 11) (w := (f_tok E (up2 v 1142 k 1))) dX11_ofNumber_23 ml_X11_180 ok_X11_take iv_X11_take (by decide) (i1100 hI) rfl rfl rfl rfl (Nat.le_of_ble_eq_true rfl) (k2_take hI (up2 v 1142 k 1) u E ((h).up (k := 1142) (j := k) (x := 1) (by omega) (by omega))) ?_
    refine J_iload_n dX11_ofNumber_26 rfl 1 rfl ?_
    refine J_iconst (x := 2) dX11_ofNumber_27 (by decide) ?_
    refine J_icmp_ne (tgt := 35) dX11_ofNumber_28 (by decide) (fun c2 => ?_) (fun c2 => ?_)
    · refine J_iload_n dX11_ofNumber_35 rfl 1 rfl ?_
      refine J_iconst (x := 3) dX11_ofNumber_36 (by decide) ?_
      refine J_icmp_ne (tgt := 44) dX11_ofNumber_37 (by decide) (fun c3 => ?_) (fun c3 => ?_)
      · refine J_iconst (x := 0) dX11_ofNumber_44 (by decide) ?_
        refine J_istore_n (lv' := [(2, .int 0), (0, .ref 1100), (1, .int (nI k))]) dX11_ofNumber_45 rfl (by decide) rfl ?_
        refine J_iload_n dX11_ofNumber_46 rfl 2 rfl ?_
        refine J_if_ne (tgt := 55) dX11_ofNumber_47 (by decide) (fun c4 => ?_) (fun c4 => ?_)
        · refine J_iload_n dX11_ofNumber_55 rfl 2 rfl ?_
          refine J_iconst (x := 1) dX11_ofNumber_56 (by decide) ?_
          refine J_icmp_ne (tgt := 65) dX11_ofNumber_57 (by decide) (fun c5 => ?_) (fun c5 => ?_)
          · refine J_iload_n dX11_ofNumber_65 rfl 2 rfl ?_
            refine J_iconst (x := 2) dX11_ofNumber_66 (by decide) ?_
            refine J_icmp_ne (tgt := 75) dX11_ofNumber_67 (by decide) (fun c6 => ?_) (fun c6 => ?_)
            · refine J_iconst (x := 3) dX11_ofNumber_75 (by decide) ?_
              refine J_istore_n (lv' := [(3, .int 3), (2, .int 0), (0, .ref 1100), (1, .int (nI k))]) dX11_ofNumber_76 rfl (by decide) rfl ?_
              refine J_aload_n dX11_ofNumber_77 rfl 2 rfl ?_
              refine J_iload_n dX11_ofNumber_78 rfl 1 rfl ?_
              refine J_iload_n dX11_ofNumber_79 rfl 0 rfl ?_
              refine J_eVX (z := mX11_isNumber) (As := [.int 0, .int 3]) (rest := []) (ci := 11) (x := (f_X11_isNumber (f_tok E (up2 v 1142 k 1)) 0 3).1) (w := (f_X11_isNumber (f_tok E (up2 v 1142 k 1)) 0 3).2) dX11_ofNumber_80 ml_X11_173 ok_X11_isNumber iv_X11_isNumber (by decide) (i1100 hI) rfl rfl rfl rfl (Nat.le_of_ble_eq_true rfl) (k_X11_isNumber hI (f_tok E (up2 v 1142 k 1)) u 0 3) ?_
              refine J_if_ne (tgt := 88) dX11_ofNumber_83 (by decide) (fun c7 => ?_) (fun c7 => ?_)
              · refine J_ve (w := (f_tok E (up2 v 1142 k 1))) (isNum_1 c7).1 ?_
                refine J_aload_n dX11_ofNumber_88 rfl 2 rfl ?_
                refine J_getr (ci := 11) (j := 40) (t := 1141) dX11_ofNumber_89 fl_X11_86 (i1100 hI) rfl rfl rfl ?_
                refine J_iconst (x := 4) dX11_ofNumber_92 (by decide) ?_
                refine J_iload_n dX11_ofNumber_93 rfl 3 rfl ?_
                refine J_iadd dX11_ofNumber_94 ?_
                refine J_aload_n dX11_ofNumber_95 rfl 2 rfl ?_
                refine J_gete (ci := 11) (j := 28) (x := (f_tok E (up2 v 1142 k 1)) 1100 28) dX11_ofNumber_96 fl_X11_158 (i1100 hI) rfl rfl rfl ?_
                refine J_iase (j := 4 + k) dX11_ofNumber_99 (i1141 hI) rfl (ix_in (j := 4 + k) (by show (nI 4) + (nI k) = _; simp only [nI_add, pk_mul]) (by omega) (by omega)) (ix_cl (j := 4 + k) (by show (nI 4) + (nI k) = _; simp only [nI_add, pk_mul]) (by omega)) ?_
                refine J_aload_n dX11_ofNumber_100 rfl 2 rfl ?_
                refine J_eVN (z := mX11_take) (As := []) (rest := []) (ci := 11) (w := (f_tok E (up2 (f_tok E (up2 v 1142 k 1)) 1141 (4 + k) ((f_tok E (up2 v 1142 k 1)) 1100 28)))) dX11_ofNumber_101 ml_X11_180 ok_X11_take iv_X11_take (by decide) (i1100 hI) rfl rfl rfl rfl (Nat.le_of_ble_eq_true rfl) (k2_take hI (up2 (f_tok E (up2 v 1142 k 1)) 1141 (4 + k) ((f_tok E (up2 v 1142 k 1)) 1100 28)) u E ((f_tok_ok ((h).up (k := 1142) (j := k) (x := 1) (by omega) (by omega))).up (k := 1141) (j := 4 + k) (x := (f_tok E (up2 v 1142 k 1)) 1100 28) (by omega) (by omega))) ?_
                refine J_iconst (x := 1) dX11_ofNumber_104 (by decide) ?_
                exact J_zret dX11_ofNumber_105 rfl (by decide) ⟨_, rfl, rfl, by unfold f_ofN; rw [if_pos c1, if_neg c2, if_neg c3, if_neg c4, if_neg c5, if_neg c6, if_neg c7], by unfold f_ofN; rw [if_pos c1, if_neg c2, if_neg c3, if_neg c4, if_neg c5, if_neg c6, if_neg c7]⟩
              · refine J_iconst (x := 0) dX11_ofNumber_86 (by decide) ?_
                exact J_zret dX11_ofNumber_87 rfl (by decide) ⟨_, rfl, rfl, by unfold f_ofN; rw [if_pos c1, if_neg c2, if_neg c3, if_neg c4, if_neg c5, if_neg c6, if_pos c7], by unfold f_ofN; rw [if_pos c1, if_neg c2, if_neg c3, if_neg c4, if_neg c5, if_neg c6, if_pos c7]⟩
            · refine J_bipush (x := 99) dX11_ofNumber_70 (by decide) ?_
              refine J_goto (tgt := 76) dX11_ofNumber_72 (by decide) ?_
              refine J_istore_n (lv' := [(3, .int 99), (2, .int 0), (0, .ref 1100), (1, .int (nI k))]) dX11_ofNumber_76 rfl (by decide) rfl ?_
              refine J_aload_n dX11_ofNumber_77 rfl 2 rfl ?_
              refine J_iload_n dX11_ofNumber_78 rfl 1 rfl ?_
              refine J_iload_n dX11_ofNumber_79 rfl 0 rfl ?_
              refine J_eVX (z := mX11_isNumber) (As := [.int 0, .int 99]) (rest := []) (ci := 11) (x := (f_X11_isNumber (f_tok E (up2 v 1142 k 1)) 0 99).1) (w := (f_X11_isNumber (f_tok E (up2 v 1142 k 1)) 0 99).2) dX11_ofNumber_80 ml_X11_173 ok_X11_isNumber iv_X11_isNumber (by decide) (i1100 hI) rfl rfl rfl rfl (Nat.le_of_ble_eq_true rfl) (k_X11_isNumber hI (f_tok E (up2 v 1142 k 1)) u 0 99) ?_
              refine J_if_ne (tgt := 88) dX11_ofNumber_83 (by decide) (fun c8 => ?_) (fun c8 => ?_)
              · refine J_ve (w := (f_tok E (up2 v 1142 k 1))) (isNum_1 c8).1 ?_
                refine J_aload_n dX11_ofNumber_88 rfl 2 rfl ?_
                refine J_getr (ci := 11) (j := 40) (t := 1141) dX11_ofNumber_89 fl_X11_86 (i1100 hI) rfl rfl rfl ?_
                refine J_iconst (x := 4) dX11_ofNumber_92 (by decide) ?_
                refine J_iload_n dX11_ofNumber_93 rfl 3 rfl ?_
                refine J_iadd dX11_ofNumber_94 ?_
                refine J_aload_n dX11_ofNumber_95 rfl 2 rfl ?_
                refine J_gete (ci := 11) (j := 28) (x := (f_tok E (up2 v 1142 k 1)) 1100 28) dX11_ofNumber_96 fl_X11_158 (i1100 hI) rfl rfl rfl ?_
                refine J_iase (j := 4 + k) dX11_ofNumber_99 (i1141 hI) rfl (ix_in (j := 4 + k) (by show (nI 4) + (nI k) = _; simp only [nI_add, pk_mul]) (by omega) (by omega)) (ix_cl (j := 4 + k) (by show (nI 4) + (nI k) = _; simp only [nI_add, pk_mul]) (by omega)) ?_
                refine J_aload_n dX11_ofNumber_100 rfl 2 rfl ?_
                refine J_eVN (z := mX11_take) (As := []) (rest := []) (ci := 11) (w := (f_tok E (up2 (f_tok E (up2 v 1142 k 1)) 1141 (4 + k) ((f_tok E (up2 v 1142 k 1)) 1100 28)))) dX11_ofNumber_101 ml_X11_180 ok_X11_take iv_X11_take (by decide) (i1100 hI) rfl rfl rfl rfl (Nat.le_of_ble_eq_true rfl) (k2_take hI (up2 (f_tok E (up2 v 1142 k 1)) 1141 (4 + k) ((f_tok E (up2 v 1142 k 1)) 1100 28)) u E ((f_tok_ok ((h).up (k := 1142) (j := k) (x := 1) (by omega) (by omega))).up (k := 1141) (j := 4 + k) (x := (f_tok E (up2 v 1142 k 1)) 1100 28) (by omega) (by omega))) ?_
                refine J_iconst (x := 1) dX11_ofNumber_104 (by decide) ?_
                exact J_zret dX11_ofNumber_105 rfl (by decide) ⟨_, rfl, rfl, by unfold f_ofN; rw [if_pos c1, if_neg c2, if_neg c3, if_neg c4, if_neg c5, if_pos c6, if_neg c8], by unfold f_ofN; rw [if_pos c1, if_neg c2, if_neg c3, if_neg c4, if_neg c5, if_pos c6, if_neg c8]⟩
              · refine J_iconst (x := 0) dX11_ofNumber_86 (by decide) ?_
                exact J_zret dX11_ofNumber_87 rfl (by decide) ⟨_, rfl, rfl, by unfold f_ofN; rw [if_pos c1, if_neg c2, if_neg c3, if_neg c4, if_neg c5, if_pos c6, if_pos c8], by unfold f_ofN; rw [if_pos c1, if_neg c2, if_neg c3, if_neg c4, if_neg c5, if_pos c6, if_pos c8]⟩
          · refine J_bipush (x := 9) dX11_ofNumber_60 (by decide) ?_
            refine J_goto (tgt := 76) dX11_ofNumber_62 (by decide) ?_
            refine J_istore_n (lv' := [(3, .int 9), (2, .int 0), (0, .ref 1100), (1, .int (nI k))]) dX11_ofNumber_76 rfl (by decide) rfl ?_
            refine J_aload_n dX11_ofNumber_77 rfl 2 rfl ?_
            refine J_iload_n dX11_ofNumber_78 rfl 1 rfl ?_
            refine J_iload_n dX11_ofNumber_79 rfl 0 rfl ?_
            refine J_eVX (z := mX11_isNumber) (As := [.int 0, .int 9]) (rest := []) (ci := 11) (x := (f_X11_isNumber (f_tok E (up2 v 1142 k 1)) 0 9).1) (w := (f_X11_isNumber (f_tok E (up2 v 1142 k 1)) 0 9).2) dX11_ofNumber_80 ml_X11_173 ok_X11_isNumber iv_X11_isNumber (by decide) (i1100 hI) rfl rfl rfl rfl (Nat.le_of_ble_eq_true rfl) (k_X11_isNumber hI (f_tok E (up2 v 1142 k 1)) u 0 9) ?_
            refine J_if_ne (tgt := 88) dX11_ofNumber_83 (by decide) (fun c9 => ?_) (fun c9 => ?_)
            · refine J_ve (w := (f_tok E (up2 v 1142 k 1))) (isNum_1 c9).1 ?_
              refine J_aload_n dX11_ofNumber_88 rfl 2 rfl ?_
              refine J_getr (ci := 11) (j := 40) (t := 1141) dX11_ofNumber_89 fl_X11_86 (i1100 hI) rfl rfl rfl ?_
              refine J_iconst (x := 4) dX11_ofNumber_92 (by decide) ?_
              refine J_iload_n dX11_ofNumber_93 rfl 3 rfl ?_
              refine J_iadd dX11_ofNumber_94 ?_
              refine J_aload_n dX11_ofNumber_95 rfl 2 rfl ?_
              refine J_gete (ci := 11) (j := 28) (x := (f_tok E (up2 v 1142 k 1)) 1100 28) dX11_ofNumber_96 fl_X11_158 (i1100 hI) rfl rfl rfl ?_
              refine J_iase (j := 4 + k) dX11_ofNumber_99 (i1141 hI) rfl (ix_in (j := 4 + k) (by show (nI 4) + (nI k) = _; simp only [nI_add, pk_mul]) (by omega) (by omega)) (ix_cl (j := 4 + k) (by show (nI 4) + (nI k) = _; simp only [nI_add, pk_mul]) (by omega)) ?_
              refine J_aload_n dX11_ofNumber_100 rfl 2 rfl ?_
              refine J_eVN (z := mX11_take) (As := []) (rest := []) (ci := 11) (w := (f_tok E (up2 (f_tok E (up2 v 1142 k 1)) 1141 (4 + k) ((f_tok E (up2 v 1142 k 1)) 1100 28)))) dX11_ofNumber_101 ml_X11_180 ok_X11_take iv_X11_take (by decide) (i1100 hI) rfl rfl rfl rfl (Nat.le_of_ble_eq_true rfl) (k2_take hI (up2 (f_tok E (up2 v 1142 k 1)) 1141 (4 + k) ((f_tok E (up2 v 1142 k 1)) 1100 28)) u E ((f_tok_ok ((h).up (k := 1142) (j := k) (x := 1) (by omega) (by omega))).up (k := 1141) (j := 4 + k) (x := (f_tok E (up2 v 1142 k 1)) 1100 28) (by omega) (by omega))) ?_
              refine J_iconst (x := 1) dX11_ofNumber_104 (by decide) ?_
              exact J_zret dX11_ofNumber_105 rfl (by decide) ⟨_, rfl, rfl, by unfold f_ofN; rw [if_pos c1, if_neg c2, if_neg c3, if_neg c4, if_pos c5, if_neg c9], by unfold f_ofN; rw [if_pos c1, if_neg c2, if_neg c3, if_neg c4, if_pos c5, if_neg c9]⟩
            · refine J_iconst (x := 0) dX11_ofNumber_86 (by decide) ?_
              exact J_zret dX11_ofNumber_87 rfl (by decide) ⟨_, rfl, rfl, by unfold f_ofN; rw [if_pos c1, if_neg c2, if_neg c3, if_neg c4, if_pos c5, if_pos c9], by unfold f_ofN; rw [if_pos c1, if_neg c2, if_neg c3, if_neg c4, if_pos c5, if_pos c9]⟩
        · refine J_bipush (x := 40) dX11_ofNumber_50 (by decide) ?_
          refine J_goto (tgt := 76) dX11_ofNumber_52 (by decide) ?_
          refine J_istore_n (lv' := [(3, .int 40), (2, .int 0), (0, .ref 1100), (1, .int (nI k))]) dX11_ofNumber_76 rfl (by decide) rfl ?_
          refine J_aload_n dX11_ofNumber_77 rfl 2 rfl ?_
          refine J_iload_n dX11_ofNumber_78 rfl 1 rfl ?_
          refine J_iload_n dX11_ofNumber_79 rfl 0 rfl ?_
          refine J_eVX (z := mX11_isNumber) (As := [.int 0, .int 40]) (rest := []) (ci := 11) (x := (f_X11_isNumber (f_tok E (up2 v 1142 k 1)) 0 40).1) (w := (f_X11_isNumber (f_tok E (up2 v 1142 k 1)) 0 40).2) dX11_ofNumber_80 ml_X11_173 ok_X11_isNumber iv_X11_isNumber (by decide) (i1100 hI) rfl rfl rfl rfl (Nat.le_of_ble_eq_true rfl) (k_X11_isNumber hI (f_tok E (up2 v 1142 k 1)) u 0 40) ?_
          refine J_if_ne (tgt := 88) dX11_ofNumber_83 (by decide) (fun c10 => ?_) (fun c10 => ?_)
          · refine J_ve (w := (f_tok E (up2 v 1142 k 1))) (isNum_1 c10).1 ?_
            refine J_aload_n dX11_ofNumber_88 rfl 2 rfl ?_
            refine J_getr (ci := 11) (j := 40) (t := 1141) dX11_ofNumber_89 fl_X11_86 (i1100 hI) rfl rfl rfl ?_
            refine J_iconst (x := 4) dX11_ofNumber_92 (by decide) ?_
            refine J_iload_n dX11_ofNumber_93 rfl 3 rfl ?_
            refine J_iadd dX11_ofNumber_94 ?_
            refine J_aload_n dX11_ofNumber_95 rfl 2 rfl ?_
            refine J_gete (ci := 11) (j := 28) (x := (f_tok E (up2 v 1142 k 1)) 1100 28) dX11_ofNumber_96 fl_X11_158 (i1100 hI) rfl rfl rfl ?_
            refine J_iase (j := 4 + k) dX11_ofNumber_99 (i1141 hI) rfl (ix_in (j := 4 + k) (by show (nI 4) + (nI k) = _; simp only [nI_add, pk_mul]) (by omega) (by omega)) (ix_cl (j := 4 + k) (by show (nI 4) + (nI k) = _; simp only [nI_add, pk_mul]) (by omega)) ?_
            refine J_aload_n dX11_ofNumber_100 rfl 2 rfl ?_
            refine J_eVN (z := mX11_take) (As := []) (rest := []) (ci := 11) (w := (f_tok E (up2 (f_tok E (up2 v 1142 k 1)) 1141 (4 + k) ((f_tok E (up2 v 1142 k 1)) 1100 28)))) dX11_ofNumber_101 ml_X11_180 ok_X11_take iv_X11_take (by decide) (i1100 hI) rfl rfl rfl rfl (Nat.le_of_ble_eq_true rfl) (k2_take hI (up2 (f_tok E (up2 v 1142 k 1)) 1141 (4 + k) ((f_tok E (up2 v 1142 k 1)) 1100 28)) u E ((f_tok_ok ((h).up (k := 1142) (j := k) (x := 1) (by omega) (by omega))).up (k := 1141) (j := 4 + k) (x := (f_tok E (up2 v 1142 k 1)) 1100 28) (by omega) (by omega))) ?_
            refine J_iconst (x := 1) dX11_ofNumber_104 (by decide) ?_
            exact J_zret dX11_ofNumber_105 rfl (by decide) ⟨_, rfl, rfl, by unfold f_ofN; rw [if_pos c1, if_neg c2, if_neg c3, if_pos c4, if_neg c10], by unfold f_ofN; rw [if_pos c1, if_neg c2, if_neg c3, if_pos c4, if_neg c10]⟩
          · refine J_iconst (x := 0) dX11_ofNumber_86 (by decide) ?_
            exact J_zret dX11_ofNumber_87 rfl (by decide) ⟨_, rfl, rfl, by unfold f_ofN; rw [if_pos c1, if_neg c2, if_neg c3, if_pos c4, if_pos c10], by unfold f_ofN; rw [if_pos c1, if_neg c2, if_neg c3, if_pos c4, if_pos c10]⟩
      · refine J_iconst (x := 1) dX11_ofNumber_40 (by decide) ?_
        refine J_goto (tgt := 45) dX11_ofNumber_41 (by decide) ?_
        refine J_istore_n (lv' := [(2, .int 1), (0, .ref 1100), (1, .int (nI k))]) dX11_ofNumber_45 rfl (by decide) rfl ?_
        refine J_iload_n dX11_ofNumber_46 rfl 2 rfl ?_
        refine J_if_ne (tgt := 55) dX11_ofNumber_47 (by decide) (fun c11 => ?_) (fun c11 => ?_)
        · refine J_iload_n dX11_ofNumber_55 rfl 2 rfl ?_
          refine J_iconst (x := 1) dX11_ofNumber_56 (by decide) ?_
          refine J_icmp_ne (tgt := 65) dX11_ofNumber_57 (by decide) (fun c12 => ?_) (fun c12 => ?_)
          · refine J_iload_n dX11_ofNumber_65 rfl 2 rfl ?_
            refine J_iconst (x := 2) dX11_ofNumber_66 (by decide) ?_
            refine J_icmp_ne (tgt := 75) dX11_ofNumber_67 (by decide) (fun c13 => ?_) (fun c13 => ?_)
            · refine J_iconst (x := 3) dX11_ofNumber_75 (by decide) ?_
              refine J_istore_n (lv' := [(3, .int 3), (2, .int 1), (0, .ref 1100), (1, .int (nI k))]) dX11_ofNumber_76 rfl (by decide) rfl ?_
              refine J_aload_n dX11_ofNumber_77 rfl 2 rfl ?_
              refine J_iload_n dX11_ofNumber_78 rfl 1 rfl ?_
              refine J_iload_n dX11_ofNumber_79 rfl 0 rfl ?_
              refine J_eVX (z := mX11_isNumber) (As := [.int 1, .int 3]) (rest := []) (ci := 11) (x := (f_X11_isNumber (f_tok E (up2 v 1142 k 1)) 1 3).1) (w := (f_X11_isNumber (f_tok E (up2 v 1142 k 1)) 1 3).2) dX11_ofNumber_80 ml_X11_173 ok_X11_isNumber iv_X11_isNumber (by decide) (i1100 hI) rfl rfl rfl rfl (Nat.le_of_ble_eq_true rfl) (k_X11_isNumber hI (f_tok E (up2 v 1142 k 1)) u 1 3) ?_
              refine J_if_ne (tgt := 88) dX11_ofNumber_83 (by decide) (fun c14 => ?_) (fun c14 => ?_)
              · refine J_ve (w := (f_tok E (up2 v 1142 k 1))) (isNum_1 c14).1 ?_
                refine J_aload_n dX11_ofNumber_88 rfl 2 rfl ?_
                refine J_getr (ci := 11) (j := 40) (t := 1141) dX11_ofNumber_89 fl_X11_86 (i1100 hI) rfl rfl rfl ?_
                refine J_iconst (x := 4) dX11_ofNumber_92 (by decide) ?_
                refine J_iload_n dX11_ofNumber_93 rfl 3 rfl ?_
                refine J_iadd dX11_ofNumber_94 ?_
                refine J_aload_n dX11_ofNumber_95 rfl 2 rfl ?_
                refine J_gete (ci := 11) (j := 28) (x := (f_tok E (up2 v 1142 k 1)) 1100 28) dX11_ofNumber_96 fl_X11_158 (i1100 hI) rfl rfl rfl ?_
                refine J_iase (j := 4 + k) dX11_ofNumber_99 (i1141 hI) rfl (ix_in (j := 4 + k) (by show (nI 4) + (nI k) = _; simp only [nI_add, pk_mul]) (by omega) (by omega)) (ix_cl (j := 4 + k) (by show (nI 4) + (nI k) = _; simp only [nI_add, pk_mul]) (by omega)) ?_
                refine J_aload_n dX11_ofNumber_100 rfl 2 rfl ?_
                refine J_eVN (z := mX11_take) (As := []) (rest := []) (ci := 11) (w := (f_tok E (up2 (f_tok E (up2 v 1142 k 1)) 1141 (4 + k) ((f_tok E (up2 v 1142 k 1)) 1100 28)))) dX11_ofNumber_101 ml_X11_180 ok_X11_take iv_X11_take (by decide) (i1100 hI) rfl rfl rfl rfl (Nat.le_of_ble_eq_true rfl) (k2_take hI (up2 (f_tok E (up2 v 1142 k 1)) 1141 (4 + k) ((f_tok E (up2 v 1142 k 1)) 1100 28)) u E ((f_tok_ok ((h).up (k := 1142) (j := k) (x := 1) (by omega) (by omega))).up (k := 1141) (j := 4 + k) (x := (f_tok E (up2 v 1142 k 1)) 1100 28) (by omega) (by omega))) ?_
                refine J_iconst (x := 1) dX11_ofNumber_104 (by decide) ?_
                exact J_zret dX11_ofNumber_105 rfl (by decide) ⟨_, rfl, rfl, by unfold f_ofN; rw [if_pos c1, if_neg c2, if_pos c3, if_neg c11, if_neg c12, if_neg c13, if_neg c14], by unfold f_ofN; rw [if_pos c1, if_neg c2, if_pos c3, if_neg c11, if_neg c12, if_neg c13, if_neg c14]⟩
              · refine J_iconst (x := 0) dX11_ofNumber_86 (by decide) ?_
                exact J_zret dX11_ofNumber_87 rfl (by decide) ⟨_, rfl, rfl, by unfold f_ofN; rw [if_pos c1, if_neg c2, if_pos c3, if_neg c11, if_neg c12, if_neg c13, if_pos c14], by unfold f_ofN; rw [if_pos c1, if_neg c2, if_pos c3, if_neg c11, if_neg c12, if_neg c13, if_pos c14]⟩
            · refine J_bipush (x := 99) dX11_ofNumber_70 (by decide) ?_
              refine J_goto (tgt := 76) dX11_ofNumber_72 (by decide) ?_
              refine J_istore_n (lv' := [(3, .int 99), (2, .int 1), (0, .ref 1100), (1, .int (nI k))]) dX11_ofNumber_76 rfl (by decide) rfl ?_
              refine J_aload_n dX11_ofNumber_77 rfl 2 rfl ?_
              refine J_iload_n dX11_ofNumber_78 rfl 1 rfl ?_
              refine J_iload_n dX11_ofNumber_79 rfl 0 rfl ?_
              refine J_eVX (z := mX11_isNumber) (As := [.int 1, .int 99]) (rest := []) (ci := 11) (x := (f_X11_isNumber (f_tok E (up2 v 1142 k 1)) 1 99).1) (w := (f_X11_isNumber (f_tok E (up2 v 1142 k 1)) 1 99).2) dX11_ofNumber_80 ml_X11_173 ok_X11_isNumber iv_X11_isNumber (by decide) (i1100 hI) rfl rfl rfl rfl (Nat.le_of_ble_eq_true rfl) (k_X11_isNumber hI (f_tok E (up2 v 1142 k 1)) u 1 99) ?_
              refine J_if_ne (tgt := 88) dX11_ofNumber_83 (by decide) (fun c15 => ?_) (fun c15 => ?_)
              · refine J_ve (w := (f_tok E (up2 v 1142 k 1))) (isNum_1 c15).1 ?_
                refine J_aload_n dX11_ofNumber_88 rfl 2 rfl ?_
                refine J_getr (ci := 11) (j := 40) (t := 1141) dX11_ofNumber_89 fl_X11_86 (i1100 hI) rfl rfl rfl ?_
                refine J_iconst (x := 4) dX11_ofNumber_92 (by decide) ?_
                refine J_iload_n dX11_ofNumber_93 rfl 3 rfl ?_
                refine J_iadd dX11_ofNumber_94 ?_
                refine J_aload_n dX11_ofNumber_95 rfl 2 rfl ?_
                refine J_gete (ci := 11) (j := 28) (x := (f_tok E (up2 v 1142 k 1)) 1100 28) dX11_ofNumber_96 fl_X11_158 (i1100 hI) rfl rfl rfl ?_
                refine J_iase (j := 4 + k) dX11_ofNumber_99 (i1141 hI) rfl (ix_in (j := 4 + k) (by show (nI 4) + (nI k) = _; simp only [nI_add, pk_mul]) (by omega) (by omega)) (ix_cl (j := 4 + k) (by show (nI 4) + (nI k) = _; simp only [nI_add, pk_mul]) (by omega)) ?_
                refine J_aload_n dX11_ofNumber_100 rfl 2 rfl ?_
                refine J_eVN (z := mX11_take) (As := []) (rest := []) (ci := 11) (w := (f_tok E (up2 (f_tok E (up2 v 1142 k 1)) 1141 (4 + k) ((f_tok E (up2 v 1142 k 1)) 1100 28)))) dX11_ofNumber_101 ml_X11_180 ok_X11_take iv_X11_take (by decide) (i1100 hI) rfl rfl rfl rfl (Nat.le_of_ble_eq_true rfl) (k2_take hI (up2 (f_tok E (up2 v 1142 k 1)) 1141 (4 + k) ((f_tok E (up2 v 1142 k 1)) 1100 28)) u E ((f_tok_ok ((h).up (k := 1142) (j := k) (x := 1) (by omega) (by omega))).up (k := 1141) (j := 4 + k) (x := (f_tok E (up2 v 1142 k 1)) 1100 28) (by omega) (by omega))) ?_
                refine J_iconst (x := 1) dX11_ofNumber_104 (by decide) ?_
                exact J_zret dX11_ofNumber_105 rfl (by decide) ⟨_, rfl, rfl, by unfold f_ofN; rw [if_pos c1, if_neg c2, if_pos c3, if_neg c11, if_neg c12, if_pos c13, if_neg c15], by unfold f_ofN; rw [if_pos c1, if_neg c2, if_pos c3, if_neg c11, if_neg c12, if_pos c13, if_neg c15]⟩
              · refine J_iconst (x := 0) dX11_ofNumber_86 (by decide) ?_
                exact J_zret dX11_ofNumber_87 rfl (by decide) ⟨_, rfl, rfl, by unfold f_ofN; rw [if_pos c1, if_neg c2, if_pos c3, if_neg c11, if_neg c12, if_pos c13, if_pos c15], by unfold f_ofN; rw [if_pos c1, if_neg c2, if_pos c3, if_neg c11, if_neg c12, if_pos c13, if_pos c15]⟩
          · refine J_bipush (x := 9) dX11_ofNumber_60 (by decide) ?_
            refine J_goto (tgt := 76) dX11_ofNumber_62 (by decide) ?_
            refine J_istore_n (lv' := [(3, .int 9), (2, .int 1), (0, .ref 1100), (1, .int (nI k))]) dX11_ofNumber_76 rfl (by decide) rfl ?_
            refine J_aload_n dX11_ofNumber_77 rfl 2 rfl ?_
            refine J_iload_n dX11_ofNumber_78 rfl 1 rfl ?_
            refine J_iload_n dX11_ofNumber_79 rfl 0 rfl ?_
            refine J_eVX (z := mX11_isNumber) (As := [.int 1, .int 9]) (rest := []) (ci := 11) (x := (f_X11_isNumber (f_tok E (up2 v 1142 k 1)) 1 9).1) (w := (f_X11_isNumber (f_tok E (up2 v 1142 k 1)) 1 9).2) dX11_ofNumber_80 ml_X11_173 ok_X11_isNumber iv_X11_isNumber (by decide) (i1100 hI) rfl rfl rfl rfl (Nat.le_of_ble_eq_true rfl) (k_X11_isNumber hI (f_tok E (up2 v 1142 k 1)) u 1 9) ?_
            refine J_if_ne (tgt := 88) dX11_ofNumber_83 (by decide) (fun c16 => ?_) (fun c16 => ?_)
            · refine J_ve (w := (f_tok E (up2 v 1142 k 1))) (isNum_1 c16).1 ?_
              refine J_aload_n dX11_ofNumber_88 rfl 2 rfl ?_
              refine J_getr (ci := 11) (j := 40) (t := 1141) dX11_ofNumber_89 fl_X11_86 (i1100 hI) rfl rfl rfl ?_
              refine J_iconst (x := 4) dX11_ofNumber_92 (by decide) ?_
              refine J_iload_n dX11_ofNumber_93 rfl 3 rfl ?_
              refine J_iadd dX11_ofNumber_94 ?_
              refine J_aload_n dX11_ofNumber_95 rfl 2 rfl ?_
              refine J_gete (ci := 11) (j := 28) (x := (f_tok E (up2 v 1142 k 1)) 1100 28) dX11_ofNumber_96 fl_X11_158 (i1100 hI) rfl rfl rfl ?_
              refine J_iase (j := 4 + k) dX11_ofNumber_99 (i1141 hI) rfl (ix_in (j := 4 + k) (by show (nI 4) + (nI k) = _; simp only [nI_add, pk_mul]) (by omega) (by omega)) (ix_cl (j := 4 + k) (by show (nI 4) + (nI k) = _; simp only [nI_add, pk_mul]) (by omega)) ?_
              refine J_aload_n dX11_ofNumber_100 rfl 2 rfl ?_
              refine J_eVN (z := mX11_take) (As := []) (rest := []) (ci := 11) (w := (f_tok E (up2 (f_tok E (up2 v 1142 k 1)) 1141 (4 + k) ((f_tok E (up2 v 1142 k 1)) 1100 28)))) dX11_ofNumber_101 ml_X11_180 ok_X11_take iv_X11_take (by decide) (i1100 hI) rfl rfl rfl rfl (Nat.le_of_ble_eq_true rfl) (k2_take hI (up2 (f_tok E (up2 v 1142 k 1)) 1141 (4 + k) ((f_tok E (up2 v 1142 k 1)) 1100 28)) u E ((f_tok_ok ((h).up (k := 1142) (j := k) (x := 1) (by omega) (by omega))).up (k := 1141) (j := 4 + k) (x := (f_tok E (up2 v 1142 k 1)) 1100 28) (by omega) (by omega))) ?_
              refine J_iconst (x := 1) dX11_ofNumber_104 (by decide) ?_
              exact J_zret dX11_ofNumber_105 rfl (by decide) ⟨_, rfl, rfl, by unfold f_ofN; rw [if_pos c1, if_neg c2, if_pos c3, if_neg c11, if_pos c12, if_neg c16], by unfold f_ofN; rw [if_pos c1, if_neg c2, if_pos c3, if_neg c11, if_pos c12, if_neg c16]⟩
            · refine J_iconst (x := 0) dX11_ofNumber_86 (by decide) ?_
              exact J_zret dX11_ofNumber_87 rfl (by decide) ⟨_, rfl, rfl, by unfold f_ofN; rw [if_pos c1, if_neg c2, if_pos c3, if_neg c11, if_pos c12, if_pos c16], by unfold f_ofN; rw [if_pos c1, if_neg c2, if_pos c3, if_neg c11, if_pos c12, if_pos c16]⟩
        · refine J_bipush (x := 40) dX11_ofNumber_50 (by decide) ?_
          refine J_goto (tgt := 76) dX11_ofNumber_52 (by decide) ?_
          refine J_istore_n (lv' := [(3, .int 40), (2, .int 1), (0, .ref 1100), (1, .int (nI k))]) dX11_ofNumber_76 rfl (by decide) rfl ?_
          refine J_aload_n dX11_ofNumber_77 rfl 2 rfl ?_
          refine J_iload_n dX11_ofNumber_78 rfl 1 rfl ?_
          refine J_iload_n dX11_ofNumber_79 rfl 0 rfl ?_
          refine J_eVX (z := mX11_isNumber) (As := [.int 1, .int 40]) (rest := []) (ci := 11) (x := (f_X11_isNumber (f_tok E (up2 v 1142 k 1)) 1 40).1) (w := (f_X11_isNumber (f_tok E (up2 v 1142 k 1)) 1 40).2) dX11_ofNumber_80 ml_X11_173 ok_X11_isNumber iv_X11_isNumber (by decide) (i1100 hI) rfl rfl rfl rfl (Nat.le_of_ble_eq_true rfl) (k_X11_isNumber hI (f_tok E (up2 v 1142 k 1)) u 1 40) ?_
          refine J_if_ne (tgt := 88) dX11_ofNumber_83 (by decide) (fun c17 => ?_) (fun c17 => ?_)
          · refine J_ve (w := (f_tok E (up2 v 1142 k 1))) (isNum_1 c17).1 ?_
            refine J_aload_n dX11_ofNumber_88 rfl 2 rfl ?_
            refine J_getr (ci := 11) (j := 40) (t := 1141) dX11_ofNumber_89 fl_X11_86 (i1100 hI) rfl rfl rfl ?_
            refine J_iconst (x := 4) dX11_ofNumber_92 (by decide) ?_
            refine J_iload_n dX11_ofNumber_93 rfl 3 rfl ?_
            refine J_iadd dX11_ofNumber_94 ?_
            refine J_aload_n dX11_ofNumber_95 rfl 2 rfl ?_
            refine J_gete (ci := 11) (j := 28) (x := (f_tok E (up2 v 1142 k 1)) 1100 28) dX11_ofNumber_96 fl_X11_158 (i1100 hI) rfl rfl rfl ?_
            refine J_iase (j := 4 + k) dX11_ofNumber_99 (i1141 hI) rfl (ix_in (j := 4 + k) (by show (nI 4) + (nI k) = _; simp only [nI_add, pk_mul]) (by omega) (by omega)) (ix_cl (j := 4 + k) (by show (nI 4) + (nI k) = _; simp only [nI_add, pk_mul]) (by omega)) ?_
            refine J_aload_n dX11_ofNumber_100 rfl 2 rfl ?_
            refine J_eVN (z := mX11_take) (As := []) (rest := []) (ci := 11) (w := (f_tok E (up2 (f_tok E (up2 v 1142 k 1)) 1141 (4 + k) ((f_tok E (up2 v 1142 k 1)) 1100 28)))) dX11_ofNumber_101 ml_X11_180 ok_X11_take iv_X11_take (by decide) (i1100 hI) rfl rfl rfl rfl (Nat.le_of_ble_eq_true rfl) (k2_take hI (up2 (f_tok E (up2 v 1142 k 1)) 1141 (4 + k) ((f_tok E (up2 v 1142 k 1)) 1100 28)) u E ((f_tok_ok ((h).up (k := 1142) (j := k) (x := 1) (by omega) (by omega))).up (k := 1141) (j := 4 + k) (x := (f_tok E (up2 v 1142 k 1)) 1100 28) (by omega) (by omega))) ?_
            refine J_iconst (x := 1) dX11_ofNumber_104 (by decide) ?_
            exact J_zret dX11_ofNumber_105 rfl (by decide) ⟨_, rfl, rfl, by unfold f_ofN; rw [if_pos c1, if_neg c2, if_pos c3, if_pos c11, if_neg c17], by unfold f_ofN; rw [if_pos c1, if_neg c2, if_pos c3, if_pos c11, if_neg c17]⟩
          · refine J_iconst (x := 0) dX11_ofNumber_86 (by decide) ?_
            exact J_zret dX11_ofNumber_87 rfl (by decide) ⟨_, rfl, rfl, by unfold f_ofN; rw [if_pos c1, if_neg c2, if_pos c3, if_pos c11, if_pos c17], by unfold f_ofN; rw [if_pos c1, if_neg c2, if_pos c3, if_pos c11, if_pos c17]⟩
    · refine J_iconst (x := 2) dX11_ofNumber_31 (by decide) ?_
      refine J_goto (tgt := 45) dX11_ofNumber_32 (by decide) ?_
      refine J_istore_n (lv' := [(2, .int 2), (0, .ref 1100), (1, .int (nI k))]) dX11_ofNumber_45 rfl (by decide) rfl ?_
      refine J_iload_n dX11_ofNumber_46 rfl 2 rfl ?_
      refine J_if_ne (tgt := 55) dX11_ofNumber_47 (by decide) (fun c18 => ?_) (fun c18 => ?_)
      · refine J_iload_n dX11_ofNumber_55 rfl 2 rfl ?_
        refine J_iconst (x := 1) dX11_ofNumber_56 (by decide) ?_
        refine J_icmp_ne (tgt := 65) dX11_ofNumber_57 (by decide) (fun c19 => ?_) (fun c19 => ?_)
        · refine J_iload_n dX11_ofNumber_65 rfl 2 rfl ?_
          refine J_iconst (x := 2) dX11_ofNumber_66 (by decide) ?_
          refine J_icmp_ne (tgt := 75) dX11_ofNumber_67 (by decide) (fun c20 => ?_) (fun c20 => ?_)
          · refine J_iconst (x := 3) dX11_ofNumber_75 (by decide) ?_
            refine J_istore_n (lv' := [(3, .int 3), (2, .int 2), (0, .ref 1100), (1, .int (nI k))]) dX11_ofNumber_76 rfl (by decide) rfl ?_
            refine J_aload_n dX11_ofNumber_77 rfl 2 rfl ?_
            refine J_iload_n dX11_ofNumber_78 rfl 1 rfl ?_
            refine J_iload_n dX11_ofNumber_79 rfl 0 rfl ?_
            refine J_eVX (z := mX11_isNumber) (As := [.int 2, .int 3]) (rest := []) (ci := 11) (x := (f_X11_isNumber (f_tok E (up2 v 1142 k 1)) 2 3).1) (w := (f_X11_isNumber (f_tok E (up2 v 1142 k 1)) 2 3).2) dX11_ofNumber_80 ml_X11_173 ok_X11_isNumber iv_X11_isNumber (by decide) (i1100 hI) rfl rfl rfl rfl (Nat.le_of_ble_eq_true rfl) (k_X11_isNumber hI (f_tok E (up2 v 1142 k 1)) u 2 3) ?_
            refine J_if_ne (tgt := 88) dX11_ofNumber_83 (by decide) (fun c21 => ?_) (fun c21 => ?_)
            · refine J_ve (w := (f_tok E (up2 v 1142 k 1))) (isNum_1 c21).1 ?_
              refine J_aload_n dX11_ofNumber_88 rfl 2 rfl ?_
              refine J_getr (ci := 11) (j := 40) (t := 1141) dX11_ofNumber_89 fl_X11_86 (i1100 hI) rfl rfl rfl ?_
              refine J_iconst (x := 4) dX11_ofNumber_92 (by decide) ?_
              refine J_iload_n dX11_ofNumber_93 rfl 3 rfl ?_
              refine J_iadd dX11_ofNumber_94 ?_
              refine J_aload_n dX11_ofNumber_95 rfl 2 rfl ?_
              refine J_gete (ci := 11) (j := 28) (x := (f_tok E (up2 v 1142 k 1)) 1100 28) dX11_ofNumber_96 fl_X11_158 (i1100 hI) rfl rfl rfl ?_
              refine J_iase (j := 4 + k) dX11_ofNumber_99 (i1141 hI) rfl (ix_in (j := 4 + k) (by show (nI 4) + (nI k) = _; simp only [nI_add, pk_mul]) (by omega) (by omega)) (ix_cl (j := 4 + k) (by show (nI 4) + (nI k) = _; simp only [nI_add, pk_mul]) (by omega)) ?_
              refine J_aload_n dX11_ofNumber_100 rfl 2 rfl ?_
              refine J_eVN (z := mX11_take) (As := []) (rest := []) (ci := 11) (w := (f_tok E (up2 (f_tok E (up2 v 1142 k 1)) 1141 (4 + k) ((f_tok E (up2 v 1142 k 1)) 1100 28)))) dX11_ofNumber_101 ml_X11_180 ok_X11_take iv_X11_take (by decide) (i1100 hI) rfl rfl rfl rfl (Nat.le_of_ble_eq_true rfl) (k2_take hI (up2 (f_tok E (up2 v 1142 k 1)) 1141 (4 + k) ((f_tok E (up2 v 1142 k 1)) 1100 28)) u E ((f_tok_ok ((h).up (k := 1142) (j := k) (x := 1) (by omega) (by omega))).up (k := 1141) (j := 4 + k) (x := (f_tok E (up2 v 1142 k 1)) 1100 28) (by omega) (by omega))) ?_
              refine J_iconst (x := 1) dX11_ofNumber_104 (by decide) ?_
              exact J_zret dX11_ofNumber_105 rfl (by decide) ⟨_, rfl, rfl, by unfold f_ofN; rw [if_pos c1, if_pos c2, if_neg c18, if_neg c19, if_neg c20, if_neg c21], by unfold f_ofN; rw [if_pos c1, if_pos c2, if_neg c18, if_neg c19, if_neg c20, if_neg c21]⟩
            · refine J_iconst (x := 0) dX11_ofNumber_86 (by decide) ?_
              exact J_zret dX11_ofNumber_87 rfl (by decide) ⟨_, rfl, rfl, by unfold f_ofN; rw [if_pos c1, if_pos c2, if_neg c18, if_neg c19, if_neg c20, if_pos c21], by unfold f_ofN; rw [if_pos c1, if_pos c2, if_neg c18, if_neg c19, if_neg c20, if_pos c21]⟩
          · refine J_bipush (x := 99) dX11_ofNumber_70 (by decide) ?_
            refine J_goto (tgt := 76) dX11_ofNumber_72 (by decide) ?_
            refine J_istore_n (lv' := [(3, .int 99), (2, .int 2), (0, .ref 1100), (1, .int (nI k))]) dX11_ofNumber_76 rfl (by decide) rfl ?_
            refine J_aload_n dX11_ofNumber_77 rfl 2 rfl ?_
            refine J_iload_n dX11_ofNumber_78 rfl 1 rfl ?_
            refine J_iload_n dX11_ofNumber_79 rfl 0 rfl ?_
            refine J_eVX (z := mX11_isNumber) (As := [.int 2, .int 99]) (rest := []) (ci := 11) (x := (f_X11_isNumber (f_tok E (up2 v 1142 k 1)) 2 99).1) (w := (f_X11_isNumber (f_tok E (up2 v 1142 k 1)) 2 99).2) dX11_ofNumber_80 ml_X11_173 ok_X11_isNumber iv_X11_isNumber (by decide) (i1100 hI) rfl rfl rfl rfl (Nat.le_of_ble_eq_true rfl) (k_X11_isNumber hI (f_tok E (up2 v 1142 k 1)) u 2 99) ?_
            refine J_if_ne (tgt := 88) dX11_ofNumber_83 (by decide) (fun c22 => ?_) (fun c22 => ?_)
            · refine J_ve (w := (f_tok E (up2 v 1142 k 1))) (isNum_1 c22).1 ?_
              refine J_aload_n dX11_ofNumber_88 rfl 2 rfl ?_
              refine J_getr (ci := 11) (j := 40) (t := 1141) dX11_ofNumber_89 fl_X11_86 (i1100 hI) rfl rfl rfl ?_
              refine J_iconst (x := 4) dX11_ofNumber_92 (by decide) ?_
              refine J_iload_n dX11_ofNumber_93 rfl 3 rfl ?_
              refine J_iadd dX11_ofNumber_94 ?_
              refine J_aload_n dX11_ofNumber_95 rfl 2 rfl ?_
              refine J_gete (ci := 11) (j := 28) (x := (f_tok E (up2 v 1142 k 1)) 1100 28) dX11_ofNumber_96 fl_X11_158 (i1100 hI) rfl rfl rfl ?_
              refine J_iase (j := 4 + k) dX11_ofNumber_99 (i1141 hI) rfl (ix_in (j := 4 + k) (by show (nI 4) + (nI k) = _; simp only [nI_add, pk_mul]) (by omega) (by omega)) (ix_cl (j := 4 + k) (by show (nI 4) + (nI k) = _; simp only [nI_add, pk_mul]) (by omega)) ?_
              refine J_aload_n dX11_ofNumber_100 rfl 2 rfl ?_
              refine J_eVN (z := mX11_take) (As := []) (rest := []) (ci := 11) (w := (f_tok E (up2 (f_tok E (up2 v 1142 k 1)) 1141 (4 + k) ((f_tok E (up2 v 1142 k 1)) 1100 28)))) dX11_ofNumber_101 ml_X11_180 ok_X11_take iv_X11_take (by decide) (i1100 hI) rfl rfl rfl rfl (Nat.le_of_ble_eq_true rfl) (k2_take hI (up2 (f_tok E (up2 v 1142 k 1)) 1141 (4 + k) ((f_tok E (up2 v 1142 k 1)) 1100 28)) u E ((f_tok_ok ((h).up (k := 1142) (j := k) (x := 1) (by omega) (by omega))).up (k := 1141) (j := 4 + k) (x := (f_tok E (up2 v 1142 k 1)) 1100 28) (by omega) (by omega))) ?_
              refine J_iconst (x := 1) dX11_ofNumber_104 (by decide) ?_
              exact J_zret dX11_ofNumber_105 rfl (by decide) ⟨_, rfl, rfl, by unfold f_ofN; rw [if_pos c1, if_pos c2, if_neg c18, if_neg c19, if_pos c20, if_neg c22], by unfold f_ofN; rw [if_pos c1, if_pos c2, if_neg c18, if_neg c19, if_pos c20, if_neg c22]⟩
            · refine J_iconst (x := 0) dX11_ofNumber_86 (by decide) ?_
              exact J_zret dX11_ofNumber_87 rfl (by decide) ⟨_, rfl, rfl, by unfold f_ofN; rw [if_pos c1, if_pos c2, if_neg c18, if_neg c19, if_pos c20, if_pos c22], by unfold f_ofN; rw [if_pos c1, if_pos c2, if_neg c18, if_neg c19, if_pos c20, if_pos c22]⟩
        · refine J_bipush (x := 9) dX11_ofNumber_60 (by decide) ?_
          refine J_goto (tgt := 76) dX11_ofNumber_62 (by decide) ?_
          refine J_istore_n (lv' := [(3, .int 9), (2, .int 2), (0, .ref 1100), (1, .int (nI k))]) dX11_ofNumber_76 rfl (by decide) rfl ?_
          refine J_aload_n dX11_ofNumber_77 rfl 2 rfl ?_
          refine J_iload_n dX11_ofNumber_78 rfl 1 rfl ?_
          refine J_iload_n dX11_ofNumber_79 rfl 0 rfl ?_
          refine J_eVX (z := mX11_isNumber) (As := [.int 2, .int 9]) (rest := []) (ci := 11) (x := (f_X11_isNumber (f_tok E (up2 v 1142 k 1)) 2 9).1) (w := (f_X11_isNumber (f_tok E (up2 v 1142 k 1)) 2 9).2) dX11_ofNumber_80 ml_X11_173 ok_X11_isNumber iv_X11_isNumber (by decide) (i1100 hI) rfl rfl rfl rfl (Nat.le_of_ble_eq_true rfl) (k_X11_isNumber hI (f_tok E (up2 v 1142 k 1)) u 2 9) ?_
          refine J_if_ne (tgt := 88) dX11_ofNumber_83 (by decide) (fun c23 => ?_) (fun c23 => ?_)
          · refine J_ve (w := (f_tok E (up2 v 1142 k 1))) (isNum_1 c23).1 ?_
            refine J_aload_n dX11_ofNumber_88 rfl 2 rfl ?_
            refine J_getr (ci := 11) (j := 40) (t := 1141) dX11_ofNumber_89 fl_X11_86 (i1100 hI) rfl rfl rfl ?_
            refine J_iconst (x := 4) dX11_ofNumber_92 (by decide) ?_
            refine J_iload_n dX11_ofNumber_93 rfl 3 rfl ?_
            refine J_iadd dX11_ofNumber_94 ?_
            refine J_aload_n dX11_ofNumber_95 rfl 2 rfl ?_
            refine J_gete (ci := 11) (j := 28) (x := (f_tok E (up2 v 1142 k 1)) 1100 28) dX11_ofNumber_96 fl_X11_158 (i1100 hI) rfl rfl rfl ?_
            refine J_iase (j := 4 + k) dX11_ofNumber_99 (i1141 hI) rfl (ix_in (j := 4 + k) (by show (nI 4) + (nI k) = _; simp only [nI_add, pk_mul]) (by omega) (by omega)) (ix_cl (j := 4 + k) (by show (nI 4) + (nI k) = _; simp only [nI_add, pk_mul]) (by omega)) ?_
            refine J_aload_n dX11_ofNumber_100 rfl 2 rfl ?_
            refine J_eVN (z := mX11_take) (As := []) (rest := []) (ci := 11) (w := (f_tok E (up2 (f_tok E (up2 v 1142 k 1)) 1141 (4 + k) ((f_tok E (up2 v 1142 k 1)) 1100 28)))) dX11_ofNumber_101 ml_X11_180 ok_X11_take iv_X11_take (by decide) (i1100 hI) rfl rfl rfl rfl (Nat.le_of_ble_eq_true rfl) (k2_take hI (up2 (f_tok E (up2 v 1142 k 1)) 1141 (4 + k) ((f_tok E (up2 v 1142 k 1)) 1100 28)) u E ((f_tok_ok ((h).up (k := 1142) (j := k) (x := 1) (by omega) (by omega))).up (k := 1141) (j := 4 + k) (x := (f_tok E (up2 v 1142 k 1)) 1100 28) (by omega) (by omega))) ?_
            refine J_iconst (x := 1) dX11_ofNumber_104 (by decide) ?_
            exact J_zret dX11_ofNumber_105 rfl (by decide) ⟨_, rfl, rfl, by unfold f_ofN; rw [if_pos c1, if_pos c2, if_neg c18, if_pos c19, if_neg c23], by unfold f_ofN; rw [if_pos c1, if_pos c2, if_neg c18, if_pos c19, if_neg c23]⟩
          · refine J_iconst (x := 0) dX11_ofNumber_86 (by decide) ?_
            exact J_zret dX11_ofNumber_87 rfl (by decide) ⟨_, rfl, rfl, by unfold f_ofN; rw [if_pos c1, if_pos c2, if_neg c18, if_pos c19, if_pos c23], by unfold f_ofN; rw [if_pos c1, if_pos c2, if_neg c18, if_pos c19, if_pos c23]⟩
      · refine J_bipush (x := 40) dX11_ofNumber_50 (by decide) ?_
        refine J_goto (tgt := 76) dX11_ofNumber_52 (by decide) ?_
        refine J_istore_n (lv' := [(3, .int 40), (2, .int 2), (0, .ref 1100), (1, .int (nI k))]) dX11_ofNumber_76 rfl (by decide) rfl ?_
        refine J_aload_n dX11_ofNumber_77 rfl 2 rfl ?_
        refine J_iload_n dX11_ofNumber_78 rfl 1 rfl ?_
        refine J_iload_n dX11_ofNumber_79 rfl 0 rfl ?_
        refine J_eVX (z := mX11_isNumber) (As := [.int 2, .int 40]) (rest := []) (ci := 11) (x := (f_X11_isNumber (f_tok E (up2 v 1142 k 1)) 2 40).1) (w := (f_X11_isNumber (f_tok E (up2 v 1142 k 1)) 2 40).2) dX11_ofNumber_80 ml_X11_173 ok_X11_isNumber iv_X11_isNumber (by decide) (i1100 hI) rfl rfl rfl rfl (Nat.le_of_ble_eq_true rfl) (k_X11_isNumber hI (f_tok E (up2 v 1142 k 1)) u 2 40) ?_
        refine J_if_ne (tgt := 88) dX11_ofNumber_83 (by decide) (fun c24 => ?_) (fun c24 => ?_)
        · refine J_ve (w := (f_tok E (up2 v 1142 k 1))) (isNum_1 c24).1 ?_
          refine J_aload_n dX11_ofNumber_88 rfl 2 rfl ?_
          refine J_getr (ci := 11) (j := 40) (t := 1141) dX11_ofNumber_89 fl_X11_86 (i1100 hI) rfl rfl rfl ?_
          refine J_iconst (x := 4) dX11_ofNumber_92 (by decide) ?_
          refine J_iload_n dX11_ofNumber_93 rfl 3 rfl ?_
          refine J_iadd dX11_ofNumber_94 ?_
          refine J_aload_n dX11_ofNumber_95 rfl 2 rfl ?_
          refine J_gete (ci := 11) (j := 28) (x := (f_tok E (up2 v 1142 k 1)) 1100 28) dX11_ofNumber_96 fl_X11_158 (i1100 hI) rfl rfl rfl ?_
          refine J_iase (j := 4 + k) dX11_ofNumber_99 (i1141 hI) rfl (ix_in (j := 4 + k) (by show (nI 4) + (nI k) = _; simp only [nI_add, pk_mul]) (by omega) (by omega)) (ix_cl (j := 4 + k) (by show (nI 4) + (nI k) = _; simp only [nI_add, pk_mul]) (by omega)) ?_
          refine J_aload_n dX11_ofNumber_100 rfl 2 rfl ?_
          refine J_eVN (z := mX11_take) (As := []) (rest := []) (ci := 11) (w := (f_tok E (up2 (f_tok E (up2 v 1142 k 1)) 1141 (4 + k) ((f_tok E (up2 v 1142 k 1)) 1100 28)))) dX11_ofNumber_101 ml_X11_180 ok_X11_take iv_X11_take (by decide) (i1100 hI) rfl rfl rfl rfl (Nat.le_of_ble_eq_true rfl) (k2_take hI (up2 (f_tok E (up2 v 1142 k 1)) 1141 (4 + k) ((f_tok E (up2 v 1142 k 1)) 1100 28)) u E ((f_tok_ok ((h).up (k := 1142) (j := k) (x := 1) (by omega) (by omega))).up (k := 1141) (j := 4 + k) (x := (f_tok E (up2 v 1142 k 1)) 1100 28) (by omega) (by omega))) ?_
          refine J_iconst (x := 1) dX11_ofNumber_104 (by decide) ?_
          exact J_zret dX11_ofNumber_105 rfl (by decide) ⟨_, rfl, rfl, by unfold f_ofN; rw [if_pos c1, if_pos c2, if_pos c18, if_neg c24], by unfold f_ofN; rw [if_pos c1, if_pos c2, if_pos c18, if_neg c24]⟩
        · refine J_iconst (x := 0) dX11_ofNumber_86 (by decide) ?_
          exact J_zret dX11_ofNumber_87 rfl (by decide) ⟨_, rfl, rfl, by unfold f_ofN; rw [if_pos c1, if_pos c2, if_pos c18, if_pos c24], by unfold f_ofN; rw [if_pos c1, if_pos c2, if_pos c18, if_pos c24]⟩
  · refine J_aload_n dX11_ofNumber_9 rfl 0 rfl ?_
    refine J_iconst (x := 3) dX11_ofNumber_10 (by decide) ?_
    refine J_eVX (z := mX11_wrong) (As := [.int 3]) (rest := []) (ci := 11) (x := 0) (w := (f_X11_wrong v 3).2) dX11_ofNumber_11 ml_X11_164 ok_X11_wrong iv_X11_wrong (by decide) (i1100 hI) rfl rfl rfl rfl (Nat.le_of_ble_eq_true rfl) (k_X11_wrong hI v u 3) ?_
    exact J_zret dX11_ofNumber_14 rfl (by decide) ⟨_, rfl, rfl, by unfold f_ofN; rw [if_neg c1], by unfold f_ofN; rw [if_neg c1]⟩
theorem f_ofN_ok {E : Nat} {v : fr_V} {k : Nat} (h : rdOK E v) : rdOK E (f_ofN E v k).2 := by
  unfold f_ofN
  by_cases g0 : (v 1142 k) = 0
  · rw [if_pos g0]
    by_cases g1 : (nI k) = 2
    · rw [if_pos g1]
      by_cases g2 : (nI k) = 0
      · rw [if_pos g2]
        by_cases g3 : ((f_X11_isNumber (f_tok E (up2 v 1142 k 1)) 2 40).1) = 0
        · rw [if_pos g3]
          dsimp only
          exact isNumber_ok (f_tok_ok ((h).up (k := 1142) (j := k) (x := 1) (by omega) (by omega)))
        · rw [if_neg g3]
          dsimp only
          exact f_tok_ok ((f_tok_ok ((h).up (k := 1142) (j := k) (x := 1) (by omega) (by omega))).up (k := 1141) (j := 4 + k) (x := (f_tok E (up2 v 1142 k 1)) 1100 28) (by omega) (by omega))
      · rw [if_neg g2]
        by_cases g3 : (nI k) = 1
        · rw [if_pos g3]
          by_cases g4 : ((f_X11_isNumber (f_tok E (up2 v 1142 k 1)) 2 9).1) = 0
          · rw [if_pos g4]
            dsimp only
            exact isNumber_ok (f_tok_ok ((h).up (k := 1142) (j := k) (x := 1) (by omega) (by omega)))
          · rw [if_neg g4]
            dsimp only
            exact f_tok_ok ((f_tok_ok ((h).up (k := 1142) (j := k) (x := 1) (by omega) (by omega))).up (k := 1141) (j := 4 + k) (x := (f_tok E (up2 v 1142 k 1)) 1100 28) (by omega) (by omega))
        · rw [if_neg g3]
          by_cases g4 : (nI k) = 2
          · rw [if_pos g4]
            by_cases g5 : ((f_X11_isNumber (f_tok E (up2 v 1142 k 1)) 2 99).1) = 0
            · rw [if_pos g5]
              dsimp only
              exact isNumber_ok (f_tok_ok ((h).up (k := 1142) (j := k) (x := 1) (by omega) (by omega)))
            · rw [if_neg g5]
              dsimp only
              exact f_tok_ok ((f_tok_ok ((h).up (k := 1142) (j := k) (x := 1) (by omega) (by omega))).up (k := 1141) (j := 4 + k) (x := (f_tok E (up2 v 1142 k 1)) 1100 28) (by omega) (by omega))
          · rw [if_neg g4]
            by_cases g5 : ((f_X11_isNumber (f_tok E (up2 v 1142 k 1)) 2 3).1) = 0
            · rw [if_pos g5]
              dsimp only
              exact isNumber_ok (f_tok_ok ((h).up (k := 1142) (j := k) (x := 1) (by omega) (by omega)))
            · rw [if_neg g5]
              dsimp only
              exact f_tok_ok ((f_tok_ok ((h).up (k := 1142) (j := k) (x := 1) (by omega) (by omega))).up (k := 1141) (j := 4 + k) (x := (f_tok E (up2 v 1142 k 1)) 1100 28) (by omega) (by omega))
    · rw [if_neg g1]
      by_cases g2 : (nI k) = 3
      · rw [if_pos g2]
        by_cases g3 : (nI k) = 0
        · rw [if_pos g3]
          by_cases g4 : ((f_X11_isNumber (f_tok E (up2 v 1142 k 1)) 1 40).1) = 0
          · rw [if_pos g4]
            dsimp only
            exact isNumber_ok (f_tok_ok ((h).up (k := 1142) (j := k) (x := 1) (by omega) (by omega)))
          · rw [if_neg g4]
            dsimp only
            exact f_tok_ok ((f_tok_ok ((h).up (k := 1142) (j := k) (x := 1) (by omega) (by omega))).up (k := 1141) (j := 4 + k) (x := (f_tok E (up2 v 1142 k 1)) 1100 28) (by omega) (by omega))
        · rw [if_neg g3]
          by_cases g4 : (nI k) = 1
          · rw [if_pos g4]
            by_cases g5 : ((f_X11_isNumber (f_tok E (up2 v 1142 k 1)) 1 9).1) = 0
            · rw [if_pos g5]
              dsimp only
              exact isNumber_ok (f_tok_ok ((h).up (k := 1142) (j := k) (x := 1) (by omega) (by omega)))
            · rw [if_neg g5]
              dsimp only
              exact f_tok_ok ((f_tok_ok ((h).up (k := 1142) (j := k) (x := 1) (by omega) (by omega))).up (k := 1141) (j := 4 + k) (x := (f_tok E (up2 v 1142 k 1)) 1100 28) (by omega) (by omega))
          · rw [if_neg g4]
            by_cases g5 : (nI k) = 2
            · rw [if_pos g5]
              by_cases g6 : ((f_X11_isNumber (f_tok E (up2 v 1142 k 1)) 1 99).1) = 0
              · rw [if_pos g6]
                dsimp only
                exact isNumber_ok (f_tok_ok ((h).up (k := 1142) (j := k) (x := 1) (by omega) (by omega)))
              · rw [if_neg g6]
                dsimp only
                exact f_tok_ok ((f_tok_ok ((h).up (k := 1142) (j := k) (x := 1) (by omega) (by omega))).up (k := 1141) (j := 4 + k) (x := (f_tok E (up2 v 1142 k 1)) 1100 28) (by omega) (by omega))
            · rw [if_neg g5]
              by_cases g6 : ((f_X11_isNumber (f_tok E (up2 v 1142 k 1)) 1 3).1) = 0
              · rw [if_pos g6]
                dsimp only
                exact isNumber_ok (f_tok_ok ((h).up (k := 1142) (j := k) (x := 1) (by omega) (by omega)))
              · rw [if_neg g6]
                dsimp only
                exact f_tok_ok ((f_tok_ok ((h).up (k := 1142) (j := k) (x := 1) (by omega) (by omega))).up (k := 1141) (j := 4 + k) (x := (f_tok E (up2 v 1142 k 1)) 1100 28) (by omega) (by omega))
      · rw [if_neg g2]
        by_cases g3 : (nI k) = 0
        · rw [if_pos g3]
          by_cases g4 : ((f_X11_isNumber (f_tok E (up2 v 1142 k 1)) 0 40).1) = 0
          · rw [if_pos g4]
            dsimp only
            exact isNumber_ok (f_tok_ok ((h).up (k := 1142) (j := k) (x := 1) (by omega) (by omega)))
          · rw [if_neg g4]
            dsimp only
            exact f_tok_ok ((f_tok_ok ((h).up (k := 1142) (j := k) (x := 1) (by omega) (by omega))).up (k := 1141) (j := 4 + k) (x := (f_tok E (up2 v 1142 k 1)) 1100 28) (by omega) (by omega))
        · rw [if_neg g3]
          by_cases g4 : (nI k) = 1
          · rw [if_pos g4]
            by_cases g5 : ((f_X11_isNumber (f_tok E (up2 v 1142 k 1)) 0 9).1) = 0
            · rw [if_pos g5]
              dsimp only
              exact isNumber_ok (f_tok_ok ((h).up (k := 1142) (j := k) (x := 1) (by omega) (by omega)))
            · rw [if_neg g5]
              dsimp only
              exact f_tok_ok ((f_tok_ok ((h).up (k := 1142) (j := k) (x := 1) (by omega) (by omega))).up (k := 1141) (j := 4 + k) (x := (f_tok E (up2 v 1142 k 1)) 1100 28) (by omega) (by omega))
          · rw [if_neg g4]
            by_cases g5 : (nI k) = 2
            · rw [if_pos g5]
              by_cases g6 : ((f_X11_isNumber (f_tok E (up2 v 1142 k 1)) 0 99).1) = 0
              · rw [if_pos g6]
                dsimp only
                exact isNumber_ok (f_tok_ok ((h).up (k := 1142) (j := k) (x := 1) (by omega) (by omega)))
              · rw [if_neg g6]
                dsimp only
                exact f_tok_ok ((f_tok_ok ((h).up (k := 1142) (j := k) (x := 1) (by omega) (by omega))).up (k := 1141) (j := 4 + k) (x := (f_tok E (up2 v 1142 k 1)) 1100 28) (by omega) (by omega))
            · rw [if_neg g5]
              by_cases g6 : ((f_X11_isNumber (f_tok E (up2 v 1142 k 1)) 0 3).1) = 0
              · rw [if_pos g6]
                dsimp only
                exact isNumber_ok (f_tok_ok ((h).up (k := 1142) (j := k) (x := 1) (by omega) (by omega)))
              · rw [if_neg g6]
                dsimp only
                exact f_tok_ok ((f_tok_ok ((h).up (k := 1142) (j := k) (x := 1) (by omega) (by omega))).up (k := 1141) (j := 4 + k) (x := (f_tok E (up2 v 1142 k 1)) 1100 28) (by omega) (by omega))
  · rw [if_neg g0]
    dsimp only
    exact wrong_ok (h)
