theorem up2_up2 (v : fr_V) (k i : Nat) (x y : Int32) : up2 (up2 v k i x) k i y = up2 v k i y := by
  funext a b
  by_cases h : a = k
  · subst h; by_cases h2 : b = i
    · simp [up2, upd, h2]
    · simp [up2, upd, h2]
  · simp [up2, h]
theorem up2_id {v : fr_V} {k i : Nat} {x : Int32} (h : v k i = x) : up2 v k i x = v := by
  funext a b
  by_cases hk : a = k
  · subst hk; by_cases h2 : b = i
    · simp [up2, upd, h2, h]
    · simp [up2, upd, h2]
  · simp [up2, hk]
/-- the first place from E - d on, before E, where P doesn't hold -/
noncomputable def sc (P : Nat → Prop) (E : Nat) : Nat → Nat
  | 0 => E
  | d + 1 => @ite Nat (P (E - (d + 1))) (Classical.propDecidable _) (sc P E d) (E - (d + 1))
theorem sc_p {P : Nat → Prop} {E d : Nat} (h : P (E - (d + 1))) : sc P E (d + 1) = sc P E d := if_pos h
theorem sc_n {P : Nat → Prop} {E d : Nat} (h : ¬ P (E - (d + 1))) : sc P E (d + 1) = E - (d + 1) := if_neg h
theorem sc_le (P : Nat → Prop) (E : Nat) : ∀ d, d ≤ E → E - d ≤ sc P E d ∧ sc P E d ≤ E := by
  intro d
  induction d with
  | zero => intro _; exact ⟨Nat.le_refl _, Nat.le_refl _⟩
  | succ d ih =>
    intro h
    by_cases hp : P (E - (d + 1))
    · rw [sc_p hp]; have := ih (by omega); omega
    · rw [sc_n hp]; omega
def isBl (W : Nat → Int32) (p : Nat) : Prop := W p = 10 ∨ W p = 32
def isLt (W : Nat → Int32) (p : Nat) : Prop := ¬ W p < 97 ∧ ¬ 122 < W p
def isDg (W : Nat → Int32) (p : Nat) : Prop := ¬ W p < 48 ∧ ¬ 57 < W p
theorem tk_A {l : Launch} {I : List Nat} (hI : fr_I I) (v : fr_V) (u : fr_U) (E : Nat) (hE : E ≤ 500) (hE0 : v 1100 25 = nI E) {Q : Option Value → fr_V → fr_U → Prop} : ∀ (d p : Nat) (hk : J l mX11_take I (up2 v 1100 26 (nI (sc (isBl (v 1101)) E d))) u 52 [(0, .ref 1100)] [] Q) (hp : d + p = E), J l mX11_take I (up2 v 1100 26 (nI p)) u 0 [(0, .ref 1100)] [] Q := by
  intro d
  induction d with
  | zero =>
    intro p hk hp
    have e : E = p := by omega
    subst e
    refine J_aload_n dX11_take_0 rfl 0 rfl ?_
    refine J_gete (ci := 11) (j := 26) (x := nI E) dX11_take_1 fl_X11_144 (i1100 hI) rfl rfl rfl ?_
    refine J_aload_n dX11_take_4 rfl 0 rfl ?_
    refine J_gete (ci := 11) (j := 25) (x := nI E) dX11_take_5 fl_X11_141 (i1100 hI) rfl rfl hE0 ?_
    refine J_icmp_ge (tgt := 52) dX11_take_8 (by decide) (fun c1 => ?_) (fun c1 => absurd (nI_le (Nat.le_refl _) (by omega)) c1)
    refine J_lv [0] rfl ?_
    exact hk
  | succ d ih =>
    intro p hk hp
    have hpd : p = E - (d + 1) := by omega
    refine J_aload_n dX11_take_0 rfl 0 rfl ?_
    refine J_gete (ci := 11) (j := 26) (x := nI p) dX11_take_1 fl_X11_144 (i1100 hI) rfl rfl rfl ?_
    refine J_aload_n dX11_take_4 rfl 0 rfl ?_
    refine J_gete (ci := 11) (j := 25) (x := nI E) dX11_take_5 fl_X11_141 (i1100 hI) rfl rfl hE0 ?_
    refine J_icmp_ge (tgt := 52) dX11_take_8 (by decide) (fun c1 => absurd c1 (nI_ge (a := p) (b := E) (by omega) (by omega))) (fun c1 => ?_)
    refine J_aload_n dX11_take_11 rfl 0 rfl ?_
    refine J_getr (ci := 11) (j := 0) (t := 1101) dX11_take_12 fl_X11_7 (i1100 hI) rfl rfl rfl ?_
    refine J_aload_n dX11_take_15 rfl 0 rfl ?_
    refine J_gete (ci := 11) (j := 26) (x := nI p) dX11_take_16 fl_X11_144 (i1100 hI) rfl rfl rfl ?_
    refine J_iale (x := v 1101 p) dX11_take_19 (i1101 hI) rfl (ix_in (j := p) rfl (by omega) (by omega)) ((congrArg _ (ix_cl (j := p) rfl (by omega))).trans rfl) ?_
    refine J_bipush (x := 10) dX11_take_20 (by decide) ?_
    refine J_icmp_eq (tgt := 39) dX11_take_22 (by decide) (fun c2 => ?_) (fun c2 => ?_)
    · refine J_aload_n dX11_take_39 rfl 0 rfl ?_
      refine J_dup dX11_take_40 rfl ?_
      refine J_gete (ci := 11) (j := 26) (x := nI p) dX11_take_41 fl_X11_144 (i1100 hI) rfl rfl rfl ?_
      refine J_iconst (x := 1) dX11_take_44 (by decide) ?_
      refine J_iadd dX11_take_45 ?_
      refine J_puti (ci := 11) (j := 26) dX11_take_46 fl_X11_144 (i1100 hI) rfl rfl (fun q h => by cases h; rfl) rfl ?_
      refine J_goto (tgt := 0) dX11_take_49 (by decide) ?_
      rw [up2_up2, nI_1]
      refine J_lv [0] rfl ?_
      refine ih (p + 1) ?_ (by omega)
      rw [sc_p (by rw [← hpd]; unfold isBl; simp [c2])] at hk
      exact hk
    · refine J_aload_n dX11_take_25 rfl 0 rfl ?_
      refine J_getr (ci := 11) (j := 0) (t := 1101) dX11_take_26 fl_X11_7 (i1100 hI) rfl rfl rfl ?_
      refine J_aload_n dX11_take_29 rfl 0 rfl ?_
      refine J_gete (ci := 11) (j := 26) (x := nI p) dX11_take_30 fl_X11_144 (i1100 hI) rfl rfl rfl ?_
      refine J_iale (x := v 1101 p) dX11_take_33 (i1101 hI) rfl (ix_in (j := p) rfl (by omega) (by omega)) ((congrArg _ (ix_cl (j := p) rfl (by omega))).trans rfl) ?_
      refine J_bipush (x := 32) dX11_take_34 (by decide) ?_
      refine J_icmp_ne (tgt := 52) dX11_take_36 (by decide) (fun c3 => ?_) (fun c3 => ?_)
      · refine J_lv [0] rfl ?_
        rw [sc_n (by rw [← hpd]; unfold isBl; simp [c2, c3]), ← hpd] at hk
        exact hk
      · refine J_aload_n dX11_take_39 rfl 0 rfl ?_
        refine J_dup dX11_take_40 rfl ?_
        refine J_gete (ci := 11) (j := 26) (x := nI p) dX11_take_41 fl_X11_144 (i1100 hI) rfl rfl rfl ?_
        refine J_iconst (x := 1) dX11_take_44 (by decide) ?_
        refine J_iadd dX11_take_45 ?_
        refine J_puti (ci := 11) (j := 26) dX11_take_46 fl_X11_144 (i1100 hI) rfl rfl (fun q h => by cases h; rfl) rfl ?_
        refine J_goto (tgt := 0) dX11_take_49 (by decide) ?_
        rw [up2_up2, nI_1]
        refine J_lv [0] rfl ?_
        refine ih (p + 1) ?_ (by omega)
        rw [sc_p (by rw [← hpd]; unfold isBl; simp [c2, c3])] at hk
        exact hk
theorem sm_iff {v : fr_V} {E p : Nat} (hE0 : v 1100 25 = nI E) (hE : E ≤ 500) (hp : p ≤ E) : (f_X11_isSmall v (nI p) = 0 ↔ (p = E ∨ ¬ isLt (v 1101) p)) := by
  unfold f_X11_isSmall isLt
  rw [hE0]
  by_cases h : p = E
  · subst h
    rw [if_pos (nI_le (Nat.le_refl _) (by omega))]
    exact ⟨fun _ => Or.inl rfl, fun _ => rfl⟩
  · rw [if_neg (nI_ge (a := p) (b := E) (by omega) (by omega)), nI_clamp (by omega)]
    by_cases h1 : v 1101 p < 97
    · rw [if_pos h1]; exact ⟨fun _ => Or.inr (fun q => q.1 h1), fun _ => rfl⟩
    · rw [if_neg h1]
      by_cases h2 : 122 < v 1101 p
      · rw [if_pos h2]; exact ⟨fun _ => Or.inr (fun q => q.2 h2), fun _ => rfl⟩
      · rw [if_neg h2]; exact ⟨fun q => absurd q (by decide), fun q => q.elim (fun e => absurd e h) (fun e => absurd ⟨h1, h2⟩ e)⟩
theorem dg_iff {v : fr_V} {E p : Nat} (hE0 : v 1100 25 = nI E) (hE : E ≤ 500) (hp : p ≤ E) : (f_X11_isDigit v (nI p) = 0 ↔ (p = E ∨ ¬ isDg (v 1101) p)) := by
  unfold f_X11_isDigit isDg
  rw [hE0]
  by_cases h : p = E
  · subst h
    rw [if_pos (nI_le (Nat.le_refl _) (by omega))]
    exact ⟨fun _ => Or.inl rfl, fun _ => rfl⟩
  · rw [if_neg (nI_ge (a := p) (b := E) (by omega) (by omega)), nI_clamp (by omega)]
    by_cases h1 : v 1101 p < 48
    · rw [if_pos h1]; exact ⟨fun _ => Or.inr (fun q => q.1 h1), fun _ => rfl⟩
    · rw [if_neg h1]
      by_cases h2 : 57 < v 1101 p
      · rw [if_pos h2]; exact ⟨fun _ => Or.inr (fun q => q.2 h2), fun _ => rfl⟩
      · rw [if_neg h2]; exact ⟨fun q => absurd q (by decide), fun q => q.elim (fun e => absurd e h) (fun e => absurd ⟨h1, h2⟩ e)⟩
theorem tk_B {l : Launch} {I : List Nat} (hI : fr_I I) (v : fr_V) (u : fr_U) (E : Nat) (hE : E ≤ 500) (hE0 : v 1100 25 = nI E) {Q : Option Value → fr_V → fr_U → Prop} : ∀ (d p : Nat) (hk : J l mX11_take I (up2 v 1100 26 (nI (sc (isLt (v 1101)) E d))) u 114 [(0, .ref 1100)] [] Q) (hp : d + p = E), J l mX11_take I (up2 v 1100 26 (nI p)) u 90 [(0, .ref 1100)] [] Q := by
  intro d
  induction d with
  | zero =>
    intro p hk hp
    have e : E = p := by omega
    subst e
    refine J_aload_n dX11_take_90 rfl 0 rfl ?_
    refine J_aload_n dX11_take_91 rfl 0 rfl ?_
    refine J_gete (ci := 11) (j := 26) (x := nI E) dX11_take_92 fl_X11_144 (i1100 hI) rfl rfl rfl ?_
    refine J_eVI (z := mX11_isSmall) (As := [.int (nI E)]) (rest := []) (ci := 11) (x := f_X11_isSmall (up2 v 1100 26 (nI E)) (nI E)) dX11_take_95 ml_X11_150 ok_X11_isSmall iv_X11_isSmall (by decide) (i1100 hI) rfl rfl rfl rfl (Nat.le_of_ble_eq_true rfl) (k_X11_isSmall hI (up2 v 1100 26 (nI E)) u _ (fun h => vp_in_nI (by have q9 : ¬ v 1100 25 ≤ nI E := h; rw [hE0] at q9; have := nz_nle (by omega) (by omega) q9; omega) (by omega))) ?_
    refine J_if_eq (tgt := 114) dX11_take_98 (by decide) (fun c1 => ?_) (fun c1 => absurd ((sm_iff (v := up2 v 1100 26 (nI E)) (E := E) hE0 hE (by omega)).mpr (Or.inl rfl)) c1)
    refine J_lv [0] rfl ?_
    exact hk
  | succ d ih =>
    intro p hk hp
    have hpd : p = E - (d + 1) := by omega
    refine J_aload_n dX11_take_90 rfl 0 rfl ?_
    refine J_aload_n dX11_take_91 rfl 0 rfl ?_
    refine J_gete (ci := 11) (j := 26) (x := nI p) dX11_take_92 fl_X11_144 (i1100 hI) rfl rfl rfl ?_
    refine J_eVI (z := mX11_isSmall) (As := [.int (nI p)]) (rest := []) (ci := 11) (x := f_X11_isSmall (up2 v 1100 26 (nI p)) (nI p)) dX11_take_95 ml_X11_150 ok_X11_isSmall iv_X11_isSmall (by decide) (i1100 hI) rfl rfl rfl rfl (Nat.le_of_ble_eq_true rfl) (k_X11_isSmall hI (up2 v 1100 26 (nI p)) u _ (fun h => vp_in_nI (by have q9 : ¬ v 1100 25 ≤ nI p := h; rw [hE0] at q9; have := nz_nle (by omega) (by omega) q9; omega) (by omega))) ?_
    refine J_if_eq (tgt := 114) dX11_take_98 (by decide) (fun c1 => ?_) (fun c1 => ?_)
    · refine J_lv [0] rfl ?_
      have hl : ¬ isLt (v 1101) p := ((sm_iff (v := up2 v 1100 26 (nI p)) (E := E) hE0 hE (by omega)).mp c1).elim (fun e => by omega) id
      rw [sc_n (by rw [← hpd]; exact hl), ← hpd] at hk
      exact hk
    · refine J_aload_n dX11_take_101 rfl 0 rfl ?_
      refine J_dup dX11_take_102 rfl ?_
      refine J_gete (ci := 11) (j := 26) (x := nI p) dX11_take_103 fl_X11_144 (i1100 hI) rfl rfl rfl ?_
      refine J_iconst (x := 1) dX11_take_106 (by decide) ?_
      refine J_iadd dX11_take_107 ?_
      refine J_puti (ci := 11) (j := 26) dX11_take_108 fl_X11_144 (i1100 hI) rfl rfl (fun q h => by cases h; rfl) rfl ?_
      refine J_goto (tgt := 90) dX11_take_111 (by decide) ?_
      rw [up2_up2, nI_1]
      refine J_lv [0] rfl ?_
      have hl : isLt (v 1101) p := Classical.byContradiction (fun q => c1 ((sm_iff (v := up2 v 1100 26 (nI p)) (E := E) hE0 hE (by omega)).mpr (Or.inr q)))
      refine ih (p + 1) ?_ (by omega)
      rw [sc_p (by rw [← hpd]; exact hl)] at hk
      exact hk
