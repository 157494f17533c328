def fw2 (v z : fr_V) : Prop := ∀ c, c ≠ 900 → c ≠ 906 → c ≠ 907 → z c = v c
theorem g10_lt (x : Int32) : g10 x < 10 := by
  unfold g10
  exact Nat.not_le.mp fun q => grp10_in _ x (Or.inr q)
def wo8 (v : fr_V) (n c k : Nat) (x4 x5 : Int32) (p : Nat) : Int32 := sp_wo (yb8 x5) (fun a => f_live v n c (g10 (nI a)) (nI k) x4) (nI p) 100 0
def bo8 (v : fr_V) (n c1 c2 k : Nat) (x4 x5 : Int32) (p q : Nat) : Int32 := sp_bo (yb8 x5) (fun t => f_live v n c1 (g10 (nI p + nI t)) (nI k) x4) (fun t => f_live v n c2 (g10 (nI q + nI t)) (nI k) x4) (100 - max p q) 0
def f_w8 (v : fr_V) (n c1 c2 k : Nat) (x2 x4 x5 : Int32) (p q : Nat) : Int32 := if x2 = (-1) then wo8 v n c1 k x4 x5 p else wo8 v n c1 k x4 x5 p + wo8 v n c2 k x4 x5 q - bo8 v n c1 c2 k x4 x5 p q
theorem k_wo1 {l : Launch} {I : List Nat} (hI : fr_I I) (z : fr_V) (u : fr_U) (v : fr_V) (rw n c k p : Nat) (x4 x5 : Int32) (hrw : rw = 906 ∨ rw = 907) (h1 : ¬ x5 + 1 = 0) (hp : p < 1000) (hz : ∀ g, g < 10 → z rw g = f_live v n c g (nI k) x4) : Con l nX8_worthOnOne I z u [.int (nI p), .ref rw, .int x5] (QI z u (fun a => a = wo8 v n c k x4 x5 p)) := by
  refine (k_X8_worthOnOne hI z u rw (nI p) x5 hrw h1 (nI_pos (by omega))).mono (fun q w y h => ?_)
  have e : (fun a => z rw (g10 (nI a))) = (fun a => f_live v n c (g10 (nI a)) (nI k) x4) := funext fun a => hz _ (g10_lt _)
  rw [e] at h
  exact h
theorem k_bo1 {l : Launch} {I : List Nat} (hI : fr_I I) (z : fr_V) (u : fr_U) (v : fr_V) (n c1 c2 k p q : Nat) (x4 x5 : Int32) (h1 : ¬ x5 + 1 = 0) (hp : p < 1000) (hq : q < 1000) (hz : ∀ g, g < 10 → z 906 g = f_live v n c1 g (nI k) x4) (hz2 : ∀ g, g < 10 → z 907 g = f_live v n c2 g (nI k) x4) : Con l nX8_worthTillFirst I z u [.ref 900, .int (nI p), .int (nI q), .int x5] (QI z u (fun a => a = bo8 v n c1 c2 k x4 x5 p q)) := by
  refine (k_X8_worthTillFirst hI z u p q x5 h1 hp hq).mono (fun q0 w y h => ?_)
  have e : (fun t => z 906 (g10 (nI p + nI t))) = (fun t => f_live v n c1 (g10 (nI p + nI t)) (nI k) x4) := funext fun a => hz _ (g10_lt _)
  have e2 : (fun t => z 907 (g10 (nI q + nI t))) = (fun t => f_live v n c2 (g10 (nI q + nI t)) (nI k) x4) := funext fun a => hz2 _ (g10_lt _)
  rw [e, e2] at h
  exact h
theorem k_X8_worthOf {l : Launch} {I : List Nat} (hI : fr_I I) (v : fr_V) (u : fr_U) (n c1 c2 k p q : Nat) (x1 x2 x4 x5 : Int32) (hk : k < 80) (hv : lf8 n v) (hr : ¬ x5 + 1 = 0) (h1 : vp_in x1 12) (hc1 : c1 < 4) (hx1 : v 502 x1.toNatClampNeg = nI c1) (hp : f_X5_ageIn v x1 (nI k) = nI p) (hpp : p < 1000) (h2 : ¬ x2 = (-1) → vp_in x2 12) (hc2 : ¬ x2 = (-1) → c2 < 4) (hx2 : ¬ x2 = (-1) → v 502 x2.toNatClampNeg = nI c2) (hq : ¬ x2 = (-1) → f_X5_ageIn v x2 (nI k) = nI q) (hqq : q < 1000) : Con l mX8_worthOf I v u [.ref 900, .int x1, .int x2, .int (nI k), .int x4, .int x5] (QX u (fun a b => a = f_w8 v n c1 c2 k x2 x4 x5 p q ∧ fw2 v b)) := by
  refine Con.of (by decide) (Nat.le_of_ble_eq_true rfl) ?_
  show J l mX8_worthOf I v u 0 [(0, .ref 900), (1, .int x1), (2, .int x2), (3, .int (nI k)), (4, .int x4), (5, .int x5)] [] _
  refine J_aload_n dX8_worthOf_0 rfl 0 rfl ?_
  refine J_getr (ci := 8) (j := 0) (t := 500) dX8_worthOf_1 fl_X8_23 (i900 hI) rfl rfl rfl ?_
  refine J_iload_n dX8_worthOf_4 rfl 1 rfl ?_
  refine J_iload_n dX8_worthOf_5 rfl 3 rfl ?_
  refine J_eVI (z := mX5_ageIn) (As := [.int x1, .int (nI k)]) (rest := []) (ci := 5) (x := nI p) dX8_worthOf_6 ml_X8_80 ok_X5_ageIn iv_X5_ageIn (by decide) (i500 hI) rfl rfl rfl rfl (Nat.le_of_ble_eq_true rfl) ((hp ▸ k_X5_ageIn hI v u x1 (nI k) h1)) ?_
  refine J_istore (lv' := [(6, .int (nI p)), (0, .ref 900), (1, .int x1), (2, .int x2), (3, .int (nI k)), (4, .int x4), (5, .int x5)]) dX8_worthOf_9 (by decide) rfl ?_
  refine J_aload_n dX8_worthOf_11 rfl 1 rfl ?_
  refine J_aload_n dX8_worthOf_12 rfl 1 rfl ?_
  refine J_getr (ci := 8) (j := 5) (t := 906) dX8_worthOf_13 fl_X8_16 (i900 hI) rfl rfl rfl ?_
  refine J_iload_n dX8_worthOf_16 rfl 2 rfl ?_
  refine J_iload_n dX8_worthOf_17 rfl 4 rfl ?_
  refine J_iload dX8_worthOf_18 5 rfl ?_
  refine J_cVN (z := mX8_fillRow) (As := [.ref 906, .int x1, .int (nI k), .int x4]) (rest := []) (ci := 8) dX8_worthOf_20 ml_X8_83 ok_X8_fillRow iv_X8_fillRow (by decide) (i900 hI) rfl rfl rfl rfl (Nat.le_of_ble_eq_true rfl) (k_X8_fillRow hI v u 906 n c1 k x1 x4 (Or.inl rfl) hc1 hk hv h1 hx1) (fun z hz => ?_)
  refine J_iload dX8_worthOf_23 0 rfl ?_
  refine J_aload_n dX8_worthOf_25 rfl 1 rfl ?_
  refine J_getr (ci := 8) (j := 5) (t := 906) dX8_worthOf_26 fl_X8_16 (i900 hI) rfl rfl rfl ?_
  refine J_iload dX8_worthOf_29 6 rfl ?_
  refine J_eSI (z := nX8_worthOnOne) (As := [.int (nI p), .ref 906, .int x5]) (rest := []) (x := wo8 v n c1 k x4 x5 p) dX8_worthOf_31 ml_X8_87 ok_X8_worthOnOne iv_X8_worthOnOne (by decide) rfl rfl (Nat.le_of_ble_eq_true rfl) (k_wo1 hI z u v 906 n c1 k p x4 x5 (Or.inl rfl) hr hpp hz.2) ?_
  refine J_istore (lv' := [(7, .int (wo8 v n c1 k x4 x5 p)), (6, .int (nI p)), (0, .ref 900), (1, .int x1), (2, .int x2), (3, .int (nI k)), (4, .int x4), (5, .int x5)]) dX8_worthOf_34 (by decide) rfl ?_
  refine J_iload_n dX8_worthOf_36 rfl 4 rfl ?_
  refine J_iconst (x := (-1)) dX8_worthOf_37 (by decide) ?_
  refine J_icmp_ne (tgt := 44) dX8_worthOf_38 (by decide) (fun c71 => ?_) (fun c71 => ?_)
  · refine J_aload_n dX8_worthOf_44 rfl 2 rfl ?_
    refine J_getr (ci := 8) (j := 0) (t := 500) dX8_worthOf_45 fl_X8_23 (i900 hI) rfl rfl rfl ?_
    refine J_iload_n dX8_worthOf_48 rfl 4 rfl ?_
    refine J_iload_n dX8_worthOf_49 rfl 5 rfl ?_
    have hq3 : f_X5_ageIn z x2 (nI k) = nI q := by unfold f_X5_ageIn; rw [hz.1 501 (by omega) (by omega)]; exact hq c71
    refine J_eVI (z := mX5_ageIn) (As := [.int x2, .int (nI k)]) (rest := []) (ci := 5) (x := nI q) dX8_worthOf_50 ml_X8_80 ok_X5_ageIn iv_X5_ageIn (by decide) (i500 hI) rfl rfl rfl rfl (Nat.le_of_ble_eq_true rfl) ((hq3 ▸ k_X5_ageIn hI z u x2 (nI k) (h2 c71))) ?_
    refine J_istore (lv' := [(8, .int (nI q)), (7, .int (wo8 v n c1 k x4 x5 p)), (6, .int (nI p)), (0, .ref 900), (1, .int x1), (2, .int x2), (3, .int (nI k)), (4, .int x4), (5, .int x5)]) dX8_worthOf_53 (by decide) rfl ?_
    refine J_aload_n dX8_worthOf_55 rfl 3 rfl ?_
    refine J_aload_n dX8_worthOf_56 rfl 3 rfl ?_
    refine J_getr (ci := 8) (j := 6) (t := 907) dX8_worthOf_57 fl_X8_20 (i900 hI) rfl rfl rfl ?_
    refine J_iload_n dX8_worthOf_60 rfl 5 rfl ?_
    refine J_iload_n dX8_worthOf_61 rfl 6 rfl ?_
    refine J_iload dX8_worthOf_62 7 rfl ?_
    refine J_cVN (z := mX8_fillRow) (As := [.ref 907, .int x2, .int (nI k), .int x4]) (rest := []) (ci := 8) dX8_worthOf_64 ml_X8_83 ok_X8_fillRow iv_X8_fillRow (by decide) (i900 hI) rfl rfl rfl rfl (Nat.le_of_ble_eq_true rfl) (k_X8_fillRow hI z u 907 n c2 k x2 x4 (Or.inr rfl) (hc2 c71) hk (lf8_fw hz.1 (Or.inl rfl) hv) (h2 c71) (by rw [hz.1 502 (by omega) (by omega)]; exact hx2 c71)) (fun y hy => ?_)
    have hy2 : ∀ g, g < 10 → y 907 g = f_live v n c2 g (nI k) x4 := fun g hg => (hy.2 g hg).trans (live_e hz.1 (Or.inl rfl) n c2 g (hc2 c71) _ _)
    have hy1 : ∀ g, g < 10 → y 906 g = f_live v n c1 g (nI k) x4 := fun g hg => by rw [hy.1 906 (by omega) (by omega)]; exact hz.2 g hg
    refine J_iload dX8_worthOf_67 1 rfl ?_
    refine J_iload dX8_worthOf_69 0 rfl ?_
    refine J_aload_n dX8_worthOf_71 rfl 3 rfl ?_
    refine J_getr (ci := 8) (j := 6) (t := 907) dX8_worthOf_72 fl_X8_20 (i900 hI) rfl rfl rfl ?_
    refine J_iload dX8_worthOf_75 8 rfl ?_
    refine J_eSI (z := nX8_worthOnOne) (As := [.int (nI q), .ref 907, .int x5]) (rest := [.int (wo8 v n c1 k x4 x5 p)]) (x := wo8 v n c2 k x4 x5 q) dX8_worthOf_77 ml_X8_87 ok_X8_worthOnOne iv_X8_worthOnOne (by decide) rfl rfl (Nat.le_of_ble_eq_true rfl) (k_wo1 hI y u v 907 n c2 k q x4 x5 (Or.inr rfl) hr hqq hy2) ?_
    refine J_iadd dX8_worthOf_80 ?_
    refine J_aload_n dX8_worthOf_81 rfl 3 rfl ?_
    refine J_iload dX8_worthOf_82 2 rfl ?_
    refine J_iload dX8_worthOf_84 0 rfl ?_
    refine J_iload dX8_worthOf_86 8 rfl ?_
    refine J_eVI (z := nX8_worthTillFirst) (As := [.int (nI p), .int (nI q), .int x5]) (rest := [.int ((wo8 v n c1 k x4 x5 p) + (wo8 v n c2 k x4 x5 q))]) (ci := 8) (x := bo8 v n c1 c2 k x4 x5 p q) dX8_worthOf_88 ml_X8_91 ok_X8_worthTillFirst iv_X8_worthTillFirst (by decide) (i900 hI) rfl rfl rfl rfl (Nat.le_of_ble_eq_true rfl) (k_bo1 hI y u v n c1 c2 k p q x4 x5 hr hpp hqq hy1 hy2) ?_
    refine J_isub dX8_worthOf_91 ?_
    exact J_iret dX8_worthOf_92 rfl ⟨_, rfl, rfl, by unfold f_w8; rw [if_neg c71], fun a g1 g2 g3 => (hy.1 a g1 g3).trans (hz.1 a g1 g2)⟩
  · refine J_iload dX8_worthOf_41 0 rfl ?_
    exact J_iret dX8_worthOf_43 rfl ⟨_, rfl, rfl, by unfold f_w8; rw [if_pos c71], fun a g1 g2 g3 => hz.1 a g1 g2⟩
def bsm (z y : fr_V) : Prop := (∀ c, c ≠ 200 → c ≠ 205 → c ≠ 210 → y c = z c) ∧ y 200 3 = z 200 3 ∧ y 200 10 = z 200 10
theorem bsm.rfl {z : fr_V} : bsm z z := ⟨fun _ _ _ _ => Eq.refl _, Eq.refl _, Eq.refl _⟩
theorem bsm.tr {a b c : fr_V} (h : bsm a b) (k : bsm b c) : bsm a c := ⟨fun x h1 h2 h3 => (k.1 x h1 h2 h3).trans (h.1 x h1 h2 h3), k.2.1.trans h.2.1, k.2.2.trans h.2.2⟩
theorem bsm.up {z : fr_V} {k i : Nat} {x : Int32} (h : k = 205 ∨ k = 210 ∨ (k = 200 ∧ i ≠ 3 ∧ i ≠ 10)) : bsm z (up2 z k i x) := by
  refine ⟨fun c h1 h2 h3 => up2_ne (by omega), ?_, ?_⟩
  · rcases h with h | h | h
    · rw [up2_ne (by omega)]
    · rw [up2_ne (by omega)]
    · rw [h.1, up2_self, pk_un (by omega)]
  · rcases h with h | h | h
    · rw [up2_ne (by omega)]
    · rw [up2_ne (by omega)]
    · rw [h.1, up2_self, pk_un (by omega)]
theorem bsm.tn {x : Int32} : ∀ n (z : fr_V), bsm z (tnF x n z) := by
  intro n
  induction n with
  | zero => intro z; exact bsm.rfl
  | succ n ih =>
    intro z
    rw [tnF_s]
    unfold tnG
    split
    · exact (((bsm.up (Or.inr (Or.inr ⟨Eq.refl _, by omega, by omega⟩))).tr (bsm.up (Or.inr (Or.inr ⟨Eq.refl _, by omega, by omega⟩)))).tr (bsm.up (Or.inl (Eq.refl _)))).tr (ih _)
    · exact ((bsm.up (Or.inl (Eq.refl _))).tr (bsm.up (Or.inr (Or.inr ⟨Eq.refl _, by omega, by omega⟩)))).tr (bsm.up (Or.inr (Or.inr ⟨Eq.refl _, by omega, by omega⟩)))
theorem bsm.kb {w : fr_V} : ∀ n, bsm w (kbF w n) := by
  intro n
  induction n with
  | zero => exact bsm.rfl
  | succ n ih => rw [kbF_s]; exact ih.tr (bsm.up (Or.inr (Or.inl (Eq.refl _))))
theorem bsm.kp {z : fr_V} {n : Nat} : bsm z (f_keep2 z n) := by
  unfold f_keep2
  exact ((bsm.up (Or.inr (Or.inr ⟨Eq.refl _, by omega, by omega⟩))).tr (bsm.up (Or.inr (Or.inr ⟨Eq.refl _, by omega, by omega⟩)))).tr (bsm.kb n)
def ch_t (x1 x2 : Int32) (n : Nat) (z : fr_V) : fr_V := if x1 < tnF x2 n z 200 5 then tnF x2 n z else if tnF x2 n z 200 8 < tnF x2 n z 200 6 then f_keep2 (tnF x2 n z) n else if tnF x2 n z 200 6 = tnF x2 n z 200 8 then (if tnF x2 n z 200 7 ≤ tnF x2 n z 200 5 then tnF x2 n z else f_keep2 (tnF x2 n z) n) else tnF x2 n z
def chF (x1 x2 : Int32) (n : Nat) (w0 : fr_V) : Nat → fr_V
  | 0 => w0
  | j + 1 => ch_t x1 x2 n (chF x1 x2 n w0 j)
theorem chF_s (x1 x2 : Int32) (n : Nat) (w0 : fr_V) (j : Nat) : chF x1 x2 n w0 (j + 1) = ch_t x1 x2 n (chF x1 x2 n w0 j) := rfl
theorem bsm.ch {x1 x2 : Int32} {n : Nat} {z : fr_V} : bsm z (ch_t x1 x2 n z) := by
  unfold ch_t
  repeat' split
  all_goals first | exact bsm.tn n z | exact (bsm.tn n z).tr bsm.kp
theorem ch_L {l : Launch} {I : List Nat} (hI : fr_I I) (v : fr_V) (u : fr_U) (x1 x2 : Int32) (n R : Nat) (hn2 : n ≤ 12) (hR : R ≤ 5000) (hR1 : 1 ≤ R) : ∀ (d j : Nat) (z : fr_V) (hd : R - 1 - j < d) (hj : j ≤ R - 1) (hz : z = chF x1 x2 n v j) (hm : z 200 3 = nI n) (hl : ∀ i, i < n → vp_in (z 201 i) 12), J l mX2_choose I z u 60 [(0, .ref 200), (1, .int x1), (2, .int x2), (3, .int (nI R)), (4, .int (nI (j + 1)))] [] (QX u (fun a b => a = chF x1 x2 n v (R - 1) 200 8 ∧ b = chF x1 x2 n v (R - 1))) := by
  intro d
  induction d with
  | zero => intros; omega
  | succ d ih =>
    intro j z hd hj hz hm hl
    refine J_iload dX2_choose_60 4 rfl ?_
    refine J_iload_n dX2_choose_62 rfl 3 rfl ?_
    refine J_icmp_ge (tgt := 122) dX2_choose_63 (by decide) (fun c1 => ?_) (fun c1 => ?_)
    · refine J_aload_n dX2_choose_122 rfl 0 rfl ?_
      refine J_gete (ci := 2) (j := 8) (x := z 200 8) dX2_choose_123 fl_X2_53 (i200 hI) rfl rfl rfl ?_
      exact J_iret dX2_choose_126 rfl ⟨_, rfl, rfl, by have e : j = R - 1 := by {have := nz_le (by omega) (by omega) c1; omega}; rw [← e, ← hz]; exact ⟨rfl, rfl⟩⟩
    · have hjR : j + 1 < R := nz_nle (by omega) (by omega) c1
      refine J_aload_n dX2_choose_66 rfl 0 rfl ?_
      refine J_iload_n dX2_choose_67 rfl 2 rfl ?_
      refine J_eVN (z := mX2_turn) (As := [.int x2]) (rest := []) (ci := 2) (w := (tnF x2 n z)) dX2_choose_68 ml_X2_60 ok_X2_turn iv_X2_turn (by decide) (i200 hI) rfl rfl rfl rfl (Nat.le_of_ble_eq_true rfl) (k_X2_turn hI z u x2 n hm hn2) ?_
      refine J_aload_n dX2_choose_71 rfl 0 rfl ?_
      refine J_gete (ci := 2) (j := 5) (x := (tnF x2 n z) 200 5) dX2_choose_72 fl_X2_44 (i200 hI) rfl rfl rfl ?_
      refine J_iload_n dX2_choose_75 rfl 1 rfl ?_
      refine J_icmp_gt (tgt := 116) dX2_choose_76 (by decide) (fun c2 => ?_) (fun c2 => ?_)
      · refine J_iinc (q := 4) (z := nI ((j + 1) + 1)) (lv' := [(4, .int (nI ((j + 1) + 1))), (0, .ref 200), (1, .int x1), (2, .int x2), (3, .int (nI R))]) dX2_choose_116 rfl (nI_1 (j + 1)) (by decide) rfl ?_
        refine J_goto (tgt := 60) dX2_choose_119 (by decide) ?_
        refine J_lv [1, 2, 3, 4, 0] rfl ?_
        exact ih (j + 1) _ (by omega) (by omega) (by rw [chF_s, ← hz]; unfold ch_t; rw [if_pos c2]) (((bsm.tn n z).2.1).trans hm) (by rw [(bsm.tn n z).1 201 (by omega) (by omega) (by omega)]; exact hl)
      · refine J_aload_n dX2_choose_79 rfl 0 rfl ?_
        refine J_gete (ci := 2) (j := 6) (x := (tnF x2 n z) 200 6) dX2_choose_80 fl_X2_47 (i200 hI) rfl rfl rfl ?_
        refine J_aload_n dX2_choose_83 rfl 0 rfl ?_
        refine J_gete (ci := 2) (j := 8) (x := (tnF x2 n z) 200 8) dX2_choose_84 fl_X2_53 (i200 hI) rfl rfl rfl ?_
        refine J_icmp_gt (tgt := 112) dX2_choose_87 (by decide) (fun c3 => ?_) (fun c3 => ?_)
        · refine J_aload_n dX2_choose_112 rfl 0 rfl ?_
          refine J_eVN (z := mX2_keep) (As := []) (rest := []) (ci := 2) (w := (f_keep2 (tnF x2 n z) n)) dX2_choose_113 ml_X2_64 ok_X2_keep iv_X2_keep (by decide) (i200 hI) rfl rfl rfl rfl (Nat.le_of_ble_eq_true rfl) (k_X2_keep hI (tnF x2 n z) u n hn2 (((bsm.tn n z).2.1).trans hm) (by rw [(bsm.tn n z).1 201 (by omega) (by omega) (by omega)]; exact hl)) ?_
          refine J_iinc (q := 4) (z := nI ((j + 1) + 1)) (lv' := [(4, .int (nI ((j + 1) + 1))), (0, .ref 200), (1, .int x1), (2, .int x2), (3, .int (nI R))]) dX2_choose_116 rfl (nI_1 (j + 1)) (by decide) rfl ?_
          refine J_goto (tgt := 60) dX2_choose_119 (by decide) ?_
          refine J_lv [1, 2, 3, 4, 0] rfl ?_
          exact ih (j + 1) _ (by omega) (by omega) (by rw [chF_s, ← hz]; unfold ch_t; rw [if_neg c2, if_pos c3]) ((((bsm.tn n z).tr bsm.kp).2.1).trans hm) (by rw [((bsm.tn n z).tr bsm.kp).1 201 (by omega) (by omega) (by omega)]; exact hl)
        · refine J_aload_n dX2_choose_90 rfl 0 rfl ?_
          refine J_gete (ci := 2) (j := 6) (x := (tnF x2 n z) 200 6) dX2_choose_91 fl_X2_47 (i200 hI) rfl rfl rfl ?_
          refine J_aload_n dX2_choose_94 rfl 0 rfl ?_
          refine J_gete (ci := 2) (j := 8) (x := (tnF x2 n z) 200 8) dX2_choose_95 fl_X2_53 (i200 hI) rfl rfl rfl ?_
          refine J_icmp_ne (tgt := 116) dX2_choose_98 (by decide) (fun c4 => ?_) (fun c4 => ?_)
          · refine J_iinc (q := 4) (z := nI ((j + 1) + 1)) (lv' := [(4, .int (nI ((j + 1) + 1))), (0, .ref 200), (1, .int x1), (2, .int x2), (3, .int (nI R))]) dX2_choose_116 rfl (nI_1 (j + 1)) (by decide) rfl ?_
            refine J_goto (tgt := 60) dX2_choose_119 (by decide) ?_
            refine J_lv [1, 2, 3, 4, 0] rfl ?_
            exact ih (j + 1) _ (by omega) (by omega) (by rw [chF_s, ← hz]; unfold ch_t; rw [if_neg c2, if_neg c3, if_neg c4]) (((bsm.tn n z).2.1).trans hm) (by rw [(bsm.tn n z).1 201 (by omega) (by omega) (by omega)]; exact hl)
          · refine J_aload_n dX2_choose_101 rfl 0 rfl ?_
            refine J_gete (ci := 2) (j := 5) (x := (tnF x2 n z) 200 5) dX2_choose_102 fl_X2_44 (i200 hI) rfl rfl rfl ?_
            refine J_aload_n dX2_choose_105 rfl 0 rfl ?_
            refine J_gete (ci := 2) (j := 7) (x := (tnF x2 n z) 200 7) dX2_choose_106 fl_X2_50 (i200 hI) rfl rfl rfl ?_
            refine J_icmp_ge (tgt := 116) dX2_choose_109 (by decide) (fun c5 => ?_) (fun c5 => ?_)
            · refine J_iinc (q := 4) (z := nI ((j + 1) + 1)) (lv' := [(4, .int (nI ((j + 1) + 1))), (0, .ref 200), (1, .int x1), (2, .int x2), (3, .int (nI R))]) dX2_choose_116 rfl (nI_1 (j + 1)) (by decide) rfl ?_
              refine J_goto (tgt := 60) dX2_choose_119 (by decide) ?_
              refine J_lv [1, 2, 3, 4, 0] rfl ?_
              exact ih (j + 1) _ (by omega) (by omega) (by rw [chF_s, ← hz]; unfold ch_t; rw [if_neg c2, if_neg c3, if_pos c4, if_pos c5]) (((bsm.tn n z).2.1).trans hm) (by rw [(bsm.tn n z).1 201 (by omega) (by omega) (by omega)]; exact hl)
            · refine J_aload_n dX2_choose_112 rfl 0 rfl ?_
              refine J_eVN (z := mX2_keep) (As := []) (rest := []) (ci := 2) (w := (f_keep2 (tnF x2 n z) n)) dX2_choose_113 ml_X2_64 ok_X2_keep iv_X2_keep (by decide) (i200 hI) rfl rfl rfl rfl (Nat.le_of_ble_eq_true rfl) (k_X2_keep hI (tnF x2 n z) u n hn2 (((bsm.tn n z).2.1).trans hm) (by rw [(bsm.tn n z).1 201 (by omega) (by omega) (by omega)]; exact hl)) ?_
              refine J_iinc (q := 4) (z := nI ((j + 1) + 1)) (lv' := [(4, .int (nI ((j + 1) + 1))), (0, .ref 200), (1, .int x1), (2, .int x2), (3, .int (nI R))]) dX2_choose_116 rfl (nI_1 (j + 1)) (by decide) rfl ?_
              refine J_goto (tgt := 60) dX2_choose_119 (by decide) ?_
              refine J_lv [1, 2, 3, 4, 0] rfl ?_
              exact ih (j + 1) _ (by omega) (by omega) (by rw [chF_s, ← hz]; unfold ch_t; rw [if_neg c2, if_neg c3, if_pos c4, if_neg c5]) ((((bsm.tn n z).tr bsm.kp).2.1).trans hm) (by rw [((bsm.tn n z).tr bsm.kp).1 201 (by omega) (by omega) (by omega)]; exact hl)
def ch0 (v : fr_V) : fr_V := up2 (up2 (up2 (up2 (up2 (upA (upA v 205 (fl 0 (v 205) 12)) 210 (fl 0 (v 210) 12)) 200 5 0) 200 6 0) 200 7 0) 200 8 0) 200 10 1
def f_choose (v : fr_V) (n : Nat) (x1 x2 : Int32) : Int32 × fr_V := if crF x2 n 1 ≤ 5000 then (chF x1 x2 n (ch0 v) ((crF x2 n 1).toNatClampNeg - 1) 200 8, chF x1 x2 n (ch0 v) ((crF x2 n 1).toNatClampNeg - 1)) else ((-2147483648), v)
theorem k_X2_choose {l : Launch} {I : List Nat} (hI : fr_I I) (v : fr_V) (u : fr_U) (x1 x2 : Int32) (n R : Nat) (hn : v 200 3 = nI n) (hn2 : n ≤ 12) (hl : ∀ i, i < n → vp_in (v 201 i) 12) (hR : crF x2 n 1 = nI R) (hR2 : R < 2 ^ 31) (hR1 : 1 ≤ R) : Con l mX2_choose I v u [.ref 200, .int x1, .int x2] (QX u (fun a b => a = (f_choose v n x1 x2).1 ∧ b = (f_choose v n x1 x2).2)) := by
  refine Con.of (by decide) (Nat.le_of_ble_eq_true rfl) ?_
  show J l mX2_choose I v u 0 [(0, .ref 200), (1, .int x1), (2, .int x2)] [] _
  refine J_aload_n dX2_choose_0 rfl 0 rfl ?_
  refine J_iload_n dX2_choose_1 rfl 2 rfl ?_
  refine J_eVI (z := mX2_countRows) (As := [.int x2]) (rest := []) (ci := 2) (x := nI R) dX2_choose_2 ml_X2_31 ok_X2_countRows iv_X2_countRows (by decide) (i200 hI) rfl rfl rfl rfl (Nat.le_of_ble_eq_true rfl) ((hR ▸ k_X2_countRows hI v u x2 n hn hn2)) ?_
  refine J_istore_n (lv' := [(3, .int (nI R)), (0, .ref 200), (1, .int x1), (2, .int x2)]) dX2_choose_5 rfl (by decide) rfl ?_
  refine J_iload_n dX2_choose_6 rfl 0 rfl ?_
  refine J_sipush (x := 5000) dX2_choose_7 (by decide) ?_
  refine J_icmp_le (tgt := 16) dX2_choose_10 (by decide) (fun c1 => ?_) (fun c1 => ?_)
  · refine J_aload_n dX2_choose_16 rfl 1 rfl ?_
    refine J_getr (ci := 2) (j := 4) (t := 205) dX2_choose_17 fl_X2_21 (i200 hI) rfl rfl rfl ?_
    refine J_iconst (x := 0) dX2_choose_20 (by decide) ?_
    refine J_eSN (z := mJ7_fill_53178) (As := [.ref 205, .int 0]) (rest := []) (w := upA v 205 (fl 0 (v 205) 12)) dX2_choose_21 ml_X2_38 ok_J7_fill_53178 iv_J7_fill_53178 (by decide) rfl rfl (Nat.le_of_ble_eq_true rfl) (k_fill hI v u 205 12 (i205 hI) rfl (by omega) 0) ?_
    refine J_aload_n dX2_choose_24 rfl 1 rfl ?_
    refine J_getr (ci := 2) (j := 9) (t := 210) dX2_choose_25 fl_X2_24 (i200 hI) rfl rfl rfl ?_
    refine J_iconst (x := 0) dX2_choose_28 (by decide) ?_
    refine J_eSN (z := mJ7_fill_53178) (As := [.ref 210, .int 0]) (rest := []) (w := upA (upA v 205 (fl 0 (v 205) 12)) 210 (fl 0 (v 210) 12)) dX2_choose_29 ml_X2_38 ok_J7_fill_53178 iv_J7_fill_53178 (by decide) rfl rfl (Nat.le_of_ble_eq_true rfl) (k_fill hI (upA v 205 (fl 0 (v 205) 12)) u 210 12 (i210 hI) rfl (by omega) 0) ?_
    refine J_aload_n dX2_choose_32 rfl 1 rfl ?_
    refine J_iconst (x := 0) dX2_choose_33 (by decide) ?_
    refine J_puti (ci := 2) (j := 5) dX2_choose_34 fl_X2_44 (i200 hI) rfl rfl (fun q h => by cases h; rfl) rfl ?_
    refine J_aload_n dX2_choose_37 rfl 1 rfl ?_
    refine J_iconst (x := 0) dX2_choose_38 (by decide) ?_
    refine J_puti (ci := 2) (j := 6) dX2_choose_39 fl_X2_47 (i200 hI) rfl rfl (fun q h => by cases h; rfl) rfl ?_
    refine J_aload_n dX2_choose_42 rfl 1 rfl ?_
    refine J_iconst (x := 0) dX2_choose_43 (by decide) ?_
    refine J_puti (ci := 2) (j := 7) dX2_choose_44 fl_X2_50 (i200 hI) rfl rfl (fun q h => by cases h; rfl) rfl ?_
    refine J_aload_n dX2_choose_47 rfl 1 rfl ?_
    refine J_iconst (x := 0) dX2_choose_48 (by decide) ?_
    refine J_puti (ci := 2) (j := 8) dX2_choose_49 fl_X2_53 (i200 hI) rfl rfl (fun q h => by cases h; rfl) rfl ?_
    refine J_aload_n dX2_choose_52 rfl 1 rfl ?_
    refine J_iconst (x := 1) dX2_choose_53 (by decide) ?_
    refine J_putz (ci := 2) (j := 10) dX2_choose_54 fl_X2_56 (i200 hI) rfl rfl (fun q h => by cases h; rfl) rfl ⟨by decide, by decide⟩ ?_
    refine J_iconst (x := 1) dX2_choose_57 (by decide) ?_
    refine J_istore (lv' := [(4, .int 1), (3, .int (nI R)), (0, .ref 200), (1, .int x1), (2, .int x2)]) dX2_choose_58 (by decide) rfl ?_
    refine J_lv [2, 3, 4, 1, 0] rfl ?_
    unfold f_choose
    rw [hR, if_pos c1, nI_clamp (by omega)]
    have hR5 : R ≤ 5000 := nz_le (b := 5000) (by omega) (by omega) c1
    exact ch_L hI (ch0 v) u x1 x2 n R hn2 hR5 hR1 (R + 1) 0 _ (by omega) (by omega) rfl hn hl
  · refine J_ldc (x := (-2147483648)) dX2_choose_13 cn_X2_37 ?_
    exact J_iret dX2_choose_15 rfl ⟨_, rfl, rfl, by unfold f_choose; rw [hR, if_neg c1]; exact ⟨rfl, rfl⟩⟩
