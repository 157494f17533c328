def sm4 (v z : fr_V) : Prop := (∀ c, c < 2000 → c ≠ 100 → c ≠ 108 → c ≠ 109 → c ≠ 110 → c ≠ 300 → z c = v c) ∧ (∀ j, j ≠ 6 → z 100 j = v 100 j) ∧ (∀ j, j ≠ 10 → z 300 j = v 300 j) ∧ ∀ r, z (2000 + 10 * r) = v (2000 + 10 * r)
theorem sm3.to4 {v z : fr_V} (h : sm3 v z) : sm4 v z := ⟨fun c h1 h2 h3 h4 h5 _ => h.1 c h1 h2 h3 h4 h5, h.2.1, fun j _ => by rw [h.1 300 (by omega) (by omega) (by omega) (by omega) (by omega)], h.2.2⟩
theorem sm4.tr {a b c : fr_V} (h : sm4 a b) (k : sm4 b c) : sm4 a c :=
  ⟨fun x h1 h2 h3 h4 h5 h6 => (k.1 x h1 h2 h3 h4 h5 h6).trans (h.1 x h1 h2 h3 h4 h5 h6), fun j hj => (k.2.1 j hj).trans (h.2.1 j hj), fun j hj => (k.2.2.1 j hj).trans (h.2.2.1 j hj), fun r => (k.2.2.2 r).trans (h.2.2.2 r)⟩
theorem sm3.fgA {x : Int32} {v : fr_V} : ∀ n, sm3 v (fgA x v n) := by
  intro n
  induction n with
  | zero => exact sm3.rfl
  | succ n ih => rw [fgA_s]; exact ih.tr sm3.upA
theorem sm3.stC {N k ar : Nat} {x4 : Int32} {v : fr_V} : ∀ n, sm3 v (stC N k ar x4 v n) := by
  intro n
  induction n with
  | zero => exact sm3.rfl
  | succ n ih => rw [stC_s]; exact ih.tr (sm3.p3 _)
theorem sm3.stB {N nr ar k0 : Nat} {x4 : Int32} {v : fr_V} : ∀ n, sm3 v (stB N nr ar k0 x4 v n) := by
  intro n
  induction n with
  | zero => exact sm3.rfl
  | succ n ih => rw [stB_s]; exact (ih.tr sm3.kw).tr (sm3.stC _)
theorem sm4.settle {N nr ar k0 w : Nat} {x4 : Int32} {v : fr_V} : sm4 v (f_settle v N nr ar k0 x4 w) := by
  unfold f_settle
  refine ((sm3.fgA nr).tr (sm3.stB _)).to4.tr ⟨fun c _ _ _ _ _ h => up2_ne h, fun j _ => by rw [up2_ne (by omega)], fun j hj => by rw [up2_self, pk_un hj], fun r => up2_ne (by omega)⟩
theorem sm4.ok {I : List Nat} {nr N : Nat} {v z : fr_V} (h : sm4 v z) (k : p3OK I nr N v) : p3OK I nr N z := by
  obtain ⟨⟨a1, a2, a3⟩, a4, a5, a6⟩ := k
  refine ⟨⟨a1, by rw [h.2.2.1 2 (by omega)]; exact a2, fun r hr => ⟨(a3 r hr).1, (a3 r hr).2.1, by rw [h.1 302 (by omega) (by omega) (by omega) (by omega) (by omega) (by omega)]; exact (a3 r hr).2.2⟩⟩, by rw [h.2.1 5 (by omega)]; exact a4, by rw [h.1 102 (by omega) (by omega) (by omega) (by omega) (by omega) (by omega), h.1 103 (by omega) (by omega) (by omega) (by omega) (by omega) (by omega)]; exact a5, fun r hr => ?_⟩
  rw [h.2.2.2 r]
  exact a6 r hr
noncomputable def f_st (v : fr_V) (ac N nr w : Nat) : fr_V := f_settle v N nr (f_set v ac 0).toNatClampNeg (v 300 10).toNatClampNeg (f_set v ac 1) w
theorem st_sm (v : fr_V) (ac N nr w : Nat) : sm4 v (f_st v ac N nr w) := sm4.settle
theorem k_st {l : Launch} {I : List Nat} (hI : fr_I I) (v : fr_V) (u : fr_U) (ac N nr w : Nat) (hac : ac = 10 ∨ ac = 20) (hw8 : w < 80) (hv : p3OK I nr N v) (hs : ∃ k0, k0 ≤ w ∧ v 300 10 = nI k0) (h0 : ∃ ar, ar ≤ 40 ∧ f_set v ac 0 = nI ar) : Con l mX3_settle I v u [.ref 300, .int (nI w), .ref ac] (QN u (fun a => a = f_st v ac N nr w)) := by
  obtain ⟨k0, hk0, e0⟩ := hs
  obtain ⟨ar, har, e1⟩ := h0
  unfold f_st
  rw [e0, e1, nI_clamp (by omega), nI_clamp (by omega)]
  exact k_X3_settle hI v u nr N ar k0 w ac _ hac hv.1.1 hw8 hk0 har hv e0 e1 rfl
noncomputable def f_paid10 (v : fr_V) (ac : Nat) (N : Nat) (nr : Nat) (w : Nat) (x1 x2 x3 : Int32) : Int32 × fr_V := if (f_X3_has v x1) = 0 then ((-1), v) else if (f_X10_isHalf v x2) = 0 then ((-1), v) else if x3 = 0 then ((f_st v ac N nr w) (2007 + 10 * x1.toNatClampNeg) x2.toNatClampNeg, (f_st v ac N nr w)) else if x3 = 1 then (if (f_isDue3 (f_kw v N (nI w)) x1.toNatClampNeg x2) = 0 then (0, (f_kw v N (nI w))) else (1, (f_kw v N (nI w)))) else if x3 = 2 then (if (f_isProved3 (f_kw v N (nI w)) N x1.toNatClampNeg x2 (f_set (f_kw v N (nI w)) ac 1)) = 0 then (0, (f_kw v N (nI w))) else (1, (f_kw v N (nI w)))) else ((-1), (f_kw v N (nI w)))
theorem k_X10_paid {l : Launch} {I : List Nat} (hI : fr_I I) (v : fr_V) (u : fr_U) (ac : Nat) (N : Nat) (nr : Nat) (w : Nat) (x1 x2 x3 : Int32) (hac : ac = 10 ∨ ac = 20) (ha : v 1000 1 = nI ac) (hw : v 1000 3 = nI w) (hw8 : w < 80) (hv : p3OK I nr N v) (hs : ∃ k0, k0 ≤ w ∧ v 300 10 = nI k0) (h0 : ∃ ar, ar ≤ 40 ∧ f_set v ac 0 = nI ar) : Con l mX10_paid I v u [.ref 1000, .int x1, .int x2, .int x3] (QX u (fun a b => a = (f_paid10 v ac N nr w x1 x2 x3).1 ∧ b = (f_paid10 v ac N nr w x1 x2 x3).2)) := by
  refine Con.of (by decide) (Nat.le_of_ble_eq_true rfl) ?_
  show J l mX10_paid I v u 0 [(0, .ref 1000), (1, .int x1), (2, .int x2), (3, .int x3)] [] _
  have hn16 := hv.1.1
  refine J_aload_n dX10_paid_0 rfl 0 rfl ?_
  refine J_getr (ci := 10) (j := 6) (t := 300) dX10_paid_1 fl_X10_47 (i1000 hI) rfl rfl rfl ?_
  refine J_iload_n dX10_paid_4 rfl 1 rfl ?_
  refine J_eVI (z := mX3_has) (As := [.int x1]) (rest := []) (ci := 3) (x := f_X3_has v x1) dX10_paid_5 ml_X10_132 ok_X3_has iv_X3_has (by decide) (i300 hI) rfl rfl rfl rfl (Nat.le_of_ble_eq_true rfl) (k_X3_has hI v u x1) ?_
  refine J_if_eq (tgt := 18) dX10_paid_8 (by decide) (fun c1 => ?_) (fun c1 => ?_)
  · refine J_iconst (x := (-1)) dX10_paid_18 (by decide) ?_
    exact J_iret dX10_paid_19 rfl ⟨_, rfl, rfl, by unfold f_paid10; rw [if_pos c1], by unfold f_paid10; rw [if_pos c1]⟩
  · refine J_iload_n dX10_paid_11 rfl 2 rfl ?_
    refine J_eSI (z := mX10_isHalf) (As := [.int x2]) (rest := []) (x := f_X10_isHalf v x2) dX10_paid_12 ml_X10_141 ok_X10_isHalf iv_X10_isHalf (by decide) rfl rfl (Nat.le_of_ble_eq_true rfl) (k_X10_isHalf hI v u x2) ?_
    refine J_if_ne (tgt := 20) dX10_paid_15 (by decide) (fun c2 => ?_) (fun c2 => ?_)
    · obtain ⟨r, hr, rfl⟩ := has3N hv.1.2.1 hv.1.1 c1
      obtain ⟨h, hh8, rfl⟩ := halfN c2
      refine J_iload_n dX10_paid_20 rfl 3 rfl ?_
      refine J_if_ne (tgt := 54) dX10_paid_21 (by decide) (fun c3 => ?_) (fun c3 => ?_)
      · refine J_aload_n dX10_paid_54 rfl 0 rfl ?_
        refine J_getr (ci := 10) (j := 5) (t := 100) dX10_paid_55 fl_X10_38 (i1000 hI) rfl rfl rfl ?_
        refine J_aload_n dX10_paid_58 rfl 0 rfl ?_
        refine J_gete (ci := 10) (j := 3) (x := nI w) dX10_paid_59 fl_X10_92 (i1000 hI) rfl rfl hw ?_
        refine J_eVN (z := mX1_know) (As := [.int (nI w)]) (rest := []) (ci := 1) (w := (f_kw v N (nI w))) dX10_paid_62 ml_X10_149 ok_X1_know iv_X1_know (by decide) (i100 hI) rfl rfl rfl rfl (Nat.le_of_ble_eq_true rfl) (k_X1_know hI v u (nI w) N hv.2.1 hv.2.2.1) ?_
        refine J_iload_n dX10_paid_65 rfl 3 rfl ?_
        refine J_iconst (x := 1) dX10_paid_66 (by decide) ?_
        refine J_icmp_ne (tgt := 88) dX10_paid_67 (by decide) (fun c4 => ?_) (fun c4 => ?_)
        · refine J_iload_n dX10_paid_88 rfl 3 rfl ?_
          refine J_iconst (x := 2) dX10_paid_89 (by decide) ?_
          refine J_icmp_ne (tgt := 119) dX10_paid_90 (by decide) (fun c5 => ?_) (fun c5 => ?_)
          · refine J_iconst (x := (-1)) dX10_paid_119 (by decide) ?_
            exact J_iret dX10_paid_120 rfl ⟨_, rfl, rfl, by unfold f_paid10; try simp only [nI_clamp (show r < 2 ^ 31 by omega), nI_clamp (show h < 2 ^ 31 by omega)]; rw [if_neg c1, if_neg c2, if_neg c3, if_neg c4, if_neg c5], by unfold f_paid10; try simp only [nI_clamp (show r < 2 ^ 31 by omega), nI_clamp (show h < 2 ^ 31 by omega)]; rw [if_neg c1, if_neg c2, if_neg c3, if_neg c4, if_neg c5]⟩
          · refine J_aload_n dX10_paid_93 rfl 0 rfl ?_
            refine J_getr (ci := 10) (j := 6) (t := 300) dX10_paid_94 fl_X10_47 (i1000 hI) rfl rfl rfl ?_
            refine J_iload_n dX10_paid_97 rfl 1 rfl ?_
            refine J_iload_n dX10_paid_98 rfl 2 rfl ?_
            refine J_aload_n dX10_paid_99 rfl 0 rfl ?_
            refine J_getd (ci := 10) (j := 1) (t := ac) dX10_paid_100 fl_X10_19 (i1000 hI) rfl rfl (by rw [show (f_kw v N (nI w)) 1000 1 = nI ac from ((congrFun (sm3.kw.1 1000 (by omega) (by omega) (by omega) (by omega) (by omega)) 1).trans ha)]; exact nI_pos (by omega)) (by rw [show (f_kw v N (nI w)) 1000 1 = nI ac from ((congrFun (sm3.kw.1 1000 (by omega) (by omega) (by omega) (by omega) (by omega)) 1).trans ha)]; exact nI_clamp (by omega)) ?_
            refine J_iconst (x := 1) dX10_paid_103 (by decide) ?_
            refine J_eVI (z := mX0_setting) (As := [.int 1]) (rest := [.int (nI h), .int (nI r), .ref 300]) (ci := 0) (x := f_set (f_kw v N (nI w)) ac 1) dX10_paid_104 ml_X10_177 ok_X0_setting iv_X0_setting (by decide) (i_ac hI hac) (s_ac hac) rfl rfl rfl (Nat.le_of_ble_eq_true rfl) (k_X0_setting hI (f_kw v N (nI w)) u hac 1 (by omega)) ?_
            refine J_eVI (z := mX3_isProved) (As := [.int (nI r), .int (nI h), .int (f_set (f_kw v N (nI w)) ac 1)]) (rest := []) (ci := 3) (x := f_isProved3 (f_kw v N (nI w)) N r (nI h) (f_set (f_kw v N (nI w)) ac 1)) dX10_paid_107 ml_X10_181 ok_X3_isProved iv_X3_isProved (by decide) (i300 hI) rfl rfl rfl rfl (Nat.le_of_ble_eq_true rfl) (k_X3_isProved hI (f_kw v N (nI w)) u nr r (sm3.kw.ok hv).1 hr (nI h) (f_set (f_kw v N (nI w)) ac 1) N (sm3.kw.ok hv).2.1 hv.2.2.1.1) ?_
            refine J_if_eq (tgt := 117) dX10_paid_110 (by decide) (fun c6 => ?_) (fun c6 => ?_)
            · refine J_iconst (x := 0) dX10_paid_117 (by decide) ?_
              exact J_iret dX10_paid_118 rfl ⟨_, rfl, rfl, by unfold f_paid10; try simp only [nI_clamp (show r < 2 ^ 31 by omega), nI_clamp (show h < 2 ^ 31 by omega)]; rw [if_neg c1, if_neg c2, if_neg c3, if_neg c4, if_pos c5, if_pos c6], by unfold f_paid10; try simp only [nI_clamp (show r < 2 ^ 31 by omega), nI_clamp (show h < 2 ^ 31 by omega)]; rw [if_neg c1, if_neg c2, if_neg c3, if_neg c4, if_pos c5, if_pos c6]⟩
            · refine J_iconst (x := 1) dX10_paid_113 (by decide) ?_
              refine J_goto (tgt := 118) dX10_paid_114 (by decide) ?_
              exact J_iret dX10_paid_118 rfl ⟨_, rfl, rfl, by unfold f_paid10; try simp only [nI_clamp (show r < 2 ^ 31 by omega), nI_clamp (show h < 2 ^ 31 by omega)]; rw [if_neg c1, if_neg c2, if_neg c3, if_neg c4, if_pos c5, if_neg c6], by unfold f_paid10; try simp only [nI_clamp (show r < 2 ^ 31 by omega), nI_clamp (show h < 2 ^ 31 by omega)]; rw [if_neg c1, if_neg c2, if_neg c3, if_neg c4, if_pos c5, if_neg c6]⟩
        · refine J_aload_n dX10_paid_70 rfl 0 rfl ?_
          refine J_getr (ci := 10) (j := 6) (t := 300) dX10_paid_71 fl_X10_47 (i1000 hI) rfl rfl rfl ?_
          refine J_iload_n dX10_paid_74 rfl 1 rfl ?_
          refine J_iload_n dX10_paid_75 rfl 2 rfl ?_
          refine J_eVI (z := mX3_isDue) (As := [.int (nI r), .int (nI h)]) (rest := []) (ci := 3) (x := f_isDue3 (f_kw v N (nI w)) r (nI h)) dX10_paid_76 ml_X10_174 ok_X3_isDue iv_X3_isDue (by decide) (i300 hI) rfl rfl rfl rfl (Nat.le_of_ble_eq_true rfl) (k_X3_isDue hI (f_kw v N (nI w)) u nr r (sm3.kw.ok hv).1 hr (nI h) ((sm3.kw.ok hv).2.2.2 r hr).1 ((sm3.kw.ok hv).2.2.2 r hr).2) ?_
          refine J_if_eq (tgt := 86) dX10_paid_79 (by decide) (fun c7 => ?_) (fun c7 => ?_)
          · refine J_iconst (x := 0) dX10_paid_86 (by decide) ?_
            exact J_iret dX10_paid_87 rfl ⟨_, rfl, rfl, by unfold f_paid10; try simp only [nI_clamp (show r < 2 ^ 31 by omega), nI_clamp (show h < 2 ^ 31 by omega)]; rw [if_neg c1, if_neg c2, if_neg c3, if_pos c4, if_pos c7], by unfold f_paid10; try simp only [nI_clamp (show r < 2 ^ 31 by omega), nI_clamp (show h < 2 ^ 31 by omega)]; rw [if_neg c1, if_neg c2, if_neg c3, if_pos c4, if_pos c7]⟩
          · refine J_iconst (x := 1) dX10_paid_82 (by decide) ?_
            refine J_goto (tgt := 87) dX10_paid_83 (by decide) ?_
            exact J_iret dX10_paid_87 rfl ⟨_, rfl, rfl, by unfold f_paid10; try simp only [nI_clamp (show r < 2 ^ 31 by omega), nI_clamp (show h < 2 ^ 31 by omega)]; rw [if_neg c1, if_neg c2, if_neg c3, if_pos c4, if_neg c7], by unfold f_paid10; try simp only [nI_clamp (show r < 2 ^ 31 by omega), nI_clamp (show h < 2 ^ 31 by omega)]; rw [if_neg c1, if_neg c2, if_neg c3, if_pos c4, if_neg c7]⟩
      · refine J_aload_n dX10_paid_24 rfl 0 rfl ?_
        refine J_getr (ci := 10) (j := 6) (t := 300) dX10_paid_25 fl_X10_47 (i1000 hI) rfl rfl rfl ?_
        refine J_aload_n dX10_paid_28 rfl 0 rfl ?_
        refine J_gete (ci := 10) (j := 3) (x := nI w) dX10_paid_29 fl_X10_92 (i1000 hI) rfl rfl hw ?_
        refine J_aload_n dX10_paid_32 rfl 0 rfl ?_
        refine J_getd (ci := 10) (j := 1) (t := ac) dX10_paid_33 fl_X10_19 (i1000 hI) rfl rfl (by rw [show v 1000 1 = nI ac from ha]; exact nI_pos (by omega)) (by rw [show v 1000 1 = nI ac from ha]; exact nI_clamp (by omega)) ?_
        refine J_eVN (z := mX3_settle) (As := [.int (nI w), .ref ac]) (rest := []) (ci := 3) (w := (f_st v ac N nr w)) dX10_paid_36 ml_X10_163 ok_X3_settle iv_X3_settle (by decide) (i300 hI) rfl rfl rfl rfl (Nat.le_of_ble_eq_true rfl) (k_st hI v u ac N nr w hac hw8 hv hs h0) ?_
        refine J_aload_n dX10_paid_39 rfl 0 rfl ?_
        refine J_getr (ci := 10) (j := 6) (t := 300) dX10_paid_40 fl_X10_47 (i1000 hI) rfl rfl rfl ?_
        refine J_getr (ci := 3) (j := 1) (t := 302) dX10_paid_43 fl_X10_167 (i300 hI) rfl rfl rfl ?_
        refine J_iload_n dX10_paid_46 rfl 1 rfl ?_
        refine J_aldR (t := 2000 + 10 * r) dX10_paid_47 (i302 hI) rfl (vp_in_nI (by omega) (by omega)) (rn_0 ((st_sm v ac N nr w).ok hv).1 hr) (rn_1 ((st_sm v ac N nr w).ok hv).1 hr) ?_
        refine J_getr (ci := 7) (j := 6) (t := 2007 + 10 * r) dX10_paid_48 fl_X10_171 (hv.1.2.2 r hr).1 (by rw [sh_rent]) rfl (sref_rent r) ?_
        refine J_iload_n dX10_paid_51 rfl 2 rfl ?_
        refine J_iale (x := (f_st v ac N nr w) (2007 + 10 * r) h) dX10_paid_52 (hv.1.2.2 r hr).2.1 (sh_paid r) (ix_in (j := h) rfl (by omega) (by omega)) ((congrArg _ (ix_cl (j := h) rfl (by omega))).trans rfl) ?_
        exact J_iret dX10_paid_53 rfl ⟨_, rfl, rfl, by unfold f_paid10; try simp only [nI_clamp (show r < 2 ^ 31 by omega), nI_clamp (show h < 2 ^ 31 by omega)]; rw [if_neg c1, if_neg c2, if_pos c3], by unfold f_paid10; try simp only [nI_clamp (show r < 2 ^ 31 by omega), nI_clamp (show h < 2 ^ 31 by omega)]; rw [if_neg c1, if_neg c2, if_pos c3]⟩
    · refine J_iconst (x := (-1)) dX10_paid_18 (by decide) ?_
      exact J_iret dX10_paid_19 rfl ⟨_, rfl, rfl, by unfold f_paid10; rw [if_neg c1, if_pos c2], by unfold f_paid10; rw [if_neg c1, if_pos c2]⟩
noncomputable def f_owed10 (v : fr_V) (ac : Nat) (N : Nat) (nr : Nat) (w : Nat) (x1 x2 : Int32) : Int32 × fr_V := if (f_X3_has v x1) = 0 then ((-1), v) else if (f_X10_hasBegun v x2) = 0 then ((-1), v) else (dbF (f_kw (f_st v ac N nr w) N x2) x1.toNatClampNeg x2 (x2.toNatClampNeg + 1), (f_kw (f_st v ac N nr w) N x2))
theorem k_X10_owed {l : Launch} {I : List Nat} (hI : fr_I I) (v : fr_V) (u : fr_U) (ac : Nat) (N : Nat) (nr : Nat) (w : Nat) (x1 x2 : Int32) (hac : ac = 10 ∨ ac = 20) (ha : v 1000 1 = nI ac) (hw : v 1000 3 = nI w) (hw8 : w < 80) (hv : p3OK I nr N v) (hs : ∃ k0, k0 ≤ w ∧ v 300 10 = nI k0) (h0 : ∃ ar, ar ≤ 40 ∧ f_set v ac 0 = nI ar) : Con l mX10_owed I v u [.ref 1000, .int x1, .int x2] (QX u (fun a b => a = (f_owed10 v ac N nr w x1 x2).1 ∧ b = (f_owed10 v ac N nr w x1 x2).2)) := by
  refine Con.of (by decide) (Nat.le_of_ble_eq_true rfl) ?_
  show J l mX10_owed I v u 0 [(0, .ref 1000), (1, .int x1), (2, .int x2)] [] _
  have hn16 := hv.1.1
  refine J_aload_n dX10_owed_0 rfl 0 rfl ?_
  refine J_getr (ci := 10) (j := 6) (t := 300) dX10_owed_1 fl_X10_47 (i1000 hI) rfl rfl rfl ?_
  refine J_iload_n dX10_owed_4 rfl 1 rfl ?_
  refine J_eVI (z := mX3_has) (As := [.int x1]) (rest := []) (ci := 3) (x := f_X3_has v x1) dX10_owed_5 ml_X10_132 ok_X3_has iv_X3_has (by decide) (i300 hI) rfl rfl rfl rfl (Nat.le_of_ble_eq_true rfl) (k_X3_has hI v u x1) ?_
  refine J_if_eq (tgt := 19) dX10_owed_8 (by decide) (fun c1 => ?_) (fun c1 => ?_)
  · refine J_iconst (x := (-1)) dX10_owed_19 (by decide) ?_
    exact J_iret dX10_owed_20 rfl ⟨_, rfl, rfl, by unfold f_owed10; rw [if_pos c1], by unfold f_owed10; rw [if_pos c1]⟩
  · refine J_aload_n dX10_owed_11 rfl 0 rfl ?_
    refine J_iload_n dX10_owed_12 rfl 2 rfl ?_
    refine J_eVI (z := mX10_hasBegun) (As := [.int x2]) (rest := []) (ci := 10) (x := f_X10_hasBegun v x2) dX10_owed_13 ml_X10_185 ok_X10_hasBegun iv_X10_hasBegun (by decide) (i1000 hI) rfl rfl rfl rfl (Nat.le_of_ble_eq_true rfl) (k_X10_hasBegun hI v u x2) ?_
    refine J_if_ne (tgt := 21) dX10_owed_16 (by decide) (fun c2 => ?_) (fun c2 => ?_)
    · obtain ⟨r, hr, rfl⟩ := has3N hv.1.2.1 hv.1.1 c1
      obtain ⟨k, hkw, rfl⟩ := begN hw hw8 c2
      refine J_aload_n dX10_owed_21 rfl 0 rfl ?_
      refine J_getr (ci := 10) (j := 6) (t := 300) dX10_owed_22 fl_X10_47 (i1000 hI) rfl rfl rfl ?_
      refine J_aload_n dX10_owed_25 rfl 0 rfl ?_
      refine J_gete (ci := 10) (j := 3) (x := nI w) dX10_owed_26 fl_X10_92 (i1000 hI) rfl rfl hw ?_
      refine J_aload_n dX10_owed_29 rfl 0 rfl ?_
      refine J_getd (ci := 10) (j := 1) (t := ac) dX10_owed_30 fl_X10_19 (i1000 hI) rfl rfl (by rw [show v 1000 1 = nI ac from ha]; exact nI_pos (by omega)) (by rw [show v 1000 1 = nI ac from ha]; exact nI_clamp (by omega)) ?_
      refine J_eVN (z := mX3_settle) (As := [.int (nI w), .ref ac]) (rest := []) (ci := 3) (w := (f_st v ac N nr w)) dX10_owed_33 ml_X10_163 ok_X3_settle iv_X3_settle (by decide) (i300 hI) rfl rfl rfl rfl (Nat.le_of_ble_eq_true rfl) (k_st hI v u ac N nr w hac hw8 hv hs h0) ?_
      refine J_aload_n dX10_owed_36 rfl 0 rfl ?_
      refine J_getr (ci := 10) (j := 6) (t := 300) dX10_owed_37 fl_X10_47 (i1000 hI) rfl rfl rfl ?_
      refine J_iload_n dX10_owed_40 rfl 1 rfl ?_
      refine J_iload_n dX10_owed_41 rfl 2 rfl ?_
      refine J_eVX (z := mX3_debtOf) (As := [.int (nI r), .int (nI k)]) (rest := []) (ci := 3) (x := dbF (f_kw (f_st v ac N nr w) N (nI k)) r (nI k) (k + 1)) (w := (f_kw (f_st v ac N nr w) N (nI k))) dX10_owed_42 ml_X10_191 ok_X3_debtOf iv_X3_debtOf (by decide) (i300 hI) rfl rfl rfl rfl (Nat.le_of_ble_eq_true rfl) (k_X3_debtOf hI (f_st v ac N nr w) u nr N r k hr (by omega) ((st_sm v ac N nr w).ok hv)) ?_
      exact J_iret dX10_owed_45 rfl ⟨_, rfl, rfl, by unfold f_owed10; try simp only [nI_clamp (show r < 2 ^ 31 by omega), nI_clamp (show k < 2 ^ 31 by omega)]; rw [if_neg c1, if_neg c2], by unfold f_owed10; try simp only [nI_clamp (show r < 2 ^ 31 by omega), nI_clamp (show k < 2 ^ 31 by omega)]; rw [if_neg c1, if_neg c2]⟩
    · refine J_iconst (x := (-1)) dX10_owed_19 (by decide) ?_
      exact J_iret dX10_owed_20 rfl ⟨_, rfl, rfl, by unfold f_owed10; rw [if_neg c1, if_pos c2], by unfold f_owed10; rw [if_neg c1, if_pos c2]⟩
noncomputable def f_state10 (v : fr_V) (ac : Nat) (N : Nat) (nr : Nat) (w : Nat) (x1 x2 : Int32) : Int32 × fr_V := if (f_X10_hasBegun v x1) = 0 then ((-1), v) else if x2 = 0 then (tkF v x1 nr, v) else if x2 = 1 then (pmO (f_st v ac N nr w) x1.toNatClampNeg nr, (f_st v ac N nr w)) else if x2 = 2 then (dsF (f_st v ac N nr w) N x1.toNatClampNeg nr, (dsW (f_st v ac N nr w) N x1 nr)) else ((-1), v)
theorem k_X10_state {l : Launch} {I : List Nat} (hI : fr_I I) (v : fr_V) (u : fr_U) (ac : Nat) (N : Nat) (nr : Nat) (w : Nat) (x1 x2 : Int32) (hac : ac = 10 ∨ ac = 20) (ha : v 1000 1 = nI ac) (hw : v 1000 3 = nI w) (hw8 : w < 80) (hv : p3OK I nr N v) (hs : ∃ k0, k0 ≤ w ∧ v 300 10 = nI k0) (h0 : ∃ ar, ar ≤ 40 ∧ f_set v ac 0 = nI ar) : Con l mX10_state I v u [.ref 1000, .int x1, .int x2] (QX u (fun a b => a = (f_state10 v ac N nr w x1 x2).1 ∧ b = (f_state10 v ac N nr w x1 x2).2)) := by
  refine Con.of (by decide) (Nat.le_of_ble_eq_true rfl) ?_
  show J l mX10_state I v u 0 [(0, .ref 1000), (1, .int x1), (2, .int x2)] [] _
  have hn16 := hv.1.1
  refine J_aload_n dX10_state_0 rfl 0 rfl ?_
  refine J_iload_n dX10_state_1 rfl 1 rfl ?_
  refine J_eVI (z := mX10_hasBegun) (As := [.int x1]) (rest := []) (ci := 10) (x := f_X10_hasBegun v x1) dX10_state_2 ml_X10_185 ok_X10_hasBegun iv_X10_hasBegun (by decide) (i1000 hI) rfl rfl rfl rfl (Nat.le_of_ble_eq_true rfl) (k_X10_hasBegun hI v u x1) ?_
  refine J_if_ne (tgt := 10) dX10_state_5 (by decide) (fun c1 => ?_) (fun c1 => ?_)
  · obtain ⟨k, hkw, rfl⟩ := begN hw hw8 c1
    refine J_iload_n dX10_state_10 rfl 2 rfl ?_
    by_cases c2 : x2 = 0
    · refine J_tableIn (off := 25) (tgt := 36) dX10_state_11 (by rw [c2]; decide) (by rw [c2]; decide) (by rw [c2]; decide) (by decide) ?_
      refine J_aload_n dX10_state_36 rfl 0 rfl ?_
      refine J_getr (ci := 10) (j := 6) (t := 300) dX10_state_37 fl_X10_47 (i1000 hI) rfl rfl rfl ?_
      refine J_iload_n dX10_state_40 rfl 1 rfl ?_
      refine J_eVI (z := mX3_takings) (As := [.int (nI k)]) (rest := []) (ci := 3) (x := tkF v (nI k) nr) dX10_state_41 ml_X10_194 ok_X3_takings iv_X3_takings (by decide) (i300 hI) rfl rfl rfl rfl (Nat.le_of_ble_eq_true rfl) (k_X3_takings hI v u nr hv.1 (nI k)) ?_
      exact J_iret dX10_state_44 rfl ⟨_, rfl, rfl, by unfold f_state10; try simp only [nI_clamp (show k < 2 ^ 31 by omega)]; rw [if_neg c1, if_pos c2], by unfold f_state10; try simp only [nI_clamp (show k < 2 ^ 31 by omega)]; rw [if_neg c1, if_pos c2]⟩
    by_cases c3 : x2 = 1
    · refine J_tableIn (off := 34) (tgt := 45) dX10_state_11 (by rw [c3]; decide) (by rw [c3]; decide) (by rw [c3]; decide) (by decide) ?_
      refine J_aload_n dX10_state_45 rfl 0 rfl ?_
      refine J_getr (ci := 10) (j := 6) (t := 300) dX10_state_46 fl_X10_47 (i1000 hI) rfl rfl rfl ?_
      refine J_aload_n dX10_state_49 rfl 0 rfl ?_
      refine J_gete (ci := 10) (j := 3) (x := nI w) dX10_state_50 fl_X10_92 (i1000 hI) rfl rfl hw ?_
      refine J_aload_n dX10_state_53 rfl 0 rfl ?_
      refine J_getd (ci := 10) (j := 1) (t := ac) dX10_state_54 fl_X10_19 (i1000 hI) rfl rfl (by rw [show v 1000 1 = nI ac from ha]; exact nI_pos (by omega)) (by rw [show v 1000 1 = nI ac from ha]; exact nI_clamp (by omega)) ?_
      refine J_eVN (z := mX3_settle) (As := [.int (nI w), .ref ac]) (rest := []) (ci := 3) (w := (f_st v ac N nr w)) dX10_state_57 ml_X10_163 ok_X3_settle iv_X3_settle (by decide) (i300 hI) rfl rfl rfl rfl (Nat.le_of_ble_eq_true rfl) (k_st hI v u ac N nr w hac hw8 hv hs h0) ?_
      refine J_aload_n dX10_state_60 rfl 0 rfl ?_
      refine J_getr (ci := 10) (j := 6) (t := 300) dX10_state_61 fl_X10_47 (i1000 hI) rfl rfl rfl ?_
      refine J_iload_n dX10_state_64 rfl 1 rfl ?_
      refine J_eVI (z := mX3_payments) (As := [.int (nI k)]) (rest := []) (ci := 3) (x := pmO (f_st v ac N nr w) k nr) dX10_state_65 ml_X10_197 ok_X3_payments iv_X3_payments (by decide) (i300 hI) rfl rfl rfl rfl (Nat.le_of_ble_eq_true rfl) (k_X3_payments hI (f_st v ac N nr w) u nr k ((st_sm v ac N nr w).ok hv).1 (by omega)) ?_
      exact J_iret dX10_state_68 rfl ⟨_, rfl, rfl, by unfold f_state10; try simp only [nI_clamp (show k < 2 ^ 31 by omega)]; rw [if_neg c1, if_neg c2, if_pos c3], by unfold f_state10; try simp only [nI_clamp (show k < 2 ^ 31 by omega)]; rw [if_neg c1, if_neg c2, if_pos c3]⟩
    by_cases c4 : x2 = 2
    · refine J_tableIn (off := 58) (tgt := 69) dX10_state_11 (by rw [c4]; decide) (by rw [c4]; decide) (by rw [c4]; decide) (by decide) ?_
      refine J_aload_n dX10_state_69 rfl 0 rfl ?_
      refine J_getr (ci := 10) (j := 6) (t := 300) dX10_state_70 fl_X10_47 (i1000 hI) rfl rfl rfl ?_
      refine J_aload_n dX10_state_73 rfl 0 rfl ?_
      refine J_gete (ci := 10) (j := 3) (x := nI w) dX10_state_74 fl_X10_92 (i1000 hI) rfl rfl hw ?_
      refine J_aload_n dX10_state_77 rfl 0 rfl ?_
      refine J_getd (ci := 10) (j := 1) (t := ac) dX10_state_78 fl_X10_19 (i1000 hI) rfl rfl (by rw [show v 1000 1 = nI ac from ha]; exact nI_pos (by omega)) (by rw [show v 1000 1 = nI ac from ha]; exact nI_clamp (by omega)) ?_
      refine J_eVN (z := mX3_settle) (As := [.int (nI w), .ref ac]) (rest := []) (ci := 3) (w := (f_st v ac N nr w)) dX10_state_81 ml_X10_163 ok_X3_settle iv_X3_settle (by decide) (i300 hI) rfl rfl rfl rfl (Nat.le_of_ble_eq_true rfl) (k_st hI v u ac N nr w hac hw8 hv hs h0) ?_
      refine J_aload_n dX10_state_84 rfl 0 rfl ?_
      refine J_getr (ci := 10) (j := 6) (t := 300) dX10_state_85 fl_X10_47 (i1000 hI) rfl rfl rfl ?_
      refine J_iload_n dX10_state_88 rfl 1 rfl ?_
      refine J_eVX (z := mX3_debts) (As := [.int (nI k)]) (rest := []) (ci := 3) (x := dsF (f_st v ac N nr w) N k nr) (w := (dsW (f_st v ac N nr w) N (nI k) nr)) dX10_state_89 ml_X10_200 ok_X3_debts iv_X3_debts (by decide) (i300 hI) rfl rfl rfl rfl (Nat.le_of_ble_eq_true rfl) (k_X3_debts hI (f_st v ac N nr w) u nr N k (by omega) ((st_sm v ac N nr w).ok hv)) ?_
      exact J_iret dX10_state_92 rfl ⟨_, rfl, rfl, by unfold f_state10; try simp only [nI_clamp (show k < 2 ^ 31 by omega)]; rw [if_neg c1, if_neg c2, if_neg c3, if_pos c4], by unfold f_state10; try simp only [nI_clamp (show k < 2 ^ 31 by omega)]; rw [if_neg c1, if_neg c2, if_neg c3, if_pos c4]⟩
    refine J_tableOut (tgt := 93) dX10_state_11 (sw_no 2 (by omega) (fun k hk => by match k, hk with | 0, _ => exact c2 | 1, _ => exact c3 | 2, _ => exact c4 | k + 3, hk => omega)) (by decide) ?_
    refine J_iconst (x := (-1)) dX10_state_93 (by decide) ?_
    exact J_iret dX10_state_94 rfl ⟨_, rfl, rfl, by unfold f_state10; try simp only [nI_clamp (show k < 2 ^ 31 by omega)]; rw [if_neg c1, if_neg c2, if_neg c3, if_neg c4], by unfold f_state10; try simp only [nI_clamp (show k < 2 ^ 31 by omega)]; rw [if_neg c1, if_neg c2, if_neg c3, if_neg c4]⟩
  · refine J_iconst (x := (-1)) dX10_state_8 (by decide) ?_
    exact J_iret dX10_state_9 rfl ⟨_, rfl, rfl, by unfold f_state10; rw [if_pos c1], by unfold f_state10; rw [if_pos c1]⟩
noncomputable def f_got10 (v : fr_V) (ac N nr w NS : Nat) (x1 x2 : Int32) : Int32 := if f_X10_isHolder v x1 = 0 then (-1) else if f_X10_hasBegun v x2 = 0 then (-1) else gnO (f_st v ac N nr w) NS x2.toNatClampNeg x1 nr
theorem k_X10_got {l : Launch} {I : List Nat} (hI : fr_I I) (v : fr_V) (u : fr_U) (ac N nr w NS : Nat) (x1 x2 : Int32) (hac : ac = 10 ∨ ac = 20) (ha : v 1000 1 = nI ac) (hw : v 1000 3 = nI w) (hw8 : w < 80) (hv : p3OK I nr N v) (hs : ∃ k0, k0 ≤ w ∧ v 300 10 = nI k0) (h0 : ∃ ar, ar ≤ 40 ∧ f_set v ac 0 = nI ar) (hS : v 300 8 = nI NS) (hS2 : NS ≤ 40) (hq : ∀ j, j < NS → vp_in (v 305 j) 8 ∧ vp_in (v 306 j) 8) (hh : ∀ r, r < nr → vp_in (v (2000 + 10 * r) 0) 8) : Con l mX10_got I v u [.ref 1000, .int x1, .int x2] (QX u (fun a b => a = f_got10 v ac N nr w NS x1 x2 ∧ (b = v ∨ ∃ G, b = upA (f_st v ac N nr w) 310 G))) := by
  refine Con.of (by decide) (Nat.le_of_ble_eq_true rfl) ?_
  show J l mX10_got I v u 0 [(0, .ref 1000), (1, .int x1), (2, .int x2)] [] _
  refine J_iload_n dX10_got_0 rfl 1 rfl ?_
  refine J_eSI (z := mX10_isHolder) (As := [.int x1]) (rest := []) (x := f_X10_isHolder v x1) dX10_got_1 ml_X10_116 ok_X10_isHolder iv_X10_isHolder (by decide) rfl rfl (Nat.le_of_ble_eq_true rfl) (k_X10_isHolder hI v u x1) ?_
  refine J_if_eq (tgt := 15) dX10_got_4 (by decide) (fun c1 => ?_) (fun c1 => ?_)
  · refine J_iconst (x := (-1)) dX10_got_15 (by decide) ?_
    exact J_iret dX10_got_16 rfl ⟨_, rfl, rfl, by unfold f_got10; rw [if_pos c1], Or.inl rfl⟩
  · refine J_aload_n dX10_got_7 rfl 0 rfl ?_
    refine J_iload_n dX10_got_8 rfl 2 rfl ?_
    refine J_eVI (z := mX10_hasBegun) (As := [.int x2]) (rest := []) (ci := 10) (x := f_X10_hasBegun v x2) dX10_got_9 ml_X10_185 ok_X10_hasBegun iv_X10_hasBegun (by decide) (i1000 hI) rfl rfl rfl rfl (Nat.le_of_ble_eq_true rfl) (k_X10_hasBegun hI v u x2) ?_
    refine J_if_ne (tgt := 17) dX10_got_12 (by decide) (fun c2 => ?_) (fun c2 => ?_)
    · have hx1 : vp_in x1 8 := by obtain ⟨q, hq8, rfl⟩ := hldN c1; exact vp_in_nI hq8 (by omega)
      obtain ⟨k, hkw, rfl⟩ := begN hw hw8 c2
      refine J_aload_n dX10_got_17 rfl 0 rfl ?_
      refine J_getr (ci := 10) (j := 6) (t := 300) dX10_got_18 fl_X10_47 (i1000 hI) rfl rfl rfl ?_
      refine J_aload_n dX10_got_21 rfl 0 rfl ?_
      refine J_gete (ci := 10) (j := 3) (x := nI w) dX10_got_22 fl_X10_92 (i1000 hI) rfl rfl hw ?_
      refine J_aload_n dX10_got_25 rfl 0 rfl ?_
      refine J_getd (ci := 10) (j := 1) (t := ac) dX10_got_26 fl_X10_19 (i1000 hI) rfl rfl (by rw [show v 1000 1 = nI ac from ha]; exact nI_pos (by omega)) (by rw [show v 1000 1 = nI ac from ha]; exact nI_clamp (by omega)) ?_
      refine J_eVN (z := mX3_settle) (As := [.int (nI w), .ref ac]) (rest := []) (ci := 3) (w := (f_st v ac N nr w)) dX10_got_29 ml_X10_163 ok_X3_settle iv_X3_settle (by decide) (i300 hI) rfl rfl rfl rfl (Nat.le_of_ble_eq_true rfl) (k_st hI v u ac N nr w hac hw8 hv hs h0) ?_
      refine J_aload_n dX10_got_32 rfl 0 rfl ?_
      refine J_getr (ci := 10) (j := 6) (t := 300) dX10_got_33 fl_X10_47 (i1000 hI) rfl rfl rfl ?_
      refine J_iload_n dX10_got_36 rfl 1 rfl ?_
      refine J_iload_n dX10_got_37 rfl 2 rfl ?_
      refine J_cVX (z := mX3_gainsOf) (As := [.int x1, .int (nI k)]) (rest := []) (ci := 3) dX10_got_38 ml_X10_188 ok_X3_gainsOf iv_X3_gainsOf (by decide) (i300 hI) rfl rfl rfl rfl (Nat.le_of_ble_eq_true rfl) (k_X3_gainsOf hI (f_st v ac N nr w) u nr k NS ((st_sm v ac N nr w).ok hv).1 (by omega) x1 (by rw [(st_sm v ac N nr w).2.2.1 8 (by omega)]; exact hS) hS2 (by rw [(st_sm v ac N nr w).1 305 (by omega) (by omega) (by omega) (by omega) (by omega) (by omega), (st_sm v ac N nr w).1 306 (by omega) (by omega) (by omega) (by omega) (by omega) (by omega)]; exact hq) (fun r hr => by rw [(st_sm v ac N nr w).2.2.2 r]; exact hh r hr) hx1) (fun b y hy => ?_)
      exact J_iret dX10_got_41 rfl ⟨_, rfl, rfl, by unfold f_got10; rw [if_neg c1, if_neg c2, nI_clamp (show k < 2 ^ 31 by omega)]; exact hy.1, Or.inr hy.2⟩
    · refine J_iconst (x := (-1)) dX10_got_15 (by decide) ?_
      exact J_iret dX10_got_16 rfl ⟨_, rfl, rfl, by unfold f_got10; rw [if_neg c1, if_pos c2], Or.inl rfl⟩
