theorem lf_know {v : fr_V} {N P : Nat} {x k : Int32} (h : lfOK v x P) : lfOK (f_know v N k) x P := by
  obtain ⟨h1, h2, hp, hP⟩ := h
  refine ⟨h1, ?_, ?_, hP⟩
  · rw [f_know_m (by decide) (by decide)]; exact h2
  · unfold f_X11_ageIn
    rw [f_know_m (by decide) (by decide), f_know_m (by decide) (by decide)]
    exact hp
def f_risk (v : fr_V) (N nr : Nat) (x1 : Int32) : Int64 × fr_V := if (f_X11_isLife (up2 v 1100 2 0)  x1) = 0 then (0, up2 (up2 v 1100 2 0) 1100 2 1) else if ((f_know (up2 v 1100 2 0) N (v 1100 3)) 1146 x1.toNatClampNeg) = (-1) then (f_riskOf (f_know (up2 v 1100 2 0) N (v 1100 3)) nr N x1, (f_know (up2 v 1100 2 0) N (v 1100 3))) else (0, up2 (f_know (up2 v 1100 2 0) N (v 1100 3)) 1100 2 2)
theorem k_X11_risk {l : Launch} {I : List Nat} (hI : fr_I I) (v : fr_V) (u : fr_U) (N nr P n : Nat) (hN : v 1100 16 = nI N) (hW : nt_ok (v 1118) (v 1119) N) (hR : v 1100 7 = nI nr) (hR2 : nr ≤ 16) (hL : v 1100 4 = nI n) (hL2 : n ≤ 12) (x1 : Int32) (hA : ¬ f_X11_isLife (up2 v 1100 2 0) x1 = 0 → lfOK (up2 v 1100 2 0) x1 P) : Con l mX11_risk I v u [.ref 1100, .int x1] (QY u (fun a b => a = (f_risk v N nr x1).1 ∧ b = (f_risk v N nr x1).2)) := by
  refine Con.of (by decide) (Nat.le_of_ble_eq_true rfl) ?_
  show J l mX11_risk I v u 0 [(0, .ref 1100), (1, .int x1)] [] _
  refine J_aload_n dX11_risk_0 rfl 0 rfl ?_
  refine J_iconst (x := 0) dX11_risk_1 (by decide) ?_
  refine J_puti (ci := 11) (j := 2) dX11_risk_2 fl_X11_129 (i1100 hI) rfl rfl (fun q h => by cases h; rfl) rfl ?_
  refine J_aload_n dX11_risk_5 rfl 0 rfl ?_
  refine J_iload_n dX11_risk_6 rfl 1 rfl ?_
  refine J_eVI (z := mX11_isLife) (As := [.int x1]) (rest := []) (ci := 11) (x := f_X11_isLife (up2 v 1100 2 0)  x1) dX11_risk_7 ml_X11_221 ok_X11_isLife iv_X11_isLife (by decide) (i1100 hI) rfl rfl rfl rfl (Nat.le_of_ble_eq_true rfl) (k_X11_isLife hI (up2 v 1100 2 0) u _ ) ?_
  refine J_if_ne (tgt := 19) dX11_risk_10 (by decide) (fun c1 => ?_) (fun c1 => ?_)
  · refine J_aload_n dX11_risk_19 rfl 0 rfl ?_
    refine J_aload_n dX11_risk_20 rfl 0 rfl ?_
    refine J_gete (ci := 11) (j := 3) (x := v 1100 3) dX11_risk_21 fl_X11_208 (i1100 hI) rfl rfl rfl ?_
    refine J_eVN (z := mX11_know) (As := [.int (v 1100 3)]) (rest := []) (ci := 11) (w := (f_know (up2 v 1100 2 0) N (v 1100 3))) dX11_risk_24 ml_X11_257 ok_X11_know iv_X11_know (by decide) (i1100 hI) rfl rfl rfl rfl (Nat.le_of_ble_eq_true rfl) (k_X11_know hI (up2 v 1100 2 0) u _ N hN hW) ?_
    refine J_aload_n dX11_risk_27 rfl 0 rfl ?_
    refine J_getr (ci := 11) (j := 45) (t := 1146) dX11_risk_28 fl_X11_96 (i1100 hI) rfl rfl rfl ?_
    refine J_iload_n dX11_risk_31 rfl 1 rfl ?_
    refine J_iale (x := (f_know (up2 v 1100 2 0) N (v 1100 3)) 1146 x1.toNatClampNeg) dX11_risk_32 (i1146 hI) rfl (lf_in hL hL2 (by assumption)) rfl ?_
    refine J_iconst (x := (-1)) dX11_risk_33 (by decide) ?_
    refine J_icmp_eq (tgt := 45) dX11_risk_34 (by decide) (fun c2 => ?_) (fun c2 => ?_)
    · refine J_aload_n dX11_risk_45 rfl 0 rfl ?_
      refine J_iload_n dX11_risk_46 rfl 1 rfl ?_
      refine J_eVL (z := mX11_riskOf) (As := [.int x1]) (rest := []) (ci := 11) (x := f_riskOf (f_know (up2 v 1100 2 0) N (v 1100 3)) nr N x1) dX11_risk_47 ml_X11_326 ok_X11_riskOf iv_X11_riskOf (by decide) (i1100 hI) rfl rfl rfl rfl (Nat.le_of_ble_eq_true rfl) (k_X11_riskOf hI (f_know (up2 v 1100 2 0) N (v 1100 3)) u _ P (lf_know (hA (by assumption))) N (by rw [f_know_m (by decide) (by decide)]; exact hN) (by rw [f_know_m (by decide) (by decide), f_know_m (by decide) (by decide)]; exact hW) nr (by rw [f_know_m (by decide) (by decide)]; exact hR) hR2) ?_
      exact J_lret dX11_risk_50 rfl ⟨_, rfl, rfl, by unfold f_risk; rw [if_neg c1, if_pos c2], by unfold f_risk; rw [if_neg c1, if_pos c2]⟩
    · refine J_aload_n dX11_risk_37 rfl 0 rfl ?_
      refine J_iconst (x := 2) dX11_risk_38 (by decide) ?_
      refine J_eVY (z := mX11_fails) (As := [.int 2]) (rest := []) (ci := 11) (x := 0) (w := up2 (f_know (up2 v 1100 2 0) N (v 1100 3)) 1100 2 2) dX11_risk_39 ml_X11_330 ok_X11_fails iv_X11_fails (by decide) (i1100 hI) rfl rfl rfl rfl (Nat.le_of_ble_eq_true rfl) (k_X11_fails hI (f_know (up2 v 1100 2 0) N (v 1100 3)) u _) ?_
      refine J_goto (tgt := 50) dX11_risk_42 (by decide) ?_
      exact J_lret dX11_risk_50 rfl ⟨_, rfl, rfl, by unfold f_risk; rw [if_neg c1, if_neg c2], by unfold f_risk; rw [if_neg c1, if_neg c2]⟩
  · refine J_aload_n dX11_risk_13 rfl 0 rfl ?_
    refine J_iconst (x := 1) dX11_risk_14 (by decide) ?_
    refine J_eVY (z := mX11_fails) (As := [.int 1]) (rest := []) (ci := 11) (x := 0) (w := up2 (up2 v 1100 2 0) 1100 2 1) dX11_risk_15 ml_X11_330 ok_X11_fails iv_X11_fails (by decide) (i1100 hI) rfl rfl rfl rfl (Nat.le_of_ble_eq_true rfl) (k_X11_fails hI (up2 v 1100 2 0) u _) ?_
    exact J_lret dX11_risk_18 rfl ⟨_, rfl, rfl, by unfold f_risk; rw [if_pos c1], by unfold f_risk; rw [if_pos c1]⟩
def sh_l (P : Nat → Int32) (c : Int32) : Nat → Int32
  | 0 => c
  | j + 1 => sh_l P c j - c * P j / 60
theorem sh_l_s (P : Nat → Int32) (c : Int32) (j : Nat) : sh_l P c (j + 1) = sh_l P c j - c * P j / 60 := rfl
def sh_m (P : Nat → Int32) : Nat → Int32
  | 0 => 0
  | j + 1 => if P j ≤ sh_m P j then sh_m P j else P j
theorem sh_m_s (P : Nat → Int32) (j : Nat) : sh_m P (j + 1) = if P j ≤ sh_m P j then sh_m P j else P j := rfl
def sh_b (P : Nat → Int32) : Nat → Nat
  | 0 => 0
  | j + 1 => if P j ≤ sh_m P j then sh_b P j else j
theorem sh_b_s (P : Nat → Int32) (j : Nat) : sh_b P (j + 1) = if P j ≤ sh_m P j then sh_b P j else j := rfl
theorem sh_b_le (P : Nat → Int32) : ∀ j, sh_b P j ≤ j := by
  intro j
  induction j with
  | zero => exact Nat.le_refl _
  | succ j ih => rw [sh_b_s]; split <;> omega
theorem sh_b_lt (P : Nat → Int32) : ∀ j, 0 < j → sh_b P j < j := by
  intro j
  induction j with
  | zero => intro h; omega
  | succ j ih =>
    intro _
    rw [sh_b_s]; split
    · have := sh_b_le P j; omega
    · omega
def sh_g (P : Nat → Int32) (c : Int32) (g0 : Nat → Int32) : Nat → Nat → Int32
  | 0 => g0
  | j + 1 => upd (sh_g P c g0 j) j (sh_g P c g0 j j + c * P j / 60)
theorem sh_g_s (P : Nat → Int32) (c : Int32) (g0 : Nat → Int32) (j : Nat) : sh_g P c g0 (j + 1) = upd (sh_g P c g0 j) j (sh_g P c g0 j j + c * P j / 60) := rfl
/-- the row of what each got, behind one payment -/
def sh_row (P : Nat → Int32) (c : Int32) (g0 : Nat → Int32) : Nat → Int32 := upd (sh_g P c g0 8) (sh_b P 8) (sh_g P c g0 8 (sh_b P 8) + sh_l P c 8)
def f_shares (v : fr_V) (NS r : Nat) (k : Int32) : fr_V := up2 (upA v 1148 (sh_row (fun j => f_parts v NS (nI r) (nI j) k) (v 1113 r) (v 1148))) 1100 48 (v 1100 48 + v 1113 r)
theorem sh_L {l : Launch} {I : List Nat} (hI : fr_I I) (v : fr_V) (u : fr_U) (NS r : Nat) (hr : r < 16) (hS : v 1100 14 = nI NS) (hS2 : NS ≤ 40) (x2 : Int32) : ∀ (d j : Nat) (a b : Int32) (q : Nat) (G : Nat → Int32) (hd : 8 - j < d) (hj : j ≤ 8) (ha : a = sh_l (fun j => f_parts v NS (nI r) (nI j) x2) (v 1113 r) j) (hb : b = sh_m (fun j => f_parts v NS (nI r) (nI j) x2) j) (hq : q = sh_b (fun j => f_parts v NS (nI r) (nI j) x2) j) (hG : G = sh_g (fun j => f_parts v NS (nI r) (nI j) x2) (v 1113 r) (v 1148) j), J l mX11_shares I (upA v 1148 G) u 16 [(0, .ref 1100), (1, .int (nI r)), (2, .int x2), (3, .int a), (4, .int b), (5, .int (nI q)), (6, .int (nI j))] [] (QN u (fun z => z = f_shares v NS r x2)) := by
  intro d
  induction d with
  | zero => intros; omega
  | succ d ih =>
    intro j a b q G hd hj ha hb hq hG
    refine J_iload dX11_shares_16 6 rfl ?_
    refine J_bipush (x := 8) dX11_shares_18 (by decide) ?_
    refine J_icmp_ge (tgt := 85) dX11_shares_20 (by decide) (fun c1 => ?_) (fun c1 => ?_)
    · have e : j = 8 := by have := nz_le (a := 8) (by omega) (by omega) c1; omega
      have hq8 : q < 8 := by rw [hq, e]; exact sh_b_lt _ 8 (by omega)
      refine J_aload_n dX11_shares_85 rfl 0 rfl ?_
      refine J_getr (ci := 11) (j := 47) (t := 1148) dX11_shares_86 fl_X11_102 (i1100 hI) rfl rfl rfl ?_
      refine J_iload dX11_shares_89 5 rfl ?_
      refine J_dup2 dX11_shares_91 rfl rfl ?_
      refine J_iale (x := G q) dX11_shares_92 (i1148 hI) rfl (ix_in (j := q) rfl (by omega) (by omega)) ((congrArg _ (ix_cl (j := q) rfl (by omega))).trans rfl) ?_
      refine J_iload_n dX11_shares_93 rfl 3 rfl ?_
      refine J_iadd dX11_shares_94 ?_
      refine J_iase (j := q) dX11_shares_95 (i1148 hI) rfl (ix_in (j := q) rfl (by omega) (by omega)) (ix_cl (j := q) rfl (by omega)) ?_
      refine J_aload_n dX11_shares_96 rfl 0 rfl ?_
      refine J_dup dX11_shares_97 rfl ?_
      refine J_gete (ci := 11) (j := 48) (x := v 1100 48) dX11_shares_98 fl_X11_266 (i1100 hI) rfl rfl rfl ?_
      refine J_aload_n dX11_shares_101 rfl 0 rfl ?_
      refine J_getr (ci := 11) (j := 12) (t := 1113) dX11_shares_102 fl_X11_31 (i1100 hI) rfl rfl rfl ?_
      refine J_iload_n dX11_shares_105 rfl 1 rfl ?_
      refine J_iale (x := v 1113 r) dX11_shares_106 (i1113 hI) rfl (ix_in (j := r) rfl (by omega) (by omega)) ((congrArg _ (ix_cl (j := r) rfl (by omega))).trans rfl) ?_
      refine J_iadd dX11_shares_107 ?_
      refine J_puti (ci := 11) (j := 48) dX11_shares_108 fl_X11_266 (i1100 hI) rfl rfl (fun q h => by cases h; rfl) rfl ?_
      exact J_vret dX11_shares_111 rfl ⟨rfl, rfl, by unfold f_shares sh_row; rw [up2_upA, hG, ha, hq, e]⟩
    · have hj8 : j < 8 := nz_nle (a := 8) (by omega) (by omega) c1
      refine J_aload_n dX11_shares_23 rfl 0 rfl ?_
      refine J_iload_n dX11_shares_24 rfl 1 rfl ?_
      refine J_iload dX11_shares_25 6 rfl ?_
      refine J_iload_n dX11_shares_27 rfl 2 rfl ?_
      refine J_eVI (z := mX11_partsOf) (As := [.int (nI r), .int (nI j), .int x2]) (rest := []) (ci := 11) (x := f_parts v NS (nI r) (nI j) x2) dX11_shares_28 ml_X11_245 ok_X11_partsOf iv_X11_partsOf (by decide) (i1100 hI) rfl rfl rfl rfl (Nat.le_of_ble_eq_true rfl) (k_X11_partsOf hI (upA v 1148 G) u _ _ _ NS hS hS2 (vp_in_nI hr (by omega))) ?_
      refine J_istore (lv' := [(7, .int (f_parts v NS (nI r) (nI j) x2)), (0, .ref 1100), (1, .int (nI r)), (2, .int x2), (3, .int a), (4, .int b), (5, .int (nI q)), (6, .int (nI j))]) dX11_shares_31 (by decide) rfl ?_
      refine J_aload_n dX11_shares_33 rfl 1 rfl ?_
      refine J_getr (ci := 11) (j := 12) (t := 1113) dX11_shares_34 fl_X11_31 (i1100 hI) rfl rfl rfl ?_
      refine J_iload_n dX11_shares_37 rfl 2 rfl ?_
      refine J_iale (x := v 1113 r) dX11_shares_38 (i1113 hI) rfl (ix_in (j := r) rfl (by omega) (by omega)) ((congrArg _ (ix_cl (j := r) rfl (by omega))).trans rfl) ?_
      refine J_iload dX11_shares_39 0 rfl ?_
      refine J_imul dX11_shares_41 ?_
      refine J_bipush (x := 60) dX11_shares_42 (by decide) ?_
      refine J_idiv dX11_shares_44 (by decide) ?_
      refine J_istore (lv' := [(8, .int (((v 1113 r) * (f_parts v NS (nI r) (nI j) x2)) / 60)), (7, .int (f_parts v NS (nI r) (nI j) x2)), (0, .ref 1100), (1, .int (nI r)), (2, .int x2), (3, .int a), (4, .int b), (5, .int (nI q)), (6, .int (nI j))]) dX11_shares_45 (by decide) rfl ?_
      refine J_aload_n dX11_shares_47 rfl 2 rfl ?_
      refine J_getr (ci := 11) (j := 47) (t := 1148) dX11_shares_48 fl_X11_102 (i1100 hI) rfl rfl rfl ?_
      refine J_iload dX11_shares_51 8 rfl ?_
      refine J_dup2 dX11_shares_53 rfl rfl ?_
      refine J_iale (x := G j) dX11_shares_54 (i1148 hI) rfl (ix_in (j := j) rfl (by omega) (by omega)) ((congrArg _ (ix_cl (j := j) rfl (by omega))).trans rfl) ?_
      refine J_iload dX11_shares_55 0 rfl ?_
      refine J_iadd dX11_shares_57 ?_
      refine J_iase (j := j) dX11_shares_58 (i1148 hI) rfl (ix_in (j := j) rfl (by omega) (by omega)) (ix_cl (j := j) rfl (by omega)) ?_
      refine J_iload_n dX11_shares_59 rfl 5 rfl ?_
      refine J_iload dX11_shares_60 0 rfl ?_
      refine J_isub dX11_shares_62 ?_
      refine J_istore_n (lv' := [(3, .int (a - (((v 1113 r) * (f_parts v NS (nI r) (nI j) x2)) / 60))), (8, .int (((v 1113 r) * (f_parts v NS (nI r) (nI j) x2)) / 60)), (7, .int (f_parts v NS (nI r) (nI j) x2)), (0, .ref 1100), (1, .int (nI r)), (2, .int x2), (4, .int b), (5, .int (nI q)), (6, .int (nI j))]) dX11_shares_63 rfl (by decide) rfl ?_
      refine J_iload dX11_shares_64 2 rfl ?_
      refine J_iload dX11_shares_66 6 rfl ?_
      refine J_icmp_le (tgt := 79) dX11_shares_68 (by decide) (fun c2 => ?_) (fun c2 => ?_)
      · refine J_iinc (q := 8) (z := nI (j + 1)) (lv' := [(6, .int (nI (j + 1))), (3, .int (a - (((v 1113 r) * (f_parts v NS (nI r) (nI j) x2)) / 60))), (8, .int (((v 1113 r) * (f_parts v NS (nI r) (nI j) x2)) / 60)), (7, .int (f_parts v NS (nI r) (nI j) x2)), (0, .ref 1100), (1, .int (nI r)), (2, .int x2), (4, .int b), (5, .int (nI q))]) dX11_shares_79 rfl (nI_1 j) (by decide) rfl ?_
        refine J_goto (tgt := 16) dX11_shares_82 (by decide) ?_
        rw [up2_upA]
        refine J_lv [4, 5, 6, 1, 7, 8, 0] rfl ?_
        exact ih (j + 1) _ _ _ _ (by omega) (by omega) (by rw [sh_l_s, ha]) (by rw [sh_m_s, ← hb, if_pos c2]) (by rw [sh_b_s, ← hb, if_pos c2, hq]) (by rw [sh_g_s, hG])
      · refine J_iload dX11_shares_71 2 rfl ?_
        refine J_istore (lv' := [(4, .int (f_parts v NS (nI r) (nI j) x2)), (3, .int (a - (((v 1113 r) * (f_parts v NS (nI r) (nI j) x2)) / 60))), (8, .int (((v 1113 r) * (f_parts v NS (nI r) (nI j) x2)) / 60)), (7, .int (f_parts v NS (nI r) (nI j) x2)), (0, .ref 1100), (1, .int (nI r)), (2, .int x2), (5, .int (nI q)), (6, .int (nI j))]) dX11_shares_73 (by decide) rfl ?_
        refine J_iload dX11_shares_75 8 rfl ?_
        refine J_istore (lv' := [(5, .int (nI j)), (4, .int (f_parts v NS (nI r) (nI j) x2)), (3, .int (a - (((v 1113 r) * (f_parts v NS (nI r) (nI j) x2)) / 60))), (8, .int (((v 1113 r) * (f_parts v NS (nI r) (nI j) x2)) / 60)), (7, .int (f_parts v NS (nI r) (nI j) x2)), (0, .ref 1100), (1, .int (nI r)), (2, .int x2), (6, .int (nI j))]) dX11_shares_77 (by decide) rfl ?_
        refine J_iinc (q := 8) (z := nI (j + 1)) (lv' := [(6, .int (nI (j + 1))), (5, .int (nI j)), (4, .int (f_parts v NS (nI r) (nI j) x2)), (3, .int (a - (((v 1113 r) * (f_parts v NS (nI r) (nI j) x2)) / 60))), (8, .int (((v 1113 r) * (f_parts v NS (nI r) (nI j) x2)) / 60)), (7, .int (f_parts v NS (nI r) (nI j) x2)), (0, .ref 1100), (1, .int (nI r)), (2, .int x2)]) dX11_shares_79 rfl (nI_1 j) (by decide) rfl ?_
        refine J_goto (tgt := 16) dX11_shares_82 (by decide) ?_
        rw [up2_upA]
        refine J_lv [6, 7, 8, 3, 2, 1, 0] rfl ?_
        exact ih (j + 1) _ _ _ _ (by omega) (by omega) (by rw [sh_l_s, ha]) (by rw [sh_m_s, ← hb, if_neg c2]) (by rw [sh_b_s, ← hb, if_neg c2]) (by rw [sh_g_s, hG])
theorem k_X11_shares {l : Launch} {I : List Nat} (hI : fr_I I) (v : fr_V) (u : fr_U) (NS r : Nat) (hr : r < 16) (hS : v 1100 14 = nI NS) (hS2 : NS ≤ 40) (x2 : Int32) : Con l mX11_shares I v u [.ref 1100, .int (nI r), .int x2] (QN u (fun z => z = f_shares v NS r x2)) := by
  refine Con.of (by decide) (Nat.le_of_ble_eq_true rfl) ?_
  show J l mX11_shares I v u 0 [(0, .ref 1100), (1, .int (nI r)), (2, .int x2)] [] _
  refine J_aload_n dX11_shares_0 rfl 0 rfl ?_
  refine J_getr (ci := 11) (j := 12) (t := 1113) dX11_shares_1 fl_X11_31 (i1100 hI) rfl rfl rfl ?_
  refine J_iload_n dX11_shares_4 rfl 1 rfl ?_
  refine J_iale (x := v 1113 r) dX11_shares_5 (i1113 hI) rfl (ix_in (j := r) rfl (by omega) (by omega)) ((congrArg _ (ix_cl (j := r) rfl (by omega))).trans rfl) ?_
  refine J_istore_n (lv' := [(3, .int (v 1113 r)), (0, .ref 1100), (1, .int (nI r)), (2, .int x2)]) dX11_shares_6 rfl (by decide) rfl ?_
  refine J_iconst (x := 0) dX11_shares_7 (by decide) ?_
  refine J_istore (lv' := [(4, .int 0), (3, .int (v 1113 r)), (0, .ref 1100), (1, .int (nI r)), (2, .int x2)]) dX11_shares_8 (by decide) rfl ?_
  refine J_iconst (x := 0) dX11_shares_10 (by decide) ?_
  refine J_istore (lv' := [(5, .int 0), (4, .int 0), (3, .int (v 1113 r)), (0, .ref 1100), (1, .int (nI r)), (2, .int x2)]) dX11_shares_11 (by decide) rfl ?_
  refine J_iconst (x := 0) dX11_shares_13 (by decide) ?_
  refine J_istore (lv' := [(6, .int 0), (5, .int 0), (4, .int 0), (3, .int (v 1113 r)), (0, .ref 1100), (1, .int (nI r)), (2, .int x2)]) dX11_shares_14 (by decide) rfl ?_
  refine J_lv [4, 5, 6, 3, 2, 1, 0] rfl ?_
  refine J_ve (w := upA v 1148 (v 1148)) (upA_id v 1148).symm ?_
  exact sh_L hI v u NS r hr hS hS2 x2 9 0 _ _ 0 _ (by omega) (by omega) rfl rfl rfl rfl
