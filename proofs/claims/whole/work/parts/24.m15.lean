noncomputable def f_state (v : fr_V) (nr N NS ar : Nat) (x1 x2 : Int32) : Int32 × fr_V := if f_X11_isIn (up2 v 1100 2 0) x1 0 (v 1100 3) = 0 then ((-1), up2 v 1100 2 0) else if f_X11_isIn (up2 v 1100 2 0) x2 0 2 = 0 then ((-1), up2 v 1100 2 0) else if x2 = 1 then (f_pays (up2 v 1100 2 0) nr N NS ar x1.toNatClampNeg 1100 48, f_pays (up2 v 1100 2 0) nr N NS ar x1.toNatClampNeg) else (st_sum (f_pays (up2 v 1100 2 0) nr N NS ar x1.toNatClampNeg) x1 x2 0 nr, f_pays (up2 v 1100 2 0) nr N NS ar x1.toNatClampNeg)
theorem k_X11_state {l : Launch} {I : List Nat} (hI : fr_I I) (v : fr_V) (u : fr_U) (nr N NS ar : Nat) (hv : py_ok nr N NS ar v) (E : Nat) (hE0 : v 1100 3 = nI E) (hE : E ≤ 79) (x1 x2 : Int32) : Con l mX11_state I v u [.ref 1100, .int x1, .int x2] (QX u (fun a b => a = (f_state v nr N NS ar x1 x2).1 ∧ b = (f_state v nr N NS ar x1 x2).2)) := by
  refine Con.of (by decide) (Nat.le_of_ble_eq_true rfl) ?_
  show J l mX11_state I v u 0 [(0, .ref 1100), (1, .int x1), (2, .int x2)] [] _
  refine J_aload_n dX11_state_0 rfl 0 rfl ?_
  refine J_iconst (x := 0) dX11_state_1 (by decide) ?_
  refine J_puti (ci := 11) (j := 2) dX11_state_2 fl_X11_129 (i1100 hI) rfl rfl (fun q h => by cases h; rfl) rfl ?_
  refine J_iload_n dX11_state_5 rfl 1 rfl ?_
  refine J_iconst (x := 0) dX11_state_6 (by decide) ?_
  refine J_aload_n dX11_state_7 rfl 0 rfl ?_
  refine J_gete (ci := 11) (j := 3) (x := v 1100 3) dX11_state_8 fl_X11_208 (i1100 hI) rfl rfl rfl ?_
  refine J_eSI (z := mX11_isIn) (As := [.int x1, .int 0, .int (v 1100 3)]) (rest := []) (x := f_X11_isIn (up2 v 1100 2 0)  x1 0 (v 1100 3)) dX11_state_11 ml_X11_204 ok_X11_isIn iv_X11_isIn (by decide) rfl rfl (Nat.le_of_ble_eq_true rfl) (k_X11_isIn hI (up2 v 1100 2 0) u _ _ _ ) ?_
  refine J_if_eq (tgt := 26) dX11_state_14 (by decide) (fun c1 => ?_) (fun c1 => ?_)
  · refine J_iconst (x := (-1)) dX11_state_26 (by decide) ?_
    exact J_iret dX11_state_27 rfl ⟨_, rfl, rfl, by unfold f_state; rw [if_pos c1], by unfold f_state; rw [if_pos c1]⟩
  · refine J_iload_n dX11_state_17 rfl 2 rfl ?_
    refine J_iconst (x := 0) dX11_state_18 (by decide) ?_
    refine J_iconst (x := 2) dX11_state_19 (by decide) ?_
    refine J_eSI (z := mX11_isIn) (As := [.int x2, .int 0, .int 2]) (rest := []) (x := f_X11_isIn (up2 v 1100 2 0)  x2 0 2) dX11_state_20 ml_X11_204 ok_X11_isIn iv_X11_isIn (by decide) rfl rfl (Nat.le_of_ble_eq_true rfl) (k_X11_isIn hI (up2 v 1100 2 0) u _ _ _ ) ?_
    refine J_if_ne (tgt := 28) dX11_state_23 (by decide) (fun c2 => ?_) (fun c2 => ?_)
    · refine J_aload_n dX11_state_28 rfl 0 rfl ?_
      refine J_iload_n dX11_state_29 rfl 1 rfl ?_
      refine J_eVN (z := mX11_pays) (As := [.int x1]) (rest := []) (ci := 11) (w := f_pays (up2 v 1100 2 0) nr N NS ar x1.toNatClampNeg) dX11_state_30 ml_X11_279 ok_X11_pays iv_X11_pays (by decide) (i1100 hI) rfl rfl rfl rfl (Nat.le_of_ble_eq_true rfl) (k2_pays hI (up2 v 1100 2 0) u nr N NS ar (hv.of py_same_2) _ (now_in hE0 hE (by assumption))) ?_
      refine J_iload_n dX11_state_33 rfl 2 rfl ?_
      refine J_iconst (x := 1) dX11_state_34 (by decide) ?_
      refine J_icmp_ne (tgt := 45) dX11_state_35 (by decide) (fun c3 => ?_) (fun c3 => ?_)
      · refine J_iconst (x := 0) dX11_state_45 (by decide) ?_
        refine J_istore_n (lv' := [(3, .int 0), (0, .ref 1100), (1, .int x1), (2, .int x2)]) dX11_state_46 rfl (by decide) rfl ?_
        refine J_iconst (x := 0) dX11_state_47 (by decide) ?_
        refine J_istore (lv' := [(4, .int 0), (3, .int 0), (0, .ref 1100), (1, .int x1), (2, .int x2)]) dX11_state_48 (by decide) rfl ?_
        refine J_lv [2, 3, 4, 1, 0] rfl ?_
        refine J_post (fun r v1 u1 hq => ?_) (st_L hI (f_pays (up2 v 1100 2 0) nr N NS ar x1.toNatClampNeg) u nr N NS ar (hv.of (py_same_p.tr py_same_2)) x1 x2 0 c3 hv.2.1 (nr + 1) 0 _ (by omega) (by omega) rfl)
        obtain ⟨x, q1, q2, q3, q4⟩ := hq
        exact ⟨x, q1, q3, by rw [q4]; unfold f_state; rw [if_neg c1, if_neg c2, if_neg c3], by rw [q2]; unfold f_state; rw [if_neg c1, if_neg c2, if_neg c3]⟩
      · refine J_aload_n dX11_state_38 rfl 0 rfl ?_
        refine J_gete (ci := 11) (j := 48) (x := (f_pays (up2 v 1100 2 0) nr N NS ar x1.toNatClampNeg) 1100 48) dX11_state_39 fl_X11_266 (i1100 hI) rfl rfl rfl ?_
        refine J_goto (tgt := 46) dX11_state_42 (by decide) ?_
        refine J_istore_n (lv' := [(3, .int ((f_pays (up2 v 1100 2 0) nr N NS ar x1.toNatClampNeg) 1100 48)), (0, .ref 1100), (1, .int x1), (2, .int x2)]) dX11_state_46 rfl (by decide) rfl ?_
        refine J_iconst (x := 0) dX11_state_47 (by decide) ?_
        refine J_istore (lv' := [(4, .int 0), (3, .int ((f_pays (up2 v 1100 2 0) nr N NS ar x1.toNatClampNeg) 1100 48)), (0, .ref 1100), (1, .int x1), (2, .int x2)]) dX11_state_48 (by decide) rfl ?_
        refine J_iload dX11_state_50 0 rfl ?_
        refine J_aload_n dX11_state_52 rfl 2 rfl ?_
        refine J_gete (ci := 11) (j := 7) (x := (f_pays (up2 v 1100 2 0) nr N NS ar x1.toNatClampNeg) 1100 7) dX11_state_53 fl_X11_233 (i1100 hI) rfl rfl rfl ?_
        refine J_icmp_ge (tgt := 109) dX11_state_56 (by decide) (fun c51 => ?_) (fun c51 => ?_)
        · refine J_iload_n dX11_state_109 rfl 1 rfl ?_
          exact J_iret dX11_state_110 rfl ⟨_, rfl, rfl, by unfold f_state; rw [if_neg c1, if_neg c2, if_pos c3], by unfold f_state; rw [if_neg c1, if_neg c2, if_pos c3]⟩
        · refine J_iload_n dX11_state_59 rfl 4 rfl ?_
          refine J_iconst (x := 1) dX11_state_60 (by decide) ?_
          refine J_icmp_eq (tgt := 109) dX11_state_61 (by decide) (fun c52 => ?_) (fun c52 => absurd c3 c52)
          refine J_iload_n dX11_state_109 rfl 1 rfl ?_
          exact J_iret dX11_state_110 rfl ⟨_, rfl, rfl, by unfold f_state; rw [if_neg c1, if_neg c2, if_pos c3], by unfold f_state; rw [if_neg c1, if_neg c2, if_pos c3]⟩
    · refine J_iconst (x := (-1)) dX11_state_26 (by decide) ?_
      exact J_iret dX11_state_27 rfl ⟨_, rfl, rfl, by unfold f_state; rw [if_neg c1, if_pos c2], by unfold f_state; rw [if_neg c1, if_pos c2]⟩
def la (R : Nat → Int64) (Dd : Nat → Int32) (i : Nat) : Nat → Int32
  | 0 => 0
  | m + 1 => if nI m = nI i then la R Dd i m else if Dd m = (-1) then la R Dd i m + (if 0 < lg_cmp (R m) (R i) then 1 else if lg_cmp (R m) (R i) = 0 then (if nI i ≤ nI m then 0 else 1) else 0) else la R Dd i m
theorem la_s (R : Nat → Int64) (Dd : Nat → Int32) (i m : Nat) : la R Dd i (m + 1) = if nI m = nI i then la R Dd i m else if Dd m = (-1) then la R Dd i m + (if 0 < lg_cmp (R m) (R i) then 1 else if lg_cmp (R m) (R i) = 0 then (if nI i ≤ nI m then 0 else 1) else 0) else la R Dd i m := rfl
def lk_hit (R : Nat → Int64) (Dd : Nat → Int32) (n : Nat) (k : Int32) (i : Nat) : Prop := Dd i = (-1) ∧ la R Dd i n = k
def lk_post (R : Nat → Int64) (Dd : Nat → Int32) (n : Nat) (k a : Int32) : Prop := (∃ i, i < n ∧ lk_hit R Dd n k i ∧ (∀ j, j < i → ¬ lk_hit R Dd n k j) ∧ a = nI i) ∨ ((∀ j, j < n → ¬ lk_hit R Dd n k j) ∧ a = (-1))
theorem lk_m {l : Launch} {I : List Nat} (hI : fr_I I) (v : fr_V) (u : fr_U) (nr N n : Nat) (hN : v 1100 16 = nI N) (hW : nt_ok (v 1118) (v 1119) N) (hR : v 1100 7 = nI nr) (hR2 : nr ≤ 16) (hL : v 1100 4 = nI n) (hL2 : n ≤ 12) (hLf : ∀ i, i < n → ∃ P, lfOK v (nI i) P) (x1 : Int32) (i : Nat) (hin : i < n) {Q : Option Value → fr_V → fr_U → Prop} (hk : ∀ a : Int32, a = la (fun i => f_riskOf v nr N (nI i)) (v 1146) i n → J l mX11_look I v u 127 [(0, .ref 1100), (1, .int x1), (2, .int (nI i)), (3, .int a)] [] Q) : ∀ (d m : Nat) (a : Int32) (hd : n - m < d) (hm : m ≤ n) (ha : a = la (fun i => f_riskOf v nr N (nI i)) (v 1146) i m), J l mX11_look I v u 47 [(0, .ref 1100), (1, .int x1), (2, .int (nI i)), (3, .int a), (4, .int (nI m))] [] Q := by
  intro d
  induction d with
  | zero => intros; omega
  | succ d ih =>
    intro m a hd hm ha
    refine J_iload dX11_look_47 4 rfl ?_
    refine J_aload_n dX11_look_49 rfl 0 rfl ?_
    refine J_gete (ci := 11) (j := 4) (x := nI n) dX11_look_50 fl_X11_211 (i1100 hI) rfl rfl hL ?_
    refine J_icmp_ge (tgt := 127) dX11_look_53 (by decide) (fun c1 => ?_) (fun c1 => ?_)
    · have e : m = n := by have := nz_le (by omega) (by omega) c1; omega
      refine J_lv [0, 1, 2, 3] rfl ?_
      exact hk a (by rw [ha, e])
    · have hmn : m < n := nz_nle (by omega) (by omega) c1
      refine J_iload dX11_look_56 4 rfl ?_
      refine J_iload_n dX11_look_58 rfl 2 rfl ?_
      refine J_icmp_eq (tgt := 121) dX11_look_59 (by decide) (fun c2 => ?_) (fun c2 => ?_)
      · refine J_iinc (q := 4) (z := nI (m + 1)) (lv' := [(4, .int (nI (m + 1))), (0, .ref 1100), (1, .int x1), (2, .int (nI i)), (3, .int a)]) dX11_look_121 rfl (nI_1 m) (by decide) rfl ?_
        refine J_goto (tgt := 47) dX11_look_124 (by decide) ?_
        refine J_lv [1, 2, 3, 4, 0] rfl ?_
        exact ih (m + 1) _ (by omega) (by omega) (by rw [la_s, if_pos c2, ha])
      · refine J_aload_n dX11_look_62 rfl 0 rfl ?_
        refine J_getr (ci := 11) (j := 45) (t := 1146) dX11_look_63 fl_X11_96 (i1100 hI) rfl rfl rfl ?_
        refine J_iload dX11_look_66 4 rfl ?_
        refine J_iale (x := v 1146 m) dX11_look_68 (i1146 hI) rfl (ix_in (j := m) rfl (by omega) (by omega)) ((congrArg _ (ix_cl (j := m) rfl (by omega))).trans rfl) ?_
        refine J_iconst (x := (-1)) dX11_look_69 (by decide) ?_
        refine J_icmp_eq (tgt := 76) dX11_look_70 (by decide) (fun c3 => ?_) (fun c3 => ?_)
        · refine J_aload_n dX11_look_76 rfl 0 rfl ?_
          refine J_iload dX11_look_77 4 rfl ?_
          refine J_eVL (z := mX11_riskOf) (As := [.int (nI m)]) (rest := []) (ci := 11) (x := f_riskOf v nr N (nI m)) dX11_look_79 ml_X11_326 ok_X11_riskOf iv_X11_riskOf (by decide) (i1100 hI) rfl rfl rfl rfl (Nat.le_of_ble_eq_true rfl) (k_X11_riskOf hI v u _ _ (hLf m hmn).choose_spec N hN hW nr hR hR2) ?_
          refine J_lstore (lv' := [(5, .long (f_riskOf v nr N (nI m))), (0, .ref 1100), (1, .int x1), (2, .int (nI i)), (3, .int a), (4, .int (nI m))]) dX11_look_82 (by decide) rfl ?_
          refine J_aload_n dX11_look_84 rfl 1 rfl ?_
          refine J_iload_n dX11_look_85 rfl 3 rfl ?_
          refine J_eVL (z := mX11_riskOf) (As := [.int (nI i)]) (rest := []) (ci := 11) (x := f_riskOf v nr N (nI i)) dX11_look_86 ml_X11_326 ok_X11_riskOf iv_X11_riskOf (by decide) (i1100 hI) rfl rfl rfl rfl (Nat.le_of_ble_eq_true rfl) (k_X11_riskOf hI v u _ _ (hLf i hin).choose_spec N hN hW nr hR hR2) ?_
          refine J_lstore (lv' := [(7, .long (f_riskOf v nr N (nI i))), (5, .long (f_riskOf v nr N (nI m))), (0, .ref 1100), (1, .int x1), (2, .int (nI i)), (3, .int a), (4, .int (nI m))]) dX11_look_89 (by decide) rfl ?_
          refine J_iload_n dX11_look_91 rfl 5 rfl ?_
          refine J_lload dX11_look_92 1 rfl ?_
          refine J_lload dX11_look_94 0 rfl ?_
          refine J_lcmp dX11_look_96 ?_
          refine J_if_gt (tgt := 114) dX11_look_97 (by decide) (fun c4 => ?_) (fun c4 => ?_)
          · refine J_iconst (x := 1) dX11_look_114 (by decide) ?_
            refine J_goto (tgt := 119) dX11_look_115 (by decide) ?_
            refine J_iadd dX11_look_119 ?_
            refine J_istore_n (lv' := [(3, .int (a + 1)), (7, .long (f_riskOf v nr N (nI i))), (5, .long (f_riskOf v nr N (nI m))), (0, .ref 1100), (1, .int x1), (2, .int (nI i)), (4, .int (nI m))]) dX11_look_120 rfl (by decide) rfl ?_
            refine J_iinc (q := 6) (z := nI (m + 1)) (lv' := [(4, .int (nI (m + 1))), (3, .int (a + 1)), (7, .long (f_riskOf v nr N (nI i))), (5, .long (f_riskOf v nr N (nI m))), (0, .ref 1100), (1, .int x1), (2, .int (nI i))]) dX11_look_121 rfl (nI_1 m) (by decide) rfl ?_
            refine J_goto (tgt := 47) dX11_look_124 (by decide) ?_
            refine J_lv [4, 5, 6, 1, 0] rfl ?_
            exact ih (m + 1) _ (by omega) (by omega) (by rw [la_s, if_neg c2, if_pos c3, if_pos c4, ha])
          · refine J_lload dX11_look_100 1 rfl ?_
            refine J_lload dX11_look_102 0 rfl ?_
            refine J_lcmp dX11_look_104 ?_
            refine J_if_ne (tgt := 118) dX11_look_105 (by decide) (fun c5 => ?_) (fun c5 => ?_)
            · refine J_iconst (x := 0) dX11_look_118 (by decide) ?_
              refine J_iadd dX11_look_119 ?_
              refine J_istore_n (lv' := [(3, .int (a + 0)), (7, .long (f_riskOf v nr N (nI i))), (5, .long (f_riskOf v nr N (nI m))), (0, .ref 1100), (1, .int x1), (2, .int (nI i)), (4, .int (nI m))]) dX11_look_120 rfl (by decide) rfl ?_
              refine J_iinc (q := 6) (z := nI (m + 1)) (lv' := [(4, .int (nI (m + 1))), (3, .int (a + 0)), (7, .long (f_riskOf v nr N (nI i))), (5, .long (f_riskOf v nr N (nI m))), (0, .ref 1100), (1, .int x1), (2, .int (nI i))]) dX11_look_121 rfl (nI_1 m) (by decide) rfl ?_
              refine J_goto (tgt := 47) dX11_look_124 (by decide) ?_
              refine J_lv [4, 5, 6, 1, 0] rfl ?_
              exact ih (m + 1) _ (by omega) (by omega) (by rw [la_s, if_neg c2, if_pos c3, if_neg c4, if_neg c5, ha])
            · refine J_iload dX11_look_108 6 rfl ?_
              refine J_iload_n dX11_look_110 rfl 4 rfl ?_
              refine J_icmp_ge (tgt := 118) dX11_look_111 (by decide) (fun c6 => ?_) (fun c6 => ?_)
              · refine J_iconst (x := 0) dX11_look_118 (by decide) ?_
                refine J_iadd dX11_look_119 ?_
                refine J_istore_n (lv' := [(3, .int (a + 0)), (7, .long (f_riskOf v nr N (nI i))), (5, .long (f_riskOf v nr N (nI m))), (0, .ref 1100), (1, .int x1), (2, .int (nI i)), (4, .int (nI m))]) dX11_look_120 rfl (by decide) rfl ?_
                refine J_iinc (q := 6) (z := nI (m + 1)) (lv' := [(4, .int (nI (m + 1))), (3, .int (a + 0)), (7, .long (f_riskOf v nr N (nI i))), (5, .long (f_riskOf v nr N (nI m))), (0, .ref 1100), (1, .int x1), (2, .int (nI i))]) dX11_look_121 rfl (nI_1 m) (by decide) rfl ?_
                refine J_goto (tgt := 47) dX11_look_124 (by decide) ?_
                refine J_lv [4, 5, 6, 1, 0] rfl ?_
                exact ih (m + 1) _ (by omega) (by omega) (by rw [la_s, if_neg c2, if_pos c3, if_neg c4, if_pos c5, if_pos c6, ha])
              · refine J_iconst (x := 1) dX11_look_114 (by decide) ?_
                refine J_goto (tgt := 119) dX11_look_115 (by decide) ?_
                refine J_iadd dX11_look_119 ?_
                refine J_istore_n (lv' := [(3, .int (a + 1)), (7, .long (f_riskOf v nr N (nI i))), (5, .long (f_riskOf v nr N (nI m))), (0, .ref 1100), (1, .int x1), (2, .int (nI i)), (4, .int (nI m))]) dX11_look_120 rfl (by decide) rfl ?_
                refine J_iinc (q := 6) (z := nI (m + 1)) (lv' := [(4, .int (nI (m + 1))), (3, .int (a + 1)), (7, .long (f_riskOf v nr N (nI i))), (5, .long (f_riskOf v nr N (nI m))), (0, .ref 1100), (1, .int x1), (2, .int (nI i))]) dX11_look_121 rfl (nI_1 m) (by decide) rfl ?_
                refine J_goto (tgt := 47) dX11_look_124 (by decide) ?_
                refine J_lv [4, 5, 6, 1, 0] rfl ?_
                exact ih (m + 1) _ (by omega) (by omega) (by rw [la_s, if_neg c2, if_pos c3, if_neg c4, if_pos c5, if_neg c6, ha])
        · refine J_goto (tgt := 121) dX11_look_73 (by decide) ?_
          refine J_iinc (q := 4) (z := nI (m + 1)) (lv' := [(4, .int (nI (m + 1))), (0, .ref 1100), (1, .int x1), (2, .int (nI i)), (3, .int a)]) dX11_look_121 rfl (nI_1 m) (by decide) rfl ?_
          refine J_goto (tgt := 47) dX11_look_124 (by decide) ?_
          refine J_lv [1, 2, 3, 4, 0] rfl ?_
          exact ih (m + 1) _ (by omega) (by omega) (by rw [la_s, if_neg c2, if_neg c3, ha])
theorem lk_o {l : Launch} {I : List Nat} (hI : fr_I I) (v : fr_V) (u : fr_U) (nr N n : Nat) (hN : v 1100 16 = nI N) (hW : nt_ok (v 1118) (v 1119) N) (hR : v 1100 7 = nI nr) (hR2 : nr ≤ 16) (hL : v 1100 4 = nI n) (hL2 : n ≤ 12) (hLf : ∀ i, i < n → ∃ P, lfOK v (nI i) P) (x1 : Int32) : ∀ (d i : Nat) (hd : n - i < d) (hi : i ≤ n) (hno : ∀ j, j < i → ¬ lk_hit (fun i => f_riskOf v nr N (nI i)) (v 1146) n x1 j), J l mX11_look I v u 21 [(0, .ref 1100), (1, .int x1), (2, .int (nI i))] [] (QI v u (fun a => lk_post (fun i => f_riskOf v nr N (nI i)) (v 1146) n x1 a)) := by
  intro d
  induction d with
  | zero => intros; omega
  | succ d ih =>
    intro i hd hi hno
    refine J_iload_n dX11_look_21 rfl 2 rfl ?_
    refine J_aload_n dX11_look_22 rfl 0 rfl ?_
    refine J_gete (ci := 11) (j := 4) (x := nI n) dX11_look_23 fl_X11_211 (i1100 hI) rfl rfl hL ?_
    refine J_icmp_ge (tgt := 140) dX11_look_26 (by decide) (fun c1 => ?_) (fun c1 => ?_)
    · refine J_iconst (x := (-1)) dX11_look_140 (by decide) ?_
      exact J_iret dX11_look_141 rfl ⟨_, rfl, rfl, rfl, Or.inr ⟨fun j hj => hno j (by have := nz_le (by omega) (by omega) c1; omega), rfl⟩⟩
    · have hin : i < n := nz_nle (by omega) (by omega) c1
      refine J_aload_n dX11_look_29 rfl 0 rfl ?_
      refine J_getr (ci := 11) (j := 45) (t := 1146) dX11_look_30 fl_X11_96 (i1100 hI) rfl rfl rfl ?_
      refine J_iload_n dX11_look_33 rfl 2 rfl ?_
      refine J_iale (x := v 1146 i) dX11_look_34 (i1146 hI) rfl (ix_in (j := i) rfl (by omega) (by omega)) ((congrArg _ (ix_cl (j := i) rfl (by omega))).trans rfl) ?_
      refine J_iconst (x := (-1)) dX11_look_35 (by decide) ?_
      refine J_icmp_eq (tgt := 42) dX11_look_36 (by decide) (fun c2 => ?_) (fun c2 => ?_)
      · refine J_iconst (x := 0) dX11_look_42 (by decide) ?_
        refine J_istore_n (lv' := [(3, .int 0), (0, .ref 1100), (1, .int x1), (2, .int (nI i))]) dX11_look_43 rfl (by decide) rfl ?_
        refine J_iconst (x := 0) dX11_look_44 (by decide) ?_
        refine J_istore (lv' := [(4, .int 0), (3, .int 0), (0, .ref 1100), (1, .int x1), (2, .int (nI i))]) dX11_look_45 (by decide) rfl ?_
        refine J_lv [2, 3, 4, 1, 0] rfl ?_
        refine lk_m hI v u nr N n hN hW hR hR2 hL hL2 hLf x1 i hin (fun a ha => ?_) (n + 1) 0 _ (by omega) (by omega) rfl
        refine J_iload_n dX11_look_127 rfl 3 rfl ?_
        refine J_iload_n dX11_look_128 rfl 1 rfl ?_
        refine J_icmp_ne (tgt := 134) dX11_look_129 (by decide) (fun c1 => ?_) (fun c1 => ?_)
        · refine J_iinc (q := 2) (z := nI (i + 1)) (lv' := [(2, .int (nI (i + 1))), (0, .ref 1100), (1, .int x1), (3, .int a)]) dX11_look_134 rfl (nI_1 i) (by decide) rfl ?_
          refine J_goto (tgt := 21) dX11_look_137 (by decide) ?_
          refine J_lv [1, 2, 0] rfl ?_
          exact ih (i + 1) (by omega) (by omega) (lt_s hno (fun h => c1 (by rw [ha]; exact h.2)))
        · refine J_iload_n dX11_look_132 rfl 2 rfl ?_
          exact J_iret dX11_look_133 rfl ⟨_, rfl, rfl, rfl, Or.inl ⟨i, hin, ⟨c2, by rw [← ha]; exact c1⟩, hno, rfl⟩⟩
      · refine J_goto (tgt := 134) dX11_look_39 (by decide) ?_
        refine J_iinc (q := 2) (z := nI (i + 1)) (lv' := [(2, .int (nI (i + 1))), (0, .ref 1100), (1, .int x1)]) dX11_look_134 rfl (nI_1 i) (by decide) rfl ?_
        refine J_goto (tgt := 21) dX11_look_137 (by decide) ?_
        refine J_lv [1, 2, 0] rfl ?_
        exact ih (i + 1) (by omega) (by omega) (lt_s hno (fun h => c2 h.1))
theorem k_X11_look {l : Launch} {I : List Nat} (hI : fr_I I) (v : fr_V) (u : fr_U) (nr N n : Nat) (hN : v 1100 16 = nI N) (hW : nt_ok (v 1118) (v 1119) N) (hR : v 1100 7 = nI nr) (hR2 : nr ≤ 16) (hL : v 1100 4 = nI n) (hL2 : n ≤ 12) (hLf : ∀ i, i < n → ∃ P, lfOK (up2 v 1100 2 0) (nI i) P) (x1 : Int32) : Con l mX11_look I v u [.ref 1100, .int x1] (QX u (fun a b => if 0 ≤ x1 then (lk_post (fun i => f_riskOf (f_know (up2 v 1100 2 0) N (v 1100 3)) nr N (nI i)) ((f_know (up2 v 1100 2 0) N (v 1100 3)) 1146) n x1 a ∧ b = (f_know (up2 v 1100 2 0) N (v 1100 3))) else (a = (-1) ∧ b = up2 v 1100 2 0))) := by
  refine Con.of (by decide) (Nat.le_of_ble_eq_true rfl) ?_
  show J l mX11_look I v u 0 [(0, .ref 1100), (1, .int x1)] [] _
  refine J_aload_n dX11_look_0 rfl 0 rfl ?_
  refine J_iconst (x := 0) dX11_look_1 (by decide) ?_
  refine J_puti (ci := 11) (j := 2) dX11_look_2 fl_X11_129 (i1100 hI) rfl rfl (fun q h => by cases h; rfl) rfl ?_
  refine J_iload_n dX11_look_5 rfl 1 rfl ?_
  refine J_if_ge (tgt := 11) dX11_look_6 (by decide) (fun c1 => ?_) (fun c1 => ?_)
  · refine J_aload_n dX11_look_11 rfl 0 rfl ?_
    refine J_aload_n dX11_look_12 rfl 0 rfl ?_
    refine J_gete (ci := 11) (j := 3) (x := v 1100 3) dX11_look_13 fl_X11_208 (i1100 hI) rfl rfl rfl ?_
    refine J_eVN (z := mX11_know) (As := [.int (v 1100 3)]) (rest := []) (ci := 11) (w := (f_know (up2 v 1100 2 0) N (v 1100 3))) dX11_look_16 ml_X11_257 ok_X11_know iv_X11_know (by decide) (i1100 hI) rfl rfl rfl rfl (Nat.le_of_ble_eq_true rfl) (k_X11_know hI (up2 v 1100 2 0) u _ N hN hW) ?_
    refine J_iconst (x := 0) dX11_look_19 (by decide) ?_
    refine J_istore_n (lv' := [(2, .int 0), (0, .ref 1100), (1, .int x1)]) dX11_look_20 rfl (by decide) rfl ?_
    refine J_lv [1, 2, 0] rfl ?_
    refine J_post (fun r v1 u1 hq => ?_) (lk_o hI (f_know (up2 v 1100 2 0) N (v 1100 3)) u nr N n (by rw [f_know_m (by decide) (by decide)]; exact hN) (by rw [f_know_m (by decide) (by decide), f_know_m (by decide) (by decide)]; exact hW) (by rw [f_know_m (by decide) (by decide)]; exact hR) hR2 (by rw [f_know_m (by decide) (by decide)]; exact hL) hL2 (fun i hi => (hLf i hi).imp (fun P h => lf_know h)) x1 (n + 1) 0 (by omega) (by omega) lt_0)
    obtain ⟨x, q1, q2, q3, q4⟩ := hq
    exact ⟨x, q1, q3, by dsimp only; rw [if_pos c1]; exact ⟨q4, q2⟩⟩
  · refine J_iconst (x := (-1)) dX11_look_9 (by decide) ?_
    exact J_iret dX11_look_10 rfl ⟨_, rfl, rfl, by dsimp only; rw [if_neg c1]; exact ⟨rfl, rfl⟩⟩
