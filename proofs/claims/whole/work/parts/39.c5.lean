def f_X7_isAloneOn (v : fr_V) (r : Nat) (x1 : Int32) : Int32 := if (v (2000 + 10 * r) 1) = x1 then (if (v (2000 + 10 * r) 2) = (-1) then 1 else 0) else 0
theorem k_X7_isAloneOn {l : Launch} {I : List Nat} (hI : fr_I I) (v : fr_V) (u : fr_U) (r : Nat) (x1 : Int32) (h0 : (2000 + 10 * r) ∈ I) (h7 : (2007 + 10 * r) ∈ I) : Con l mX7_isAloneOn I v u [.ref (2000 + 10 * r), .int x1] (QI v u (fun a => a = f_X7_isAloneOn v r x1)) := by
  refine Con.of (by decide) (Nat.le_of_ble_eq_true rfl) ?_
  show J l mX7_isAloneOn I v u 0 [(0, .ref (2000 + 10 * r)), (1, .int x1)] [] _
  refine J_aload_n dX7_isAloneOn_0 rfl 0 rfl ?_
  refine J_gete (ci := 7) (j := 1) (x := v (2000 + 10 * r) 1) dX7_isAloneOn_1 fl_X7_19 h0 (by rw [sh_rent]) rfl rfl ?_
  refine J_iload_n dX7_isAloneOn_4 rfl 1 rfl ?_
  refine J_icmp_ne (tgt := 20) dX7_isAloneOn_5 (by decide) (fun c1 => ?_) (fun c1 => ?_)
  · refine J_iconst (x := 0) dX7_isAloneOn_20 (by decide) ?_
    exact J_zret dX7_isAloneOn_21 rfl (by decide) ⟨_, rfl, rfl, rfl, by unfold f_X7_isAloneOn; rw [if_neg c1]⟩
  · refine J_aload_n dX7_isAloneOn_8 rfl 0 rfl ?_
    refine J_gete (ci := 7) (j := 2) (x := v (2000 + 10 * r) 2) dX7_isAloneOn_9 fl_X7_22 h0 (by rw [sh_rent]) rfl rfl ?_
    refine J_iconst (x := (-1)) dX7_isAloneOn_12 (by decide) ?_
    refine J_icmp_ne (tgt := 20) dX7_isAloneOn_13 (by decide) (fun c2 => ?_) (fun c2 => ?_)
    · refine J_iconst (x := 0) dX7_isAloneOn_20 (by decide) ?_
      exact J_zret dX7_isAloneOn_21 rfl (by decide) ⟨_, rfl, rfl, rfl, by unfold f_X7_isAloneOn; rw [if_pos c1, if_neg c2]⟩
    · refine J_iconst (x := 1) dX7_isAloneOn_16 (by decide) ?_
      refine J_goto (tgt := 21) dX7_isAloneOn_17 (by decide) ?_
      exact J_zret dX7_isAloneOn_21 rfl (by decide) ⟨_, rfl, rfl, rfl, by unfold f_X7_isAloneOn; rw [if_pos c1, if_pos c2]⟩
def f_X7_isPaidBy (v : fr_V) (r : Nat) (x1 x2 : Int32) : Int32 := if (v (2007 + 10 * r) x1.toNatClampNeg) = (-1) then 0 else if x2 < (v (2007 + 10 * r) x1.toNatClampNeg) then 0 else 1
theorem k_X7_isPaidBy {l : Launch} {I : List Nat} (hI : fr_I I) (v : fr_V) (u : fr_U) (r : Nat) (x1 x2 : Int32) (h0 : (2000 + 10 * r) ∈ I) (h7 : (2007 + 10 * r) ∈ I) (h1 : vp_in x1 80) : Con l mX7_isPaidBy I v u [.ref (2000 + 10 * r), .int x1, .int x2] (QI v u (fun a => a = f_X7_isPaidBy v r x1 x2)) := by
  refine Con.of (by decide) (Nat.le_of_ble_eq_true rfl) ?_
  show J l mX7_isPaidBy I v u 0 [(0, .ref (2000 + 10 * r)), (1, .int x1), (2, .int x2)] [] _
  refine J_aload_n dX7_isPaidBy_0 rfl 0 rfl ?_
  refine J_getr (ci := 7) (j := 6) (t := 2007 + 10 * r) dX7_isPaidBy_1 fl_X7_9 h0 (by rw [sh_rent]) rfl (sref_rent r) ?_
  refine J_iload_n dX7_isPaidBy_4 rfl 1 rfl ?_
  refine J_iale (x := v (2007 + 10 * r) x1.toNatClampNeg) dX7_isPaidBy_5 h7 (sh_paid r) (by first | assumption | exact vp_in_nI (by omega) (by omega)) rfl ?_
  refine J_iconst (x := (-1)) dX7_isPaidBy_6 (by decide) ?_
  refine J_icmp_eq (tgt := 24) dX7_isPaidBy_7 (by decide) (fun c1 => ?_) (fun c1 => ?_)
  · refine J_iconst (x := 0) dX7_isPaidBy_24 (by decide) ?_
    exact J_zret dX7_isPaidBy_25 rfl (by decide) ⟨_, rfl, rfl, rfl, by unfold f_X7_isPaidBy; rw [if_pos c1]⟩
  · refine J_aload_n dX7_isPaidBy_10 rfl 0 rfl ?_
    refine J_getr (ci := 7) (j := 6) (t := 2007 + 10 * r) dX7_isPaidBy_11 fl_X7_9 h0 (by rw [sh_rent]) rfl (sref_rent r) ?_
    refine J_iload_n dX7_isPaidBy_14 rfl 1 rfl ?_
    refine J_iale (x := v (2007 + 10 * r) x1.toNatClampNeg) dX7_isPaidBy_15 h7 (sh_paid r) (by first | assumption | exact vp_in_nI (by omega) (by omega)) rfl ?_
    refine J_iload_n dX7_isPaidBy_16 rfl 2 rfl ?_
    refine J_icmp_gt (tgt := 24) dX7_isPaidBy_17 (by decide) (fun c2 => ?_) (fun c2 => ?_)
    · refine J_iconst (x := 0) dX7_isPaidBy_24 (by decide) ?_
      exact J_zret dX7_isPaidBy_25 rfl (by decide) ⟨_, rfl, rfl, rfl, by unfold f_X7_isPaidBy; rw [if_neg c1, if_pos c2]⟩
    · refine J_iconst (x := 1) dX7_isPaidBy_20 (by decide) ?_
      refine J_goto (tgt := 25) dX7_isPaidBy_21 (by decide) ?_
      exact J_zret dX7_isPaidBy_25 rfl (by decide) ⟨_, rfl, rfl, rfl, by unfold f_X7_isPaidBy; rw [if_neg c1, if_neg c2]⟩
def fgF (x : Int32) (f0 : Nat → Int32) : Nat → Nat → Int32
  | 0 => f0
  | j + 1 => if fgF x f0 j j < x then fgF x f0 j else upd (fgF x f0 j) j (-1)
theorem fgF_s (x : Int32) (f0 : Nat → Int32) (j : Nat) : fgF x f0 (j + 1) = if fgF x f0 j j < x then fgF x f0 j else upd (fgF x f0 j) j (-1) := rfl
theorem fg_L {l : Launch} {I : List Nat} (hI : fr_I I) (v : fr_V) (u : fr_U) (r : Nat) (h0 : (2000 + 10 * r) ∈ I) (h7 : (2007 + 10 * r) ∈ I) (x1 : Int32) : ∀ (d j : Nat) (F : Nat → Int32) (hd : 80 - j < d) (hj : j ≤ 80) (hF : F = fgF x1 (v (2007 + 10 * r)) j), J l mX7_forgetFrom I (upA v (2007 + 10 * r) F) u 2 [(0, .ref (2000 + 10 * r)), (1, .int x1), (2, .int (nI j))] [] (QN u (fun a => a = upA v (2007 + 10 * r) (fgF x1 (v (2007 + 10 * r)) 80))) := by
  intro d
  induction d with
  | zero => intros; omega
  | succ d ih =>
    intro j F hd hj hF
    refine J_iload_n dX7_forgetFrom_2 rfl 2 rfl ?_
    refine J_bipush (x := 80) dX7_forgetFrom_3 (by decide) ?_
    refine J_icmp_ge (tgt := 31) dX7_forgetFrom_5 (by decide) (fun c1 => ?_) (fun c1 => ?_)
    · exact J_vret dX7_forgetFrom_31 rfl ⟨rfl, rfl, by have e : j = 80 := by {have := nz_le (a := 80) (by omega) (by omega) c1; omega}; rw [hF, e]⟩
    · have hj8 : j < 80 := nz_nle (a := 80) (by omega) (by omega) c1
      refine J_aload_n dX7_forgetFrom_8 rfl 0 rfl ?_
      refine J_getr (ci := 7) (j := 6) (t := 2007 + 10 * r) dX7_forgetFrom_9 fl_X7_9 h0 (by rw [sh_rent]) rfl (sref_rent r) ?_
      refine J_iload_n dX7_forgetFrom_12 rfl 2 rfl ?_
      refine J_iale (x := F j) dX7_forgetFrom_13 h7 (sh_paid r) (ix_in (j := j) rfl (by omega) (by omega)) (by rw [ix_cl (j := j) rfl (by omega)]; exact (congrFun (upA_self _ _ _) _)) ?_
      refine J_iload_n dX7_forgetFrom_14 rfl 1 rfl ?_
      refine J_icmp_lt (tgt := 25) dX7_forgetFrom_15 (by decide) (fun c2 => ?_) (fun c2 => ?_)
      · refine J_iinc (q := 2) (z := nI (j + 1)) (lv' := [(2, .int (nI (j + 1))), (0, .ref (2000 + 10 * r)), (1, .int x1)]) dX7_forgetFrom_25 rfl (nI_1 j) (by decide) rfl ?_
        refine J_goto (tgt := 2) dX7_forgetFrom_28 (by decide) ?_
        refine J_lv [1, 2, 0] rfl ?_
        exact ih (j + 1) _ (by omega) (by omega) (by rw [fgF_s, ← hF, if_pos c2])
      · refine J_aload_n dX7_forgetFrom_18 rfl 0 rfl ?_
        refine J_getr (ci := 7) (j := 6) (t := 2007 + 10 * r) dX7_forgetFrom_19 fl_X7_9 h0 (by rw [sh_rent]) rfl (sref_rent r) ?_
        refine J_iload_n dX7_forgetFrom_22 rfl 2 rfl ?_
        refine J_iconst (x := (-1)) dX7_forgetFrom_23 (by decide) ?_
        refine J_iase (j := j) dX7_forgetFrom_24 h7 (sh_paid r) (ix_in (j := j) rfl (by omega) (by omega)) (ix_cl (j := j) rfl (by omega)) ?_
        refine J_iinc (q := 2) (z := nI (j + 1)) (lv' := [(2, .int (nI (j + 1))), (0, .ref (2000 + 10 * r)), (1, .int x1)]) dX7_forgetFrom_25 rfl (nI_1 j) (by decide) rfl ?_
        refine J_goto (tgt := 2) dX7_forgetFrom_28 (by decide) ?_
        refine J_lv [1, 2, 0] rfl ?_
        rw [up2_upA]
        exact ih (j + 1) _ (by omega) (by omega) (by rw [fgF_s, ← hF, if_neg c2])
theorem k_X7_forgetFrom {l : Launch} {I : List Nat} (hI : fr_I I) (v : fr_V) (u : fr_U) (r : Nat) (h0 : (2000 + 10 * r) ∈ I) (h7 : (2007 + 10 * r) ∈ I) (x1 : Int32) : Con l mX7_forgetFrom I v u [.ref (2000 + 10 * r), .int x1] (QN u (fun a => a = upA v (2007 + 10 * r) (fgF x1 (v (2007 + 10 * r)) 80))) := by
  refine Con.of (by decide) (Nat.le_of_ble_eq_true rfl) ?_
  show J l mX7_forgetFrom I v u 0 [(0, .ref (2000 + 10 * r)), (1, .int x1)] [] _
  refine J_iconst (x := 0) dX7_forgetFrom_0 (by decide) ?_
  refine J_istore_n (lv' := [(2, .int 0), (0, .ref (2000 + 10 * r)), (1, .int x1)]) dX7_forgetFrom_1 rfl (by decide) rfl ?_
  refine J_lv [1, 2, 0] rfl ?_
  refine J_ve (w := upA v (2007 + 10 * r) (v (2007 + 10 * r))) (upA_id v _).symm ?_
  exact fg_L hI v u r h0 h7 x1 81 0 _ (by omega) (by omega) rfl
theorem k_X3_heldBy {l : Launch} {I : List Nat} (hI : fr_I I) (v : fr_V) (u : fr_U) (nr r NS : Nat) (hn : rnOK I nr v) (hr : r < nr) (x2 x3 : Int32) (hS : v 300 8 = nI NS) (hS2 : NS ≤ 40) (hq : ∀ j, j < NS → vp_in (v 305 j) 8 ∧ vp_in (v 306 j) 8) (hh : vp_in (v (2000 + 10 * r) 0) 8) (h2 : vp_in x2 8) : Con l mX3_heldBy I v u [.ref 300, .int (nI r), .int x2, .int x3] (QX u (fun a b => a = hdR v NS r x3 x2.toNatClampNeg ∧ b = upA v 310 (hdR v NS r x3))) := by
  refine Con.of (by decide) (Nat.le_of_ble_eq_true rfl) ?_
  show J l mX3_heldBy I v u 0 [(0, .ref 300), (1, .int (nI r)), (2, .int x2), (3, .int x3)] [] _
  refine J_aload_n dX3_heldBy_0 rfl 0 rfl ?_
  refine J_iload_n dX3_heldBy_1 rfl 1 rfl ?_
  refine J_iload_n dX3_heldBy_2 rfl 3 rfl ?_
  refine J_eVN (z := mX3_spreadParts) (As := [.int (nI r), .int x3]) (rest := []) (ci := 3) (w := upA v 310 (hdR v NS r x3)) dX3_heldBy_3 ml_X3_51 ok_X3_spreadParts iv_X3_spreadParts (by decide) (i300 hI) rfl rfl rfl rfl (Nat.le_of_ble_eq_true rfl) (k_X3_spreadParts hI v u nr r NS hn hr _ hS hS2 hq hh) ?_
  refine J_aload_n dX3_heldBy_6 rfl 0 rfl ?_
  refine J_getr (ci := 3) (j := 9) (t := 310) dX3_heldBy_7 fl_X3_33 (i300 hI) rfl rfl rfl ?_
  refine J_iload_n dX3_heldBy_10 rfl 2 rfl ?_
  refine J_iale (x := (hdR v NS r x3) x2.toNatClampNeg) dX3_heldBy_11 (i310 hI) rfl h2 rfl ?_
  exact J_iret dX3_heldBy_12 rfl ⟨_, rfl, rfl, rfl, rfl⟩
def caF (v : fr_V) (x1 : Int32) : Nat → Int32
  | 0 => 0
  | r + 1 => if f_X7_isAloneOn v r x1 = 0 then caF v x1 r else caF v x1 r + v (2000 + 10 * r) 3
theorem caF_s (v : fr_V) (x1 : Int32) (r : Nat) : caF v x1 (r + 1) = if f_X7_isAloneOn v r x1 = 0 then caF v x1 r else caF v x1 r + v (2000 + 10 * r) 3 := rfl
def tkF (v : fr_V) (x1 : Int32) : Nat → Int32
  | 0 => 0
  | r + 1 => tkF v x1 r + (if x1 < v (2000 + 10 * r) 4 then 0 else v (2000 + 10 * r) 5)
theorem tkF_s (v : fr_V) (x1 : Int32) (r : Nat) : tkF v x1 (r + 1) = tkF v x1 r + (if x1 < v (2000 + 10 * r) 4 then 0 else v (2000 + 10 * r) 5) := rfl
theorem caF_L {l : Launch} {I : List Nat} (hI : fr_I I) (v : fr_V) (u : fr_U) (nr : Nat) (hn : rnOK I nr v) (x1 : Int32) (hnr : nr ≤ 16) : ∀ (d r : Nat) (a : Int32) (hd : nr - r < d) (hj : r ≤ nr) (ha : a = caF v x1 r), J l mX3_coinsAloneOn I v u 4 [(0, .ref 300), (1, .int x1), (2, .int a), (3, .int (nI r))] [] (QI v u (fun z => z = caF v x1 nr)) := by
  intro d
  induction d with
  | zero => intros; omega
  | succ d ih =>
    intro r a hd hj ha
    refine J_iload_n dX3_coinsAloneOn_4 rfl 3 rfl ?_
    refine J_aload_n dX3_coinsAloneOn_5 rfl 0 rfl ?_
    refine J_gete (ci := 3) (j := 2) (x := nI nr) dX3_coinsAloneOn_6 fl_X3_40 (i300 hI) rfl rfl hn.2.1 ?_
    refine J_icmp_ge (tgt := 43) dX3_coinsAloneOn_9 (by decide) (fun c1 => ?_) (fun c1 => ?_)
    · refine J_iload_n dX3_coinsAloneOn_43 rfl 2 rfl ?_
      exact J_iret dX3_coinsAloneOn_44 rfl ⟨_, rfl, rfl, rfl, by have e : r = nr := by {have := hn.1; have := nz_le (by omega) (by omega) c1; omega}; rw [ha, e]⟩
    · have hr : r < nr := nz_nle (by have := hn.1; omega) (by have := hn.1; omega) c1
      refine J_aload_n dX3_coinsAloneOn_12 rfl 0 rfl ?_
      refine J_getr (ci := 3) (j := 1) (t := 302) dX3_coinsAloneOn_13 fl_X3_11 (i300 hI) rfl rfl rfl ?_
      refine J_iload_n dX3_coinsAloneOn_16 rfl 3 rfl ?_
      refine J_aldR (t := 2000 + 10 * r) dX3_coinsAloneOn_17 (i302 hI) rfl (vp_in_nI (by have := hn.1; omega) (by omega)) (rn_0 hn hr) (rn_1 hn hr) ?_
      refine J_iload_n dX3_coinsAloneOn_18 rfl 1 rfl ?_
      refine J_eVI (z := mX7_isAloneOn) (As := [.int x1]) (rest := []) (ci := 7) (x := f_X7_isAloneOn v r x1) dX3_coinsAloneOn_19 ml_X3_67 ok_X7_isAloneOn iv_X7_isAloneOn (by decide) (hn.2.2 r hr).1 (by rw [sh_rent]) rfl rfl rfl (Nat.le_of_ble_eq_true rfl) (k_X7_isAloneOn hI v u r _ (hn.2.2 r hr).1 (hn.2.2 r hr).2.1) ?_
      refine J_if_eq (tgt := 37) dX3_coinsAloneOn_22 (by decide) (fun c2 => ?_) (fun c2 => ?_)
      · refine J_iinc (q := 3) (z := nI (r + 1)) (lv' := [(3, .int (nI (r + 1))), (0, .ref 300), (1, .int x1), (2, .int a)]) dX3_coinsAloneOn_37 rfl (nI_1 r) (by decide) rfl ?_
        refine J_goto (tgt := 4) dX3_coinsAloneOn_40 (by decide) ?_
        refine J_lv [1, 2, 3, 0] rfl ?_
        exact ih (r + 1) _ (by omega) (by omega) (by rw [caF_s, if_pos c2, ha])
      · refine J_iload_n dX3_coinsAloneOn_25 rfl 2 rfl ?_
        refine J_aload_n dX3_coinsAloneOn_26 rfl 0 rfl ?_
        refine J_getr (ci := 3) (j := 1) (t := 302) dX3_coinsAloneOn_27 fl_X3_11 (i300 hI) rfl rfl rfl ?_
        refine J_iload_n dX3_coinsAloneOn_30 rfl 3 rfl ?_
        refine J_aldR (t := 2000 + 10 * r) dX3_coinsAloneOn_31 (i302 hI) rfl (vp_in_nI (by have := hn.1; omega) (by omega)) (rn_0 hn hr) (rn_1 hn hr) ?_
        refine J_gete (ci := 7) (j := 3) (x := v (2000 + 10 * r) 3) dX3_coinsAloneOn_32 fl_X3_71 (hn.2.2 r hr).1 (by rw [sh_rent]) rfl rfl ?_
        refine J_iadd dX3_coinsAloneOn_35 ?_
        refine J_istore_n (lv' := [(2, .int (a + (v (2000 + 10 * r) 3))), (0, .ref 300), (1, .int x1), (3, .int (nI r))]) dX3_coinsAloneOn_36 rfl (by decide) rfl ?_
        refine J_iinc (q := 3) (z := nI (r + 1)) (lv' := [(3, .int (nI (r + 1))), (2, .int (a + (v (2000 + 10 * r) 3))), (0, .ref 300), (1, .int x1)]) dX3_coinsAloneOn_37 rfl (nI_1 r) (by decide) rfl ?_
        refine J_goto (tgt := 4) dX3_coinsAloneOn_40 (by decide) ?_
        refine J_lv [2, 3, 1, 0] rfl ?_
        exact ih (r + 1) _ (by omega) (by omega) (by rw [caF_s, if_neg c2, ha])
theorem k_X3_coinsAloneOn {l : Launch} {I : List Nat} (hI : fr_I I) (v : fr_V) (u : fr_U) (nr : Nat) (hn : rnOK I nr v) (x1 : Int32) : Con l mX3_coinsAloneOn I v u [.ref 300, .int x1] (QI v u (fun z => z = caF v x1 nr)) := by
  refine Con.of (by decide) (Nat.le_of_ble_eq_true rfl) ?_
  show J l mX3_coinsAloneOn I v u 0 [(0, .ref 300), (1, .int x1)] [] _
  refine J_iconst (x := 0) dX3_coinsAloneOn_0 (by decide) ?_
  refine J_istore_n (lv' := [(2, .int 0), (0, .ref 300), (1, .int x1)]) dX3_coinsAloneOn_1 rfl (by decide) rfl ?_
  refine J_iconst (x := 0) dX3_coinsAloneOn_2 (by decide) ?_
  refine J_istore_n (lv' := [(3, .int 0), (2, .int 0), (0, .ref 300), (1, .int x1)]) dX3_coinsAloneOn_3 rfl (by decide) rfl ?_
  refine J_lv [2, 3, 1, 0] rfl ?_
  exact caF_L hI v u nr hn x1 hn.1 (nr + 1) 0 _ (by omega) (by omega) rfl
theorem tkF_L {l : Launch} {I : List Nat} (hI : fr_I I) (v : fr_V) (u : fr_U) (nr : Nat) (hn : rnOK I nr v) (x1 : Int32) (hnr : nr ≤ 16) : ∀ (d r : Nat) (a : Int32) (hd : nr - r < d) (hj : r ≤ nr) (ha : a = tkF v x1 r), J l mX3_takings I v u 4 [(0, .ref 300), (1, .int x1), (2, .int a), (3, .int (nI r))] [] (QI v u (fun z => z = tkF v x1 nr)) := by
  intro d
  induction d with
  | zero => intros; omega
  | succ d ih =>
    intro r a hd hj ha
    refine J_iload_n dX3_takings_4 rfl 3 rfl ?_
    refine J_aload_n dX3_takings_5 rfl 0 rfl ?_
    refine J_gete (ci := 3) (j := 2) (x := nI nr) dX3_takings_6 fl_X3_40 (i300 hI) rfl rfl hn.2.1 ?_
    refine J_icmp_ge (tgt := 47) dX3_takings_9 (by decide) (fun c1 => ?_) (fun c1 => ?_)
    · refine J_iload_n dX3_takings_47 rfl 2 rfl ?_
      exact J_iret dX3_takings_48 rfl ⟨_, rfl, rfl, rfl, by have e : r = nr := by {have := hn.1; have := nz_le (by omega) (by omega) c1; omega}; rw [ha, e]⟩
    · have hr : r < nr := nz_nle (by have := hn.1; omega) (by have := hn.1; omega) c1
      refine J_iload_n dX3_takings_12 rfl 2 rfl ?_
      refine J_aload_n dX3_takings_13 rfl 0 rfl ?_
      refine J_getr (ci := 3) (j := 1) (t := 302) dX3_takings_14 fl_X3_11 (i300 hI) rfl rfl rfl ?_
      refine J_iload_n dX3_takings_17 rfl 3 rfl ?_
      refine J_aldR (t := 2000 + 10 * r) dX3_takings_18 (i302 hI) rfl (vp_in_nI (by have := hn.1; omega) (by omega)) (rn_0 hn hr) (rn_1 hn hr) ?_
      refine J_gete (ci := 7) (j := 4) (x := v (2000 + 10 * r) 4) dX3_takings_19 fl_X3_61 (hn.2.2 r hr).1 (by rw [sh_rent]) rfl rfl ?_
      refine J_iload_n dX3_takings_22 rfl 1 rfl ?_
      refine J_icmp_gt (tgt := 38) dX3_takings_23 (by decide) (fun c2 => ?_) (fun c2 => ?_)
      · refine J_iconst (x := 0) dX3_takings_38 (by decide) ?_
        refine J_iadd dX3_takings_39 ?_
        refine J_istore_n (lv' := [(2, .int (a + 0)), (0, .ref 300), (1, .int x1), (3, .int (nI r))]) dX3_takings_40 rfl (by decide) rfl ?_
        refine J_iinc (q := 3) (z := nI (r + 1)) (lv' := [(3, .int (nI (r + 1))), (2, .int (a + 0)), (0, .ref 300), (1, .int x1)]) dX3_takings_41 rfl (nI_1 r) (by decide) rfl ?_
        refine J_goto (tgt := 4) dX3_takings_44 (by decide) ?_
        refine J_lv [2, 3, 1, 0] rfl ?_
        exact ih (r + 1) _ (by omega) (by omega) (by rw [tkF_s, if_pos c2, ha])
      · refine J_aload_n dX3_takings_26 rfl 0 rfl ?_
        refine J_getr (ci := 3) (j := 1) (t := 302) dX3_takings_27 fl_X3_11 (i300 hI) rfl rfl rfl ?_
        refine J_iload_n dX3_takings_30 rfl 3 rfl ?_
        refine J_aldR (t := 2000 + 10 * r) dX3_takings_31 (i302 hI) rfl (vp_in_nI (by have := hn.1; omega) (by omega)) (rn_0 hn hr) (rn_1 hn hr) ?_
        refine J_gete (ci := 7) (j := 5) (x := v (2000 + 10 * r) 5) dX3_takings_32 fl_X3_138 (hn.2.2 r hr).1 (by rw [sh_rent]) rfl rfl ?_
        refine J_goto (tgt := 39) dX3_takings_35 (by decide) ?_
        refine J_iadd dX3_takings_39 ?_
        refine J_istore_n (lv' := [(2, .int (a + (v (2000 + 10 * r) 5))), (0, .ref 300), (1, .int x1), (3, .int (nI r))]) dX3_takings_40 rfl (by decide) rfl ?_
        refine J_iinc (q := 3) (z := nI (r + 1)) (lv' := [(3, .int (nI (r + 1))), (2, .int (a + (v (2000 + 10 * r) 5))), (0, .ref 300), (1, .int x1)]) dX3_takings_41 rfl (nI_1 r) (by decide) rfl ?_
        refine J_goto (tgt := 4) dX3_takings_44 (by decide) ?_
        refine J_lv [2, 3, 1, 0] rfl ?_
        exact ih (r + 1) _ (by omega) (by omega) (by rw [tkF_s, if_neg c2, ha])
theorem k_X3_takings {l : Launch} {I : List Nat} (hI : fr_I I) (v : fr_V) (u : fr_U) (nr : Nat) (hn : rnOK I nr v) (x1 : Int32) : Con l mX3_takings I v u [.ref 300, .int x1] (QI v u (fun z => z = tkF v x1 nr)) := by
  refine Con.of (by decide) (Nat.le_of_ble_eq_true rfl) ?_
  show J l mX3_takings I v u 0 [(0, .ref 300), (1, .int x1)] [] _
  refine J_iconst (x := 0) dX3_takings_0 (by decide) ?_
  refine J_istore_n (lv' := [(2, .int 0), (0, .ref 300), (1, .int x1)]) dX3_takings_1 rfl (by decide) rfl ?_
  refine J_iconst (x := 0) dX3_takings_2 (by decide) ?_
  refine J_istore_n (lv' := [(3, .int 0), (2, .int 0), (0, .ref 300), (1, .int x1)]) dX3_takings_3 rfl (by decide) rfl ?_
  refine J_lv [2, 3, 1, 0] rfl ?_
  exact tkF_L hI v u nr hn x1 hn.1 (nr + 1) 0 _ (by omega) (by omega) rfl
