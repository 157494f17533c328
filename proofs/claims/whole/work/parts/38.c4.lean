theorem sh_rent (r : Nat) : sh (2000 + 10 * r) = (7, 0) := by
  unfold sh
  rw [if_pos (by omega), if_pos (by omega)]
theorem sh_paid (r : Nat) : sh (2007 + 10 * r) = (20, 80) := by
  unfold sh
  rw [if_pos (by omega), if_neg (by omega)]
theorem sref_rent (r : Nat) : sref (2000 + 10 * r) 6 = 2007 + 10 * r := by
  unfold sref
  rw [if_neg (by omega), if_neg (by omega), if_neg (by omega), if_neg (by omega)]
  omega
/-- the rents that stand: their cells, and the ledger's row of them -/
def rnOK (I : List Nat) (nr : Nat) (z : fr_V) : Prop := nr ≤ 16 ∧ z 300 2 = nI nr ∧ ∀ r, r < nr → (2000 + 10 * r) ∈ I ∧ (2007 + 10 * r) ∈ I ∧ z 302 r = nI (2000 + 10 * r)
theorem rn_0 {I : List Nat} {nr r : Nat} {z : fr_V} (h : rnOK I nr z) (hr : r < nr) : ¬ z 302 (nI r).toNatClampNeg < 0 := by
  have := h.1
  rw [nI_clamp (by omega), (h.2.2 r hr).2.2]; exact nI_pos (by omega)
theorem rn_1 {I : List Nat} {nr r : Nat} {z : fr_V} (h : rnOK I nr z) (hr : r < nr) : (z 302 (nI r).toNatClampNeg).toNatClampNeg = 2000 + 10 * r := by
  have := h.1
  rw [nI_clamp (by omega), (h.2.2 r hr).2.2, nI_clamp (by omega)]
def f_isDue3 (v : fr_V) (r : Nat) (x2 : Int32) : Int32 := if (v (2000 + 10 * r) 4) < x2 then (if (f_X1_isAliveIn v (v (2000 + 10 * r) 1) x2) = 0 then (if (v (2000 + 10 * r) 2) = (-1) then 0 else if (f_X1_isAliveIn v (v (2000 + 10 * r) 2) x2) = 0 then 0 else 1) else 1) else 0
theorem k_X3_isDue {l : Launch} {I : List Nat} (hI : fr_I I) (v : fr_V) (u : fr_U) (nr r : Nat) (hn : rnOK I nr v) (hr : r < nr) (x2 : Int32) (h1 : vp_in (v (2000 + 10 * r) 1) 12) (h2 : ¬ v (2000 + 10 * r) 2 = (-1) → vp_in (v (2000 + 10 * r) 2) 12) : Con l mX3_isDue I v u [.ref 300, .int (nI r), .int x2] (QI v u (fun a => a = f_isDue3 v r x2)) := by
  refine Con.of (by decide) (Nat.le_of_ble_eq_true rfl) ?_
  show J l mX3_isDue I v u 0 [(0, .ref 300), (1, .int (nI r)), (2, .int x2)] [] _
  refine J_aload_n dX3_isDue_0 rfl 0 rfl ?_
  refine J_getr (ci := 3) (j := 1) (t := 302) dX3_isDue_1 fl_X3_11 (i300 hI) rfl rfl rfl ?_
  refine J_iload_n dX3_isDue_4 rfl 1 rfl ?_
  refine J_aldR (t := 2000 + 10 * r) dX3_isDue_5 (i302 hI) rfl (vp_in_nI (by have := hn.1; omega) (by omega)) (rn_0 hn hr) (rn_1 hn hr) ?_
  refine J_astore_n (lv' := [(3, .ref (2000 + 10 * r)), (0, .ref 300), (1, .int (nI r)), (2, .int x2)]) dX3_isDue_6 rfl (by decide) rfl ?_
  refine J_iload_n dX3_isDue_7 rfl 3 rfl ?_
  refine J_aload_n dX3_isDue_8 rfl 0 rfl ?_
  refine J_gete (ci := 7) (j := 4) (x := v (2000 + 10 * r) 4) dX3_isDue_9 fl_X3_61 (hn.2.2 r hr).1 (by rw [sh_rent]) rfl rfl ?_
  refine J_icmp_gt (tgt := 17) dX3_isDue_12 (by decide) (fun c1 => ?_) (fun c1 => ?_)
  · refine J_aload_n dX3_isDue_17 rfl 1 rfl ?_
    refine J_getr (ci := 3) (j := 0) (t := 100) dX3_isDue_18 fl_X3_36 (i300 hI) rfl rfl rfl ?_
    refine J_aload_n dX3_isDue_21 rfl 0 rfl ?_
    refine J_gete (ci := 7) (j := 1) (x := v (2000 + 10 * r) 1) dX3_isDue_22 fl_X3_74 (hn.2.2 r hr).1 (by rw [sh_rent]) rfl rfl ?_
    refine J_iload_n dX3_isDue_25 rfl 3 rfl ?_
    refine J_eVI (z := mX1_isAliveIn) (As := [.int (v (2000 + 10 * r) 1), .int x2]) (rest := []) (ci := 1) (x := f_X1_isAliveIn v (v (2000 + 10 * r) 1) x2) dX3_isDue_26 ml_X3_77 ok_X1_isAliveIn iv_X1_isAliveIn (by decide) (i100 hI) rfl rfl rfl rfl (Nat.le_of_ble_eq_true rfl) (k_X1_isAliveIn hI v u _ _ h1) ?_
    refine J_if_ne (tgt := 55) dX3_isDue_29 (by decide) (fun c2 => ?_) (fun c2 => ?_)
    · refine J_iconst (x := 1) dX3_isDue_55 (by decide) ?_
      refine J_goto (tgt := 60) dX3_isDue_56 (by decide) ?_
      exact J_zret dX3_isDue_60 rfl (by decide) ⟨_, rfl, rfl, rfl, by unfold f_isDue3; rw [if_pos c1, if_neg c2]⟩
    · refine J_aload_n dX3_isDue_32 rfl 0 rfl ?_
      refine J_gete (ci := 7) (j := 2) (x := v (2000 + 10 * r) 2) dX3_isDue_33 fl_X3_83 (hn.2.2 r hr).1 (by rw [sh_rent]) rfl rfl ?_
      refine J_iconst (x := (-1)) dX3_isDue_36 (by decide) ?_
      refine J_icmp_eq (tgt := 59) dX3_isDue_37 (by decide) (fun c3 => ?_) (fun c3 => ?_)
      · refine J_iconst (x := 0) dX3_isDue_59 (by decide) ?_
        exact J_zret dX3_isDue_60 rfl (by decide) ⟨_, rfl, rfl, rfl, by unfold f_isDue3; rw [if_pos c1, if_pos c2, if_pos c3]⟩
      · refine J_aload_n dX3_isDue_40 rfl 1 rfl ?_
        refine J_getr (ci := 3) (j := 0) (t := 100) dX3_isDue_41 fl_X3_36 (i300 hI) rfl rfl rfl ?_
        refine J_aload_n dX3_isDue_44 rfl 0 rfl ?_
        refine J_gete (ci := 7) (j := 2) (x := v (2000 + 10 * r) 2) dX3_isDue_45 fl_X3_83 (hn.2.2 r hr).1 (by rw [sh_rent]) rfl rfl ?_
        refine J_iload_n dX3_isDue_48 rfl 3 rfl ?_
        refine J_eVI (z := mX1_isAliveIn) (As := [.int (v (2000 + 10 * r) 2), .int x2]) (rest := []) (ci := 1) (x := f_X1_isAliveIn v (v (2000 + 10 * r) 2) x2) dX3_isDue_49 ml_X3_77 ok_X1_isAliveIn iv_X1_isAliveIn (by decide) (i100 hI) rfl rfl rfl rfl (Nat.le_of_ble_eq_true rfl) (k_X1_isAliveIn hI v u _ _ (h2 (by assumption))) ?_
        refine J_if_eq (tgt := 59) dX3_isDue_52 (by decide) (fun c4 => ?_) (fun c4 => ?_)
        · refine J_iconst (x := 0) dX3_isDue_59 (by decide) ?_
          exact J_zret dX3_isDue_60 rfl (by decide) ⟨_, rfl, rfl, rfl, by unfold f_isDue3; rw [if_pos c1, if_pos c2, if_neg c3, if_pos c4]⟩
        · refine J_iconst (x := 1) dX3_isDue_55 (by decide) ?_
          refine J_goto (tgt := 60) dX3_isDue_56 (by decide) ?_
          exact J_zret dX3_isDue_60 rfl (by decide) ⟨_, rfl, rfl, rfl, by unfold f_isDue3; rw [if_pos c1, if_pos c2, if_neg c3, if_neg c4]⟩
  · refine J_iconst (x := 0) dX3_isDue_15 (by decide) ?_
    exact J_zret dX3_isDue_16 rfl (by decide) ⟨_, rfl, rfl, rfl, by unfold f_isDue3; rw [if_neg c1]⟩
noncomputable def f_hasProof (v : fr_V) (N : Nat) (x1 x2 x3 : Int32) : Int32 := cI (∃ i, i < N ∧ hpP v x1 x2 x3 i)
noncomputable def f_isProved3 (v : fr_V) (N r : Nat) (x2 x3 : Int32) : Int32 := if (f_hasProof v N (v (2000 + 10 * r) 1) x2 (if (x2 + x3) < 79 then (x2 + x3) else 79)) = 0 then (if (v (2000 + 10 * r) 2) = (-1) then 0 else if (f_hasProof v N (v (2000 + 10 * r) 2) x2 (if (x2 + x3) < 79 then (x2 + x3) else 79)) = 0 then 0 else 1) else 1
theorem k_X3_isProved {l : Launch} {I : List Nat} (hI : fr_I I) (v : fr_V) (u : fr_U) (nr r : Nat) (hn : rnOK I nr v) (hr : r < nr) (x2 x3 : Int32) (N : Nat) (hN : v 100 5 = nI N) (hN6 : N ≤ 60) : Con l mX3_isProved I v u [.ref 300, .int (nI r), .int x2, .int x3] (QI v u (fun a => a = f_isProved3 v N r x2 x3)) := by
  refine Con.of (by decide) (Nat.le_of_ble_eq_true rfl) ?_
  show J l mX3_isProved I v u 0 [(0, .ref 300), (1, .int (nI r)), (2, .int x2), (3, .int x3)] [] _
  refine J_aload_n dX3_isProved_0 rfl 0 rfl ?_
  refine J_getr (ci := 3) (j := 1) (t := 302) dX3_isProved_1 fl_X3_11 (i300 hI) rfl rfl rfl ?_
  refine J_iload_n dX3_isProved_4 rfl 1 rfl ?_
  refine J_aldR (t := 2000 + 10 * r) dX3_isProved_5 (i302 hI) rfl (vp_in_nI (by have := hn.1; omega) (by omega)) (rn_0 hn hr) (rn_1 hn hr) ?_
  refine J_astore (lv' := [(4, .ref (2000 + 10 * r)), (0, .ref 300), (1, .int (nI r)), (2, .int x2), (3, .int x3)]) dX3_isProved_6 (by decide) rfl ?_
  refine J_bipush (x := 79) dX3_isProved_8 (by decide) ?_
  refine J_iload_n dX3_isProved_10 rfl 3 rfl ?_
  refine J_iload_n dX3_isProved_11 rfl 4 rfl ?_
  refine J_iadd dX3_isProved_12 ?_
  refine J_mmin dX3_isProved_13 ml_X3_86 (by decide) (Nat.le_of_ble_eq_true rfl) ?_
  refine J_istore (lv' := [(5, .int (if (x2 + x3) < 79 then (x2 + x3) else 79)), (4, .ref (2000 + 10 * r)), (0, .ref 300), (1, .int (nI r)), (2, .int x2), (3, .int x3)]) dX3_isProved_16 (by decide) rfl ?_
  refine J_aload_n dX3_isProved_18 rfl 2 rfl ?_
  refine J_getr (ci := 3) (j := 0) (t := 100) dX3_isProved_19 fl_X3_36 (i300 hI) rfl rfl rfl ?_
  refine J_aload dX3_isProved_22 1 rfl ?_
  refine J_gete (ci := 7) (j := 1) (x := v (2000 + 10 * r) 1) dX3_isProved_24 fl_X3_74 (hn.2.2 r hr).1 (by rw [sh_rent]) rfl rfl ?_
  refine J_iload_n dX3_isProved_27 rfl 4 rfl ?_
  refine J_iload dX3_isProved_28 0 rfl ?_
  refine J_eVI (z := mX1_hasProof) (As := [.int (v (2000 + 10 * r) 1), .int x2, .int (if (x2 + x3) < 79 then (x2 + x3) else 79)]) (rest := []) (ci := 1) (x := f_hasProof v N (v (2000 + 10 * r) 1) x2 (if (x2 + x3) < 79 then (x2 + x3) else 79)) dX3_isProved_30 ml_X3_92 ok_X1_hasProof iv_X1_hasProof (by decide) (i100 hI) rfl rfl rfl rfl (Nat.le_of_ble_eq_true rfl) (k_X1_hasProof hI v u _ _ _ N hN hN6) ?_
  refine J_if_ne (tgt := 63) dX3_isProved_33 (by decide) (fun c1 => ?_) (fun c1 => ?_)
  · refine J_iconst (x := 1) dX3_isProved_63 (by decide) ?_
    refine J_goto (tgt := 68) dX3_isProved_64 (by decide) ?_
    exact J_zret dX3_isProved_68 rfl (by decide) ⟨_, rfl, rfl, rfl, by unfold f_isProved3; rw [if_neg c1]⟩
  · refine J_aload dX3_isProved_36 1 rfl ?_
    refine J_gete (ci := 7) (j := 2) (x := v (2000 + 10 * r) 2) dX3_isProved_38 fl_X3_83 (hn.2.2 r hr).1 (by rw [sh_rent]) rfl rfl ?_
    refine J_iconst (x := (-1)) dX3_isProved_41 (by decide) ?_
    refine J_icmp_eq (tgt := 67) dX3_isProved_42 (by decide) (fun c2 => ?_) (fun c2 => ?_)
    · refine J_iconst (x := 0) dX3_isProved_67 (by decide) ?_
      exact J_zret dX3_isProved_68 rfl (by decide) ⟨_, rfl, rfl, rfl, by unfold f_isProved3; rw [if_pos c1, if_pos c2]⟩
    · refine J_aload_n dX3_isProved_45 rfl 2 rfl ?_
      refine J_getr (ci := 3) (j := 0) (t := 100) dX3_isProved_46 fl_X3_36 (i300 hI) rfl rfl rfl ?_
      refine J_aload dX3_isProved_49 1 rfl ?_
      refine J_gete (ci := 7) (j := 2) (x := v (2000 + 10 * r) 2) dX3_isProved_51 fl_X3_83 (hn.2.2 r hr).1 (by rw [sh_rent]) rfl rfl ?_
      refine J_iload_n dX3_isProved_54 rfl 4 rfl ?_
      refine J_iload dX3_isProved_55 0 rfl ?_
      refine J_eVI (z := mX1_hasProof) (As := [.int (v (2000 + 10 * r) 2), .int x2, .int (if (x2 + x3) < 79 then (x2 + x3) else 79)]) (rest := []) (ci := 1) (x := f_hasProof v N (v (2000 + 10 * r) 2) x2 (if (x2 + x3) < 79 then (x2 + x3) else 79)) dX3_isProved_57 ml_X3_92 ok_X1_hasProof iv_X1_hasProof (by decide) (i100 hI) rfl rfl rfl rfl (Nat.le_of_ble_eq_true rfl) (k_X1_hasProof hI v u _ _ _ N hN hN6) ?_
      refine J_if_eq (tgt := 67) dX3_isProved_60 (by decide) (fun c3 => ?_) (fun c3 => ?_)
      · refine J_iconst (x := 0) dX3_isProved_67 (by decide) ?_
        exact J_zret dX3_isProved_68 rfl (by decide) ⟨_, rfl, rfl, rfl, by unfold f_isProved3; rw [if_pos c1, if_neg c2, if_pos c3]⟩
      · refine J_iconst (x := 1) dX3_isProved_63 (by decide) ?_
        refine J_goto (tgt := 68) dX3_isProved_64 (by decide) ?_
        exact J_zret dX3_isProved_68 rfl (by decide) ⟨_, rfl, rfl, rfl, by unfold f_isProved3; rw [if_pos c1, if_neg c2, if_neg c3]⟩
def hdF (SR SL TK SP SH : Nat → Int32) (r x : Int32) (f0 : Nat → Int32) : Nat → Nat → Int32
  | 0 => f0
  | j + 1 => if SR j = r then (if x < SH j then hdF SR SL TK SP SH r x f0 j else upd (upd (hdF SR SL TK SP SH r x f0 j) (SL j).toNatClampNeg (hdF SR SL TK SP SH r x f0 j (SL j).toNatClampNeg - SP j)) (TK j).toNatClampNeg (upd (hdF SR SL TK SP SH r x f0 j) (SL j).toNatClampNeg (hdF SR SL TK SP SH r x f0 j (SL j).toNatClampNeg - SP j) (TK j).toNatClampNeg + SP j)) else hdF SR SL TK SP SH r x f0 j
theorem hdF_s (SR SL TK SP SH : Nat → Int32) (r x : Int32) (f0 : Nat → Int32) (j : Nat) : hdF SR SL TK SP SH r x f0 (j + 1) = if SR j = r then (if x < SH j then hdF SR SL TK SP SH r x f0 j else upd (upd (hdF SR SL TK SP SH r x f0 j) (SL j).toNatClampNeg (hdF SR SL TK SP SH r x f0 j (SL j).toNatClampNeg - SP j)) (TK j).toNatClampNeg (upd (hdF SR SL TK SP SH r x f0 j) (SL j).toNatClampNeg (hdF SR SL TK SP SH r x f0 j (SL j).toNatClampNeg - SP j) (TK j).toNatClampNeg + SP j)) else hdF SR SL TK SP SH r x f0 j := rfl
def hd0 (v : fr_V) (r : Nat) : Nat → Int32 := upd (fl 0 (v 310) 8) (v (2000 + 10 * r) 0).toNatClampNeg 60
def hdR (v : fr_V) (NS r : Nat) (x : Int32) : Nat → Int32 := if v (2000 + 10 * r) 4 ≤ x then hdF (v 304) (v 305) (v 306) (v 307) (v 308) (nI r) x (hd0 v r) NS else fl 0 (v 310) 8
theorem sp_L {l : Launch} {I : List Nat} (hI : fr_I I) (v : fr_V) (u : fr_U) (nr r NS : Nat) (hn : rnOK I nr v) (hr : r < nr) (x2 : Int32) (hS : v 300 8 = nI NS) (hS2 : NS ≤ 40) (hq : ∀ j, j < NS → vp_in (v 305 j) 8 ∧ vp_in (v 306 j) 8) : ∀ (d j : Nat) (F : Nat → Int32) (hd : NS - j < d) (hj : j ≤ NS) (hF : F = hdF (v 304) (v 305) (v 306) (v 307) (v 308) (nI r) x2 (hd0 v r) j), J l mX3_spreadParts I (upA v 310 F) u 40 [(0, .ref 300), (1, .int (nI r)), (2, .int x2), (3, .int (nI j))] [] (QN u (fun a => a = upA v 310 (hdF (v 304) (v 305) (v 306) (v 307) (v 308) (nI r) x2 (hd0 v r) NS))) := by
  intro d
  induction d with
  | zero => intros; omega
  | succ d ih =>
    intro j F hd hj hF
    refine J_iload_n dX3_spreadParts_40 rfl 3 rfl ?_
    refine J_aload_n dX3_spreadParts_41 rfl 0 rfl ?_
    refine J_gete (ci := 3) (j := 8) (x := nI NS) dX3_spreadParts_42 fl_X3_48 (i300 hI) rfl rfl hS ?_
    refine J_icmp_ge (tgt := 114) dX3_spreadParts_45 (by decide) (fun c1 => ?_) (fun c1 => ?_)
    · exact J_vret dX3_spreadParts_114 rfl ⟨rfl, rfl, by have e : j = NS := by {have := nz_le (by omega) (by omega) c1; omega}; rw [hF, e]⟩
    · have hjS : j < NS := nz_nle (by omega) (by omega) c1
      refine J_aload_n dX3_spreadParts_48 rfl 0 rfl ?_
      refine J_getr (ci := 3) (j := 3) (t := 304) dX3_spreadParts_49 fl_X3_17 (i300 hI) rfl rfl rfl ?_
      refine J_iload_n dX3_spreadParts_52 rfl 3 rfl ?_
      refine J_iale (x := v 304 j) dX3_spreadParts_53 (i304 hI) rfl (ix_in (j := j) rfl (by omega) (by omega)) ((congrArg _ (ix_cl (j := j) rfl (by omega))).trans rfl) ?_
      refine J_iload_n dX3_spreadParts_54 rfl 1 rfl ?_
      refine J_icmp_ne (tgt := 108) dX3_spreadParts_55 (by decide) (fun c2 => ?_) (fun c2 => ?_)
      · refine J_iinc (q := 3) (z := nI (j + 1)) (lv' := [(3, .int (nI (j + 1))), (0, .ref 300), (1, .int (nI r)), (2, .int x2)]) dX3_spreadParts_108 rfl (nI_1 j) (by decide) rfl ?_
        refine J_goto (tgt := 40) dX3_spreadParts_111 (by decide) ?_
        refine J_lv [1, 2, 3, 0] rfl ?_
        exact ih (j + 1) _ (by omega) (by omega) (by rw [hdF_s, if_neg c2, hF])
      · refine J_aload_n dX3_spreadParts_58 rfl 0 rfl ?_
        refine J_getr (ci := 3) (j := 7) (t := 308) dX3_spreadParts_59 fl_X3_30 (i300 hI) rfl rfl rfl ?_
        refine J_iload_n dX3_spreadParts_62 rfl 3 rfl ?_
        refine J_iale (x := v 308 j) dX3_spreadParts_63 (i308 hI) rfl (ix_in (j := j) rfl (by omega) (by omega)) ((congrArg _ (ix_cl (j := j) rfl (by omega))).trans rfl) ?_
        refine J_iload_n dX3_spreadParts_64 rfl 2 rfl ?_
        refine J_icmp_gt (tgt := 108) dX3_spreadParts_65 (by decide) (fun c3 => ?_) (fun c3 => ?_)
        · refine J_iinc (q := 3) (z := nI (j + 1)) (lv' := [(3, .int (nI (j + 1))), (0, .ref 300), (1, .int (nI r)), (2, .int x2)]) dX3_spreadParts_108 rfl (nI_1 j) (by decide) rfl ?_
          refine J_goto (tgt := 40) dX3_spreadParts_111 (by decide) ?_
          refine J_lv [1, 2, 3, 0] rfl ?_
          exact ih (j + 1) _ (by omega) (by omega) (by rw [hdF_s, if_pos c2, if_pos c3, hF])
        · refine J_aload_n dX3_spreadParts_68 rfl 0 rfl ?_
          refine J_getr (ci := 3) (j := 9) (t := 310) dX3_spreadParts_69 fl_X3_33 (i300 hI) rfl rfl rfl ?_
          refine J_aload_n dX3_spreadParts_72 rfl 0 rfl ?_
          refine J_getr (ci := 3) (j := 4) (t := 305) dX3_spreadParts_73 fl_X3_21 (i300 hI) rfl rfl rfl ?_
          refine J_iload_n dX3_spreadParts_76 rfl 3 rfl ?_
          refine J_iale (x := v 305 j) dX3_spreadParts_77 (i305 hI) rfl (ix_in (j := j) rfl (by omega) (by omega)) ((congrArg _ (ix_cl (j := j) rfl (by omega))).trans rfl) ?_
          refine J_dup2 dX3_spreadParts_78 rfl rfl ?_
          refine J_iale (x := F ((v 305 j).toNatClampNeg)) dX3_spreadParts_79 (i310 hI) rfl (hq j hjS).1 rfl ?_
          refine J_aload_n dX3_spreadParts_80 rfl 0 rfl ?_
          refine J_getr (ci := 3) (j := 6) (t := 307) dX3_spreadParts_81 fl_X3_27 (i300 hI) rfl rfl rfl ?_
          refine J_iload_n dX3_spreadParts_84 rfl 3 rfl ?_
          refine J_iale (x := v 307 j) dX3_spreadParts_85 (i307 hI) rfl (ix_in (j := j) rfl (by omega) (by omega)) ((congrArg _ (ix_cl (j := j) rfl (by omega))).trans rfl) ?_
          refine J_isub dX3_spreadParts_86 ?_
          refine J_iast dX3_spreadParts_87 (i310 hI) rfl (hq j hjS).1 ?_
          rw [up2_upA]
          refine J_aload_n dX3_spreadParts_88 rfl 0 rfl ?_
          refine J_getr (ci := 3) (j := 9) (t := 310) dX3_spreadParts_89 fl_X3_33 (i300 hI) rfl rfl rfl ?_
          refine J_aload_n dX3_spreadParts_92 rfl 0 rfl ?_
          refine J_getr (ci := 3) (j := 5) (t := 306) dX3_spreadParts_93 fl_X3_24 (i300 hI) rfl rfl rfl ?_
          refine J_iload_n dX3_spreadParts_96 rfl 3 rfl ?_
          refine J_iale (x := v 306 j) dX3_spreadParts_97 (i306 hI) rfl (ix_in (j := j) rfl (by omega) (by omega)) ((congrArg _ (ix_cl (j := j) rfl (by omega))).trans rfl) ?_
          refine J_dup2 dX3_spreadParts_98 rfl rfl ?_
          refine J_iale (x := (upd F (v 305 j).toNatClampNeg (F (v 305 j).toNatClampNeg - v 307 j)) ((v 306 j).toNatClampNeg)) dX3_spreadParts_99 (i310 hI) rfl (hq j hjS).2 rfl ?_
          refine J_aload_n dX3_spreadParts_100 rfl 0 rfl ?_
          refine J_getr (ci := 3) (j := 6) (t := 307) dX3_spreadParts_101 fl_X3_27 (i300 hI) rfl rfl rfl ?_
          refine J_iload_n dX3_spreadParts_104 rfl 3 rfl ?_
          refine J_iale (x := v 307 j) dX3_spreadParts_105 (i307 hI) rfl (ix_in (j := j) rfl (by omega) (by omega)) ((congrArg _ (ix_cl (j := j) rfl (by omega))).trans rfl) ?_
          refine J_iadd dX3_spreadParts_106 ?_
          refine J_iast dX3_spreadParts_107 (i310 hI) rfl (hq j hjS).2 ?_
          refine J_iinc (q := 3) (z := nI (j + 1)) (lv' := [(3, .int (nI (j + 1))), (0, .ref 300), (1, .int (nI r)), (2, .int x2)]) dX3_spreadParts_108 rfl (nI_1 j) (by decide) rfl ?_
          refine J_goto (tgt := 40) dX3_spreadParts_111 (by decide) ?_
          refine J_lv [1, 2, 3, 0] rfl ?_
          rw [up2_upA]
          exact ih (j + 1) _ (by omega) (by omega) (by rw [hdF_s, if_pos c2, if_neg c3, hF])
theorem k_X3_spreadParts {l : Launch} {I : List Nat} (hI : fr_I I) (v : fr_V) (u : fr_U) (nr r NS : Nat) (hn : rnOK I nr v) (hr : r < nr) (x2 : Int32) (hS : v 300 8 = nI NS) (hS2 : NS ≤ 40) (hq : ∀ j, j < NS → vp_in (v 305 j) 8 ∧ vp_in (v 306 j) 8) (hh : vp_in (v (2000 + 10 * r) 0) 8) : Con l mX3_spreadParts I v u [.ref 300, .int (nI r), .int x2] (QN u (fun a => a = upA v 310 (hdR v NS r x2))) := by
  refine Con.of (by decide) (Nat.le_of_ble_eq_true rfl) ?_
  show J l mX3_spreadParts I v u 0 [(0, .ref 300), (1, .int (nI r)), (2, .int x2)] [] _
  refine J_aload_n dX3_spreadParts_0 rfl 0 rfl ?_
  refine J_getr (ci := 3) (j := 9) (t := 310) dX3_spreadParts_1 fl_X3_33 (i300 hI) rfl rfl rfl ?_
  refine J_iconst (x := 0) dX3_spreadParts_4 (by decide) ?_
  refine J_eSN (z := mJ7_fill_53178) (As := [.ref 310, .int 0]) (rest := []) (w := upA v 310 (fl 0 (v 310) 8)) dX3_spreadParts_5 ml_X3_55 ok_J7_fill_53178 iv_J7_fill_53178 (by decide) rfl rfl (Nat.le_of_ble_eq_true rfl) (k_fill hI v u 310 8 (i310 hI) rfl (by omega) 0) ?_
  refine J_iload_n dX3_spreadParts_8 rfl 2 rfl ?_
  refine J_aload_n dX3_spreadParts_9 rfl 0 rfl ?_
  refine J_getr (ci := 3) (j := 1) (t := 302) dX3_spreadParts_10 fl_X3_11 (i300 hI) rfl rfl rfl ?_
  refine J_iload_n dX3_spreadParts_13 rfl 1 rfl ?_
  refine J_aldR (t := 2000 + 10 * r) dX3_spreadParts_14 (i302 hI) rfl (vp_in_nI (by have := hn.1; omega) (by omega)) (rn_0 hn hr) (rn_1 hn hr) ?_
  refine J_gete (ci := 7) (j := 4) (x := v (2000 + 10 * r) 4) dX3_spreadParts_15 fl_X3_61 (hn.2.2 r hr).1 (by rw [sh_rent]) rfl (by rw [upA_ne (show 2000 + 10 * r ≠ 310 by omega)]) ?_
  refine J_icmp_ge (tgt := 22) dX3_spreadParts_18 (by decide) (fun c1 => ?_) (fun c1 => ?_)
  · refine J_aload_n dX3_spreadParts_22 rfl 0 rfl ?_
    refine J_getr (ci := 3) (j := 9) (t := 310) dX3_spreadParts_23 fl_X3_33 (i300 hI) rfl rfl rfl ?_
    refine J_aload_n dX3_spreadParts_26 rfl 0 rfl ?_
    refine J_getr (ci := 3) (j := 1) (t := 302) dX3_spreadParts_27 fl_X3_11 (i300 hI) rfl rfl rfl ?_
    refine J_iload_n dX3_spreadParts_30 rfl 1 rfl ?_
    refine J_aldR (t := 2000 + 10 * r) dX3_spreadParts_31 (i302 hI) rfl (vp_in_nI (by have := hn.1; omega) (by omega)) (rn_0 hn hr) (rn_1 hn hr) ?_
    refine J_gete (ci := 7) (j := 0) (x := v (2000 + 10 * r) 0) dX3_spreadParts_32 fl_X3_64 (hn.2.2 r hr).1 (by rw [sh_rent]) rfl (by rw [upA_ne (show 2000 + 10 * r ≠ 310 by omega)]) ?_
    refine J_bipush (x := 60) dX3_spreadParts_35 (by decide) ?_
    refine J_iast dX3_spreadParts_37 (i310 hI) rfl hh ?_
    refine J_iconst (x := 0) dX3_spreadParts_38 (by decide) ?_
    refine J_istore_n (lv' := [(3, .int 0), (0, .ref 300), (1, .int (nI r)), (2, .int x2)]) dX3_spreadParts_39 rfl (by decide) rfl ?_
    refine J_lv [1, 2, 3, 0] rfl ?_
    rw [up2_upA]
    unfold hdR
    rw [if_pos c1]
    exact sp_L hI v u nr r NS hn hr x2 hS hS2 hq (NS + 1) 0 _ (by omega) (by omega) rfl
  · exact J_vret dX3_spreadParts_21 rfl ⟨rfl, rfl, by unfold hdR; rw [if_neg c1]⟩
