theorem J_ldcw {l : Launch} {y : fr_M} {I : List Nat} {v : fr_V} {u : fr_U} {Q : Option Value → fr_V → fr_U → Prop} {pc : Nat} {lv : List (Nat × Value)} {st : List Value} {idx : Nat} {x : Int32} (d : decode y.2.1 pc = .ok (.ldc_w idx, 3)) (hw : Cond.constant y.1.cls idx x ∈ gt) (k : J l y I v u (pc + 3) lv (.int x :: st) Q) : J l y I v u pc lv st Q :=
  fun L cA D p e s m args below meth c H locs ls C hP hD hS hl => lv_ldcw C.1 C.2.1 C.2.2.2.2.1 (C.2.2.2.2.2.2.1 _ hw) d (k L cA D p e s m args below meth c H locs ls C hP hD hS hl)
noncomputable def nm1 (K : fr_V) (M n : Nat) : fr_V := upA K 1156 (oX K M (K 1156) n)
noncomputable def nm2 (K : fr_V) (M n N : Nat) : fr_V := f_lay (nm1 K M n) n N 0
noncomputable def nm3 (L : fr_V) (M k : Nat) : fr_V := upA (upA L 1158 (pR L M (L 1156) (L 1158) k)) 1157 (gR L M (L 1156) (L 1157) k)
noncomputable def nm4 (C : fr_V) (k b R : Nat) (x1 : Int32) : cdS := cdF (C 1156) (C 1157) (C 1158) k b x1 (0, 0, 0, C 1155, C 1154) R
noncomputable def nm5 (C : fr_V) (s : cdS) : Int32 × fr_V := (s.2.1, up2 (upA (upA C 1155 s.2.2.2.1) 1154 s.2.2.2.2) 1100 52 1)
noncomputable def nm6 (K : fr_V) (M n N cp : Nat) (x1 : Int32) : Int32 × fr_V := if rwF (K 1141 3) (oK K M n) ≤ 5000 then nm5 (nm3 (nm2 K M n N) M (oK K M n)) (nm4 (nm3 (nm2 K M n N) M (oK K M n)) (oK K M n) (cp + 1) (rwF (K 1141 3) (oK K M n)).toNatClampNeg x1) else ((-2147483648), nm1 K M n)
noncomputable def f_names11 (v : fr_V) (M n N cp : Nat) (x1 : Int32) : Int32 × fr_V := if f_X11_isIn (up2 v 1100 2 0) x1 0 99999 = 0 then ((-2147483648), (up2 v 1100 2 0)) else nm6 (f_know (up2 v 1100 2 0) N (v 1100 3)) M n N cp x1
theorem rwF_N {cp : Nat} (h1 : 1 ≤ cp) (h3 : cp ≤ 3) : ∀ k, ∃ R, rwF (nI cp) k = nI R ∧ 1 ≤ R ∧ R ≤ 20000 := by
  intro k
  induction k with
  | zero => exact ⟨1, rfl, by omega, by omega⟩
  | succ k ih =>
    obtain ⟨R, e, h4, h5⟩ := ih
    rw [rwF_s, e]
    by_cases c : nI R ≤ 5000
    · rw [if_pos c, nI_1, pk_mul]
      have hR : R ≤ 5000 := nz_le (b := 5000) (by omega) (by omega) c
      refine ⟨_, rfl, Nat.mul_pos (by omega) (by omega), ?_⟩
      calc R * (cp + 1) ≤ 5000 * 4 := Nat.mul_le_mul hR (by omega)
        _ = 20000 := rfl
    · rw [if_neg c]; exact ⟨R, rfl, h4, h5⟩
theorem nm1_m {K : fr_V} {M n k : Nat} (h : k ≠ 1156) : nm1 K M n k = K k := by unfold nm1; exact upA_ne h
theorem lf_nm1 {K : fr_V} {M n P : Nat} {x : Int32} (h : lfOK K x P) : lfOK (nm1 K M n) x P := by unfold nm1; exact h
theorem nm3_m {L : fr_V} {M k c : Nat} (h : c ≠ 1157) (h2 : c ≠ 1158) : nm3 L M k c = L c := by unfold nm3; rw [upA_ne h, upA_ne h2]
theorem nm2_m {K : fr_V} {M n N k j : Nat} (h : ly_off k j) (h2 : k ≠ 1156) : nm2 K M n N k j = K k j := by
  unfold nm2
  rw [f_lay_m h]
  unfold nm1
  rw [upA_ne h2]
theorem nm2_O {K : fr_V} {M n N j : Nat} : nm2 K M n N 1156 j = oX K M (K 1156) n j := by
  unfold nm2
  rw [f_lay_m ⟨by omega, by omega, by omega, by omega⟩]
  rfl
theorem k_X11_names {l : Launch} {I : List Nat} (hI : fr_I I) (v : fr_V) (u : fr_U) (M n N cp : Nat) (x1 : Int32) (Pj : Nat → Nat) (hN : v 1100 16 = nI N) (hW : nt_ok (v 1118) (v 1119) N) (hL : v 1100 4 = nI n) (hL2 : n ≤ 12) (hM0 : v 1100 38 = nI M) (hM : M ≤ 24) (hcp : v 1141 3 = nI cp) (hc1 : 1 ≤ cp) (hc3 : cp ≤ 3) (hset : ¬ v 1141 2 + 1 = 0) (hLf : ∀ j, j < n → lfOK (up2 v 1100 2 0) (nI j) (Pj j)) : Con l mX11_names I v u [.ref 1100, .int x1] (QX u (fun a b => a = (f_names11 v M n N cp x1).1 ∧ b = (f_names11 v M n N cp x1).2)) := by
  refine Con.of (by decide) (Nat.le_of_ble_eq_true rfl) ?_
  show J l mX11_names I v u 0 [(0, .ref 1100), (1, .int x1)] [] _
  refine J_aload_n dX11_names_0 rfl 0 rfl ?_
  refine J_iconst (x := 0) dX11_names_1 (by decide) ?_
  refine J_puti (ci := 11) (j := 2) dX11_names_2 fl_X11_129 (i1100 hI) rfl rfl (fun q h => by cases h; rfl) rfl ?_
  refine J_iload_n dX11_names_5 rfl 1 rfl ?_
  refine J_iconst (x := 0) dX11_names_6 (by decide) ?_
  refine J_ldcw (x := 99999) dX11_names_7 cn_X11_320 ?_
  refine J_eSI (z := mX11_isIn) (As := [.int x1, .int 0, .int 99999]) (rest := []) (x := f_X11_isIn (up2 v 1100 2 0) x1 0 99999) dX11_names_10 ml_X11_204 ok_X11_isIn iv_X11_isIn (by decide) rfl rfl (Nat.le_of_ble_eq_true rfl) (k_X11_isIn hI (up2 v 1100 2 0) u x1 0 99999) ?_
  refine J_if_ne (tgt := 20) dX11_names_13 (by decide) (fun c1 => ?_) (fun c1 => ?_)
  · refine J_aload_n dX11_names_20 rfl 0 rfl ?_
    refine J_aload_n dX11_names_21 rfl 0 rfl ?_
    refine J_gete (ci := 11) (j := 3) (x := v 1100 3) dX11_names_22 fl_X11_208 (i1100 hI) rfl rfl rfl ?_
    refine J_eVN (z := mX11_know) (As := [.int (v 1100 3)]) (rest := []) (ci := 11) (w := (f_know (up2 v 1100 2 0) N (v 1100 3))) dX11_names_25 ml_X11_257 ok_X11_know iv_X11_know (by decide) (i1100 hI) rfl rfl rfl rfl (Nat.le_of_ble_eq_true rfl) (k_X11_know hI (up2 v 1100 2 0) u (v 1100 3) N hN hW) ?_
    refine J_iconst (x := 0) dX11_names_28 (by decide) ?_
    refine J_istore_n (lv' := [(2, .int 0), (0, .ref 1100), (1, .int x1)]) dX11_names_29 rfl (by decide) rfl ?_
    refine J_iconst (x := 1) dX11_names_30 (by decide) ?_
    refine J_istore_n (lv' := [(3, .int 1), (2, .int 0), (0, .ref 1100), (1, .int x1)]) dX11_names_31 rfl (by decide) rfl ?_
    refine J_iconst (x := 0) dX11_names_32 (by decide) ?_
    refine J_istore (lv' := [(4, .int 0), (3, .int 1), (2, .int 0), (0, .ref 1100), (1, .int x1)]) dX11_names_33 (by decide) rfl ?_
    refine J_ve (w := upA (f_know (up2 v 1100 2 0) N (v 1100 3)) 1156 ((f_know (up2 v 1100 2 0) N (v 1100 3)) 1156)) (upA_id _ _).symm ?_
    refine J_lv [3, 4, 2, 1, 0] rfl ?_
    have hL9 : (f_know (up2 v 1100 2 0) N (v 1100 3)) 1100 4 = nI n := by rw [(congrFun (f_know_m (k := 1100) (by decide) (by decide)) 4)]; exact hL
    have hM9 : (f_know (up2 v 1100 2 0) N (v 1100 3)) 1100 38 = nI M := by rw [(congrFun (f_know_m (k := 1100) (by decide) (by decide)) 38)]; exact hM0
    have hcK : (f_know (up2 v 1100 2 0) N (v 1100 3)) 1141 3 = nI cp := by rw [(congrFun (f_know_m (k := 1141) (by decide) (by decide)) 3)]; exact hcp
    have hok := oK_le (f_know (up2 v 1100 2 0) N (v 1100 3)) M n
    obtain ⟨R, hR, hR1, hR2⟩ := rwF_N hc1 hc3 (oK (f_know (up2 v 1100 2 0) N (v 1100 3)) M n)
    rw [← hcK] at hR
    refine nn1_L hI (f_know (up2 v 1100 2 0) N (v 1100 3)) u M n x1 hL9 hL2 hM9 hM (fun G rw hG hrw => ?_) (n + 1) 0 ((f_know (up2 v 1100 2 0) N (v 1100 3)) 1156) 1 (by omega) (by omega) rfl rfl
    subst hG
    rw [hrw, hR]
    show J l _ I (nm1 (f_know (up2 v 1100 2 0) N (v 1100 3)) M n) u _ _ _ _
    refine J_iload_n dX11_names_107 rfl 3 rfl ?_
    refine J_sipush (x := 5000) dX11_names_108 (by decide) ?_
    refine J_icmp_le (tgt := 118) dX11_names_111 (by decide) (fun c61 => ?_) (fun c61 => ?_)
    · refine J_aload_n dX11_names_118 rfl 0 rfl ?_
      refine J_iconst (x := 0) dX11_names_119 (by decide) ?_
      refine J_eVN (z := mX11_lay) (As := [.int 0]) (rest := []) (ci := 11) (w := (nm2 (f_know (up2 v 1100 2 0) N (v 1100 3)) M n N)) dX11_names_120 ml_X11_314 ok_X11_lay iv_X11_lay (by decide) (i1100 hI) rfl rfl rfl rfl (Nat.le_of_ble_eq_true rfl) (k_X11_lay hI (nm1 (f_know (up2 v 1100 2 0) N (v 1100 3)) M n) u n N hL2 (by rw [nm1_m (by omega)]; exact hL9) (by rw [nm1_m (by omega), (congrFun (f_know_m (k := 1100) (by decide) (by decide)) 16)]; exact hN) (by rw [nm1_m (by omega), nm1_m (by omega), f_know_m (by decide) (by decide), f_know_m (by decide) (by decide)]; exact hW) 0) ?_
      refine J_iconst (x := 0) dX11_names_123 (by decide) ?_
      refine J_istore (lv' := [(4, .int 0), (0, .ref 1100), (1, .int x1), (2, .int (nI (oK (f_know (up2 v 1100 2 0) N (v 1100 3)) M n))), (3, .int (nI R))]) dX11_names_124 (by decide) rfl ?_
      refine J_lv [1, 2, 3, 4, 0] rfl ?_
      have hR5 : R ≤ 5000 := nz_le (b := 5000) (by omega) (by omega) c61
      refine J_ve (w := upA (upA (nm2 (f_know (up2 v 1100 2 0) N (v 1100 3)) M n N) 1158 ((nm2 (f_know (up2 v 1100 2 0) N (v 1100 3)) M n N) 1158)) 1157 ((nm2 (f_know (up2 v 1100 2 0) N (v 1100 3)) M n N) 1157)) (by rw [upA_id]; exact (upA_id _ _).symm) ?_
      have hO : ∀ i, i < (oK (f_know (up2 v 1100 2 0) N (v 1100 3)) M n) → ∃ j, j < n ∧ (nm2 (f_know (up2 v 1100 2 0) N (v 1100 3)) M n N) 1156 i = nI j := fun i hi => by rw [nm2_O]; exact oX_in n i hi
      have hOi : ∀ i, i < (oK (f_know (up2 v 1100 2 0) N (v 1100 3)) M n) → vp_in ((nm2 (f_know (up2 v 1100 2 0) N (v 1100 3)) M n N) 1156 i) 12 := fun i hi => by obtain ⟨j, hj, e⟩ := hO i hi; rw [e]; exact vp_in_nI (by omega) (by omega)
      refine nn2_L hI (nm2 (f_know (up2 v 1100 2 0) N (v 1100 3)) M n N) u M (oK (f_know (up2 v 1100 2 0) N (v 1100 3)) M n) x1 (nI R) (fun i => Pj ((nm2 (f_know (up2 v 1100 2 0) N (v 1100 3)) M n N) 1156 i).toNatClampNeg) (by omega) (by rw [nm2_m ⟨by omega, by omega, by omega, by omega⟩ (by omega)]; exact hM9) hM (by rw [nm2_m ⟨by omega, by omega, by omega, by omega⟩ (by omega), (congrFun (f_know_m (k := 1141) (by decide) (by decide)) 2)]; exact hset) (fun i hi => ?_) (fun F G2 hF hG2 => ?_) ((oK (f_know (up2 v 1100 2 0) N (v 1100 3)) M n) + 1) 0 _ _ (by omega) (by omega) rfl rfl
      · obtain ⟨j, hj, e⟩ := hO i hi
        rw [e, nI_clamp (by omega)]
        exact lf_lay (lf_nm1 (lf_know (N := N) (k := v 1100 3) (hLf j hj)))
      · subst hF; subst hG2
        show J l _ I (nm3 (nm2 (f_know (up2 v 1100 2 0) N (v 1100 3)) M n N) M (oK (f_know (up2 v 1100 2 0) N (v 1100 3)) M n)) u _ _ _ _
        refine J_iconst (x := 0) dX11_names_189 (by decide) ?_
        refine J_istore (lv' := [(4, .int 0), (0, .ref 1100), (1, .int x1), (2, .int (nI (oK (f_know (up2 v 1100 2 0) N (v 1100 3)) M n))), (3, .int (nI R))]) dX11_names_190 (by decide) rfl ?_
        refine J_iconst (x := 0) dX11_names_192 (by decide) ?_
        refine J_istore (lv' := [(5, .int 0), (4, .int 0), (0, .ref 1100), (1, .int x1), (2, .int (nI (oK (f_know (up2 v 1100 2 0) N (v 1100 3)) M n))), (3, .int (nI R))]) dX11_names_193 (by decide) rfl ?_
        refine J_iconst (x := 0) dX11_names_195 (by decide) ?_
        refine J_istore (lv' := [(6, .int 0), (5, .int 0), (4, .int 0), (0, .ref 1100), (1, .int x1), (2, .int (nI (oK (f_know (up2 v 1100 2 0) N (v 1100 3)) M n))), (3, .int (nI R))]) dX11_names_196 (by decide) rfl ?_
        refine J_iconst (x := 0) dX11_names_198 (by decide) ?_
        refine J_istore (lv' := [(7, .int 0), (6, .int 0), (5, .int 0), (4, .int 0), (0, .ref 1100), (1, .int x1), (2, .int (nI (oK (f_know (up2 v 1100 2 0) N (v 1100 3)) M n))), (3, .int (nI R))]) dX11_names_199 (by decide) rfl ?_
        refine J_lv [4, 5, 6, 7, 3, 2, 1, 0] rfl ?_
        refine J_ve (w := upA (upA (nm3 (nm2 (f_know (up2 v 1100 2 0) N (v 1100 3)) M n N) M (oK (f_know (up2 v 1100 2 0) N (v 1100 3)) M n)) 1155 ((nm3 (nm2 (f_know (up2 v 1100 2 0) N (v 1100 3)) M n N) M (oK (f_know (up2 v 1100 2 0) N (v 1100 3)) M n)) 1155)) 1154 ((nm3 (nm2 (f_know (up2 v 1100 2 0) N (v 1100 3)) M n N) M (oK (f_know (up2 v 1100 2 0) N (v 1100 3)) M n)) 1154)) (by rw [upA_id]; exact (upA_id _ _).symm) ?_
        have hc9 : (nm3 (nm2 (f_know (up2 v 1100 2 0) N (v 1100 3)) M n N) M (oK (f_know (up2 v 1100 2 0) N (v 1100 3)) M n)) 1141 3 = nI cp := by rw [nm3_m (by omega) (by omega), nm2_m ⟨by omega, by omega, by omega, by omega⟩ (by omega)]; exact hcK
        have hend : f_names11 v M n N cp x1 = nm5 (nm3 (nm2 (f_know (up2 v 1100 2 0) N (v 1100 3)) M n N) M (oK (f_know (up2 v 1100 2 0) N (v 1100 3)) M n)) (nm4 (nm3 (nm2 (f_know (up2 v 1100 2 0) N (v 1100 3)) M n N) M (oK (f_know (up2 v 1100 2 0) N (v 1100 3)) M n)) (oK (f_know (up2 v 1100 2 0) N (v 1100 3)) M n) (cp + 1) R x1) := by
          unfold f_names11; rw [if_neg c1]; unfold nm6; rw [hR, if_pos c61, nI_clamp (by omega)]
        rw [hend]
        exact cd_L hI (nm3 (nm2 (f_know (up2 v 1100 2 0) N (v 1100 3)) M n N) M (oK (f_know (up2 v 1100 2 0) N (v 1100 3)) M n)) u (oK (f_know (up2 v 1100 2 0) N (v 1100 3)) M n) R cp x1 (by omega) hR5 hc9 hc3 (fun i hi => by rw [nm3_m (by omega) (by omega)]; exact hOi i hi) (R + 1) 0 0 0 0 _ _ (by omega) (by omega) rfl
    · refine J_ldcw (x := (-2147483648)) dX11_names_114 cn_X11_321 ?_
      exact J_iret dX11_names_117 rfl ⟨_, rfl, rfl, by unfold f_names11; rw [if_neg c1]; unfold nm6; rw [hR, if_neg c61], by unfold f_names11; rw [if_neg c1]; unfold nm6; rw [hR, if_neg c61]⟩
  · refine J_ldcw (x := (-2147483648)) dX11_names_16 cn_X11_321 ?_
    exact J_iret dX11_names_19 rfl ⟨_, rfl, rfl, by unfold f_names11; rw [if_pos c1], by unfold f_names11; rw [if_pos c1]⟩
