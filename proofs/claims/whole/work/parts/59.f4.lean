theorem J_lale {l : Launch} {y : fr_M} {I : List Nat} {v : fr_V} {u : fr_U} {Q : Option Value → fr_V → fr_U → Prop} {pc : Nat} {lv : List (Nat × Value)} {st : List Value} {k n : Nat} {i : Int32} {x : Int64} (d : decode y.2.1 pc = .ok (.laload, 1)) (hk : k ∈ I) (hs : sh k = (22, n)) (hin : vp_in i n) (hx : u k i.toNatClampNeg = x) (kk : J l y I v u (pc + 1) lv (.long x :: st) Q) : J l y I v u pc lv (.int i :: .ref k :: st) Q := by
  subst hx
  exact J_lald d hk hs hin kk
def faG (v : fr_V) (x1 : Int32) (nr : Nat) : Nat → Int32
  | 0 => (-1)
  | d + 1 => if f_X7_isAloneOn v (nr - (d + 1)) x1 = 0 then faG v x1 nr d else nI (nr - (d + 1))
theorem faG_s (v : fr_V) (x1 : Int32) (nr d : Nat) : faG v x1 nr (d + 1) = if f_X7_isAloneOn v (nr - (d + 1)) x1 = 0 then faG v x1 nr d else nI (nr - (d + 1)) := rfl
theorem faG_of {v : fr_V} {x1 a : Int32} {nr : Nat} (h : fa_post v nr x1 a) : ∀ d, d ≤ nr → (∀ q, q < nr - d → ¬ fa_hit v x1 q) → a = faG v x1 nr d := by
  intro d
  induction d with
  | zero =>
    intro _ hno
    rcases h with ⟨r, h1, h2, h3, h4⟩ | ⟨_, h2⟩
    · exact absurd h2 (hno r (by omega))
    · exact h2
  | succ d ih =>
    intro hd hno
    rw [faG_s]
    by_cases c : f_X7_isAloneOn v (nr - (d + 1)) x1 = 0
    · rw [if_pos c]
      refine ih (by omega) (fun q hq => ?_)
      by_cases e : q = nr - (d + 1)
      · rw [e]; exact fun hh => hh c
      · exact hno q (by omega)
    · rw [if_neg c]
      rcases h with ⟨r, h1, h2, h3, h4⟩ | ⟨h1, _⟩
      · have : r = nr - (d + 1) := by
          by_cases g : r < nr - (d + 1)
          · exact absurd h2 (hno r g)
          · by_cases g2 : nr - (d + 1) < r
            · exact absurd c (h3 _ g2)
            · omega
        rw [h4, this]
      · exact absurd c (h1 _ (by omega))
def f_fa (v : fr_V) (nr : Nat) (x1 : Int32) : Int32 := faG v x1 nr nr
theorem k_fa {l : Launch} {I : List Nat} (hI : fr_I I) (v : fr_V) (u : fr_U) (nr : Nat) (hn : rnOK I nr v) (x1 : Int32) : Con l mX3_firstAloneOn I v u [.ref 300, .int x1] (QI v u (fun a => a = f_fa v nr x1)) :=
  (k_X3_firstAloneOn hI v u nr hn x1).mono (fun q w z h => by
    obtain ⟨x, e1, e2, e3, e4⟩ := h
    exact ⟨x, e1, e2, e3, faG_of e4 nr (Nat.le_refl _) (fun q hq => by omega)⟩)
theorem fa_N {v : fr_V} {x1 : Int32} {nr : Nat} : ∀ d, d ≤ nr → ¬ faG v x1 nr d = (-1) → ∃ r, r < nr ∧ faG v x1 nr d = nI r := by
  intro d
  induction d with
  | zero => intro _ h; exact absurd rfl h
  | succ d ih =>
    intro hd h
    rw [faG_s] at h ⊢
    by_cases c : f_X7_isAloneOn v (nr - (d + 1)) x1 = 0
    · rw [if_pos c] at h ⊢; exact ih (by omega) h
    · rw [if_neg c]; exact ⟨_, by omega, rfl⟩
def rkEnd (v : fr_V) (N nr w : Nat) (x1 since : Int32) : Int64 := (caF v x1 nr).toInt64 * (1000 - v (910 + clOf v x1) (g10 (f_X5_ageIn v x1 (nI w)))).toInt64 * (nI w - since).toInt64
def f_rk (v : fr_V) (N nr w : Nat) (x1 : Int32) : Int64 := if f_fa v nr x1 = (-1) then 0 else if lpF (v 104) (v 109) (v 103) x1 N = (-1) then rkEnd v N nr w x1 (v (2000 + 10 * (f_fa v nr x1).toNatClampNeg) 4) else rkEnd v N nr w x1 (lpF (v 104) (v 109) (v 103) x1 N)
theorem k_X10_riskOn {l : Launch} {I : List Nat} (hI : fr_I I) (v : fr_V) (u : fr_U) (N nr w : Nat) (x1 : Int32) (hw : v 1000 3 = nI w) (hw8 : w < 80) (hn : rnOK I nr v) (hN : v 100 5 = nI N) (hN6 : N ≤ 60) (hx : lvOK v w x1) : Con l mX10_riskOn I v u [.ref 1000, .int x1] (QL v u (fun a => a = f_rk v N nr w x1)) := by
  refine Con.of (by decide) (Nat.le_of_ble_eq_true rfl) ?_
  show J l mX10_riskOn I v u 0 [(0, .ref 1000), (1, .int x1)] [] _
  obtain ⟨c, hc, hc9⟩ := hx.2.1
  have hcl : clOf v x1 = c := by unfold clOf; rw [hc9, nI_clamp (by omega)]
  refine J_aload_n dX10_riskOn_0 rfl 0 rfl ?_
  refine J_getr (ci := 10) (j := 6) (t := 300) dX10_riskOn_1 fl_X10_47 (i1000 hI) rfl rfl rfl ?_
  refine J_iload_n dX10_riskOn_4 rfl 1 rfl ?_
  refine J_eVI (z := mX3_firstAloneOn) (As := [.int x1]) (rest := []) (ci := 3) (x := f_fa v nr x1) dX10_riskOn_5 ml_X10_344 ok_X3_firstAloneOn iv_X3_firstAloneOn (by decide) (i300 hI) rfl rfl rfl rfl (Nat.le_of_ble_eq_true rfl) (k_fa hI v u nr hn x1) ?_
  refine J_istore_n (lv' := [(2, .int (f_fa v nr x1)), (0, .ref 1000), (1, .int x1)]) dX10_riskOn_8 rfl (by decide) rfl ?_
  refine J_iload_n dX10_riskOn_9 rfl 0 rfl ?_
  refine J_iconst (x := (-1)) dX10_riskOn_10 (by decide) ?_
  refine J_icmp_ne (tgt := 16) dX10_riskOn_11 (by decide) (fun c1 => ?_) (fun c1 => ?_)
  · obtain ⟨r, hr, hr9⟩ := fa_N (v := v) (x1 := x1) nr (Nat.le_refl _) c1
    have hn16 := hn.1
    have hfa : (f_fa v nr x1).toNatClampNeg = r := (congrArg _ hr9).trans (nI_clamp (by omega))
    refine J_aload_n dX10_riskOn_16 rfl 1 rfl ?_
    refine J_getr (ci := 10) (j := 5) (t := 100) dX10_riskOn_17 fl_X10_38 (i1000 hI) rfl rfl rfl ?_
    refine J_iload_n dX10_riskOn_20 rfl 2 rfl ?_
    refine J_eVI (z := mX1_latestProof) (As := [.int x1]) (rest := []) (ci := 1) (x := lpF (v 104) (v 109) (v 103) x1 N) dX10_riskOn_21 ml_X10_347 ok_X1_latestProof iv_X1_latestProof (by decide) (i100 hI) rfl rfl rfl rfl (Nat.le_of_ble_eq_true rfl) (k_X1_latestProof hI v u x1 N hN hN6) ?_
    refine J_istore_n (lv' := [(3, .int (lpF (v 104) (v 109) (v 103) x1 N)), (2, .int (f_fa v nr x1)), (0, .ref 1000), (1, .int x1)]) dX10_riskOn_24 rfl (by decide) rfl ?_
    refine J_iload_n dX10_riskOn_25 rfl 0 rfl ?_
    refine J_iconst (x := (-1)) dX10_riskOn_26 (by decide) ?_
    refine J_icmp_ne (tgt := 43) dX10_riskOn_27 (by decide) (fun c2 => ?_) (fun c2 => ?_)
    · refine J_aload_n dX10_riskOn_43 rfl 2 rfl ?_
      refine J_getr (ci := 10) (j := 4) (t := 500) dX10_riskOn_44 fl_X10_29 (i1000 hI) rfl rfl rfl ?_
      refine J_iload_n dX10_riskOn_47 rfl 3 rfl ?_
      refine J_aload_n dX10_riskOn_48 rfl 2 rfl ?_
      refine J_gete (ci := 10) (j := 3) (x := nI w) dX10_riskOn_49 fl_X10_92 (i1000 hI) rfl rfl hw ?_
      refine J_eVI (z := mX5_ageIn) (As := [.int x1, .int (nI w)]) (rest := []) (ci := 5) (x := f_X5_ageIn v x1 (nI w)) dX10_riskOn_52 ml_X10_292 ok_X5_ageIn iv_X5_ageIn (by decide) (i500 hI) rfl rfl rfl rfl (Nat.le_of_ble_eq_true rfl) (k_X5_ageIn hI v u x1 (nI w) hx.1) ?_
      refine J_eSI (z := mX10_groupOf) (As := [.int (f_X5_ageIn v x1 (nI w))]) (rest := []) (x := f_X10_groupOf v (f_X5_ageIn v x1 (nI w))) dX10_riskOn_55 ml_X10_353 ok_X10_groupOf iv_X10_groupOf (by decide) rfl rfl (Nat.le_of_ble_eq_true rfl) (k_X10_groupOf hI v u (f_X5_ageIn v x1 (nI w))) ?_
      refine J_istore (lv' := [(4, .int (f_X10_groupOf v (f_X5_ageIn v x1 (nI w)))), (3, .int (lpF (v 104) (v 109) (v 103) x1 N)), (2, .int (f_fa v nr x1)), (0, .ref 1000), (1, .int x1)]) dX10_riskOn_58 (by decide) rfl ?_
      refine J_sipush (x := 1000) dX10_riskOn_60 (by decide) ?_
      refine J_aload_n dX10_riskOn_63 rfl 3 rfl ?_
      refine J_getr (ci := 10) (j := 7) (t := 900) dX10_riskOn_64 fl_X10_56 (i1000 hI) rfl rfl rfl ?_
      refine J_getr (ci := 8) (j := 2) (t := 903) dX10_riskOn_67 fl_X10_206 (i900 hI) rfl rfl rfl ?_
      refine J_aload_n dX10_riskOn_70 rfl 3 rfl ?_
      refine J_getr (ci := 10) (j := 4) (t := 500) dX10_riskOn_71 fl_X10_29 (i1000 hI) rfl rfl rfl ?_
      refine J_getr (ci := 5) (j := 1) (t := 502) dX10_riskOn_74 fl_X10_306 (i500 hI) rfl rfl rfl ?_
      refine J_iload_n dX10_riskOn_77 rfl 4 rfl ?_
      refine J_iale (x := v 502 x1.toNatClampNeg) dX10_riskOn_78 (i502 hI) rfl hx.1 rfl ?_
      rw [hc9]
      refine J_aldM (t := 910 + c) dX10_riskOn_79 (i903 hI) rfl (vp_in_nI (by omega) (by omega)) (by rw [nI_clamp (by omega)]; rfl) ?_
      refine J_iload dX10_riskOn_80 0 rfl ?_
      refine J_iale (x := v (910 + c) ((f_X10_groupOf v (f_X5_ageIn v x1 (nI w))).toNatClampNeg)) dX10_riskOn_82 (i_sold hI hc) (s_sold hc) (grp10_in v _) rfl ?_
      refine J_isub dX10_riskOn_83 ?_
      refine J_i2l dX10_riskOn_84 ?_
      refine J_lstore (lv' := [(5, .long ((1000 - (v (910 + c) ((f_X10_groupOf v (f_X5_ageIn v x1 (nI w))).toNatClampNeg))).toInt64)), (4, .int (f_X10_groupOf v (f_X5_ageIn v x1 (nI w)))), (3, .int (lpF (v 104) (v 109) (v 103) x1 N)), (2, .int (f_fa v nr x1)), (0, .ref 1000), (1, .int x1)]) dX10_riskOn_85 (by decide) rfl ?_
      refine J_aload_n dX10_riskOn_87 rfl 4 rfl ?_
      refine J_getr (ci := 10) (j := 6) (t := 300) dX10_riskOn_88 fl_X10_47 (i1000 hI) rfl rfl rfl ?_
      refine J_iload_n dX10_riskOn_91 rfl 5 rfl ?_
      refine J_eVI (z := mX3_coinsAloneOn) (As := [.int x1]) (rest := []) (ci := 3) (x := caF v x1 nr) dX10_riskOn_92 ml_X10_356 ok_X3_coinsAloneOn iv_X3_coinsAloneOn (by decide) (i300 hI) rfl rfl rfl rfl (Nat.le_of_ble_eq_true rfl) (k_X3_coinsAloneOn hI v u nr hn x1) ?_
      refine J_i2l dX10_riskOn_95 ?_
      refine J_lload dX10_riskOn_96 0 rfl ?_
      refine J_lmul dX10_riskOn_98 ?_
      refine J_aload_n dX10_riskOn_99 rfl 4 rfl ?_
      refine J_gete (ci := 10) (j := 3) (x := nI w) dX10_riskOn_100 fl_X10_92 (i1000 hI) rfl rfl hw ?_
      refine J_iload_n dX10_riskOn_103 rfl 2 rfl ?_
      refine J_isub dX10_riskOn_104 ?_
      refine J_i2l dX10_riskOn_105 ?_
      refine J_lmul dX10_riskOn_106 ?_
      exact J_lret dX10_riskOn_107 rfl ⟨_, rfl, rfl, rfl, by unfold f_rk; rw [if_neg c1, if_neg c2]; unfold rkEnd; rw [hcl]; rfl⟩
    · refine J_aload_n dX10_riskOn_30 rfl 2 rfl ?_
      refine J_getr (ci := 10) (j := 6) (t := 300) dX10_riskOn_31 fl_X10_47 (i1000 hI) rfl rfl rfl ?_
      refine J_getr (ci := 3) (j := 1) (t := 302) dX10_riskOn_34 fl_X10_167 (i300 hI) rfl rfl rfl ?_
      refine J_iload_n dX10_riskOn_37 rfl 1 rfl ?_
      have hr9 : f_fa v nr x1 = nI r := hr9
      refine J_aldR (t := 2000 + 10 * r) dX10_riskOn_38 (i302 hI) rfl (by rw [hr9]; exact vp_in_nI (by omega) (by omega)) (by rw [hr9]; exact rn_0 hn hr) (by rw [hr9]; exact rn_1 hn hr) ?_
      refine J_gete (ci := 7) (j := 4) (x := v (2000 + 10 * r) 4) dX10_riskOn_39 fl_X10_350 (hn.2.2 r hr).1 (by rw [sh_rent]) rfl rfl ?_
      refine J_istore_n (lv' := [(3, .int (v (2000 + 10 * r) 4)), (2, .int (f_fa v nr x1)), (0, .ref 1000), (1, .int x1)]) dX10_riskOn_42 rfl (by decide) rfl ?_
      refine J_aload_n dX10_riskOn_43 rfl 2 rfl ?_
      refine J_getr (ci := 10) (j := 4) (t := 500) dX10_riskOn_44 fl_X10_29 (i1000 hI) rfl rfl rfl ?_
      refine J_iload_n dX10_riskOn_47 rfl 3 rfl ?_
      refine J_aload_n dX10_riskOn_48 rfl 2 rfl ?_
      refine J_gete (ci := 10) (j := 3) (x := nI w) dX10_riskOn_49 fl_X10_92 (i1000 hI) rfl rfl hw ?_
      refine J_eVI (z := mX5_ageIn) (As := [.int x1, .int (nI w)]) (rest := []) (ci := 5) (x := f_X5_ageIn v x1 (nI w)) dX10_riskOn_52 ml_X10_292 ok_X5_ageIn iv_X5_ageIn (by decide) (i500 hI) rfl rfl rfl rfl (Nat.le_of_ble_eq_true rfl) (k_X5_ageIn hI v u x1 (nI w) hx.1) ?_
      refine J_eSI (z := mX10_groupOf) (As := [.int (f_X5_ageIn v x1 (nI w))]) (rest := []) (x := f_X10_groupOf v (f_X5_ageIn v x1 (nI w))) dX10_riskOn_55 ml_X10_353 ok_X10_groupOf iv_X10_groupOf (by decide) rfl rfl (Nat.le_of_ble_eq_true rfl) (k_X10_groupOf hI v u (f_X5_ageIn v x1 (nI w))) ?_
      refine J_istore (lv' := [(4, .int (f_X10_groupOf v (f_X5_ageIn v x1 (nI w)))), (3, .int (v (2000 + 10 * r) 4)), (2, .int (f_fa v nr x1)), (0, .ref 1000), (1, .int x1)]) dX10_riskOn_58 (by decide) rfl ?_
      refine J_sipush (x := 1000) dX10_riskOn_60 (by decide) ?_
      refine J_aload_n dX10_riskOn_63 rfl 3 rfl ?_
      refine J_getr (ci := 10) (j := 7) (t := 900) dX10_riskOn_64 fl_X10_56 (i1000 hI) rfl rfl rfl ?_
      refine J_getr (ci := 8) (j := 2) (t := 903) dX10_riskOn_67 fl_X10_206 (i900 hI) rfl rfl rfl ?_
      refine J_aload_n dX10_riskOn_70 rfl 3 rfl ?_
      refine J_getr (ci := 10) (j := 4) (t := 500) dX10_riskOn_71 fl_X10_29 (i1000 hI) rfl rfl rfl ?_
      refine J_getr (ci := 5) (j := 1) (t := 502) dX10_riskOn_74 fl_X10_306 (i500 hI) rfl rfl rfl ?_
      refine J_iload_n dX10_riskOn_77 rfl 4 rfl ?_
      refine J_iale (x := v 502 x1.toNatClampNeg) dX10_riskOn_78 (i502 hI) rfl hx.1 rfl ?_
      rw [hc9]
      refine J_aldM (t := 910 + c) dX10_riskOn_79 (i903 hI) rfl (vp_in_nI (by omega) (by omega)) (by rw [nI_clamp (by omega)]; rfl) ?_
      refine J_iload dX10_riskOn_80 0 rfl ?_
      refine J_iale (x := v (910 + c) ((f_X10_groupOf v (f_X5_ageIn v x1 (nI w))).toNatClampNeg)) dX10_riskOn_82 (i_sold hI hc) (s_sold hc) (grp10_in v _) rfl ?_
      refine J_isub dX10_riskOn_83 ?_
      refine J_i2l dX10_riskOn_84 ?_
      refine J_lstore (lv' := [(5, .long ((1000 - (v (910 + c) ((f_X10_groupOf v (f_X5_ageIn v x1 (nI w))).toNatClampNeg))).toInt64)), (4, .int (f_X10_groupOf v (f_X5_ageIn v x1 (nI w)))), (3, .int (v (2000 + 10 * r) 4)), (2, .int (f_fa v nr x1)), (0, .ref 1000), (1, .int x1)]) dX10_riskOn_85 (by decide) rfl ?_
      refine J_aload_n dX10_riskOn_87 rfl 4 rfl ?_
      refine J_getr (ci := 10) (j := 6) (t := 300) dX10_riskOn_88 fl_X10_47 (i1000 hI) rfl rfl rfl ?_
      refine J_iload_n dX10_riskOn_91 rfl 5 rfl ?_
      refine J_eVI (z := mX3_coinsAloneOn) (As := [.int x1]) (rest := []) (ci := 3) (x := caF v x1 nr) dX10_riskOn_92 ml_X10_356 ok_X3_coinsAloneOn iv_X3_coinsAloneOn (by decide) (i300 hI) rfl rfl rfl rfl (Nat.le_of_ble_eq_true rfl) (k_X3_coinsAloneOn hI v u nr hn x1) ?_
      refine J_i2l dX10_riskOn_95 ?_
      refine J_lload dX10_riskOn_96 0 rfl ?_
      refine J_lmul dX10_riskOn_98 ?_
      refine J_aload_n dX10_riskOn_99 rfl 4 rfl ?_
      refine J_gete (ci := 10) (j := 3) (x := nI w) dX10_riskOn_100 fl_X10_92 (i1000 hI) rfl rfl hw ?_
      refine J_iload_n dX10_riskOn_103 rfl 2 rfl ?_
      refine J_isub dX10_riskOn_104 ?_
      refine J_i2l dX10_riskOn_105 ?_
      refine J_lmul dX10_riskOn_106 ?_
      exact J_lret dX10_riskOn_107 rfl ⟨_, rfl, rfl, rfl, by unfold f_rk; rw [if_neg c1, if_pos c2, hfa]; unfold rkEnd; rw [hcl]; rfl⟩
  · refine J_lconst (x := 0) dX10_riskOn_14 (by decide) ?_
    exact J_lret dX10_riskOn_15 rfl ⟨_, rfl, rfl, rfl, by unfold f_rk; rw [if_pos c1]⟩
def raF (R : Nat → Int64) (Dd : Nat → Int32) (i : Nat) : Nat → Int32
  | 0 => 0
  | j + 1 => if 0 < lg_cmp (R j) (R i) then (if Dd j = 0 then raF R Dd i j + 1 else raF R Dd i j) else if lg_cmp (R j) (R i) = 0 then (if nI i ≤ nI j then raF R Dd i j else if Dd j = 0 then raF R Dd i j + 1 else raF R Dd i j) else raF R Dd i j
theorem raF_s (R : Nat → Int64) (Dd : Nat → Int32) (i j : Nat) : raF R Dd i (j + 1) = if 0 < lg_cmp (R j) (R i) then (if Dd j = 0 then raF R Dd i j + 1 else raF R Dd i j) else if lg_cmp (R j) (R i) = 0 then (if nI i ≤ nI j then raF R Dd i j else if Dd j = 0 then raF R Dd i j + 1 else raF R Dd i j) else raF R Dd i j := rfl
theorem ra_L {l : Launch} {I : List Nat} (hI : fr_I I) (v : fr_V) (u : fr_U) (n i : Nat) (hn : v 500 2 = nI n) (hn2 : n ≤ 12) (hi : i < n) : ∀ (d j : Nat) (a : Int32) (hd : n - j < d) (hj : j ≤ n) (ha : a = raF (u 1010) (fun q => f_X1_isDead v (nI q)) i j), J l mX10_riskierThan I v u 4 [(0, .ref 1000), (1, .int (nI i)), (2, .int a), (3, .int (nI j))] [] (QI v u (fun z => z = raF (u 1010) (fun q => f_X1_isDead v (nI q)) i n)) := by
  intro d
  induction d with
  | zero => intros; omega
  | succ d ih =>
    intro j a hd hj ha
    refine J_iload_n dX10_riskierThan_4 rfl 3 rfl ?_
    refine J_aload_n dX10_riskierThan_5 rfl 0 rfl ?_
    refine J_getr (ci := 10) (j := 4) (t := 500) dX10_riskierThan_6 fl_X10_29 (i1000 hI) rfl rfl rfl ?_
    refine J_gete (ci := 5) (j := 2) (x := nI n) dX10_riskierThan_9 fl_X10_236 (i500 hI) rfl rfl hn ?_
    refine J_icmp_ge (tgt := 84) dX10_riskierThan_12 (by decide) (fun c1 => ?_) (fun c1 => ?_)
    · refine J_iload_n dX10_riskierThan_84 rfl 2 rfl ?_
      exact J_iret dX10_riskierThan_85 rfl ⟨_, rfl, rfl, rfl, by have e : j = n := by {have := nz_le (by omega) (by omega) c1; omega}; rw [ha, e]⟩
    · have hjn : j < n := nz_nle (by omega) (by omega) c1
      refine J_aload_n dX10_riskierThan_15 rfl 0 rfl ?_
      refine J_getr (ci := 10) (j := 9) (t := 1010) dX10_riskierThan_16 fl_X10_67 (i1000 hI) rfl rfl rfl ?_
      refine J_iload_n dX10_riskierThan_19 rfl 3 rfl ?_
      refine J_lale (x := u 1010 j) dX10_riskierThan_20 (i1010 hI) rfl (ix_in (j := j) rfl (by omega) (by omega)) (congrArg _ (ix_cl (j := j) rfl (by omega))) ?_
      refine J_aload_n dX10_riskierThan_21 rfl 0 rfl ?_
      refine J_getr (ci := 10) (j := 9) (t := 1010) dX10_riskierThan_22 fl_X10_67 (i1000 hI) rfl rfl rfl ?_
      refine J_iload_n dX10_riskierThan_25 rfl 1 rfl ?_
      refine J_lale (x := u 1010 i) dX10_riskierThan_26 (i1010 hI) rfl (ix_in (j := i) rfl (by omega) (by omega)) (congrArg _ (ix_cl (j := i) rfl (by omega))) ?_
      refine J_lcmp dX10_riskierThan_27 ?_
      refine J_if_gt (tgt := 52) dX10_riskierThan_28 (by decide) (fun c2 => ?_) (fun c2 => ?_)
      · refine J_iconst (x := 1) dX10_riskierThan_52 (by decide) ?_
        refine J_goto (tgt := 57) dX10_riskierThan_53 (by decide) ?_
        refine J_istore (lv' := [(4, .int 1), (0, .ref 1000), (1, .int (nI i)), (2, .int a), (3, .int (nI j))]) dX10_riskierThan_57 (by decide) rfl ?_
        refine J_iload dX10_riskierThan_59 0 rfl ?_
        refine J_if_eq (tgt := 78) dX10_riskierThan_61 (by decide) (fun c3 => absurd c3 (by decide)) (fun c3 => ?_)
        refine J_aload_n dX10_riskierThan_64 rfl 1 rfl ?_
        refine J_getr (ci := 10) (j := 5) (t := 100) dX10_riskierThan_65 fl_X10_38 (i1000 hI) rfl rfl rfl ?_
        refine J_iload_n dX10_riskierThan_68 rfl 4 rfl ?_
        refine J_eVI (z := mX1_isDead) (As := [.int (nI j)]) (rest := []) (ci := 1) (x := f_X1_isDead v (nI j)) dX10_riskierThan_69 ml_X10_239 ok_X1_isDead iv_X1_isDead (by decide) (i100 hI) rfl rfl rfl rfl (Nat.le_of_ble_eq_true rfl) (k_X1_isDead hI v u (nI j) (vp_in_nI (by omega) (by omega))) ?_
        refine J_if_ne (tgt := 78) dX10_riskierThan_72 (by decide) (fun c4 => ?_) (fun c4 => ?_)
        · refine J_iinc (q := 4) (z := nI (j + 1)) (lv' := [(3, .int (nI (j + 1))), (4, .int 1), (0, .ref 1000), (1, .int (nI i)), (2, .int a)]) dX10_riskierThan_78 rfl (nI_1 j) (by decide) rfl ?_
          refine J_goto (tgt := 4) dX10_riskierThan_81 (by decide) ?_
          refine J_lv [2, 3, 4, 0] rfl ?_
          exact ih (j + 1) _ (by omega) (by omega) (by rw [raF_s, ← ha, if_pos c2, if_neg c4])
        · refine J_iinc (q := 3) (z := a + 1) (lv' := [(2, .int (a + 1)), (4, .int 1), (0, .ref 1000), (1, .int (nI i)), (3, .int (nI j))]) dX10_riskierThan_75 rfl rfl (by decide) rfl ?_
          refine J_iinc (q := 4) (z := nI (j + 1)) (lv' := [(3, .int (nI (j + 1))), (2, .int (a + 1)), (4, .int 1), (0, .ref 1000), (1, .int (nI i))]) dX10_riskierThan_78 rfl (nI_1 j) (by decide) rfl ?_
          refine J_goto (tgt := 4) dX10_riskierThan_81 (by decide) ?_
          refine J_lv [3, 4, 1, 0] rfl ?_
          exact ih (j + 1) _ (by omega) (by omega) (by rw [raF_s, ← ha, if_pos c2, if_pos c4])
      · refine J_aload_n dX10_riskierThan_31 rfl 0 rfl ?_
        refine J_getr (ci := 10) (j := 9) (t := 1010) dX10_riskierThan_32 fl_X10_67 (i1000 hI) rfl rfl rfl ?_
        refine J_iload_n dX10_riskierThan_35 rfl 3 rfl ?_
        refine J_lale (x := u 1010 j) dX10_riskierThan_36 (i1010 hI) rfl (ix_in (j := j) rfl (by omega) (by omega)) (congrArg _ (ix_cl (j := j) rfl (by omega))) ?_
        refine J_aload_n dX10_riskierThan_37 rfl 0 rfl ?_
        refine J_getr (ci := 10) (j := 9) (t := 1010) dX10_riskierThan_38 fl_X10_67 (i1000 hI) rfl rfl rfl ?_
        refine J_iload_n dX10_riskierThan_41 rfl 1 rfl ?_
        refine J_lale (x := u 1010 i) dX10_riskierThan_42 (i1010 hI) rfl (ix_in (j := i) rfl (by omega) (by omega)) (congrArg _ (ix_cl (j := i) rfl (by omega))) ?_
        refine J_lcmp dX10_riskierThan_43 ?_
        refine J_if_ne (tgt := 56) dX10_riskierThan_44 (by decide) (fun c5 => ?_) (fun c5 => ?_)
        · refine J_iconst (x := 0) dX10_riskierThan_56 (by decide) ?_
          refine J_istore (lv' := [(4, .int 0), (0, .ref 1000), (1, .int (nI i)), (2, .int a), (3, .int (nI j))]) dX10_riskierThan_57 (by decide) rfl ?_
          refine J_iload dX10_riskierThan_59 0 rfl ?_
          refine J_if_eq (tgt := 78) dX10_riskierThan_61 (by decide) (fun c6 => ?_) (fun c6 => absurd (by decide) c6)
          refine J_iinc (q := 4) (z := nI (j + 1)) (lv' := [(3, .int (nI (j + 1))), (4, .int 0), (0, .ref 1000), (1, .int (nI i)), (2, .int a)]) dX10_riskierThan_78 rfl (nI_1 j) (by decide) rfl ?_
          refine J_goto (tgt := 4) dX10_riskierThan_81 (by decide) ?_
          refine J_lv [2, 3, 4, 0] rfl ?_
          exact ih (j + 1) _ (by omega) (by omega) (by rw [raF_s, ← ha, if_neg c2, if_neg c5])
        · refine J_iload_n dX10_riskierThan_47 rfl 3 rfl ?_
          refine J_iload_n dX10_riskierThan_48 rfl 1 rfl ?_
          refine J_icmp_ge (tgt := 56) dX10_riskierThan_49 (by decide) (fun c7 => ?_) (fun c7 => ?_)
          · refine J_iconst (x := 0) dX10_riskierThan_56 (by decide) ?_
            refine J_istore (lv' := [(4, .int 0), (0, .ref 1000), (1, .int (nI i)), (2, .int a), (3, .int (nI j))]) dX10_riskierThan_57 (by decide) rfl ?_
            refine J_iload dX10_riskierThan_59 0 rfl ?_
            refine J_if_eq (tgt := 78) dX10_riskierThan_61 (by decide) (fun c8 => ?_) (fun c8 => absurd (by decide) c8)
            refine J_iinc (q := 4) (z := nI (j + 1)) (lv' := [(3, .int (nI (j + 1))), (4, .int 0), (0, .ref 1000), (1, .int (nI i)), (2, .int a)]) dX10_riskierThan_78 rfl (nI_1 j) (by decide) rfl ?_
            refine J_goto (tgt := 4) dX10_riskierThan_81 (by decide) ?_
            refine J_lv [2, 3, 4, 0] rfl ?_
            exact ih (j + 1) _ (by omega) (by omega) (by rw [raF_s, ← ha, if_neg c2, if_pos c5, if_pos c7])
          · refine J_iconst (x := 1) dX10_riskierThan_52 (by decide) ?_
            refine J_goto (tgt := 57) dX10_riskierThan_53 (by decide) ?_
            refine J_istore (lv' := [(4, .int 1), (0, .ref 1000), (1, .int (nI i)), (2, .int a), (3, .int (nI j))]) dX10_riskierThan_57 (by decide) rfl ?_
            refine J_iload dX10_riskierThan_59 0 rfl ?_
            refine J_if_eq (tgt := 78) dX10_riskierThan_61 (by decide) (fun c9 => absurd c9 (by decide)) (fun c9 => ?_)
            refine J_aload_n dX10_riskierThan_64 rfl 1 rfl ?_
            refine J_getr (ci := 10) (j := 5) (t := 100) dX10_riskierThan_65 fl_X10_38 (i1000 hI) rfl rfl rfl ?_
            refine J_iload_n dX10_riskierThan_68 rfl 4 rfl ?_
            refine J_eVI (z := mX1_isDead) (As := [.int (nI j)]) (rest := []) (ci := 1) (x := f_X1_isDead v (nI j)) dX10_riskierThan_69 ml_X10_239 ok_X1_isDead iv_X1_isDead (by decide) (i100 hI) rfl rfl rfl rfl (Nat.le_of_ble_eq_true rfl) (k_X1_isDead hI v u (nI j) (vp_in_nI (by omega) (by omega))) ?_
            refine J_if_ne (tgt := 78) dX10_riskierThan_72 (by decide) (fun c10 => ?_) (fun c10 => ?_)
            · refine J_iinc (q := 4) (z := nI (j + 1)) (lv' := [(3, .int (nI (j + 1))), (4, .int 1), (0, .ref 1000), (1, .int (nI i)), (2, .int a)]) dX10_riskierThan_78 rfl (nI_1 j) (by decide) rfl ?_
              refine J_goto (tgt := 4) dX10_riskierThan_81 (by decide) ?_
              refine J_lv [2, 3, 4, 0] rfl ?_
              exact ih (j + 1) _ (by omega) (by omega) (by rw [raF_s, ← ha, if_neg c2, if_pos c5, if_neg c7, if_neg c10])
            · refine J_iinc (q := 3) (z := a + 1) (lv' := [(2, .int (a + 1)), (4, .int 1), (0, .ref 1000), (1, .int (nI i)), (3, .int (nI j))]) dX10_riskierThan_75 rfl rfl (by decide) rfl ?_
              refine J_iinc (q := 4) (z := nI (j + 1)) (lv' := [(3, .int (nI (j + 1))), (2, .int (a + 1)), (4, .int 1), (0, .ref 1000), (1, .int (nI i))]) dX10_riskierThan_78 rfl (nI_1 j) (by decide) rfl ?_
              refine J_goto (tgt := 4) dX10_riskierThan_81 (by decide) ?_
              refine J_lv [3, 4, 1, 0] rfl ?_
              exact ih (j + 1) _ (by omega) (by omega) (by rw [raF_s, ← ha, if_neg c2, if_pos c5, if_neg c7, if_pos c10])
theorem k_X10_riskierThan {l : Launch} {I : List Nat} (hI : fr_I I) (v : fr_V) (u : fr_U) (n i : Nat) (hn : v 500 2 = nI n) (hn2 : n ≤ 12) (hi : i < n) : Con l mX10_riskierThan I v u [.ref 1000, .int (nI i)] (QI v u (fun z => z = raF (u 1010) (fun q => f_X1_isDead v (nI q)) i n)) := by
  refine Con.of (by decide) (Nat.le_of_ble_eq_true rfl) ?_
  show J l mX10_riskierThan I v u 0 [(0, .ref 1000), (1, .int (nI i))] [] _
  refine J_iconst (x := 0) dX10_riskierThan_0 (by decide) ?_
  refine J_istore_n (lv' := [(2, .int 0), (0, .ref 1000), (1, .int (nI i))]) dX10_riskierThan_1 rfl (by decide) rfl ?_
  refine J_iconst (x := 0) dX10_riskierThan_2 (by decide) ?_
  refine J_istore_n (lv' := [(3, .int 0), (2, .int 0), (0, .ref 1000), (1, .int (nI i))]) dX10_riskierThan_3 rfl (by decide) rfl ?_
  refine J_lv [2, 3, 1, 0] rfl ?_
  exact ra_L hI v u n i hn hn2 hi (n + 1) 0 _ (by omega) (by omega) rfl
