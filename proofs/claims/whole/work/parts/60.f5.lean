def rkR (z : fr_V) (N nr w : Nat) (q : Nat) : Int64 := if f_X1_isDead z (nI q) = 0 then f_rk z N nr w (nI q) else (-1)
theorem raF_e {R R' : Nat → Int64} {Dd : Nat → Int32} {n i : Nat} (h : ∀ q, q < n → R q = R' q) (hi : i < n) : ∀ j, j ≤ n → raF R Dd i j = raF R' Dd i j := by
  intro j
  induction j with
  | zero => intro _; rfl
  | succ j ih => intro hj; rw [raF_s, raF_s, ih (by omega), h j (by omega), h i hi]
theorem up3_at (u : fr_U) (k j : Nat) (x : Int64) : up3 u k j x k j = x := by rw [up3_self]; exact pk_uLs
theorem up3_off {u : fr_U} {k j q : Nat} {x : Int64} (h : q ≠ j) : up3 u k j x k q = u k q := by rw [up3_self]; exact pk_uLn h
def lkH (z : fr_V) (N nr w n : Nat) (k : Int32) (i : Nat) : Prop := f_X1_isDead z (nI i) = 0 ∧ raF (rkR z N nr w) (fun q => f_X1_isDead z (nI q)) i n = k
def lkP (z : fr_V) (N nr w n : Nat) (k a : Int32) : Prop := (∃ i, i < n ∧ lkH z N nr w n k i ∧ (∀ j, j < i → ¬ lkH z N nr w n k j) ∧ a = nI i) ∨ ((∀ j, j < n → ¬ lkH z N nr w n k j) ∧ a = (-1))
def QW (z : fr_V) (Pr : Int32 → Prop) : Option Value → fr_V → fr_U → Prop := fun r v' _ => ∃ x : Int32, r = some (.int x) ∧ v' = z ∧ Pr x
theorem lk2_L {l : Launch} {I : List Nat} (hI : fr_I I) (v : fr_V) (u : fr_U) (N nr w n : Nat) (x1 : Int32) (hw : v 1000 3 = nI w) (hw8 : w < 80) (hn : rnOK I nr v) (hN : v 100 5 = nI N) (hN6 : N ≤ 60) (hl : v 500 2 = nI n) (hl2 : n ≤ 12) (hx : ∀ i, i < n → lvOK v w (nI i)) (hu : ∀ q, q < n → u 1010 q = rkR v N nr w q) : ∀ (d j : Nat) (hd : n - j < d) (hj : j ≤ n) (hno : ∀ q, q < j → ¬ lkH v N nr w n x1 q), J l mX10_look I v u 60 [(0, .ref 1000), (1, .int x1), (2, .int (nI j))] [] (QW v (fun a => lkP v N nr w n x1 a)) := by
  intro d
  induction d with
  | zero => intros; omega
  | succ d ih =>
    intro j hd hj hno
    refine J_iload_n dX10_look_60 rfl 2 rfl ?_
    refine J_aload_n dX10_look_61 rfl 0 rfl ?_
    refine J_getr (ci := 10) (j := 4) (t := 500) dX10_look_62 fl_X10_29 (i1000 hI) rfl rfl rfl ?_
    refine J_gete (ci := 5) (j := 2) (x := nI n) dX10_look_65 fl_X10_236 (i500 hI) rfl rfl hl ?_
    refine J_icmp_ge (tgt := 99) dX10_look_68 (by decide) (fun c1 => ?_) (fun c1 => ?_)
    · refine J_iconst (x := (-1)) dX10_look_99 (by decide) ?_
      exact J_iret dX10_look_100 rfl ⟨_, rfl, rfl, Or.inr ⟨fun q hq => hno q (by have := nz_le (by omega) (by omega) c1; omega), rfl⟩⟩
    · have hjn : j < n := nz_nle (by omega) (by omega) c1
      refine J_aload_n dX10_look_71 rfl 0 rfl ?_
      refine J_getr (ci := 10) (j := 5) (t := 100) dX10_look_72 fl_X10_38 (i1000 hI) rfl rfl rfl ?_
      refine J_iload_n dX10_look_75 rfl 2 rfl ?_
      refine J_eVI (z := mX1_isDead) (As := [.int (nI j)]) (rest := []) (ci := 1) (x := f_X1_isDead v (nI j)) dX10_look_76 ml_X10_239 ok_X1_isDead iv_X1_isDead (by decide) (i100 hI) rfl rfl rfl rfl (Nat.le_of_ble_eq_true rfl) (k_X1_isDead hI v u (nI j) (vp_in_nI (by omega) (by omega))) ?_
      refine J_if_ne (tgt := 93) dX10_look_79 (by decide) (fun c2 => ?_) (fun c2 => ?_)
      · refine J_iinc (q := 2) (z := nI (j + 1)) (lv' := [(2, .int (nI (j + 1))), (0, .ref 1000), (1, .int x1)]) dX10_look_93 rfl (nI_1 j) (by decide) rfl ?_
        refine J_goto (tgt := 60) dX10_look_96 (by decide) ?_
        refine J_lv [1, 2, 0] rfl ?_
        exact ih (j + 1) (by omega) (by omega) (lt_sp hno (fun h => c2 h.1))
      · refine J_aload_n dX10_look_82 rfl 0 rfl ?_
        refine J_iload_n dX10_look_83 rfl 2 rfl ?_
        refine J_eVI (z := mX10_riskierThan) (As := [.int (nI j)]) (rest := []) (ci := 10) (x := raF (rkR v N nr w) (fun q => f_X1_isDead v (nI q)) j n) dX10_look_84 ml_X10_261 ok_X10_riskierThan iv_X10_riskierThan (by decide) (i1000 hI) rfl rfl rfl rfl (Nat.le_of_ble_eq_true rfl) ((raF_e hu hjn n (Nat.le_refl _) ▸ k_X10_riskierThan hI v u n j hl hl2 hjn)) ?_
        refine J_iload_n dX10_look_87 rfl 1 rfl ?_
        refine J_icmp_ne (tgt := 93) dX10_look_88 (by decide) (fun c3 => ?_) (fun c3 => ?_)
        · refine J_iinc (q := 2) (z := nI (j + 1)) (lv' := [(2, .int (nI (j + 1))), (0, .ref 1000), (1, .int x1)]) dX10_look_93 rfl (nI_1 j) (by decide) rfl ?_
          refine J_goto (tgt := 60) dX10_look_96 (by decide) ?_
          refine J_lv [1, 2, 0] rfl ?_
          exact ih (j + 1) (by omega) (by omega) (lt_sp hno (fun h => c3 h.2))
        · refine J_iload_n dX10_look_91 rfl 2 rfl ?_
          exact J_iret dX10_look_92 rfl ⟨_, rfl, rfl, Or.inl ⟨j, hjn, ⟨c2, c3⟩, hno, rfl⟩⟩
theorem lk1_L {l : Launch} {I : List Nat} (hI : fr_I I) (v : fr_V) (N nr w n : Nat) (x1 : Int32) (hw : v 1000 3 = nI w) (hw8 : w < 80) (hn : rnOK I nr v) (hN : v 100 5 = nI N) (hN6 : N ≤ 60) (hl : v 500 2 = nI n) (hl2 : n ≤ 12) (hx : ∀ i, i < n → lvOK v w (nI i)) : ∀ (d j : Nat) (u : fr_U) (hd : n - j < d) (hj : j ≤ n) (hu : ∀ q, q < j → u 1010 q = rkR v N nr w q), J l mX10_look I v u 13 [(0, .ref 1000), (1, .int x1), (2, .int (nI j))] [] (QW v (fun a => lkP v N nr w n x1 a)) := by
  intro d
  induction d with
  | zero => intros; omega
  | succ d ih =>
    intro j u hd hj hu
    refine J_iload_n dX10_look_13 rfl 2 rfl ?_
    refine J_aload_n dX10_look_14 rfl 0 rfl ?_
    refine J_getr (ci := 10) (j := 4) (t := 500) dX10_look_15 fl_X10_29 (i1000 hI) rfl rfl rfl ?_
    refine J_gete (ci := 5) (j := 2) (x := nI n) dX10_look_18 fl_X10_236 (i500 hI) rfl rfl hl ?_
    refine J_icmp_ge (tgt := 58) dX10_look_21 (by decide) (fun c1 => ?_) (fun c1 => ?_)
    · have e : j = n := by have := nz_le (by omega) (by omega) c1; omega
      refine J_lv [0, 1, 2] rfl ?_
      refine J_iconst (x := 0) dX10_look_58 (by decide) ?_
      refine J_istore_n (lv' := [(2, .int 0), (0, .ref 1000), (1, .int x1)]) dX10_look_59 rfl (by decide) rfl ?_
      refine J_lv [1, 2, 0] rfl ?_
      exact lk2_L hI v u N nr w n x1 hw hw8 hn hN hN6 hl hl2 hx (fun q hq => hu q (by omega)) (n + 1) 0 (by omega) (by omega) (fun q hq => absurd hq (Nat.not_lt_zero q))
    · have hjn : j < n := nz_nle (by omega) (by omega) c1
      refine J_aload_n dX10_look_24 rfl 0 rfl ?_
      refine J_getr (ci := 10) (j := 9) (t := 1010) dX10_look_25 fl_X10_67 (i1000 hI) rfl rfl rfl ?_
      refine J_iload_n dX10_look_28 rfl 2 rfl ?_
      refine J_aload_n dX10_look_29 rfl 0 rfl ?_
      refine J_getr (ci := 10) (j := 5) (t := 100) dX10_look_30 fl_X10_38 (i1000 hI) rfl rfl rfl ?_
      refine J_iload_n dX10_look_33 rfl 2 rfl ?_
      refine J_eVI (z := mX1_isDead) (As := [.int (nI j)]) (rest := [.int (nI j), .ref 1010]) (ci := 1) (x := f_X1_isDead v (nI j)) dX10_look_34 ml_X10_239 ok_X1_isDead iv_X1_isDead (by decide) (i100 hI) rfl rfl rfl rfl (Nat.le_of_ble_eq_true rfl) (k_X1_isDead hI v u (nI j) (vp_in_nI (by omega) (by omega))) ?_
      refine J_if_eq (tgt := 46) dX10_look_37 (by decide) (fun c2 => ?_) (fun c2 => ?_)
      · refine J_aload_n dX10_look_46 rfl 0 rfl ?_
        refine J_iload_n dX10_look_47 rfl 2 rfl ?_
        refine J_eVL (z := mX10_riskOn) (As := [.int (nI j)]) (rest := [.int (nI j), .ref 1010]) (ci := 10) (x := f_rk v N nr w (nI j)) dX10_look_48 ml_X10_257 ok_X10_riskOn iv_X10_riskOn (by decide) (i1000 hI) rfl rfl rfl rfl (Nat.le_of_ble_eq_true rfl) (k_X10_riskOn hI v u N nr w (nI j) hw hw8 hn hN hN6 (hx j hjn)) ?_
        refine J_lv [0, 1, 2] rfl ?_
        refine J_last dX10_look_51 (i1010 hI) rfl (vp_in_nI (by omega) (by omega)) ?_
        rw [nI_clamp (show j < 2 ^ 31 by omega)]
        refine J_iinc (q := 2) (z := nI (j + 1)) (lv' := [(2, .int (nI (j + 1))), (0, .ref 1000), (1, .int x1)]) dX10_look_52 rfl (nI_1 j) (by decide) rfl ?_
        refine J_goto (tgt := 13) dX10_look_55 (by decide) ?_
        refine J_lv [1, 2, 0] rfl ?_
        refine ih (j + 1) _ (by omega) (by omega) (fun q hq => ?_)
        by_cases e : q = j
        · rw [e, up3_at]; unfold rkR; rw [if_pos c2]
        · rw [up3_off e]; exact hu q (by omega)
      · refine J_ldc2 (x := -1) dX10_look_40 cl_X10_255 ?_
        refine J_goto (tgt := 51) dX10_look_43 (by decide) ?_
        refine J_lv [0, 1, 2] rfl ?_
        refine J_last dX10_look_51 (i1010 hI) rfl (vp_in_nI (by omega) (by omega)) ?_
        rw [nI_clamp (show j < 2 ^ 31 by omega)]
        refine J_iinc (q := 2) (z := nI (j + 1)) (lv' := [(2, .int (nI (j + 1))), (0, .ref 1000), (1, .int x1)]) dX10_look_52 rfl (nI_1 j) (by decide) rfl ?_
        refine J_goto (tgt := 13) dX10_look_55 (by decide) ?_
        refine J_lv [1, 2, 0] rfl ?_
        refine ih (j + 1) _ (by omega) (by omega) (fun q hq => ?_)
        by_cases e : q = j
        · rw [e, up3_at]; unfold rkR; rw [if_neg c2]
        · rw [up3_off e]; exact hu q (by omega)
theorem sm3.all {I : List Nat} {v z : fr_V} (h : sm3 v z) {w n : Nat} (hx : ∀ i, i < n → lvOK v w (nI i)) : ∀ i, i < n → lvOK z w (nI i) := fun i hi => h.lv (hx i hi)
theorem k_X10_look {l : Launch} {I : List Nat} (hI : fr_I I) (v : fr_V) (u : fr_U) (N nr w n : Nat) (x1 : Int32) (hw : v 1000 3 = nI w) (hw8 : w < 80) (hv : p3OK I nr N v) (hl : v 500 2 = nI n) (hl2 : n ≤ 12) (hx : ∀ i, i < n → lvOK v w (nI i)) : Con l mX10_look I v u [.ref 1000, .int x1] (QW (f_kw v N (nI w)) (fun a => lkP (f_kw v N (nI w)) N nr w n x1 a)) := by
  refine Con.of (by decide) (Nat.le_of_ble_eq_true rfl) ?_
  show J l mX10_look I v u 0 [(0, .ref 1000), (1, .int x1)] [] _
  refine J_aload_n dX10_look_0 rfl 0 rfl ?_
  refine J_getr (ci := 10) (j := 5) (t := 100) dX10_look_1 fl_X10_38 (i1000 hI) rfl rfl rfl ?_
  refine J_aload_n dX10_look_4 rfl 0 rfl ?_
  refine J_gete (ci := 10) (j := 3) (x := nI w) dX10_look_5 fl_X10_92 (i1000 hI) rfl rfl hw ?_
  refine J_eVN (z := mX1_know) (As := [.int (nI w)]) (rest := []) (ci := 1) (w := (f_kw v N (nI w))) dX10_look_8 ml_X10_149 ok_X1_know iv_X1_know (by decide) (i100 hI) rfl rfl rfl rfl (Nat.le_of_ble_eq_true rfl) (k_X1_know hI v u (nI w) N hv.2.1 hv.2.2.1) ?_
  refine J_iconst (x := 0) dX10_look_11 (by decide) ?_
  refine J_istore_n (lv' := [(2, .int 0), (0, .ref 1000), (1, .int x1)]) dX10_look_12 rfl (by decide) rfl ?_
  refine J_lv [1, 2, 0] rfl ?_
  have hk := sm3.kw (v := v) (N := N) (x := nI w)
  exact lk1_L hI (f_kw v N (nI w)) N nr w n x1 (by rw [hk.1 1000 (by omega) (by omega) (by omega) (by omega) (by omega)]; exact hw) hw8 (hk.ok hv).1 (hk.ok hv).2.1 hv.2.2.1.1 (by rw [hk.1 500 (by omega) (by omega) (by omega) (by omega) (by omega)]; exact hl) hl2 (fun i hi => hk.lv (hx i hi)) (n + 1) 0 u (by omega) (by omega) (fun q hq => absurd hq (Nat.not_lt_zero q))
theorem ylN {v : fr_V} {n : Nat} {x : Int32} (h : v 500 2 = nI n) (hn : n ≤ 12) (c : ¬ f_yl v x = 0) : ∃ i, i < n ∧ x = nI i := by
  unfold f_yl at c
  by_cases h1 : f_X5_has v x = 0
  · rw [if_pos h1] at c; exact absurd rfl c
  · exact has5N h hn h1
def f_worth10 (v : fr_V) (ac N n w : Nat) (x1 x2 x3 : Int32) : Int32 := if f_yl v x1 = 0 then (-1) else if x3 < 0 then (-1) else if x3 ≤ 3 then (if x2 = (-1) then f_wn v ac N n w x1 x2 x3 else if x2 = x1 then (-1) else if f_yl v x2 = 0 then (-1) else f_wn v ac N n w x1 x2 x3) else (-1)
theorem k_X10_worth {l : Launch} {I : List Nat} (hI : fr_I I) (v : fr_V) (u : fr_U) (ac N n w : Nat) (x1 x2 x3 : Int32) (hac : ac = 10 ∨ ac = 20) (ha : v 1000 1 = nI ac) (hw : v 1000 3 = nI w) (hw8 : w < 80) (hN : v 100 5 = nI N) (hW : nt_ok (v 102) (v 103) N) (hl : lf8 n v) (hr : ¬ f_set v ac 2 + 1 = 0) (hx : ∀ i, i < n → lvOK v w (nI i)) : Con l mX10_worth I v u [.ref 1000, .int x1, .int x2, .int x3] (QX u (fun a b => a = f_worth10 v ac N n w x1 x2 x3 ∧ (b = v ∨ fw2 (f_kw v N (nI w)) b))) := by
  refine Con.of (by decide) (Nat.le_of_ble_eq_true rfl) ?_
  show J l mX10_worth I v u 0 [(0, .ref 1000), (1, .int x1), (2, .int x2), (3, .int x3)] [] _
  refine J_aload_n dX10_worth_0 rfl 0 rfl ?_
  refine J_iload_n dX10_worth_1 rfl 1 rfl ?_
  refine J_eVI (z := mX10_hasYearsLeft) (As := [.int x1]) (rest := []) (ci := 10) (x := f_yl v x1) dX10_worth_2 ml_X10_223 ok_X10_hasYearsLeft iv_X10_hasYearsLeft (by decide) (i1000 hI) rfl rfl rfl rfl (Nat.le_of_ble_eq_true rfl) (k_X10_hasYearsLeft hI v u x1 n hl.2.1 hl.1) ?_
  refine J_if_eq (tgt := 17) dX10_worth_5 (by decide) (fun c1 => ?_) (fun c1 => ?_)
  · refine J_iconst (x := (-1)) dX10_worth_17 (by decide) ?_
    exact J_iret dX10_worth_18 rfl ⟨_, rfl, rfl, by unfold f_worth10; rw [if_pos c1], Or.inl rfl⟩
  · refine J_iload_n dX10_worth_8 rfl 3 rfl ?_
    refine J_if_lt (tgt := 17) dX10_worth_9 (by decide) (fun c2 => ?_) (fun c2 => ?_)
    · refine J_iconst (x := (-1)) dX10_worth_17 (by decide) ?_
      exact J_iret dX10_worth_18 rfl ⟨_, rfl, rfl, by unfold f_worth10; rw [if_neg c1, if_pos c2], Or.inl rfl⟩
    · refine J_iload_n dX10_worth_12 rfl 3 rfl ?_
      refine J_iconst (x := 3) dX10_worth_13 (by decide) ?_
      refine J_icmp_le (tgt := 19) dX10_worth_14 (by decide) (fun c3 => ?_) (fun c3 => ?_)
      · refine J_iload_n dX10_worth_19 rfl 2 rfl ?_
        refine J_iconst (x := (-1)) dX10_worth_20 (by decide) ?_
        refine J_icmp_eq (tgt := 39) dX10_worth_21 (by decide) (fun c4 => ?_) (fun c4 => ?_)
        · refine J_aload_n dX10_worth_39 rfl 0 rfl ?_
          refine J_iload_n dX10_worth_40 rfl 1 rfl ?_
          refine J_iload_n dX10_worth_41 rfl 2 rfl ?_
          refine J_iload_n dX10_worth_42 rfl 3 rfl ?_
          refine J_cVX (z := mX10_worthNow) (As := [.int x1, .int x2, .int x3]) (rest := []) (ci := 10) dX10_worth_43 ml_X10_226 ok_X10_worthNow iv_X10_worthNow (by decide) (i1000 hI) rfl rfl rfl rfl (Nat.le_of_ble_eq_true rfl) (k_X10_worthNow hI v u ac N n w x1 x2 x3 hac ha hw hw8 hN hW hl hr (by obtain ⟨i, hi, rfl⟩ := ylN hl.2.1 hl.1 c1; exact hx i hi) (fun q => absurd c4 q)) (fun b y hy => ?_)
          exact J_iret dX10_worth_46 rfl ⟨_, rfl, rfl, by unfold f_worth10; rw [if_neg c1, if_neg c2, if_pos c3, if_pos c4]; exact hy.1, Or.inr hy.2⟩
        · refine J_iload_n dX10_worth_24 rfl 2 rfl ?_
          refine J_iload_n dX10_worth_25 rfl 1 rfl ?_
          refine J_icmp_eq (tgt := 37) dX10_worth_26 (by decide) (fun c5 => ?_) (fun c5 => ?_)
          · refine J_iconst (x := (-1)) dX10_worth_37 (by decide) ?_
            exact J_iret dX10_worth_38 rfl ⟨_, rfl, rfl, by unfold f_worth10; rw [if_neg c1, if_neg c2, if_pos c3, if_neg c4, if_pos c5], Or.inl rfl⟩
          · refine J_aload_n dX10_worth_29 rfl 0 rfl ?_
            refine J_iload_n dX10_worth_30 rfl 2 rfl ?_
            refine J_eVI (z := mX10_hasYearsLeft) (As := [.int x2]) (rest := []) (ci := 10) (x := f_yl v x2) dX10_worth_31 ml_X10_223 ok_X10_hasYearsLeft iv_X10_hasYearsLeft (by decide) (i1000 hI) rfl rfl rfl rfl (Nat.le_of_ble_eq_true rfl) (k_X10_hasYearsLeft hI v u x2 n hl.2.1 hl.1) ?_
            refine J_if_ne (tgt := 39) dX10_worth_34 (by decide) (fun c6 => ?_) (fun c6 => ?_)
            · refine J_aload_n dX10_worth_39 rfl 0 rfl ?_
              refine J_iload_n dX10_worth_40 rfl 1 rfl ?_
              refine J_iload_n dX10_worth_41 rfl 2 rfl ?_
              refine J_iload_n dX10_worth_42 rfl 3 rfl ?_
              refine J_cVX (z := mX10_worthNow) (As := [.int x1, .int x2, .int x3]) (rest := []) (ci := 10) dX10_worth_43 ml_X10_226 ok_X10_worthNow iv_X10_worthNow (by decide) (i1000 hI) rfl rfl rfl rfl (Nat.le_of_ble_eq_true rfl) (k_X10_worthNow hI v u ac N n w x1 x2 x3 hac ha hw hw8 hN hW hl hr (by obtain ⟨i, hi, rfl⟩ := ylN hl.2.1 hl.1 c1; exact hx i hi) (fun _ => by obtain ⟨i, hi, rfl⟩ := ylN hl.2.1 hl.1 c6; exact hx i hi)) (fun b y hy => ?_)
              exact J_iret dX10_worth_46 rfl ⟨_, rfl, rfl, by unfold f_worth10; rw [if_neg c1, if_neg c2, if_pos c3, if_neg c4, if_neg c5, if_neg c6]; exact hy.1, Or.inr hy.2⟩
            · refine J_iconst (x := (-1)) dX10_worth_37 (by decide) ?_
              exact J_iret dX10_worth_38 rfl ⟨_, rfl, rfl, by unfold f_worth10; rw [if_neg c1, if_neg c2, if_pos c3, if_neg c4, if_neg c5, if_pos c6], Or.inl rfl⟩
      · refine J_iconst (x := (-1)) dX10_worth_17 (by decide) ?_
        exact J_iret dX10_worth_18 rfl ⟨_, rfl, rfl, by unfold f_worth10; rw [if_neg c1, if_neg c2, if_neg c3], Or.inl rfl⟩
def kp6 (ac : Nat) (z y : fr_V) : Prop := ∀ c, c ≠ 600 → c ≠ ac → c ≠ ac + 3 → (∀ i, i < 24 → c ≠ lnB ac + i) → y c = z c
theorem kp6.tr {ac : Nat} {a b c : fr_V} (h : kp6 ac a b) (k : kp6 ac b c) : kp6 ac a c := fun x h1 h2 h3 h4 => (k x h1 h2 h3 h4).trans (h x h1 h2 h3 h4)
theorem kp6.u {ac : Nat} {a b : fr_V} (h : kp6 ac a b) {j : Nat} {x : Int32} : kp6 ac a (up2 b 600 j x) := fun c h1 h2 h3 h4 => (up2_ne h1).trans (h c h1 h2 h3 h4)
theorem kp6_F {ac E : Nat} (hac : ac = 10 ∨ ac = 20) (hE : E ≤ 500) : ∀ (d : Nat) (z : fr_V), rl6 ac E z → kp6 ac z (rdF ac E d z) := by
  intro d
  induction d with
  | zero => intro z _ c _ _ _ _; rfl
  | succ d ih =>
    intro z hz
    rw [rdF_s]
    obtain ⟨q, hqq, hq⟩ := hz.2
    rw [hq]
    by_cases c1 : nI E ≤ nI q
    · rw [if_pos c1]; exact fun c _ _ _ _ => rfl
    · rw [if_neg c1]
      by_cases c2 : z 600 14 = 0
      · rw [if_pos c2]
        have hqE : q < E := nz_nle (by omega) (by omega) c1
        have ht := tt_ok hac hz.1 hq hqE
        obtain ⟨⟨b, b1, b2, b3, b4⟩, r1, r2, r3⟩ := rd_turn hac hE ht
        have hp := put6_pp ht.1 hac (fun w hw => (ht.2.1.2 w hw).1)
        have k0 : kp6 ac z (f_put6 (f_tt z E q) ac).2 := fun c h1 h2 h3 h4 => (hp.2.1 c h1 h2 h3 h4).trans (ht.2.2.2.2.1 c h1)
        have k1 : kp6 ac z (up2 (f_put6 (f_tt z E q) ac).2 600 14 (f_put6 (f_tt z E q) ac).1) := k0.u
        have e : ∃ y, rd_t ac E z = y ∧ kp6 ac z y ∧ rl6 ac E y := by
          unfold rd_t
          rw [hq, nI_clamp (show q < 2 ^ 31 by omega)]
          by_cases c3 : (f_put6 (f_tt z E q) ac).1 = 0
          · rw [if_pos c3, b3, nI_clamp (show b < 2 ^ 31 by omega)]
            exact ⟨_, rfl, k1.u, r1.u hac (by decide), _, (sc_le _ E (E - b) (by omega)).2, by unfold f_skip; rw [up2_self, pk_us]⟩
          · rw [if_neg c3]
            exact ⟨_, rfl, k1, r1, q, by omega, r2⟩
        obtain ⟨y, ey, ky, ry⟩ := e
        rw [ey]
        exact ky.tr (ih y ry)
      · rw [if_neg c2]; exact fun c _ _ _ _ => rfl
theorem kp6_E {ac : Nat} {v : fr_V} : kp6 ac v (f_rdE v).2 := by
  intro c h1 h2 h3 h4
  unfold f_rdE
  repeat' split
  all_goals first | exact up2_ne h1 | exact (up2_ne h1).trans (up2_ne h1)
theorem kp6_0 {ac n : Nat} {v : fr_V} : kp6 ac v (rd0 v ac n) := by
  intro c h1 h2 h3 h4
  unfold rd0 f_clr
  rw [up2_ne h1, up2_ne h1, up2_ne h1, up2_ne h1, up2_ne h1, up2_ne h1, up2_ne h1, upA_ne h3, up2_ne h2, up2_ne h1, up2_ne h1, up2_ne h1]
theorem read_kp {ac n : Nat} (hac : ac = 10 ∨ ac = 20) (hn : n ≤ 500) (v : fr_V) : kp6 ac v (f_read v ac n).2 := by
  unfold f_read
  have h0 : kp6 ac v (f_skip (rd0 v ac n) n 0) := kp6_0.u
  have h1 : rl6 ac n (f_skip (rd0 v ac n) n 0) := ⟨(rd0_ok v hac).u hac (by decide), _, (sc_le _ n (n - 0) (by omega)).2, by unfold f_skip; rw [up2_self, pk_us]⟩
  exact (h0.tr (kp6_F hac hn n _ h1)).tr kp6_E
theorem read_1000 {ac n : Nat} (hac : ac = 10 ∨ ac = 20) (hn : n ≤ 500) (v : fr_V) : (f_read v ac n).2 1000 = v 1000 := read_kp hac hn v 1000 (by omega) (by omega) (by omega) (fun i hi => by have := ln_lt hac hi; omega)
theorem leN {v : fr_V} {t : Nat} {x : Int32} (h : v 600 1 = nI t) (h1 : ¬ x < 0) (h2 : x ≤ v 600 1) (ht : t ≤ 500 := by omega) : ∃ n, n ≤ t ∧ x = nI n := by
  rw [h] at h2
  obtain ⟨j, hj, rfl⟩ := nI_of h1
  exact ⟨j, nz_le hj (by omega) h2, rfl⟩
noncomputable def f_acts10 (v : fr_V) (ac : Nat) (x1 : Int32) : Int32 × fr_V := if x1 < 0 then ((-2), v) else if x1 ≤ (v 600 1) then (if ((f_read v (30 - ac) x1.toNatClampNeg).1) = (-1) then ((-1), (f_read v (30 - ac) x1.toNatClampNeg).2) else ((f_read v (30 - ac) x1.toNatClampNeg).1, (f_X3_reopen (up2 (up2 ((f_read v (30 - ac) x1.toNatClampNeg).2) 1000 1 (nI (30 - ac))) 1000 2 (nI ac))))) else ((-2), v)
theorem k_X10_acts {l : Launch} {I : List Nat} (hI : fr_I I) (v : fr_V) (u : fr_U) (ac : Nat) (x1 : Int32) (t : Nat) (hac : ac = 10 ∨ ac = 20) (ha : v 1000 1 = nI ac) (hp : v 1000 2 = nI (30 - ac)) (ht : v 600 1 = nI t) (ht5 : t ≤ 500) : Con l mX10_acts I v u [.ref 1000, .int x1] (QX u (fun a b => a = (f_acts10 v ac x1).1 ∧ b = (f_acts10 v ac x1).2)) := by
  refine Con.of (by decide) (Nat.le_of_ble_eq_true rfl) ?_
  show J l mX10_acts I v u 0 [(0, .ref 1000), (1, .int x1)] [] _
  have hsp : 30 - ac = 10 ∨ 30 - ac = 20 := by omega
  refine J_iload_n dX10_acts_0 rfl 1 rfl ?_
  refine J_if_lt (tgt := 15) dX10_acts_1 (by decide) (fun c1 => ?_) (fun c1 => ?_)
  · refine J_bipush (x := (-2)) dX10_acts_15 (by decide) ?_
    exact J_iret dX10_acts_17 rfl ⟨_, rfl, rfl, by unfold f_acts10; rw [if_pos c1], by unfold f_acts10; rw [if_pos c1]⟩
  · refine J_iload_n dX10_acts_4 rfl 1 rfl ?_
    refine J_aload_n dX10_acts_5 rfl 0 rfl ?_
    refine J_getr (ci := 10) (j := 0) (t := 600) dX10_acts_6 fl_X10_10 (i1000 hI) rfl rfl rfl ?_
    refine J_gete (ci := 6) (j := 1) (x := v 600 1) dX10_acts_9 fl_X10_71 (i600 hI) rfl rfl rfl ?_
    refine J_icmp_le (tgt := 18) dX10_acts_12 (by decide) (fun c2 => ?_) (fun c2 => ?_)
    · obtain ⟨n, hnt, rfl⟩ := leN ht c1 c2
      refine J_aload_n dX10_acts_18 rfl 0 rfl ?_
      refine J_getr (ci := 10) (j := 0) (t := 600) dX10_acts_19 fl_X10_10 (i1000 hI) rfl rfl rfl ?_
      refine J_iload_n dX10_acts_22 rfl 1 rfl ?_
      refine J_aload_n dX10_acts_23 rfl 0 rfl ?_
      refine J_getd (ci := 10) (j := 2) (t := 30 - ac) dX10_acts_24 fl_X10_23 (i1000 hI) rfl rfl (by rw [show v 1000 2 = nI (30 - ac) from hp]; exact nI_pos (by omega)) (by rw [show v 1000 2 = nI (30 - ac) from hp]; exact nI_clamp (by omega)) ?_
      refine J_eVX (z := mX6_read) (As := [.int (nI n), .ref (30 - ac)]) (rest := []) (ci := 6) (x := (f_read v (30 - ac) n).1) (w := (f_read v (30 - ac) n).2) dX10_acts_27 ml_X10_79 ok_X6_read iv_X6_read (by decide) (i600 hI) rfl rfl rfl rfl (Nat.le_of_ble_eq_true rfl) (k_X6_read hI v u (30 - ac) n t hsp ht hnt ht5) ?_
      refine J_istore_n (lv' := [(2, .int ((f_read v (30 - ac) n).1)), (0, .ref 1000), (1, .int (nI n))]) dX10_acts_30 rfl (by decide) rfl ?_
      refine J_iload_n dX10_acts_31 rfl 0 rfl ?_
      refine J_iconst (x := (-1)) dX10_acts_32 (by decide) ?_
      refine J_icmp_ne (tgt := 38) dX10_acts_33 (by decide) (fun c3 => ?_) (fun c3 => ?_)
      · refine J_aload_n dX10_acts_38 rfl 1 rfl ?_
        refine J_getd (ci := 10) (j := 1) (t := ac) dX10_acts_39 fl_X10_19 (i1000 hI) rfl rfl (by rw [show ((f_read v (30 - ac) n).2) 1000 1 = nI ac from ((congrFun (read_1000 hsp (by omega) v) 1).trans ha)]; exact nI_pos (by omega)) (by rw [show ((f_read v (30 - ac) n).2) 1000 1 = nI ac from ((congrFun (read_1000 hsp (by omega) v) 1).trans ha)]; exact nI_clamp (by omega)) ?_
        refine J_astore_n (lv' := [(3, .ref ac), (2, .int ((f_read v (30 - ac) n).1)), (0, .ref 1000), (1, .int (nI n))]) dX10_acts_42 rfl (by decide) rfl ?_
        refine J_aload_n dX10_acts_43 rfl 2 rfl ?_
        refine J_aload_n dX10_acts_44 rfl 2 rfl ?_
        refine J_getd (ci := 10) (j := 2) (t := 30 - ac) dX10_acts_45 fl_X10_23 (i1000 hI) rfl rfl (by rw [show ((f_read v (30 - ac) n).2) 1000 2 = nI (30 - ac) from ((congrFun (read_1000 hsp (by omega) v) 2).trans hp)]; exact nI_pos (by omega)) (by rw [show ((f_read v (30 - ac) n).2) 1000 2 = nI (30 - ac) from ((congrFun (read_1000 hsp (by omega) v) 2).trans hp)]; exact nI_clamp (by omega)) ?_
        refine J_putd (ci := 10) (j := 1) (t := 30 - ac) dX10_acts_48 fl_X10_19 (i1000 hI) rfl rfl (by omega) (fun q h => by cases h; rfl) (fun a => rfl) (fun a => rfl) ?_
        refine J_aload_n dX10_acts_51 rfl 2 rfl ?_
        refine J_aload_n dX10_acts_52 rfl 0 rfl ?_
        refine J_putd (ci := 10) (j := 2) (t := ac) dX10_acts_53 fl_X10_23 (i1000 hI) rfl rfl (by omega) (fun q h => by cases h; rfl) (fun a => rfl) (fun a => rfl) ?_
        refine J_aload_n dX10_acts_56 rfl 2 rfl ?_
        refine J_getr (ci := 10) (j := 6) (t := 300) dX10_acts_57 fl_X10_47 (i1000 hI) rfl rfl rfl ?_
        refine J_eVN (z := mX3_reopen) (As := []) (rest := []) (ci := 3) (w := (f_X3_reopen (up2 (up2 ((f_read v (30 - ac) n).2) 1000 1 (nI (30 - ac))) 1000 2 (nI ac)))) dX10_acts_60 ml_X10_83 ok_X3_reopen iv_X3_reopen (by decide) (i300 hI) rfl rfl rfl rfl (Nat.le_of_ble_eq_true rfl) (k_X3_reopen hI (up2 (up2 ((f_read v (30 - ac) n).2) 1000 1 (nI (30 - ac))) 1000 2 (nI ac)) u) ?_
        refine J_iload_n dX10_acts_63 rfl 1 rfl ?_
        exact J_iret dX10_acts_64 rfl ⟨_, rfl, rfl, by unfold f_acts10; try simp only [nI_clamp (show n < 2 ^ 31 by omega)]; rw [if_neg c1, if_pos c2, if_neg c3], by unfold f_acts10; try simp only [nI_clamp (show n < 2 ^ 31 by omega)]; rw [if_neg c1, if_pos c2, if_neg c3]⟩
      · refine J_iconst (x := (-1)) dX10_acts_36 (by decide) ?_
        exact J_iret dX10_acts_37 rfl ⟨_, rfl, rfl, by unfold f_acts10; try simp only [nI_clamp (show n < 2 ^ 31 by omega)]; rw [if_neg c1, if_pos c2, if_pos c3], by unfold f_acts10; try simp only [nI_clamp (show n < 2 ^ 31 by omega)]; rw [if_neg c1, if_pos c2, if_pos c3]⟩
    · refine J_bipush (x := (-2)) dX10_acts_15 (by decide) ?_
      exact J_iret dX10_acts_17 rfl ⟨_, rfl, rfl, by unfold f_acts10; rw [if_neg c1, if_neg c2], by unfold f_acts10; rw [if_neg c1, if_neg c2]⟩

