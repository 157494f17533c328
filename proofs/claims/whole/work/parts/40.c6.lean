def fa_hit (v : fr_V) (x1 : Int32) (r : Nat) : Prop := ¬ f_X7_isAloneOn v r x1 = 0
def fa_post (v : fr_V) (nr : Nat) (x1 a : Int32) : Prop := (∃ r, r < nr ∧ fa_hit v x1 r ∧ (∀ q, q < r → ¬ fa_hit v x1 q) ∧ a = nI r) ∨ ((∀ q, q < nr → ¬ fa_hit v x1 q) ∧ a = (-1))
theorem fa_L {l : Launch} {I : List Nat} (hI : fr_I I) (v : fr_V) (u : fr_U) (nr : Nat) (hn : rnOK I nr v) (x1 : Int32) (hnr : nr ≤ 16) : ∀ (d r : Nat) (hd : nr - r < d) (hj : r ≤ nr) (hno : ∀ q, q < r → ¬ fa_hit v x1 q), J l mX3_firstAloneOn I v u 2 [(0, .ref 300), (1, .int x1), (2, .int (nI r))] [] (QI v u (fun a => fa_post v nr x1 a)) := by
  intro d
  induction d with
  | zero => intros; omega
  | succ d ih =>
    intro r hd hj hno
    refine J_iload_n dX3_firstAloneOn_2 rfl 2 rfl ?_
    refine J_aload_n dX3_firstAloneOn_3 rfl 0 rfl ?_
    refine J_gete (ci := 3) (j := 2) (x := nI nr) dX3_firstAloneOn_4 fl_X3_40 (i300 hI) rfl rfl hn.2.1 ?_
    refine J_icmp_ge (tgt := 31) dX3_firstAloneOn_7 (by decide) (fun c1 => ?_) (fun c1 => ?_)
    · refine J_iconst (x := (-1)) dX3_firstAloneOn_31 (by decide) ?_
      exact J_iret dX3_firstAloneOn_32 rfl ⟨_, rfl, rfl, rfl, Or.inr ⟨fun q hq => hno q (by have e : r = nr := by {have := hn.1; have := nz_le (by omega) (by omega) c1; omega}; omega), rfl⟩⟩
    · have hr : r < nr := nz_nle (by have := hn.1; omega) (by have := hn.1; omega) c1
      refine J_aload_n dX3_firstAloneOn_10 rfl 0 rfl ?_
      refine J_getr (ci := 3) (j := 1) (t := 302) dX3_firstAloneOn_11 fl_X3_11 (i300 hI) rfl rfl rfl ?_
      refine J_iload_n dX3_firstAloneOn_14 rfl 2 rfl ?_
      refine J_aldR (t := 2000 + 10 * r) dX3_firstAloneOn_15 (i302 hI) rfl (vp_in_nI (by have := hn.1; omega) (by omega)) (rn_0 hn hr) (rn_1 hn hr) ?_
      refine J_iload_n dX3_firstAloneOn_16 rfl 1 rfl ?_
      refine J_eVI (z := mX7_isAloneOn) (As := [.int x1]) (rest := []) (ci := 7) (x := f_X7_isAloneOn v r x1) dX3_firstAloneOn_17 ml_X3_67 ok_X7_isAloneOn iv_X7_isAloneOn (by decide) (hn.2.2 r hr).1 (by rw [sh_rent]) rfl rfl rfl (Nat.le_of_ble_eq_true rfl) (k_X7_isAloneOn hI v u r _ (hn.2.2 r hr).1 (hn.2.2 r hr).2.1) ?_
      refine J_if_eq (tgt := 25) dX3_firstAloneOn_20 (by decide) (fun c2 => ?_) (fun c2 => ?_)
      · refine J_iinc (q := 2) (z := nI (r + 1)) (lv' := [(2, .int (nI (r + 1))), (0, .ref 300), (1, .int x1)]) dX3_firstAloneOn_25 rfl (nI_1 r) (by decide) rfl ?_
        refine J_goto (tgt := 2) dX3_firstAloneOn_28 (by decide) ?_
        refine J_lv [1, 2, 0] rfl ?_
        exact ih (r + 1) (by omega) (by omega) (lt_s hno (fun h => h c2))
      · refine J_iload_n dX3_firstAloneOn_23 rfl 2 rfl ?_
        exact J_iret dX3_firstAloneOn_24 rfl ⟨_, rfl, rfl, rfl, Or.inl ⟨r, hr, c2, hno, rfl⟩⟩
theorem k_X3_firstAloneOn {l : Launch} {I : List Nat} (hI : fr_I I) (v : fr_V) (u : fr_U) (nr : Nat) (hn : rnOK I nr v) (x1 : Int32) : Con l mX3_firstAloneOn I v u [.ref 300, .int x1] (QI v u (fun a => fa_post v nr x1 a)) := by
  refine Con.of (by decide) (Nat.le_of_ble_eq_true rfl) ?_
  show J l mX3_firstAloneOn I v u 0 [(0, .ref 300), (1, .int x1)] [] _
  refine J_iconst (x := 0) dX3_firstAloneOn_0 (by decide) ?_
  refine J_istore_n (lv' := [(2, .int 0), (0, .ref 300), (1, .int x1)]) dX3_firstAloneOn_1 rfl (by decide) rfl ?_
  refine J_lv [1, 2, 0] rfl ?_
  exact fa_L hI v u nr hn x1 hn.1 (nr + 1) 0 (by omega) (by omega) lt_0
/-- what the payments of the class need of the state -/
def p3OK (I : List Nat) (nr N : Nat) (z : fr_V) : Prop := rnOK I nr z ∧ z 100 5 = nI N ∧ nt_ok (z 102) (z 103) N ∧ ∀ r, r < nr → vp_in (z (2000 + 10 * r) 1) 12 ∧ (¬ z (2000 + 10 * r) 2 = (-1) → vp_in (z (2000 + 10 * r) 2) 12)
theorem p3OK.row {I : List Nat} {nr N q h : Nat} {x : Int32} {z : fr_V} (k : p3OK I nr N z) : p3OK I nr N (up2 z (2007 + 10 * q) h x) := by
  obtain ⟨⟨a1, a2, a3⟩, a4, a5, a6⟩ := k
  have e : ∀ c, c ≠ 2007 + 10 * q → up2 z (2007 + 10 * q) h x c = z c := fun c hc => up2_ne hc
  refine ⟨⟨a1, by rw [e 300 (by omega)]; exact a2, fun r hr => ⟨(a3 r hr).1, (a3 r hr).2.1, by rw [e 302 (by omega)]; exact (a3 r hr).2.2⟩⟩, by rw [e 100 (by omega)]; exact a4, by rw [e 102 (by omega), e 103 (by omega)]; exact a5, fun r hr => ?_⟩
  rw [e (2000 + 10 * r) (by omega)]
  exact a6 r hr
noncomputable def p3_t (N r k h : Nat) (x4 : Int32) (z : fr_V) : fr_V := if z (2007 + 10 * r) h = (-1) then (if f_isDue3 z r (nI h) = 0 then z else if f_isProved3 z N r (nI h) x4 = 0 then z else up2 z (2007 + 10 * r) h (nI k)) else z
noncomputable def p3 (N r k h0 : Nat) (x4 : Int32) (w0 : fr_V) : Nat → fr_V
  | 0 => w0
  | s + 1 => p3_t N r k (h0 + s) x4 (p3 N r k h0 x4 w0 s)
theorem p3_s (N r k h0 : Nat) (x4 : Int32) (w0 : fr_V) (s : Nat) : p3 N r k h0 x4 w0 (s + 1) = p3_t N r k (h0 + s) x4 (p3 N r k h0 x4 w0 s) := rfl
theorem mx_0 {k ar : Nat} (hk : k < 80) (ha : ar ≤ 40) : (if (0 : Int32) < nI k - nI ar then nI k - nI ar else 0) = nI (k - ar + 0) := by
  by_cases q : ar ≤ k
  · rw [pk_sub q]
    by_cases h : (0 : Int32) < nI (k - ar)
    · rw [if_pos h]; rfl
    · rw [if_neg h]
      have : k - ar = 0 := by
        have := nz_nlt (a := 0) (b := k - ar) (by omega) (by omega) h
        omega
      rw [this]; rfl
  · have h1 := pk_sneg (a := k) (b := ar) (by omega) (by omega)
    rw [if_neg (fun h => absurd (Int32.lt_trans h h1) (by decide))]
    have : k - ar = 0 := by omega
    rw [this]; rfl
theorem p3_L {l : Launch} {I : List Nat} (hI : fr_I I) (u : fr_U) (nr N r k ar h0 : Nat) (x4 : Int32) (hr : r < nr) (hk : k < 80) (hh : h0 ≤ k) (w0 : fr_V) : ∀ (d s : Nat) (z : fr_V) (hd : k + 1 - h0 - s < d) (hs : s ≤ k + 1 - h0) (hz : z = p3 N r k h0 x4 w0 s) (hv : p3OK I nr N z), J l mX3_pay I z u 20 [(0, .ref 300), (1, .int (nI r)), (2, .int (nI k)), (3, .int (nI ar)), (4, .int x4), (5, .ref (2007 + 10 * r)), (6, .int (nI (h0 + s)))] [] (QN u (fun a => a = p3 N r k h0 x4 w0 (k + 1 - h0))) := by
  intro d
  induction d with
  | zero => intros; omega
  | succ d ih =>
    intro s z hd hs hz hv
    refine J_iload dX3_pay_20 6 rfl ?_
    refine J_iload_n dX3_pay_22 rfl 2 rfl ?_
    refine J_icmp_gt (tgt := 69) dX3_pay_23 (by decide) (fun c1 => ?_) (fun c1 => ?_)
    · exact J_vret dX3_pay_69 rfl ⟨rfl, rfl, by have e : s = k + 1 - h0 := by {have := nz_lt (by omega) (by omega) c1; omega}; rw [hz, e]⟩
    · have hsk : h0 + s ≤ k := nz_nlt (by omega) (by omega) c1
      refine J_aload dX3_pay_26 5 rfl ?_
      refine J_iload dX3_pay_28 6 rfl ?_
      refine J_iale (x := z (2007 + 10 * r) (h0 + s)) dX3_pay_30 (hv.1.2.2 r hr).2.1 (sh_paid r) (ix_in (j := (h0 + s)) rfl (by omega) (by omega)) ((congrArg _ (ix_cl (j := (h0 + s)) rfl (by omega))).trans rfl) ?_
      refine J_iconst (x := (-1)) dX3_pay_31 (by decide) ?_
      refine J_icmp_ne (tgt := 63) dX3_pay_32 (by decide) (fun c2 => ?_) (fun c2 => ?_)
      · refine J_iinc (q := 6) (z := nI ((h0 + s) + 1)) (lv' := [(6, .int (nI ((h0 + s) + 1))), (0, .ref 300), (1, .int (nI r)), (2, .int (nI k)), (3, .int (nI ar)), (4, .int x4), (5, .ref (2007 + 10 * r))]) dX3_pay_63 rfl (nI_1 (h0 + s)) (by decide) rfl ?_
        refine J_goto (tgt := 20) dX3_pay_66 (by decide) ?_
        refine J_lv [1, 2, 3, 4, 5, 6, 0] rfl ?_
        exact ih (s + 1) _ (by omega) (by omega) (by rw [p3_s, ← hz]; unfold p3_t; rw [if_neg c2]) hv
      · refine J_aload_n dX3_pay_35 rfl 0 rfl ?_
        refine J_iload_n dX3_pay_36 rfl 1 rfl ?_
        refine J_iload dX3_pay_37 6 rfl ?_
        refine J_eVI (z := mX3_isDue) (As := [.int (nI r), .int (nI (h0 + s))]) (rest := []) (ci := 3) (x := f_isDue3 z r (nI (h0 + s))) dX3_pay_39 ml_X3_122 ok_X3_isDue iv_X3_isDue (by decide) (i300 hI) rfl rfl rfl rfl (Nat.le_of_ble_eq_true rfl) (k_X3_isDue hI z u nr r hv.1 hr _ (hv.2.2.2 r hr).1 (hv.2.2.2 r hr).2) ?_
        refine J_if_eq (tgt := 63) dX3_pay_42 (by decide) (fun c3 => ?_) (fun c3 => ?_)
        · refine J_iinc (q := 6) (z := nI ((h0 + s) + 1)) (lv' := [(6, .int (nI ((h0 + s) + 1))), (0, .ref 300), (1, .int (nI r)), (2, .int (nI k)), (3, .int (nI ar)), (4, .int x4), (5, .ref (2007 + 10 * r))]) dX3_pay_63 rfl (nI_1 (h0 + s)) (by decide) rfl ?_
          refine J_goto (tgt := 20) dX3_pay_66 (by decide) ?_
          refine J_lv [1, 2, 3, 4, 5, 6, 0] rfl ?_
          exact ih (s + 1) _ (by omega) (by omega) (by rw [p3_s, ← hz]; unfold p3_t; rw [if_pos c2, if_pos c3]) hv
        · refine J_aload_n dX3_pay_45 rfl 0 rfl ?_
          refine J_iload_n dX3_pay_46 rfl 1 rfl ?_
          refine J_iload dX3_pay_47 6 rfl ?_
          refine J_iload dX3_pay_49 4 rfl ?_
          refine J_eVI (z := mX3_isProved) (As := [.int (nI r), .int (nI (h0 + s)), .int x4]) (rest := []) (ci := 3) (x := f_isProved3 z N r (nI (h0 + s)) x4) dX3_pay_51 ml_X3_125 ok_X3_isProved iv_X3_isProved (by decide) (i300 hI) rfl rfl rfl rfl (Nat.le_of_ble_eq_true rfl) (k_X3_isProved hI z u nr r hv.1 hr _ _ N hv.2.1 hv.2.2.1.1) ?_
          refine J_if_eq (tgt := 63) dX3_pay_54 (by decide) (fun c4 => ?_) (fun c4 => ?_)
          · refine J_iinc (q := 6) (z := nI ((h0 + s) + 1)) (lv' := [(6, .int (nI ((h0 + s) + 1))), (0, .ref 300), (1, .int (nI r)), (2, .int (nI k)), (3, .int (nI ar)), (4, .int x4), (5, .ref (2007 + 10 * r))]) dX3_pay_63 rfl (nI_1 (h0 + s)) (by decide) rfl ?_
            refine J_goto (tgt := 20) dX3_pay_66 (by decide) ?_
            refine J_lv [1, 2, 3, 4, 5, 6, 0] rfl ?_
            exact ih (s + 1) _ (by omega) (by omega) (by rw [p3_s, ← hz]; unfold p3_t; rw [if_pos c2, if_neg c3, if_pos c4]) hv
          · refine J_aload dX3_pay_57 5 rfl ?_
            refine J_iload dX3_pay_59 6 rfl ?_
            refine J_iload_n dX3_pay_61 rfl 2 rfl ?_
            refine J_iase (j := (h0 + s)) dX3_pay_62 (hv.1.2.2 r hr).2.1 (sh_paid r) (ix_in (j := (h0 + s)) rfl (by omega) (by omega)) (ix_cl (j := (h0 + s)) rfl (by omega)) ?_
            refine J_iinc (q := 6) (z := nI ((h0 + s) + 1)) (lv' := [(6, .int (nI ((h0 + s) + 1))), (0, .ref 300), (1, .int (nI r)), (2, .int (nI k)), (3, .int (nI ar)), (4, .int x4), (5, .ref (2007 + 10 * r))]) dX3_pay_63 rfl (nI_1 (h0 + s)) (by decide) rfl ?_
            refine J_goto (tgt := 20) dX3_pay_66 (by decide) ?_
            refine J_lv [1, 2, 3, 4, 5, 6, 0] rfl ?_
            exact ih (s + 1) _ (by omega) (by omega) (by rw [p3_s, ← hz]; unfold p3_t; rw [if_pos c2, if_neg c3, if_neg c4]) hv.row
theorem k_X3_pay {l : Launch} {I : List Nat} (hI : fr_I I) (v : fr_V) (u : fr_U) (nr N r k ar : Nat) (x4 : Int32) (hr : r < nr) (hk : k < 80) (har : ar ≤ 40) (hv : p3OK I nr N v) : Con l mX3_pay I v u [.ref 300, .int (nI r), .int (nI k), .int (nI ar), .int x4] (QN u (fun a => a = p3 N r k (k - ar) x4 v (k + 1 - (k - ar)))) := by
  refine Con.of (by decide) (Nat.le_of_ble_eq_true rfl) ?_
  show J l mX3_pay I v u 0 [(0, .ref 300), (1, .int (nI r)), (2, .int (nI k)), (3, .int (nI ar)), (4, .int x4)] [] _
  refine J_aload_n dX3_pay_0 rfl 0 rfl ?_
  refine J_getr (ci := 3) (j := 1) (t := 302) dX3_pay_1 fl_X3_11 (i300 hI) rfl rfl rfl ?_
  refine J_iload_n dX3_pay_4 rfl 1 rfl ?_
  refine J_aldR (t := 2000 + 10 * r) dX3_pay_5 (i302 hI) rfl (vp_in_nI (by have := hv.1.1; omega) (by omega)) (rn_0 hv.1 hr) (rn_1 hv.1 hr) ?_
  refine J_getr (ci := 7) (j := 6) (t := 2007 + 10 * r) dX3_pay_6 fl_X3_116 (hv.1.2.2 r hr).1 (by rw [sh_rent]) rfl (sref_rent r) ?_
  refine J_astore (lv' := [(5, .ref (2007 + 10 * r)), (0, .ref 300), (1, .int (nI r)), (2, .int (nI k)), (3, .int (nI ar)), (4, .int x4)]) dX3_pay_9 (by decide) rfl ?_
  refine J_iconst (x := 0) dX3_pay_11 (by decide) ?_
  refine J_iload_n dX3_pay_12 rfl 3 rfl ?_
  refine J_iload_n dX3_pay_13 rfl 4 rfl ?_
  refine J_isub dX3_pay_14 ?_
  refine J_mmax dX3_pay_15 ml_X3_119 (by decide) (Nat.le_of_ble_eq_true rfl) ?_
  refine J_istore (lv' := [(6, .int (if 0 < ((nI k) - (nI ar)) then ((nI k) - (nI ar)) else 0)), (5, .ref (2007 + 10 * r)), (0, .ref 300), (1, .int (nI r)), (2, .int (nI k)), (3, .int (nI ar)), (4, .int x4)]) dX3_pay_18 (by decide) rfl ?_
  rw [mx_0 hk har]
  refine J_lv [2, 3, 4, 5, 6, 1, 0] rfl ?_
  exact p3_L hI u nr N r k ar (k - ar) x4 hr hk (by omega) v (k + 1 - (k - ar) + 1) 0 _ (by omega) (by omega) rfl hv
