/-- a life that stands: its place, its kind, its age now -/
def lfOK (v : fr_V) (x : Int32) (P : Nat) : Prop := vp_in x 12 ∧ (∃ i, i ≤ 3 ∧ v 1107 x.toNatClampNeg = nI i) ∧ f_X11_ageIn v x (v 1100 3) = nI P ∧ P < 1000
def f_worthOf (v : fr_V) (x : Int32) : Int32 := sp_wo (f_X11_yearBack v) (fun a => f_X11_liveOf v x (nI a)) (f_X11_ageIn v x (v 1100 3)) 100 0
def f_bothOf (v : fr_V) (P Q0 : Nat) (x1 x2 : Int32) : Int32 := sp_bo (f_X11_yearBack v) (fun t => f_X11_liveOf v x1 (nI P + nI t)) (fun t => f_X11_liveOf v x2 (nI Q0 + nI t)) (99 - max P Q0 + 1) 0
theorem k2_worthOf {l : Launch} {I : List Nat} (hI : fr_I I) (v : fr_V) (u : fr_U) (x1 : Int32) (P : Nat) (h : lfOK v x1 P) (hr : ¬ v 1141 2 + 1 = 0) : Con l mX11_worthOf I v u [.ref 1100, .int x1] (QI v u (fun a => a = f_worthOf v x1)) := by
  obtain ⟨h1, ⟨i, hi, hc⟩, hp, hP⟩ := h
  exact k_X11_worthOf hI v u x1 h1 i hi hc hr (by rw [hp]; exact nI_pos (by omega))
theorem k_X11_bothOf {l : Launch} {I : List Nat} (hI : fr_I I) (v : fr_V) (u : fr_U) (x1 x2 : Int32) (P Q0 : Nat) (hA : lfOK v x1 P) (hB : lfOK v x2 Q0) (hP9 : P ≤ 99) (hQ9 : Q0 ≤ 99) (hr : ¬ v 1141 2 + 1 = 0) : Con l mX11_bothOf I v u [.ref 1100, .int x1, .int x2] (QI v u (fun a => a = f_bothOf v P Q0 x1 x2)) := by
  refine Con.of (by decide) (Nat.le_of_ble_eq_true rfl) ?_
  show J l mX11_bothOf I v u 0 [(0, .ref 1100), (1, .int x1), (2, .int x2)] [] _
  obtain ⟨h1, ⟨i1, hi1, hc1⟩, hp, hP⟩ := hA
  obtain ⟨h2, ⟨i2, hi2, hc2⟩, hq, hQ⟩ := hB
  refine J_aload_n dX11_bothOf_0 rfl 0 rfl ?_
  refine J_iload_n dX11_bothOf_1 rfl 1 rfl ?_
  refine J_aload_n dX11_bothOf_2 rfl 0 rfl ?_
  refine J_gete (ci := 11) (j := 3) (x := v 1100 3) dX11_bothOf_3 fl_X11_208 (i1100 hI) rfl rfl rfl ?_
  refine J_eVI (z := mX11_ageIn) (As := [.int x1, .int (v 1100 3)]) (rest := []) (ci := 11) (x := nI P) dX11_bothOf_6 ml_X11_214 ok_X11_ageIn iv_X11_ageIn (by decide) (i1100 hI) rfl rfl rfl rfl (Nat.le_of_ble_eq_true rfl) ((by rw [← hp]; exact k_X11_ageIn hI _ _ _ _ h1)) ?_
  refine J_istore_n (lv' := [(3, .int (nI P)), (0, .ref 1100), (1, .int x1), (2, .int x2)]) dX11_bothOf_9 rfl (by decide) rfl ?_
  refine J_aload_n dX11_bothOf_10 rfl 1 rfl ?_
  refine J_iload_n dX11_bothOf_11 rfl 3 rfl ?_
  refine J_aload_n dX11_bothOf_12 rfl 1 rfl ?_
  refine J_gete (ci := 11) (j := 3) (x := v 1100 3) dX11_bothOf_13 fl_X11_208 (i1100 hI) rfl rfl rfl ?_
  refine J_eVI (z := mX11_ageIn) (As := [.int x2, .int (v 1100 3)]) (rest := []) (ci := 11) (x := nI Q0) dX11_bothOf_16 ml_X11_214 ok_X11_ageIn iv_X11_ageIn (by decide) (i1100 hI) rfl rfl rfl rfl (Nat.le_of_ble_eq_true rfl) ((by rw [← hq]; exact k_X11_ageIn hI _ _ _ _ h2)) ?_
  refine J_istore (lv' := [(4, .int (nI Q0)), (3, .int (nI P)), (0, .ref 1100), (1, .int x1), (2, .int x2)]) dX11_bothOf_19 (by decide) rfl ?_
  refine J_iconst (x := 0) dX11_bothOf_21 (by decide) ?_
  refine J_istore (lv' := [(5, .int 0), (4, .int (nI Q0)), (3, .int (nI P)), (0, .ref 1100), (1, .int x1), (2, .int x2)]) dX11_bothOf_22 (by decide) rfl ?_
  refine J_bipush (x := 99) dX11_bothOf_24 (by decide) ?_
  refine J_iload_n dX11_bothOf_26 rfl 2 rfl ?_
  refine J_iload dX11_bothOf_27 1 rfl ?_
  refine J_icmp_le (tgt := 36) dX11_bothOf_29 (by decide) (fun c1 => ?_) (fun c1 => ?_)
  · refine J_iload dX11_bothOf_36 1 rfl ?_
    refine J_isub dX11_bothOf_38 ?_
    refine J_istore (lv' := [(6, .int (99 - (nI Q0))), (5, .int 0), (4, .int (nI Q0)), (3, .int (nI P)), (0, .ref 1100), (1, .int x1), (2, .int x2)]) dX11_bothOf_39 (by decide) rfl ?_
    refine J_lv [4, 5, 6, 3, 2, 1, 0] rfl ?_
    have e : (99 : Int32) - nI Q0 = nI (99 - Q0 + 1) - 1 := by rw [nI_pred]; exact pk_sub (a := 99) (by omega)
    rw [e]
    unfold f_bothOf
    rw [show max P Q0 = Q0 from Nat.max_eq_right (nz_le (by omega) (by omega) c1)]
    exact bo_L hI v u x1 x2 h1 h2 i1 i2 hi1 hi2 hc1 hc2 hr P Q0 (by omega) (by omega) _ 0 (by omega)
  · refine J_iload_n dX11_bothOf_32 rfl 2 rfl ?_
    refine J_goto (tgt := 38) dX11_bothOf_33 (by decide) ?_
    refine J_isub dX11_bothOf_38 ?_
    refine J_istore (lv' := [(6, .int (99 - (nI P))), (5, .int 0), (4, .int (nI Q0)), (3, .int (nI P)), (0, .ref 1100), (1, .int x1), (2, .int x2)]) dX11_bothOf_39 (by decide) rfl ?_
    refine J_lv [4, 5, 6, 3, 2, 1, 0] rfl ?_
    have e : (99 : Int32) - nI P = nI (99 - P + 1) - 1 := by rw [nI_pred]; exact pk_sub (a := 99) (by omega)
    rw [e]
    unfold f_bothOf
    rw [show max P Q0 = P from Nat.max_eq_left (by have := nz_nle (by omega) (by omega) c1; omega)]
    exact bo_L hI v u x1 x2 h1 h2 i1 i2 hi1 hi2 hc1 hc2 hr P Q0 (by omega) (by omega) _ 0 (by omega)
def f_X11_worthOn (v : fr_V) (P : Nat) (Q0 : Nat) (x1 x2 : Int32) : Int32 := if x1 = (-1) then (if x2 = (-1) then 0 else f_worthOf v x2) else if x2 = (-1) then f_worthOf v x1 else ((f_worthOf v x1) + (f_worthOf v x2)) - (f_bothOf v P Q0 x1 x2)
theorem k_X11_worthOn {l : Launch} {I : List Nat} (hI : fr_I I) (v : fr_V) (u : fr_U) (P : Nat) (Q0 : Nat) (x1 x2 : Int32) (hA : ¬ x1 = (-1) → lfOK v x1 P) (hB : ¬ x2 = (-1) → lfOK v x2 Q0) (hP9 : ¬ x1 = (-1) → P ≤ 99) (hQ9 : ¬ x2 = (-1) → Q0 ≤ 99) (hr : ¬ v 1141 2 + 1 = 0) : Con l mX11_worthOn I v u [.ref 1100, .int x1, .int x2] (QI v u (fun a => a = f_X11_worthOn v P Q0 x1 x2)) := by
  refine Con.of (by decide) (Nat.le_of_ble_eq_true rfl) ?_
  show J l mX11_worthOn I v u 0 [(0, .ref 1100), (1, .int x1), (2, .int x2)] [] _
  refine J_iload_n dX11_worthOn_0 rfl 1 rfl ?_
  refine J_iconst (x := (-1)) dX11_worthOn_1 (by decide) ?_
  refine J_icmp_ne (tgt := 20) dX11_worthOn_2 (by decide) (fun c1 => ?_) (fun c1 => ?_)
  · refine J_iload_n dX11_worthOn_20 rfl 2 rfl ?_
    refine J_iconst (x := (-1)) dX11_worthOn_21 (by decide) ?_
    refine J_icmp_ne (tgt := 33) dX11_worthOn_22 (by decide) (fun c2 => ?_) (fun c2 => ?_)
    · refine J_aload_n dX11_worthOn_33 rfl 0 rfl ?_
      refine J_iload_n dX11_worthOn_34 rfl 1 rfl ?_
      refine J_eVI (z := mX11_worthOf) (As := [.int x1]) (rest := []) (ci := 11) (x := f_worthOf v x1) dX11_worthOn_35 ml_X11_308 ok_X11_worthOf iv_X11_worthOf (by decide) (i1100 hI) rfl rfl rfl rfl (Nat.le_of_ble_eq_true rfl) (k2_worthOf hI _ _ _ P (hA (by assumption)) hr) ?_
      refine J_aload_n dX11_worthOn_38 rfl 0 rfl ?_
      refine J_iload_n dX11_worthOn_39 rfl 2 rfl ?_
      refine J_eVI (z := mX11_worthOf) (As := [.int x2]) (rest := [.int (f_worthOf v x1)]) (ci := 11) (x := f_worthOf v x2) dX11_worthOn_40 ml_X11_308 ok_X11_worthOf iv_X11_worthOf (by decide) (i1100 hI) rfl rfl rfl rfl (Nat.le_of_ble_eq_true rfl) (k2_worthOf hI _ _ _ Q0 (hB (by assumption)) hr) ?_
      refine J_iadd dX11_worthOn_43 ?_
      refine J_aload_n dX11_worthOn_44 rfl 0 rfl ?_
      refine J_iload_n dX11_worthOn_45 rfl 1 rfl ?_
      refine J_iload_n dX11_worthOn_46 rfl 2 rfl ?_
      refine J_eVI (z := mX11_bothOf) (As := [.int x1, .int x2]) (rest := [.int ((f_worthOf v x1) + (f_worthOf v x2))]) (ci := 11) (x := f_bothOf v P Q0 x1 x2) dX11_worthOn_47 ml_X11_311 ok_X11_bothOf iv_X11_bothOf (by decide) (i1100 hI) rfl rfl rfl rfl (Nat.le_of_ble_eq_true rfl) (k_X11_bothOf hI _ _ _ _ P Q0 (hA (by assumption)) (hB (by assumption)) (hP9 (by assumption)) (hQ9 (by assumption)) hr) ?_
      refine J_isub dX11_worthOn_50 ?_
      exact J_iret dX11_worthOn_51 rfl ⟨_, rfl, rfl, rfl, by unfold f_X11_worthOn; rw [if_neg c1, if_neg c2]⟩
    · refine J_aload_n dX11_worthOn_25 rfl 0 rfl ?_
      refine J_iload_n dX11_worthOn_26 rfl 1 rfl ?_
      refine J_eVI (z := mX11_worthOf) (As := [.int x1]) (rest := []) (ci := 11) (x := f_worthOf v x1) dX11_worthOn_27 ml_X11_308 ok_X11_worthOf iv_X11_worthOf (by decide) (i1100 hI) rfl rfl rfl rfl (Nat.le_of_ble_eq_true rfl) (k2_worthOf hI _ _ _ P (hA (by assumption)) hr) ?_
      refine J_goto (tgt := 51) dX11_worthOn_30 (by decide) ?_
      exact J_iret dX11_worthOn_51 rfl ⟨_, rfl, rfl, rfl, by unfold f_X11_worthOn; rw [if_neg c1, if_pos c2]⟩
  · refine J_iload_n dX11_worthOn_5 rfl 2 rfl ?_
    refine J_iconst (x := (-1)) dX11_worthOn_6 (by decide) ?_
    refine J_icmp_ne (tgt := 14) dX11_worthOn_7 (by decide) (fun c3 => ?_) (fun c3 => ?_)
    · refine J_aload_n dX11_worthOn_14 rfl 0 rfl ?_
      refine J_iload_n dX11_worthOn_15 rfl 2 rfl ?_
      refine J_eVI (z := mX11_worthOf) (As := [.int x2]) (rest := []) (ci := 11) (x := f_worthOf v x2) dX11_worthOn_16 ml_X11_308 ok_X11_worthOf iv_X11_worthOf (by decide) (i1100 hI) rfl rfl rfl rfl (Nat.le_of_ble_eq_true rfl) (k2_worthOf hI _ _ _ Q0 (hB (by assumption)) hr) ?_
      exact J_iret dX11_worthOn_19 rfl ⟨_, rfl, rfl, rfl, by unfold f_X11_worthOn; rw [if_pos c1, if_neg c3]⟩
    · refine J_iconst (x := 0) dX11_worthOn_10 (by decide) ?_
      refine J_goto (tgt := 19) dX11_worthOn_11 (by decide) ?_
      exact J_iret dX11_worthOn_19 rfl ⟨_, rfl, rfl, rfl, by unfold f_X11_worthOn; rw [if_pos c1, if_pos c3]⟩
theorem yr_i_m {x3 : Int32} {g i : Nat} {w0 : fr_V} {k j : Nat} (h : ¬ (k = 1100 ∧ (j = 49 ∨ j = 50))) : ∀ s, yr_i x3 g i w0 s k j = w0 k j := by
  intro s
  induction s with
  | zero => rfl
  | succ s ih =>
    have key : ∀ (z : fr_V) (a b : Int32), up2 (up2 z 1100 49 a) 1100 50 b k j = z k j := by
      intro z a b
      by_cases hk : k = 1100
      · subst hk
        have h1 : ¬ j = 49 := fun e => h ⟨rfl, Or.inl e⟩
        have h2 : ¬ j = 50 := fun e => h ⟨rfl, Or.inr e⟩
        simp [up2, upd, h1, h2]
      · simp [up2, hk]
    rw [yr_i_s, ← ih]
    unfold yr_i_t
    repeat' split
    all_goals first | rfl | exact key _ _ _
theorem yr_o_m {x1 x3 : Int32} {g : Nat} {w0 : fr_V} {k j : Nat} (h : ¬ (k = 1100 ∧ (j = 49 ∨ j = 50))) : ∀ n, yr_o x1 x3 g w0 n k j = w0 k j := by
  intro n
  induction n with
  | zero => rfl
  | succ n ih =>
    rw [yr_o_s, ← ih]
    unfold yr_o_t
    split
    · exact yr_i_m h _
    · rfl
theorem f_years_m {v : fr_V} {n g : Nat} {x1 x3 : Int32} {k j : Nat} (h : ¬ (k = 1100 ∧ (j = 49 ∨ j = 50))) : f_years v n g x1 x3 k j = v k j := by
  unfold f_years
  rw [yr_o_m h]
  by_cases hk : k = 1100
  · subst hk
    have h1 : ¬ j = 49 := fun e => h ⟨rfl, Or.inl e⟩
    have h2 : ¬ j = 50 := fun e => h ⟨rfl, Or.inr e⟩
    simp [up2, upd, h1, h2]
  · simp [up2, hk]
