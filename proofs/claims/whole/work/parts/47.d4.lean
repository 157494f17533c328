def lvE (t : Int32) (q : Int32 × Int32) : Int32 := if t = 2 then (if (q.2 + 1) < q.1 then (q.2 + 1) else q.1) else if t = 3 then (if 0 < (q.2 - 1) then (q.2 - 1) else 0) else q.2
def lvQ (t s : Int32) (q : Int32 × Int32) : Int32 := if q.1 = 0 then s else 1000 * (q.1 - lvE t q) / q.1
def f_live (v : fr_V) (n c g : Nat) (x3 x4 : Int32) : Int32 := if x4 = 0 then v (910 + c) g else lvQ x4 (v (910 + c) g) (f_cy v n (nI c) g x3)
def w_live (v : fr_V) (n c g : Nat) (x3 x4 : Int32) : fr_V := if x4 = 0 then v else w_cy v (f_cy v n (nI c) g x3)
theorem wcy_c {v : fr_V} {q : Int32 × Int32} {c : Nat} (h : c ≠ 900) : w_cy v q c = v c := by unfold w_cy; rw [up2_ne h, up2_ne h]
theorem k_X8_live {l : Launch} {I : List Nat} (hI : fr_I I) (v : fr_V) (u : fr_U) (n c g k : Nat) (x4 : Int32) (hc : c < 4) (hg : g ≤ 9) (hk : k < 80) (hv : lf8 n v) : Con l mX8_live I v u [.ref 900, .int (nI c), .int (nI g), .int (nI k), .int x4] (QX u (fun a b => a = f_live v n c g (nI k) x4 ∧ b = w_live v n c g (nI k) x4)) := by
  refine Con.of (by decide) (Nat.le_of_ble_eq_true rfl) ?_
  show J l mX8_live I v u 0 [(0, .ref 900), (1, .int (nI c)), (2, .int (nI g)), (3, .int (nI k)), (4, .int x4)] [] _
  refine J_iload dX8_live_0 4 rfl ?_
  refine J_if_ne (tgt := 14) dX8_live_2 (by decide) (fun c1 => ?_) (fun c1 => ?_)
  · refine J_aload_n dX8_live_14 rfl 0 rfl ?_
    refine J_iload_n dX8_live_15 rfl 1 rfl ?_
    refine J_iload_n dX8_live_16 rfl 2 rfl ?_
    refine J_iload_n dX8_live_17 rfl 3 rfl ?_
    refine J_eVN (z := mX8_countYears) (As := [.int (nI c), .int (nI g), .int (nI k)]) (rest := []) (ci := 8) (w := w_cy v (f_cy v n (nI c) g (nI k))) dX8_live_18 ml_X8_70 ok_X8_countYears iv_X8_countYears (by decide) (i900 hI) rfl rfl rfl rfl (Nat.le_of_ble_eq_true rfl) (k_X8_countYears hI v u (nI c) g k n hg hk hv) ?_
    refine J_aload_n dX8_live_21 rfl 0 rfl ?_
    refine J_gete (ci := 8) (j := 3) (x := (f_cy v n (nI c) g (nI k)).1) dX8_live_22 fl_X8_37 (i900 hI) rfl rfl rfl ?_
    refine J_if_ne (tgt := 37) dX8_live_25 (by decide) (fun c2 => ?_) (fun c2 => ?_)
    · refine J_aload_n dX8_live_37 rfl 0 rfl ?_
      refine J_gete (ci := 8) (j := 4) (x := (f_cy v n (nI c) g (nI k)).2) dX8_live_38 fl_X8_41 (i900 hI) rfl rfl rfl ?_
      refine J_istore (lv' := [(5, .int ((f_cy v n (nI c) g (nI k)).2)), (0, .ref 900), (1, .int (nI c)), (2, .int (nI g)), (3, .int (nI k)), (4, .int x4)]) dX8_live_41 (by decide) rfl ?_
      refine J_iload dX8_live_43 5 rfl ?_
      refine J_iconst (x := 2) dX8_live_45 (by decide) ?_
      refine J_icmp_ne (tgt := 67) dX8_live_46 (by decide) (fun c3 => ?_) (fun c3 => ?_)
      · refine J_iload dX8_live_67 5 rfl ?_
        refine J_iconst (x := 3) dX8_live_69 (by decide) ?_
        refine J_icmp_ne (tgt := 85) dX8_live_70 (by decide) (fun c4 => ?_) (fun c4 => ?_)
        · refine J_sipush (x := 1000) dX8_live_85 (by decide) ?_
          refine J_aload_n dX8_live_88 rfl 1 rfl ?_
          refine J_gete (ci := 8) (j := 3) (x := (f_cy v n (nI c) g (nI k)).1) dX8_live_89 fl_X8_37 (i900 hI) rfl rfl rfl ?_
          refine J_iload dX8_live_92 0 rfl ?_
          refine J_isub dX8_live_94 ?_
          refine J_imul dX8_live_95 ?_
          refine J_aload_n dX8_live_96 rfl 1 rfl ?_
          refine J_gete (ci := 8) (j := 3) (x := (f_cy v n (nI c) g (nI k)).1) dX8_live_97 fl_X8_37 (i900 hI) rfl rfl rfl ?_
          refine J_idiv dX8_live_100 c2 ?_
          exact J_iret dX8_live_101 rfl ⟨_, rfl, rfl, by unfold f_live lvQ lvE; rw [if_neg c1, if_neg c2, if_neg c3, if_neg c4], by unfold w_live; rw [if_neg c1]⟩
        · refine J_iconst (x := 0) dX8_live_73 (by decide) ?_
          refine J_aload_n dX8_live_74 rfl 1 rfl ?_
          refine J_gete (ci := 8) (j := 4) (x := (f_cy v n (nI c) g (nI k)).2) dX8_live_75 fl_X8_41 (i900 hI) rfl rfl rfl ?_
          refine J_iconst (x := 1) dX8_live_78 (by decide) ?_
          refine J_isub dX8_live_79 ?_
          refine J_mmax dX8_live_80 ml_X8_73 (by decide) (Nat.le_of_ble_eq_true rfl) ?_
          refine J_istore (lv' := [(5, .int (if 0 < (((f_cy v n (nI c) g (nI k)).2) - 1) then (((f_cy v n (nI c) g (nI k)).2) - 1) else 0)), (0, .ref 900), (1, .int (nI c)), (2, .int (nI g)), (3, .int (nI k)), (4, .int x4)]) dX8_live_83 (by decide) rfl ?_
          refine J_sipush (x := 1000) dX8_live_85 (by decide) ?_
          refine J_aload_n dX8_live_88 rfl 1 rfl ?_
          refine J_gete (ci := 8) (j := 3) (x := (f_cy v n (nI c) g (nI k)).1) dX8_live_89 fl_X8_37 (i900 hI) rfl rfl rfl ?_
          refine J_iload dX8_live_92 0 rfl ?_
          refine J_isub dX8_live_94 ?_
          refine J_imul dX8_live_95 ?_
          refine J_aload_n dX8_live_96 rfl 1 rfl ?_
          refine J_gete (ci := 8) (j := 3) (x := (f_cy v n (nI c) g (nI k)).1) dX8_live_97 fl_X8_37 (i900 hI) rfl rfl rfl ?_
          refine J_idiv dX8_live_100 c2 ?_
          exact J_iret dX8_live_101 rfl ⟨_, rfl, rfl, by unfold f_live lvQ lvE; rw [if_neg c1, if_neg c2, if_neg c3, if_pos c4], by unfold w_live; rw [if_neg c1]⟩
      · refine J_aload_n dX8_live_49 rfl 1 rfl ?_
        refine J_gete (ci := 8) (j := 3) (x := (f_cy v n (nI c) g (nI k)).1) dX8_live_50 fl_X8_37 (i900 hI) rfl rfl rfl ?_
        refine J_aload_n dX8_live_53 rfl 1 rfl ?_
        refine J_gete (ci := 8) (j := 4) (x := (f_cy v n (nI c) g (nI k)).2) dX8_live_54 fl_X8_41 (i900 hI) rfl rfl rfl ?_
        refine J_iconst (x := 1) dX8_live_57 (by decide) ?_
        refine J_iadd dX8_live_58 ?_
        refine J_mmin dX8_live_59 ml_X8_61 (by decide) (Nat.le_of_ble_eq_true rfl) ?_
        refine J_istore (lv' := [(5, .int (if (((f_cy v n (nI c) g (nI k)).2) + 1) < ((f_cy v n (nI c) g (nI k)).1) then (((f_cy v n (nI c) g (nI k)).2) + 1) else ((f_cy v n (nI c) g (nI k)).1))), (0, .ref 900), (1, .int (nI c)), (2, .int (nI g)), (3, .int (nI k)), (4, .int x4)]) dX8_live_62 (by decide) rfl ?_
        refine J_goto (tgt := 85) dX8_live_64 (by decide) ?_
        refine J_sipush (x := 1000) dX8_live_85 (by decide) ?_
        refine J_aload_n dX8_live_88 rfl 1 rfl ?_
        refine J_gete (ci := 8) (j := 3) (x := (f_cy v n (nI c) g (nI k)).1) dX8_live_89 fl_X8_37 (i900 hI) rfl rfl rfl ?_
        refine J_iload dX8_live_92 0 rfl ?_
        refine J_isub dX8_live_94 ?_
        refine J_imul dX8_live_95 ?_
        refine J_aload_n dX8_live_96 rfl 1 rfl ?_
        refine J_gete (ci := 8) (j := 3) (x := (f_cy v n (nI c) g (nI k)).1) dX8_live_97 fl_X8_37 (i900 hI) rfl rfl rfl ?_
        refine J_idiv dX8_live_100 c2 ?_
        exact J_iret dX8_live_101 rfl ⟨_, rfl, rfl, by unfold f_live lvQ lvE; rw [if_neg c1, if_neg c2, if_pos c3], by unfold w_live; rw [if_neg c1]⟩
    · refine J_aload_n dX8_live_28 rfl 0 rfl ?_
      refine J_getr (ci := 8) (j := 2) (t := 903) dX8_live_29 fl_X8_11 (i900 hI) rfl rfl rfl ?_
      refine J_iload_n dX8_live_32 rfl 1 rfl ?_
      refine J_aldM (t := 910 + c) dX8_live_33 (i903 hI) rfl (vp_in_nI (by omega) (by omega)) (by rw [nI_clamp (by omega)]; rfl) ?_
      refine J_iload_n dX8_live_34 rfl 2 rfl ?_
      refine J_iale (x := v (910 + c) g) dX8_live_35 (i_sold hI hc) (s_sold hc) (ix_in (j := g) rfl (by omega) (by omega)) ((congrArg _ (ix_cl (j := g) rfl (by omega))).trans (congrFun (wcy_c (by omega)) g)) ?_
      exact J_iret dX8_live_36 rfl ⟨_, rfl, rfl, by unfold f_live lvQ; rw [if_neg c1, if_pos c2], by unfold w_live; rw [if_neg c1]⟩
  · refine J_aload_n dX8_live_5 rfl 0 rfl ?_
    refine J_getr (ci := 8) (j := 2) (t := 903) dX8_live_6 fl_X8_11 (i900 hI) rfl rfl rfl ?_
    refine J_iload_n dX8_live_9 rfl 1 rfl ?_
    refine J_aldM (t := 910 + c) dX8_live_10 (i903 hI) rfl (vp_in_nI (by omega) (by omega)) (by rw [nI_clamp (by omega)]; rfl) ?_
    refine J_iload_n dX8_live_11 rfl 2 rfl ?_
    refine J_iale (x := v (910 + c) g) dX8_live_12 (i_sold hI hc) (s_sold hc) (ix_in (j := g) rfl (by omega) (by omega)) ((congrArg _ (ix_cl (j := g) rfl (by omega))).trans rfl) ?_
    exact J_iret dX8_live_13 rfl ⟨_, rfl, rfl, by unfold f_live; rw [if_pos c1], by unfold w_live; rw [if_pos c1]⟩
def fw (rw : Nat) (v z : fr_V) : Prop := ∀ c, c ≠ 900 → c ≠ rw → z c = v c
theorem i_rw {I : List Nat} (hI : fr_I I) {ac : Nat} (h : ac = 906 ∨ ac = 907) : ac ∈ I := by rcases h with rfl | rfl; exact i906 hI; exact i907 hI
theorem s_rw {ac : Nat} (h : ac = 906 ∨ ac = 907) : sh ac = (20, 10) := by rcases h with rfl | rfl <;> rfl
theorem lf8_fw {n rw : Nat} {v z : fr_V} (h : fw rw v z) (hr : rw = 906 ∨ rw = 907) (k : lf8 n v) : lf8 n z := by
  unfold lf8
  rw [h 500 (by omega) (by omega), h 501 (by omega) (by omega)]
  exact k
theorem cyO_e {v z : fr_V} (h1 : z 110 = v 110) (h2 : z 501 = v 501) (h3 : z 502 = v 502) (x1 x3 : Int32) (g : Nat) (p : Int32 × Int32) : ∀ n, cyO z x1 g x3 p n = cyO v x1 g x3 p n := by
  intro n
  induction n with
  | zero => rfl
  | succ n ih => rw [cyO_s, cyO_s, ih, h3]; unfold cyO1; rw [h1, h2]
theorem cy_e {v z : fr_V} (h1 : z 110 = v 110) (h2 : z 501 = v 501) (h3 : z 502 = v 502) (n : Nat) (x1 x3 : Int32) (g : Nat) : f_cy z n x1 g x3 = f_cy v n x1 g x3 := cyO_e h1 h2 h3 x1 x3 g _ n
theorem live_e {v z : fr_V} {rw : Nat} (h : fw rw v z) (hr : rw = 906 ∨ rw = 907) (n c g : Nat) (hc : c < 4) (x3 x4 : Int32) : f_live z n c g x3 x4 = f_live v n c g x3 x4 := by
  unfold f_live
  rw [h (910 + c) (by omega) (by omega), cy_e (h 110 (by omega) (by omega)) (h 501 (by omega) (by omega)) (h 502 (by omega) (by omega))]
theorem w_live_c {v : fr_V} {n c g : Nat} {x3 x4 : Int32} {a : Nat} (h : a ≠ 900) : w_live v n c g x3 x4 a = v a := by
  unfold w_live
  split
  · rfl
  · exact wcy_c h
/-- the row that fillRow fills, and the rest as it was -/
def rowOf (v : fr_V) (n c : Nat) (x3 x4 : Int32) (f0 : Nat → Int32) : Nat → Nat → Int32
  | 0 => f0
  | g + 1 => upd (rowOf v n c x3 x4 f0 g) g (f_live v n c g x3 x4)
theorem rowOf_s (v : fr_V) (n c : Nat) (x3 x4 : Int32) (f0 : Nat → Int32) (g : Nat) : rowOf v n c x3 x4 f0 (g + 1) = upd (rowOf v n c x3 x4 f0 g) g (f_live v n c g x3 x4) := rfl
theorem rowOf_e (v : fr_V) (n c : Nat) (x3 x4 : Int32) (f0 : Nat → Int32) : ∀ m i, rowOf v n c x3 x4 f0 m i = if i < m then f_live v n c i x3 x4 else f0 i := by
  intro m
  induction m with
  | zero => intro i; rfl
  | succ m ih =>
    intro i
    rw [rowOf_s]
    unfold upd
    by_cases h : i = m
    · rw [if_pos h, if_pos (by omega), h]
    · rw [if_neg h, ih]
      by_cases h2 : i < m
      · rw [if_pos h2, if_pos (by omega)]
      · rw [if_neg h2, if_neg (by omega)]
def fwP (v : fr_V) (rw n c : Nat) (x3 x4 : Int32) (z : fr_V) : Prop := fw rw v z ∧ ∀ g, g < 10 → z rw g = f_live v n c g x3 x4
theorem k_lv {l : Launch} {I : List Nat} (hI : fr_I I) (z : fr_V) (u : fr_U) (n c g k : Nat) (x4 : Int32) (hc : c < 4) (hg : g ≤ 9) (hk : k < 80) (v : fr_V) (hv : lf8 n v) (rw : Nat) (hrw : rw = 906 ∨ rw = 907) (hz : fw rw v z) : Con l mX8_live I z u [.ref 900, .int (nI c), .int (nI g), .int (nI k), .int x4] (QX u (fun a b => a = f_live v n c g (nI k) x4 ∧ (fw rw v b ∧ b rw = z rw))) := by
  refine (k_X8_live hI z u n c g k x4 hc hg hk (lf8_fw hz hrw hv)).mono (fun q w y h => ?_)
  obtain ⟨x, e1, e2, e3, e4⟩ := h
  refine ⟨x, e1, e2, e3.trans (live_e hz hrw n c g hc _ _), fun a h1 h2 => ?_, ?_⟩
  · rw [e4, w_live_c h1]; exact hz a h1 h2
  · rw [e4, w_live_c (by omega)]
theorem fl8_L {l : Launch} {I : List Nat} (hI : fr_I I) (v : fr_V) (u : fr_U) (rw n c k : Nat) (x2 x4 : Int32) (hrw : rw = 906 ∨ rw = 907) (hc : c < 4) (hk : k < 80) (hv : lf8 n v) (h2 : vp_in x2 12) (hx : v 502 x2.toNatClampNeg = nI c) : ∀ (d g : Nat) (z : fr_V) (hd : 10 - g < d) (hj : g ≤ 10) (hz : fw rw v z) (hr : ∀ q, q < g → z rw q = f_live v n c q (nI k) x4), J l mX8_fillRow I z u 3 [(0, .ref 900), (1, .ref rw), (2, .int x2), (3, .int (nI k)), (4, .int x4), (5, .int (nI g))] [] (QN u (fun a => fwP v rw n c (nI k) x4 a)) := by
  intro d
  induction d with
  | zero => intros; omega
  | succ d ih =>
    intro g z hd hj hz hr
    refine J_iload dX8_fillRow_3 5 rfl ?_
    refine J_bipush (x := 10) dX8_fillRow_5 (by decide) ?_
    refine J_icmp_ge (tgt := 38) dX8_fillRow_7 (by decide) (fun c1 => ?_) (fun c1 => ?_)
    · exact J_vret dX8_fillRow_38 rfl ⟨rfl, rfl, hz, fun q hq => hr q (by have := nz_le (a := 10) (by omega) (by omega) c1; omega)⟩
    · have hg8 : g < 10 := nz_nle (a := 10) (by omega) (by omega) c1
      refine J_aload_n dX8_fillRow_10 rfl 1 rfl ?_
      refine J_iload dX8_fillRow_11 5 rfl ?_
      refine J_aload_n dX8_fillRow_13 rfl 0 rfl ?_
      refine J_aload_n dX8_fillRow_14 rfl 0 rfl ?_
      refine J_getr (ci := 8) (j := 0) (t := 500) dX8_fillRow_15 fl_X8_23 (i900 hI) rfl rfl rfl ?_
      refine J_getr (ci := 5) (j := 1) (t := 502) dX8_fillRow_18 fl_X8_49 (i500 hI) rfl rfl rfl ?_
      refine J_iload_n dX8_fillRow_21 rfl 2 rfl ?_
      refine J_iale (x := z 502 x2.toNatClampNeg) dX8_fillRow_22 (i502 hI) rfl h2 rfl ?_
      refine J_iload dX8_fillRow_23 5 rfl ?_
      refine J_iload_n dX8_fillRow_25 rfl 3 rfl ?_
      refine J_iload dX8_fillRow_26 4 rfl ?_
      rw [show z 502 x2.toNatClampNeg = nI c from (congrFun (hz 502 (by omega) (by omega)) _).trans hx]
      refine J_cVX (z := mX8_live) (As := [.int (nI c), .int (nI g), .int (nI k), .int x4]) (rest := [.int (nI g), .ref rw]) (ci := 8) dX8_fillRow_28 ml_X8_76 ok_X8_live iv_X8_live (by decide) (i900 hI) rfl rfl rfl rfl (Nat.le_of_ble_eq_true rfl) (k_lv hI z u n c g k x4 hc (by omega) hk v hv rw hrw hz) (fun b w hw => ?_)
      obtain ⟨rfl, hw⟩ := hw
      refine J_iase (j := g) dX8_fillRow_31 (i_rw hI hrw) (s_rw hrw) (ix_in (j := g) rfl (by omega) (by omega)) (ix_cl (j := g) rfl (by omega)) ?_
      refine J_iinc (q := 5) (z := nI (g + 1)) (lv' := [(5, .int (nI (g + 1))), (0, .ref 900), (1, .ref rw), (2, .int x2), (3, .int (nI k)), (4, .int x4)]) dX8_fillRow_32 rfl (nI_1 g) (by decide) rfl ?_
      refine J_goto (tgt := 3) dX8_fillRow_35 (by decide) ?_
      refine J_lv [1, 2, 3, 4, 5, 0] rfl ?_
      exact ih (g + 1) _ (by omega) (by omega) (fun a h1 h2 => by rw [up2_ne h2]; exact hw.1 a h1 h2) (fun q hq => by
        show up2 w rw g _ rw q = _
        rw [up2_self]
        by_cases e : q = g
        · rw [e]; exact if_pos rfl
        · rw [pk_un e, hw.2]; exact hr q (by omega))
theorem k_X8_fillRow {l : Launch} {I : List Nat} (hI : fr_I I) (v : fr_V) (u : fr_U) (rw n c k : Nat) (x2 x4 : Int32) (hrw : rw = 906 ∨ rw = 907) (hc : c < 4) (hk : k < 80) (hv : lf8 n v) (h2 : vp_in x2 12) (hx : v 502 x2.toNatClampNeg = nI c) : Con l mX8_fillRow I v u [.ref 900, .ref rw, .int x2, .int (nI k), .int x4] (QN u (fun a => fwP v rw n c (nI k) x4 a)) := by
  refine Con.of (by decide) (Nat.le_of_ble_eq_true rfl) ?_
  show J l mX8_fillRow I v u 0 [(0, .ref 900), (1, .ref rw), (2, .int x2), (3, .int (nI k)), (4, .int x4)] [] _
  refine J_iconst (x := 0) dX8_fillRow_0 (by decide) ?_
  refine J_istore (lv' := [(5, .int 0), (0, .ref 900), (1, .ref rw), (2, .int x2), (3, .int (nI k)), (4, .int x4)]) dX8_fillRow_1 (by decide) rfl ?_
  refine J_lv [1, 2, 3, 4, 5, 0] rfl ?_
  exact fl8_L hI v u rw n c k x2 x4 hrw hc hk hv h2 hx 11 0 v (by omega) (by omega) (fun _ _ _ => rfl) (fun q hq => absurd hq (Nat.not_lt_zero q))
def yb8 (rate w live : Int32) : Int32 := f_X8_yearBefore (fun _ _ => 0) w live rate
def g10 (x : Int32) : Nat := (f_X10_groupOf (fun _ _ => 0) x).toNatClampNeg
theorem wo8_L {l : Launch} {I : List Nat} (hI : fr_I I) (v : fr_V) (u : fr_U) (rw : Nat) (x0 x2 : Int32) (hrw : rw = 906 ∨ rw = 907) (h1 : ¬ x2 + 1 = 0) (hx0 : ¬ x0 < 0) : ∀ (t : Nat) (w : Int32) (ht : t ≤ 100), J l nX8_worthOnOne I v u 6 [(0, .int x0), (1, .ref rw), (2, .int x2), (3, .int w), (4, .int (nI t - 1))] [] (QI v u (fun a => a = sp_wo (yb8 x2) (fun a => v rw (g10 (nI a))) x0 t w)) := by
  intro t
  induction t with
  | zero =>
    intro w ht
    refine J_iload dX8_worthOnOne_6 4 rfl ?_
    refine J_iload_n dX8_worthOnOne_8 rfl 0 rfl ?_
    refine J_icmp_lt (tgt := 31) dX8_worthOnOne_9 (by decide) (fun c1 => ?_) (fun c1 => absurd (lt0 hx0) c1)
    refine J_iload_n dX8_worthOnOne_31 rfl 3 rfl ?_
    exact J_iret dX8_worthOnOne_32 rfl ⟨_, rfl, rfl, rfl, rfl⟩
  | succ s ih =>
    intro w ht
    rw [nI_pred]
    refine J_iload dX8_worthOnOne_6 4 rfl ?_
    refine J_iload_n dX8_worthOnOne_8 rfl 0 rfl ?_
    refine J_icmp_lt (tgt := 31) dX8_worthOnOne_9 (by decide) (fun c1 => ?_) (fun c1 => ?_)
    · refine J_iload_n dX8_worthOnOne_31 rfl 3 rfl ?_
      exact J_iret dX8_worthOnOne_32 rfl ⟨_, rfl, rfl, rfl, by rw [sp_wo_s, if_pos c1]⟩
    · refine J_iload_n dX8_worthOnOne_12 rfl 3 rfl ?_
      refine J_aload_n dX8_worthOnOne_13 rfl 1 rfl ?_
      refine J_iload dX8_worthOnOne_14 4 rfl ?_
      refine J_eSIN (z := mX10_groupOf) (As := [.int (nI s)]) (rest := [.ref rw, .int w]) (x := f_X10_groupOf v (nI s)) dX8_worthOnOne_16 (fun U h => h.2.2.2.2.2.2) ok_X10_groupOf iv_X10_groupOf (by decide) rfl rfl (Nat.le_of_ble_eq_true rfl) (k_X10_groupOf hI v u _) ?_
      refine J_iale (x := v rw ((f_X10_groupOf v (nI s)).toNatClampNeg)) dX8_worthOnOne_19 (i_rw hI hrw) (s_rw hrw) (grp10_in v _) rfl ?_
      refine J_iload_n dX8_worthOnOne_20 rfl 2 rfl ?_
      refine J_eSI (z := mX8_yearBefore) (As := [.int w, .int (v rw ((f_X10_groupOf v (nI s)).toNatClampNeg)), .int x2]) (rest := []) (x := f_X8_yearBefore v w (v rw ((f_X10_groupOf v (nI s)).toNatClampNeg)) x2) dX8_worthOnOne_21 ml_X8_99 ok_X8_yearBefore iv_X8_yearBefore (by decide) rfl rfl (Nat.le_of_ble_eq_true rfl) (k_X8_yearBefore hI v u w (v rw ((f_X10_groupOf v (nI s)).toNatClampNeg)) x2 h1) ?_
      refine J_istore_n (lv' := [(3, .int (f_X8_yearBefore v w (v rw ((f_X10_groupOf v (nI s)).toNatClampNeg)) x2)), (0, .int x0), (1, .ref rw), (2, .int x2), (4, .int (nI s))]) dX8_worthOnOne_24 rfl (by decide) rfl ?_
      refine J_iinc (q := 4) (z := nI s - 1) (lv' := [(4, .int (nI s - 1)), (3, .int (f_X8_yearBefore v w (v rw ((f_X10_groupOf v (nI s)).toNatClampNeg)) x2)), (0, .int x0), (1, .ref rw), (2, .int x2)]) dX8_worthOnOne_25 rfl (dn_1 s) (by decide) rfl ?_
      refine J_goto (tgt := 6) dX8_worthOnOne_28 (by decide) ?_
      refine J_lv [2, 3, 4, 1, 0] rfl ?_
      rw [sp_wo_s, if_neg c1]
      exact ih _ (by omega)
theorem k_X8_worthOnOne {l : Launch} {I : List Nat} (hI : fr_I I) (v : fr_V) (u : fr_U) (rw : Nat) (x0 x2 : Int32) (hrw : rw = 906 ∨ rw = 907) (h1 : ¬ x2 + 1 = 0) (hx0 : ¬ x0 < 0) : Con l nX8_worthOnOne I v u [.int x0, .ref rw, .int x2] (QI v u (fun a => a = sp_wo (yb8 x2) (fun a => v rw (g10 (nI a))) x0 100 0)) := by
  refine Con.of (by decide) (Nat.le_of_ble_eq_true rfl) ?_
  show J l nX8_worthOnOne I v u 0 [(0, .int x0), (1, .ref rw), (2, .int x2)] [] _
  refine J_iconst (x := 0) dX8_worthOnOne_0 (by decide) ?_
  refine J_istore_n (lv' := [(3, .int 0), (0, .int x0), (1, .ref rw), (2, .int x2)]) dX8_worthOnOne_1 rfl (by decide) rfl ?_
  refine J_bipush (x := 99) dX8_worthOnOne_2 (by decide) ?_
  refine J_istore (lv' := [(4, .int 99), (3, .int 0), (0, .int x0), (1, .ref rw), (2, .int x2)]) dX8_worthOnOne_4 (by decide) rfl ?_
  refine J_lv [2, 3, 4, 1, 0] rfl ?_
  exact wo8_L hI v u rw x0 x2 hrw h1 hx0 100 0 (by omega)
theorem bo8_L {l : Launch} {I : List Nat} (hI : fr_I I) (v : fr_V) (u : fr_U) (p q : Nat) (x3 : Int32) (h1 : ¬ x3 + 1 = 0) (hp : p < 1000) (hq : q < 1000) : ∀ (t : Nat) (w : Int32) (ht : t ≤ 100), J l nX8_worthTillFirst I v u 13 [(0, .ref 900), (1, .int (nI p)), (2, .int (nI q)), (3, .int x3), (4, .int w), (5, .int (nI t - 1))] [] (QI v u (fun a => a = sp_bo (yb8 x3) (fun t => v 906 (g10 (nI p + nI t))) (fun t => v 907 (g10 (nI q + nI t))) t w)) := by
  intro t
  induction t with
  | zero =>
    intro w ht
    refine J_iload dX8_worthTillFirst_13 5 rfl ?_
    refine J_if_lt (tgt := 65) dX8_worthTillFirst_15 (by decide) (fun c1 => ?_) (fun c1 => absurd dn_0 c1)
    refine J_iload dX8_worthTillFirst_65 4 rfl ?_
    exact J_iret dX8_worthTillFirst_67 rfl ⟨_, rfl, rfl, rfl, rfl⟩
  | succ s ih =>
    intro w ht
    rw [nI_pred]
    refine J_iload dX8_worthTillFirst_13 5 rfl ?_
    refine J_if_lt (tgt := 65) dX8_worthTillFirst_15 (by decide) (fun c1 => absurd c1 (nI_pos (by omega))) (fun c1 => ?_)
    refine J_aload_n dX8_worthTillFirst_18 rfl 0 rfl ?_
    refine J_getr (ci := 8) (j := 5) (t := 906) dX8_worthTillFirst_19 fl_X8_16 (i900 hI) rfl rfl rfl ?_
    refine J_iload_n dX8_worthTillFirst_22 rfl 1 rfl ?_
    refine J_iload dX8_worthTillFirst_23 5 rfl ?_
    refine J_iadd dX8_worthTillFirst_25 ?_
    refine J_eSIN (z := mX10_groupOf) (As := [.int ((nI p) + (nI s))]) (rest := [.ref 906]) (x := f_X10_groupOf v ((nI p) + (nI s))) dX8_worthTillFirst_26 (fun U h => h.2.2.2.2.2.2) ok_X10_groupOf iv_X10_groupOf (by decide) rfl rfl (Nat.le_of_ble_eq_true rfl) (k_X10_groupOf hI v u _) ?_
    refine J_iale (x := v 906 ((f_X10_groupOf v ((nI p) + (nI s))).toNatClampNeg)) dX8_worthTillFirst_29 (i906 hI) rfl (grp10_in v _) rfl ?_
    refine J_aload_n dX8_worthTillFirst_30 rfl 0 rfl ?_
    refine J_getr (ci := 8) (j := 6) (t := 907) dX8_worthTillFirst_31 fl_X8_20 (i900 hI) rfl rfl rfl ?_
    refine J_iload_n dX8_worthTillFirst_34 rfl 2 rfl ?_
    refine J_iload dX8_worthTillFirst_35 5 rfl ?_
    refine J_iadd dX8_worthTillFirst_37 ?_
    refine J_eSIN (z := mX10_groupOf) (As := [.int ((nI q) + (nI s))]) (rest := [.ref 907, .int (v 906 ((f_X10_groupOf v ((nI p) + (nI s))).toNatClampNeg))]) (x := f_X10_groupOf v ((nI q) + (nI s))) dX8_worthTillFirst_38 (fun U h => h.2.2.2.2.2.2) ok_X10_groupOf iv_X10_groupOf (by decide) rfl rfl (Nat.le_of_ble_eq_true rfl) (k_X10_groupOf hI v u _) ?_
    refine J_iale (x := v 907 ((f_X10_groupOf v ((nI q) + (nI s))).toNatClampNeg)) dX8_worthTillFirst_41 (i907 hI) rfl (grp10_in v _) rfl ?_
    refine J_imul dX8_worthTillFirst_42 ?_
    refine J_sipush (x := 1000) dX8_worthTillFirst_43 (by decide) ?_
    refine J_idiv dX8_worthTillFirst_46 (by decide) ?_
    refine J_istore (lv' := [(6, .int (((v 906 ((f_X10_groupOf v ((nI p) + (nI s))).toNatClampNeg)) * (v 907 ((f_X10_groupOf v ((nI q) + (nI s))).toNatClampNeg))) / 1000)), (0, .ref 900), (1, .int (nI p)), (2, .int (nI q)), (3, .int x3), (4, .int w), (5, .int (nI s))]) dX8_worthTillFirst_47 (by decide) rfl ?_
    refine J_iload dX8_worthTillFirst_49 5 rfl ?_
    refine J_iload dX8_worthTillFirst_51 0 rfl ?_
    refine J_iload_n dX8_worthTillFirst_53 rfl 4 rfl ?_
    refine J_eSI (z := mX8_yearBefore) (As := [.int w, .int (((v 906 ((f_X10_groupOf v ((nI p) + (nI s))).toNatClampNeg)) * (v 907 ((f_X10_groupOf v ((nI q) + (nI s))).toNatClampNeg))) / 1000), .int x3]) (rest := []) (x := f_X8_yearBefore v w (((v 906 ((f_X10_groupOf v ((nI p) + (nI s))).toNatClampNeg)) * (v 907 ((f_X10_groupOf v ((nI q) + (nI s))).toNatClampNeg))) / 1000) x3) dX8_worthTillFirst_54 ml_X8_99 ok_X8_yearBefore iv_X8_yearBefore (by decide) rfl rfl (Nat.le_of_ble_eq_true rfl) (k_X8_yearBefore hI v u w (((v 906 ((f_X10_groupOf v ((nI p) + (nI s))).toNatClampNeg)) * (v 907 ((f_X10_groupOf v ((nI q) + (nI s))).toNatClampNeg))) / 1000) x3 h1) ?_
    refine J_istore (lv' := [(4, .int (f_X8_yearBefore v w (((v 906 ((f_X10_groupOf v ((nI p) + (nI s))).toNatClampNeg)) * (v 907 ((f_X10_groupOf v ((nI q) + (nI s))).toNatClampNeg))) / 1000) x3)), (6, .int (((v 906 ((f_X10_groupOf v ((nI p) + (nI s))).toNatClampNeg)) * (v 907 ((f_X10_groupOf v ((nI q) + (nI s))).toNatClampNeg))) / 1000)), (0, .ref 900), (1, .int (nI p)), (2, .int (nI q)), (3, .int x3), (5, .int (nI s))]) dX8_worthTillFirst_57 (by decide) rfl ?_
    refine J_iinc (q := 6) (z := nI s - 1) (lv' := [(5, .int (nI s - 1)), (4, .int (f_X8_yearBefore v w (((v 906 ((f_X10_groupOf v ((nI p) + (nI s))).toNatClampNeg)) * (v 907 ((f_X10_groupOf v ((nI q) + (nI s))).toNatClampNeg))) / 1000) x3)), (6, .int (((v 906 ((f_X10_groupOf v ((nI p) + (nI s))).toNatClampNeg)) * (v 907 ((f_X10_groupOf v ((nI q) + (nI s))).toNatClampNeg))) / 1000)), (0, .ref 900), (1, .int (nI p)), (2, .int (nI q)), (3, .int x3)]) dX8_worthTillFirst_59 rfl (dn_1 s) (by decide) rfl ?_
    refine J_goto (tgt := 13) dX8_worthTillFirst_62 (by decide) ?_
    refine J_lv [3, 4, 5, 6, 1, 0] rfl ?_
    rw [sp_bo_s]
    exact ih _ (by omega)
theorem mx_N {p q : Nat} (hp : p < 1000) (hq : q < 1000) : (if nI p < nI q then nI q else nI p) = nI (max p q) := by
  by_cases h : nI p < nI q
  · rw [if_pos h, Nat.max_eq_right (Nat.le_of_lt (nz_lt (by omega) (by omega) h))]
  · rw [if_neg h, Nat.max_eq_left (nz_nlt (by omega) (by omega) h)]
theorem mx_B {m : Nat} (h : ¬ m ≤ 99) (h2 : m < 1000) : (99 : Int32) - nI m < 0 := pk_sneg (a := 99) (by omega) (by omega)
theorem k_X8_worthTillFirst {l : Launch} {I : List Nat} (hI : fr_I I) (v : fr_V) (u : fr_U) (p q : Nat) (x3 : Int32) (h1 : ¬ x3 + 1 = 0) (hp : p < 1000) (hq : q < 1000) : Con l nX8_worthTillFirst I v u [.ref 900, .int (nI p), .int (nI q), .int x3] (QI v u (fun a => a = sp_bo (yb8 x3) (fun t => v 906 (g10 (nI p + nI t))) (fun t => v 907 (g10 (nI q + nI t))) (100 - max p q) 0)) := by
  refine Con.of (by decide) (Nat.le_of_ble_eq_true rfl) ?_
  show J l nX8_worthTillFirst I v u 0 [(0, .ref 900), (1, .int (nI p)), (2, .int (nI q)), (3, .int x3)] [] _
  refine J_iconst (x := 0) dX8_worthTillFirst_0 (by decide) ?_
  refine J_istore (lv' := [(4, .int 0), (0, .ref 900), (1, .int (nI p)), (2, .int (nI q)), (3, .int x3)]) dX8_worthTillFirst_1 (by decide) rfl ?_
  refine J_bipush (x := 99) dX8_worthTillFirst_3 (by decide) ?_
  refine J_iload_n dX8_worthTillFirst_5 rfl 2 rfl ?_
  refine J_iload_n dX8_worthTillFirst_6 rfl 3 rfl ?_
  refine J_mmax dX8_worthTillFirst_7 ml_X8_73 (by decide) (Nat.le_of_ble_eq_true rfl) ?_
  refine J_isub dX8_worthTillFirst_10 ?_
  refine J_istore (lv' := [(5, .int (99 - (if (nI p) < (nI q) then (nI q) else (nI p)))), (4, .int 0), (0, .ref 900), (1, .int (nI p)), (2, .int (nI q)), (3, .int x3)]) dX8_worthTillFirst_11 (by decide) rfl ?_
  rw [mx_N hp hq]
  refine J_lv [2, 3, 4, 5, 1, 0] rfl ?_
  by_cases hm : max p q ≤ 99
  · rw [show (99 : Int32) - nI (max p q) = nI (100 - max p q) - 1 from by rw [show 100 - max p q = (99 - max p q) + 1 by omega, nI_pred]; exact pk_sub (a := 99) hm]
    exact bo8_L hI v u p q x3 h1 hp hq _ 0 (by omega)
  · refine J_iload dX8_worthTillFirst_13 5 rfl ?_
    refine J_if_lt (tgt := 65) dX8_worthTillFirst_15 (by decide) (fun c61 => ?_) (fun c61 => absurd (mx_B hm (by omega)) c61)
    refine J_iload dX8_worthTillFirst_65 4 rfl ?_
    exact J_iret dX8_worthTillFirst_67 rfl ⟨_, rfl, rfl, rfl, by rw [show 100 - max p q = 0 by omega]; rfl⟩
