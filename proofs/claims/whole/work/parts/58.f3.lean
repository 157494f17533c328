theorem sm3.lf {v z : fr_V} (h : sm3 v z) {n : Nat} (k : lf8 n v) : lf8 n z := by
  unfold lf8
  rw [h.1 500 (by omega) (by omega) (by omega) (by omega) (by omega), h.1 501 (by omega) (by omega) (by omega) (by omega) (by omega)]
  exact k
theorem sm3.ag {v z : fr_V} (h : sm3 v z) (x y : Int32) : f_X5_ageIn z x y = f_X5_ageIn v x y := by
  unfold f_X5_ageIn
  rw [h.1 501 (by omega) (by omega) (by omega) (by omega) (by omega)]
def f_own10 (v : fr_V) (N : Nat) (n : Nat) (x1 x2 x3 x4 : Int32) : Int32 × fr_V := if (f_X10_isClass v x1) = 0 then ((-1), v) else if (f_X10_isGroup v x2) = 0 then ((-1), v) else if (f_X10_isHalf v x3) = 0 then ((-1), v) else if x4 = 0 then ((w_cy (f_kw v N x3) (f_cy (f_kw v N x3) n x1 x2.toNatClampNeg x3)) 900 3, (w_cy (f_kw v N x3) (f_cy (f_kw v N x3) n x1 x2.toNatClampNeg x3))) else if x4 = 1 then ((w_cy (f_kw v N x3) (f_cy (f_kw v N x3) n x1 x2.toNatClampNeg x3)) 900 4, (w_cy (f_kw v N x3) (f_cy (f_kw v N x3) n x1 x2.toNatClampNeg x3))) else if x4 = 2 then (f_live (f_kw v N x3) n x1.toNatClampNeg x2.toNatClampNeg x3 1, (w_live (f_kw v N x3) n x1.toNatClampNeg x2.toNatClampNeg x3 1)) else if x4 = 3 then (f_live (f_kw v N x3) n x1.toNatClampNeg x2.toNatClampNeg x3 2, (w_live (f_kw v N x3) n x1.toNatClampNeg x2.toNatClampNeg x3 2)) else if x4 = 4 then (f_live (f_kw v N x3) n x1.toNatClampNeg x2.toNatClampNeg x3 3, (w_live (f_kw v N x3) n x1.toNatClampNeg x2.toNatClampNeg x3 3)) else ((-1), (f_kw v N x3))
theorem k_X10_own {l : Launch} {I : List Nat} (hI : fr_I I) (v : fr_V) (u : fr_U) (N : Nat) (n : Nat) (x1 x2 x3 x4 : Int32) (hN : v 100 5 = nI N) (hW : nt_ok (v 102) (v 103) N) (hl : lf8 n v) : Con l mX10_own I v u [.ref 1000, .int x1, .int x2, .int x3, .int x4] (QX u (fun a b => a = (f_own10 v N n x1 x2 x3 x4).1 ∧ b = (f_own10 v N n x1 x2 x3 x4).2)) := by
  refine Con.of (by decide) (Nat.le_of_ble_eq_true rfl) ?_
  show J l mX10_own I v u 0 [(0, .ref 1000), (1, .int x1), (2, .int x2), (3, .int x3), (4, .int x4)] [] _
  refine J_iload_n dX10_own_0 rfl 1 rfl ?_
  refine J_eSI (z := mX10_isClass) (As := [.int x1]) (rest := []) (x := f_X10_isClass v x1) dX10_own_1 ml_X10_95 ok_X10_isClass iv_X10_isClass (by decide) rfl rfl (Nat.le_of_ble_eq_true rfl) (k_X10_isClass hI v u x1) ?_
  refine J_if_eq (tgt := 21) dX10_own_4 (by decide) (fun c1 => ?_) (fun c1 => ?_)
  · refine J_iconst (x := (-1)) dX10_own_21 (by decide) ?_
    exact J_iret dX10_own_22 rfl ⟨_, rfl, rfl, by unfold f_own10; rw [if_pos c1], by unfold f_own10; rw [if_pos c1]⟩
  · refine J_iload_n dX10_own_7 rfl 2 rfl ?_
    refine J_eSI (z := mX10_isGroup) (As := [.int x2]) (rest := []) (x := f_X10_isGroup v x2) dX10_own_8 ml_X10_203 ok_X10_isGroup iv_X10_isGroup (by decide) rfl rfl (Nat.le_of_ble_eq_true rfl) (k_X10_isGroup hI v u x2) ?_
    refine J_if_eq (tgt := 21) dX10_own_11 (by decide) (fun c2 => ?_) (fun c2 => ?_)
    · refine J_iconst (x := (-1)) dX10_own_21 (by decide) ?_
      exact J_iret dX10_own_22 rfl ⟨_, rfl, rfl, by unfold f_own10; rw [if_neg c1, if_pos c2], by unfold f_own10; rw [if_neg c1, if_pos c2]⟩
    · refine J_iload_n dX10_own_14 rfl 3 rfl ?_
      refine J_eSI (z := mX10_isHalf) (As := [.int x3]) (rest := []) (x := f_X10_isHalf v x3) dX10_own_15 ml_X10_141 ok_X10_isHalf iv_X10_isHalf (by decide) rfl rfl (Nat.le_of_ble_eq_true rfl) (k_X10_isHalf hI v u x3) ?_
      refine J_if_ne (tgt := 23) dX10_own_18 (by decide) (fun c3 => ?_) (fun c3 => ?_)
      · obtain ⟨c, hc, rfl⟩ := clsN c1
        obtain ⟨g, hg, rfl⟩ := grpN c2
        obtain ⟨k, hk, rfl⟩ := halfN c3
        refine J_aload_n dX10_own_23 rfl 0 rfl ?_
        refine J_getr (ci := 10) (j := 5) (t := 100) dX10_own_24 fl_X10_38 (i1000 hI) rfl rfl rfl ?_
        refine J_iload_n dX10_own_27 rfl 3 rfl ?_
        refine J_eVN (z := mX1_know) (As := [.int (nI k)]) (rest := []) (ci := 1) (w := (f_kw v N (nI k))) dX10_own_28 ml_X10_149 ok_X1_know iv_X1_know (by decide) (i100 hI) rfl rfl rfl rfl (Nat.le_of_ble_eq_true rfl) (k_X1_know hI v u (nI k) N hN hW) ?_
        refine J_iload dX10_own_31 4 rfl ?_
        by_cases c4 : x4 = 0
        · refine J_tableIn (off := 35) (tgt := 68) dX10_own_33 (by rw [c4]; decide) (by rw [c4]; decide) (by rw [c4]; decide) (by decide) ?_
          refine J_aload_n dX10_own_68 rfl 0 rfl ?_
          refine J_getr (ci := 10) (j := 7) (t := 900) dX10_own_69 fl_X10_56 (i1000 hI) rfl rfl rfl ?_
          refine J_iload_n dX10_own_72 rfl 1 rfl ?_
          refine J_iload_n dX10_own_73 rfl 2 rfl ?_
          refine J_iload_n dX10_own_74 rfl 3 rfl ?_
          refine J_eVN (z := mX8_countYears) (As := [.int (nI c), .int (nI g), .int (nI k)]) (rest := []) (ci := 8) (w := (w_cy (f_kw v N (nI k)) (f_cy (f_kw v N (nI k)) n (nI c) g (nI k)))) dX10_own_75 ml_X10_210 ok_X8_countYears iv_X8_countYears (by decide) (i900 hI) rfl rfl rfl rfl (Nat.le_of_ble_eq_true rfl) (k_X8_countYears hI (f_kw v N (nI k)) u (nI c) g k n (by omega) (by omega) (sm3.kw.lf hl)) ?_
          refine J_aload_n dX10_own_78 rfl 0 rfl ?_
          refine J_getr (ci := 10) (j := 7) (t := 900) dX10_own_79 fl_X10_56 (i1000 hI) rfl rfl rfl ?_
          refine J_gete (ci := 8) (j := 3) (x := (w_cy (f_kw v N (nI k)) (f_cy (f_kw v N (nI k)) n (nI c) g (nI k))) 900 3) dX10_own_82 fl_X10_214 (i900 hI) rfl rfl rfl ?_
          exact J_iret dX10_own_85 rfl ⟨_, rfl, rfl, by unfold f_own10; try simp only [nI_clamp (show c < 2 ^ 31 by omega), nI_clamp (show g < 2 ^ 31 by omega), nI_clamp (show k < 2 ^ 31 by omega)]; rw [if_neg c1, if_neg c2, if_neg c3, if_pos c4], by unfold f_own10; try simp only [nI_clamp (show c < 2 ^ 31 by omega), nI_clamp (show g < 2 ^ 31 by omega), nI_clamp (show k < 2 ^ 31 by omega)]; rw [if_neg c1, if_neg c2, if_neg c3, if_pos c4]⟩
        by_cases c5 : x4 = 1
        · refine J_tableIn (off := 53) (tgt := 86) dX10_own_33 (by rw [c5]; decide) (by rw [c5]; decide) (by rw [c5]; decide) (by decide) ?_
          refine J_aload_n dX10_own_86 rfl 0 rfl ?_
          refine J_getr (ci := 10) (j := 7) (t := 900) dX10_own_87 fl_X10_56 (i1000 hI) rfl rfl rfl ?_
          refine J_iload_n dX10_own_90 rfl 1 rfl ?_
          refine J_iload_n dX10_own_91 rfl 2 rfl ?_
          refine J_iload_n dX10_own_92 rfl 3 rfl ?_
          refine J_eVN (z := mX8_countYears) (As := [.int (nI c), .int (nI g), .int (nI k)]) (rest := []) (ci := 8) (w := (w_cy (f_kw v N (nI k)) (f_cy (f_kw v N (nI k)) n (nI c) g (nI k)))) dX10_own_93 ml_X10_210 ok_X8_countYears iv_X8_countYears (by decide) (i900 hI) rfl rfl rfl rfl (Nat.le_of_ble_eq_true rfl) (k_X8_countYears hI (f_kw v N (nI k)) u (nI c) g k n (by omega) (by omega) (sm3.kw.lf hl)) ?_
          refine J_aload_n dX10_own_96 rfl 0 rfl ?_
          refine J_getr (ci := 10) (j := 7) (t := 900) dX10_own_97 fl_X10_56 (i1000 hI) rfl rfl rfl ?_
          refine J_gete (ci := 8) (j := 4) (x := (w_cy (f_kw v N (nI k)) (f_cy (f_kw v N (nI k)) n (nI c) g (nI k))) 900 4) dX10_own_100 fl_X10_217 (i900 hI) rfl rfl rfl ?_
          exact J_iret dX10_own_103 rfl ⟨_, rfl, rfl, by unfold f_own10; try simp only [nI_clamp (show c < 2 ^ 31 by omega), nI_clamp (show g < 2 ^ 31 by omega), nI_clamp (show k < 2 ^ 31 by omega)]; rw [if_neg c1, if_neg c2, if_neg c3, if_neg c4, if_pos c5], by unfold f_own10; try simp only [nI_clamp (show c < 2 ^ 31 by omega), nI_clamp (show g < 2 ^ 31 by omega), nI_clamp (show k < 2 ^ 31 by omega)]; rw [if_neg c1, if_neg c2, if_neg c3, if_neg c4, if_pos c5]⟩
        by_cases c6 : x4 = 2
        · refine J_tableIn (off := 71) (tgt := 104) dX10_own_33 (by rw [c6]; decide) (by rw [c6]; decide) (by rw [c6]; decide) (by decide) ?_
          refine J_aload_n dX10_own_104 rfl 0 rfl ?_
          refine J_getr (ci := 10) (j := 7) (t := 900) dX10_own_105 fl_X10_56 (i1000 hI) rfl rfl rfl ?_
          refine J_iload_n dX10_own_108 rfl 1 rfl ?_
          refine J_iload_n dX10_own_109 rfl 2 rfl ?_
          refine J_iload_n dX10_own_110 rfl 3 rfl ?_
          refine J_iconst (x := 1) dX10_own_111 (by decide) ?_
          refine J_eVX (z := mX8_live) (As := [.int (nI c), .int (nI g), .int (nI k), .int 1]) (rest := []) (ci := 8) (x := f_live (f_kw v N (nI k)) n c g (nI k) 1) (w := (w_live (f_kw v N (nI k)) n c g (nI k) 1)) dX10_own_112 ml_X10_220 ok_X8_live iv_X8_live (by decide) (i900 hI) rfl rfl rfl rfl (Nat.le_of_ble_eq_true rfl) (k_X8_live hI (f_kw v N (nI k)) u n c g k 1 (by omega) (by omega) (by omega) (sm3.kw.lf hl)) ?_
          exact J_iret dX10_own_115 rfl ⟨_, rfl, rfl, by unfold f_own10; try simp only [nI_clamp (show c < 2 ^ 31 by omega), nI_clamp (show g < 2 ^ 31 by omega), nI_clamp (show k < 2 ^ 31 by omega)]; rw [if_neg c1, if_neg c2, if_neg c3, if_neg c4, if_neg c5, if_pos c6], by unfold f_own10; try simp only [nI_clamp (show c < 2 ^ 31 by omega), nI_clamp (show g < 2 ^ 31 by omega), nI_clamp (show k < 2 ^ 31 by omega)]; rw [if_neg c1, if_neg c2, if_neg c3, if_neg c4, if_neg c5, if_pos c6]⟩
        by_cases c7 : x4 = 3
        · refine J_tableIn (off := 83) (tgt := 116) dX10_own_33 (by rw [c7]; decide) (by rw [c7]; decide) (by rw [c7]; decide) (by decide) ?_
          refine J_aload_n dX10_own_116 rfl 0 rfl ?_
          refine J_getr (ci := 10) (j := 7) (t := 900) dX10_own_117 fl_X10_56 (i1000 hI) rfl rfl rfl ?_
          refine J_iload_n dX10_own_120 rfl 1 rfl ?_
          refine J_iload_n dX10_own_121 rfl 2 rfl ?_
          refine J_iload_n dX10_own_122 rfl 3 rfl ?_
          refine J_iconst (x := 2) dX10_own_123 (by decide) ?_
          refine J_eVX (z := mX8_live) (As := [.int (nI c), .int (nI g), .int (nI k), .int 2]) (rest := []) (ci := 8) (x := f_live (f_kw v N (nI k)) n c g (nI k) 2) (w := (w_live (f_kw v N (nI k)) n c g (nI k) 2)) dX10_own_124 ml_X10_220 ok_X8_live iv_X8_live (by decide) (i900 hI) rfl rfl rfl rfl (Nat.le_of_ble_eq_true rfl) (k_X8_live hI (f_kw v N (nI k)) u n c g k 2 (by omega) (by omega) (by omega) (sm3.kw.lf hl)) ?_
          exact J_iret dX10_own_127 rfl ⟨_, rfl, rfl, by unfold f_own10; try simp only [nI_clamp (show c < 2 ^ 31 by omega), nI_clamp (show g < 2 ^ 31 by omega), nI_clamp (show k < 2 ^ 31 by omega)]; rw [if_neg c1, if_neg c2, if_neg c3, if_neg c4, if_neg c5, if_neg c6, if_pos c7], by unfold f_own10; try simp only [nI_clamp (show c < 2 ^ 31 by omega), nI_clamp (show g < 2 ^ 31 by omega), nI_clamp (show k < 2 ^ 31 by omega)]; rw [if_neg c1, if_neg c2, if_neg c3, if_neg c4, if_neg c5, if_neg c6, if_pos c7]⟩
        by_cases c8 : x4 = 4
        · refine J_tableIn (off := 95) (tgt := 128) dX10_own_33 (by rw [c8]; decide) (by rw [c8]; decide) (by rw [c8]; decide) (by decide) ?_
          refine J_aload_n dX10_own_128 rfl 0 rfl ?_
          refine J_getr (ci := 10) (j := 7) (t := 900) dX10_own_129 fl_X10_56 (i1000 hI) rfl rfl rfl ?_
          refine J_iload_n dX10_own_132 rfl 1 rfl ?_
          refine J_iload_n dX10_own_133 rfl 2 rfl ?_
          refine J_iload_n dX10_own_134 rfl 3 rfl ?_
          refine J_iconst (x := 3) dX10_own_135 (by decide) ?_
          refine J_eVX (z := mX8_live) (As := [.int (nI c), .int (nI g), .int (nI k), .int 3]) (rest := []) (ci := 8) (x := f_live (f_kw v N (nI k)) n c g (nI k) 3) (w := (w_live (f_kw v N (nI k)) n c g (nI k) 3)) dX10_own_136 ml_X10_220 ok_X8_live iv_X8_live (by decide) (i900 hI) rfl rfl rfl rfl (Nat.le_of_ble_eq_true rfl) (k_X8_live hI (f_kw v N (nI k)) u n c g k 3 (by omega) (by omega) (by omega) (sm3.kw.lf hl)) ?_
          exact J_iret dX10_own_139 rfl ⟨_, rfl, rfl, by unfold f_own10; try simp only [nI_clamp (show c < 2 ^ 31 by omega), nI_clamp (show g < 2 ^ 31 by omega), nI_clamp (show k < 2 ^ 31 by omega)]; rw [if_neg c1, if_neg c2, if_neg c3, if_neg c4, if_neg c5, if_neg c6, if_neg c7, if_pos c8], by unfold f_own10; try simp only [nI_clamp (show c < 2 ^ 31 by omega), nI_clamp (show g < 2 ^ 31 by omega), nI_clamp (show k < 2 ^ 31 by omega)]; rw [if_neg c1, if_neg c2, if_neg c3, if_neg c4, if_neg c5, if_neg c6, if_neg c7, if_pos c8]⟩
        refine J_tableOut (tgt := 140) dX10_own_33 (sw_no 4 (by omega) (fun k hk => by match k, hk with | 0, _ => exact c4 | 1, _ => exact c5 | 2, _ => exact c6 | 3, _ => exact c7 | 4, _ => exact c8 | k + 5, hk => omega)) (by decide) ?_
        refine J_iconst (x := (-1)) dX10_own_140 (by decide) ?_
        exact J_iret dX10_own_141 rfl ⟨_, rfl, rfl, by unfold f_own10; try simp only [nI_clamp (show c < 2 ^ 31 by omega), nI_clamp (show g < 2 ^ 31 by omega), nI_clamp (show k < 2 ^ 31 by omega)]; rw [if_neg c1, if_neg c2, if_neg c3, if_neg c4, if_neg c5, if_neg c6, if_neg c7, if_neg c8], by unfold f_own10; try simp only [nI_clamp (show c < 2 ^ 31 by omega), nI_clamp (show g < 2 ^ 31 by omega), nI_clamp (show k < 2 ^ 31 by omega)]; rw [if_neg c1, if_neg c2, if_neg c3, if_neg c4, if_neg c5, if_neg c6, if_neg c7, if_neg c8]⟩
      · refine J_iconst (x := (-1)) dX10_own_21 (by decide) ?_
        exact J_iret dX10_own_22 rfl ⟨_, rfl, rfl, by unfold f_own10; rw [if_neg c1, if_neg c2, if_pos c3], by unfold f_own10; rw [if_neg c1, if_neg c2, if_pos c3]⟩
/-- the life with that number: its class and its age now -/
def clOf (v : fr_V) (x : Int32) : Nat := (v 502 x.toNatClampNeg).toNatClampNeg
def agOf (v : fr_V) (x y : Int32) : Nat := (f_X5_ageIn v x y).toNatClampNeg
def lvOK (v : fr_V) (w : Nat) (x : Int32) : Prop := vp_in x 12 ∧ (∃ c, c < 4 ∧ v 502 x.toNatClampNeg = nI c) ∧ ∃ p, p < 1000 ∧ f_X5_ageIn v x (nI w) = nI p
def f_wn (v : fr_V) (ac N n w : Nat) (x1 x2 x3 : Int32) : Int32 := f_w8 (f_kw v N (nI w)) n (clOf v x1) (clOf v x2) w x2 x3 (f_set v ac 2) (agOf v x1 (nI w)) (if x2 = (-1) then 0 else agOf v x2 (nI w))
theorem sm3.lv {v z : fr_V} (h : sm3 v z) {w : Nat} {x : Int32} (k : lvOK v w x) : lvOK z w x := by
  unfold lvOK
  rw [h.1 502 (by omega) (by omega) (by omega) (by omega) (by omega), h.ag]
  exact k
theorem k_X10_worthNow {l : Launch} {I : List Nat} (hI : fr_I I) (v : fr_V) (u : fr_U) (ac N n w : Nat) (x1 x2 x3 : Int32) (hac : ac = 10 ∨ ac = 20) (ha : v 1000 1 = nI ac) (hw : v 1000 3 = nI w) (hw8 : w < 80) (hN : v 100 5 = nI N) (hW : nt_ok (v 102) (v 103) N) (hl : lf8 n v) (hr : ¬ f_set v ac 2 + 1 = 0) (h1 : lvOK v w x1) (h2 : ¬ x2 = (-1) → lvOK v w x2) : Con l mX10_worthNow I v u [.ref 1000, .int x1, .int x2, .int x3] (QX u (fun a b => a = f_wn v ac N n w x1 x2 x3 ∧ fw2 (f_kw v N (nI w)) b)) := by
  refine Con.of (by decide) (Nat.le_of_ble_eq_true rfl) ?_
  show J l mX10_worthNow I v u 0 [(0, .ref 1000), (1, .int x1), (2, .int x2), (3, .int x3)] [] _
  have i1 := sm3.kw (v := v) (N := N) (x := nI w) |>.lv h1
  have i2 := fun q => (sm3.kw (v := v) (N := N) (x := nI w)).lv (h2 q)
  obtain ⟨_, ⟨ca, hca, e1⟩, ⟨p, hp, e2⟩⟩ := i1
  have i1 := (sm3.kw (v := v) (N := N) (x := nI w)).lv h1
  have d1 : clOf v x1 = ca := by unfold clOf; rw [← (sm3.kw (v := v) (N := N) (x := nI w)).1 502 (by omega) (by omega) (by omega) (by omega) (by omega), e1, nI_clamp (by omega)]
  have d2 : agOf v x1 (nI w) = p := by unfold agOf; rw [← sm3.ag (z := f_kw v N (nI w)) sm3.kw, e2, nI_clamp (by omega)]
  have fact : ¬ x2 = (-1) → clOf v x2 < 4 ∧ (f_kw v N (nI w)) 502 x2.toNatClampNeg = nI (clOf v x2) ∧ f_X5_ageIn (f_kw v N (nI w)) x2 (nI w) = nI (if x2 = (-1) then 0 else agOf v x2 (nI w)) ∧ agOf v x2 (nI w) < 1000 := by
    intro q
    obtain ⟨_, ⟨cb, hcb, f1⟩, ⟨p2, hp2, f2⟩⟩ := h2 q
    have g1 : clOf v x2 = cb := by unfold clOf; rw [f1, nI_clamp (by omega)]
    have g2 : agOf v x2 (nI w) = p2 := by unfold agOf; rw [f2, nI_clamp (by omega)]
    rw [if_neg q, sm3.ag sm3.kw, sm3.kw.1 502 (by omega) (by omega) (by omega) (by omega) (by omega), g1, g2, f1, f2]
    exact ⟨hcb, rfl, rfl, hp2⟩
  have hqq : (if x2 = (-1) then 0 else agOf v x2 (nI w)) < 1000 := by
    by_cases q : x2 = (-1)
    · rw [if_pos q]; omega
    · rw [if_neg q]; exact (fact q).2.2.2
  refine J_aload_n dX10_worthNow_0 rfl 0 rfl ?_
  refine J_getr (ci := 10) (j := 5) (t := 100) dX10_worthNow_1 fl_X10_38 (i1000 hI) rfl rfl rfl ?_
  refine J_aload_n dX10_worthNow_4 rfl 0 rfl ?_
  refine J_gete (ci := 10) (j := 3) (x := nI w) dX10_worthNow_5 fl_X10_92 (i1000 hI) rfl rfl hw ?_
  refine J_eVN (z := mX1_know) (As := [.int (nI w)]) (rest := []) (ci := 1) (w := (f_kw v N (nI w))) dX10_worthNow_8 ml_X10_149 ok_X1_know iv_X1_know (by decide) (i100 hI) rfl rfl rfl rfl (Nat.le_of_ble_eq_true rfl) (k_X1_know hI v u (nI w) N hN hW) ?_
  refine J_aload_n dX10_worthNow_11 rfl 0 rfl ?_
  refine J_getr (ci := 10) (j := 7) (t := 900) dX10_worthNow_12 fl_X10_56 (i1000 hI) rfl rfl rfl ?_
  refine J_iload_n dX10_worthNow_15 rfl 1 rfl ?_
  refine J_iload_n dX10_worthNow_16 rfl 2 rfl ?_
  refine J_aload_n dX10_worthNow_17 rfl 0 rfl ?_
  refine J_gete (ci := 10) (j := 3) (x := nI w) dX10_worthNow_18 fl_X10_92 (i1000 hI) rfl rfl ((congrFun (sm3.kw.1 1000 (by omega) (by omega) (by omega) (by omega) (by omega)) 3).trans hw) ?_
  refine J_iload_n dX10_worthNow_21 rfl 3 rfl ?_
  refine J_aload_n dX10_worthNow_22 rfl 0 rfl ?_
  refine J_getd (ci := 10) (j := 1) (t := ac) dX10_worthNow_23 fl_X10_19 (i1000 hI) rfl rfl (by rw [show (f_kw v N (nI w)) 1000 1 = nI ac from ((congrFun (sm3.kw.1 1000 (by omega) (by omega) (by omega) (by omega) (by omega)) 1).trans ha)]; exact nI_pos (by omega)) (by rw [show (f_kw v N (nI w)) 1000 1 = nI ac from ((congrFun (sm3.kw.1 1000 (by omega) (by omega) (by omega) (by omega) (by omega)) 1).trans ha)]; exact nI_clamp (by omega)) ?_
  refine J_iconst (x := 2) dX10_worthNow_26 (by decide) ?_
  refine J_eVI (z := mX0_setting) (As := [.int 2]) (rest := [.int x3, .int (nI w), .int x2, .int x1, .ref 900]) (ci := 0) (x := f_set v ac 2) dX10_worthNow_27 ml_X10_177 ok_X0_setting iv_X0_setting (by decide) (i_ac hI hac) (s_ac hac) rfl rfl rfl (Nat.le_of_ble_eq_true rfl) ((sm3.kw.set hac 2 ▸ k_X0_setting hI (f_kw v N (nI w)) u hac 2 (by omega))) ?_
  refine J_cVX (z := mX8_worthOf) (As := [.int x1, .int x2, .int (nI w), .int x3, .int (f_set v ac 2)]) (rest := []) (ci := 8) dX10_worthNow_30 ml_X10_340 ok_X8_worthOf iv_X8_worthOf (by decide) (i900 hI) rfl rfl rfl rfl (Nat.le_of_ble_eq_true rfl) ((k_X8_worthOf hI (f_kw v N (nI w)) u n ca (clOf v x2) w p (if x2 = (-1) then 0 else agOf v x2 (nI w)) x1 x2 x3 (f_set v ac 2) hw8 (sm3.kw.lf hl) hr i1.1 hca e1 e2 hp (fun q => (i2 q).1) (fun q => (fact q).1) (fun q => (fact q).2.1) (fun q => (fact q).2.2.1) hqq)) (fun b y hy => ?_)
  exact J_iret dX10_worthNow_33 rfl ⟨_, rfl, rfl, by unfold f_wn; rw [d1, d2]; exact hy.1, hy.2⟩
