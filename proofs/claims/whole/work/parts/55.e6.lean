def f_clr (v : fr_V) (ac : Nat) : fr_V := upA (up2 v ac 1 0) (ac + 3) (fl (-1) (v (ac + 3)) 4)
theorem k_X0_clear {l : Launch} {I : List Nat} (hI : fr_I I) (v : fr_V) (u : fr_U) {ac : Nat} (hac : ac = 10 ∨ ac = 20) : Con l mX0_clear I v u [.ref ac] (QN u (fun a => a = f_clr v ac)) := by
  rcases hac with rfl | rfl
  · exact k_X0_clear10 hI v u
  · exact k_X0_clear20 hI v u
theorem kwF_v {W : Nat → Int32} {a b : Nat} : ∀ n, kwF W a b (-1) n = (-1) ∨ ∃ w, w < n ∧ kwF W a b (-1) n = nI (3000 + w) := by
  intro n
  induction n with
  | zero => exact Or.inl rfl
  | succ n ih =>
    by_cases h : wm W a b n
    · exact Or.inr ⟨n, by omega, kwF_p h⟩
    · rw [kwF_n h]
      rcases ih with h | ⟨w, h1, h2⟩
      · exact Or.inl h
      · exact Or.inr ⟨w, by omega, h2⟩
def woGood (y : fr_V) : Prop := (woOf y = none → y 600 13 = (-1)) ∧ ∀ w, woOf y = some w → w < 15 ∧ y 600 13 = nI (3000 + w)
theorem wo_n {y : fr_V} (h : y 600 13 = (-1)) : woGood y := by
  have e : woOf y = none := by unfold woOf; rw [h]; rfl
  exact ⟨fun _ => h, fun w q => by rw [e] at q; cases q⟩
theorem wo_s {y : fr_V} {w : Nat} (hw : w < 15) (h : y 600 13 = nI (3000 + w)) : woGood y := by
  have e : woOf y = some w := by
    unfold woOf
    rw [h, if_neg (nI_pos (by omega)), nI_clamp (by omega), show 3000 + w - 3000 = w by omega]
  refine ⟨fun q => ?_, fun w' q => ?_⟩
  · rw [e] at q; cases q
  · rw [e] at q; cases q; exact ⟨hw, h⟩
def tkOK (ac E q : Nat) (z y : fr_V) : Prop := rd6 ac E y ∧ woGood y ∧ (∃ b, q < b ∧ b ≤ E ∧ y 600 10 = nI b) ∧ y 600 9 = nI q ∧ (∀ c, c ≠ 600 → y c = z c) ∧ ∀ j, (j < 10 ∨ 13 < j) → y 600 j = z 600 j
theorem tk_b {ac E q b : Nat} {z : fr_V} {x11 x12 x13 : Int32} {y : fr_V} (hac : ac = 10 ∨ ac = 20) (h : rd6 ac E z) (hq : z 600 9 = nI q) (hb : q < b) (hbE : b ≤ E) (e0 : ∀ c, c ≠ 600 → y c = z c) (e10 : y 600 10 = nI b) (ej : ∀ j, (j < 10 ∨ 13 < j) → y 600 j = z 600 j) (hw : woGood y) : tkOK ac E q z y := by
  obtain ⟨a1, a2, a3, a4, a5⟩ := h
  exact ⟨⟨by rw [ej 3 (by omega)]; exact a1, by rw [ej 2 (by omega)]; exact a2, by rw [e0 ac (by omega)]; exact a3, by rw [ej 7 (by omega)]; exact a4, by rw [ej 6 (by omega)]; exact a5⟩, hw, ⟨b, hb, hbE, e10⟩, by rw [ej 9 (by omega)]; exact hq, e0, ej⟩
theorem tt_ok {ac E q : Nat} {z : fr_V} (hac : ac = 10 ∨ ac = 20) (h : rd6 ac E z) (hq : z 600 9 = nI q) (hqE : q < E) : tkOK ac E q z (f_tt z E q) := by
  unfold f_tt
  have ne : ∀ (w : fr_V) (j i : Nat) (x : Int32), i ≠ j → up2 w 600 j x 600 i = w 600 i := fun w j i x hi => by rw [up2_self, pk_un hi]
  by_cases h1 : isLt (z 601) q
  · rw [if_pos h1]
    unfold f_tw
    have hs := sc_le (isLt (z 601)) E (E - (q + 1)) (by omega)
    refine tk_b (x11 := 0) (x12 := 0) (x13 := 0) (b := sc (isLt (z 601)) E (E - (q + 1))) hac h hq (by omega) (by omega) (fun c hc => ?_) (by rw [ne _ 13 10 _ (by omega), up2_self, pk_us]; rfl) (fun j hj => ?_) ?_
    · rw [up2_ne hc, up2_ne hc, up2_ne hc, up2_ne hc, up2_ne hc, up2_ne hc]
    · rw [ne _ 13 j _ (by omega), ne _ 10 j _ (by omega), ne _ 11 j _ (by omega), ne _ 12 j _ (by omega), ne _ 13 j _ (by omega), ne _ 10 j _ (by omega)]
    · rcases kwF_v (W := z 601) (a := q) (b := sc (isLt (z 601)) E (E - (q + 1))) 15 with e | ⟨w, hw, e⟩
      · exact wo_n (by rw [up2_self, pk_us]; exact e)
      · exact wo_s hw (by rw [up2_self, pk_us]; exact e)
  · rw [if_neg h1]
    by_cases h2 : isDg (z 601) q
    · rw [if_pos h2]
      unfold f_tn
      have hs := sc_le (isDg (z 601)) E (E - (q + 1)) (by omega)
      refine tk_b (x11 := 0) (x12 := 0) (x13 := 0) (b := sc (isDg (z 601)) E (E - (q + 1))) hac h hq (by omega) (by omega) (fun c hc => ?_) (by rw [up2_self, pk_us]; rfl) (fun j hj => ?_) ?_
      · rw [up2_ne hc, up2_ne hc, up2_ne hc, up2_ne hc, up2_ne hc, up2_ne hc]
      · rw [ne _ 10 j _ (by omega), ne _ 12 j _ (by omega), ne _ 11 j _ (by omega), ne _ 12 j _ (by omega), ne _ 13 j _ (by omega), ne _ 10 j _ (by omega)]
      · exact wo_n (by rw [ne _ 10 13 _ (by omega), ne _ 12 13 _ (by omega), ne _ 11 13 _ (by omega), ne _ 12 13 _ (by omega), up2_self, pk_us])
    · rw [if_neg h2]
      refine tk_b (x11 := 0) (x12 := 0) (x13 := 0) (b := q + 1) hac h hq (by omega) (by omega) (fun c hc => ?_) (by rw [ne _ 11 10 _ (by omega), ne _ 12 10 _ (by omega), ne _ 13 10 _ (by omega), up2_self, pk_us]) (fun j hj => ?_) ?_
      · rw [up2_ne hc, up2_ne hc, up2_ne hc, up2_ne hc]
      · rw [ne _ 11 j _ (by omega), ne _ 12 j _ (by omega), ne _ 13 j _ (by omega), ne _ 10 j _ (by omega)]
      · exact wo_n (by rw [ne _ 11 13 _ (by omega), ne _ 12 13 _ (by omega), up2_self, pk_us])
noncomputable def rd_t (ac E : Nat) (z : fr_V) : fr_V :=
  if (f_put6 (f_tt z E (z 600 9).toNatClampNeg) ac).1 = 0 then f_skip (up2 (f_put6 (f_tt z E (z 600 9).toNatClampNeg) ac).2 600 14 (f_put6 (f_tt z E (z 600 9).toNatClampNeg) ac).1) E (f_tt z E (z 600 9).toNatClampNeg 600 10).toNatClampNeg
  else up2 (f_put6 (f_tt z E (z 600 9).toNatClampNeg) ac).2 600 14 (f_put6 (f_tt z E (z 600 9).toNatClampNeg) ac).1
noncomputable def rdF (ac E : Nat) : Nat → fr_V → fr_V
  | 0, z => z
  | d + 1, z => if nI E ≤ z 600 9 then z else if z 600 14 = 0 then rdF ac E d (rd_t ac E z) else z
theorem rdF_s (ac E d : Nat) (z : fr_V) : rdF ac E (d + 1) z = if nI E ≤ z 600 9 then z else if z 600 14 = 0 then rdF ac E d (rd_t ac E z) else z := rfl
def rl6 (ac E : Nat) (z : fr_V) : Prop := rd6 ac E z ∧ ∃ q, q ≤ E ∧ z 600 9 = nI q
theorem rd6.u {ac E : Nat} {z : fr_V} (hac : ac = 10 ∨ ac = 20) (h : rd6 ac E z) {j : Nat} {x : Int32} (hj : j ≠ 2 ∧ j ≠ 3 ∧ j ≠ 6 ∧ j ≠ 7) : rd6 ac E (up2 z 600 j x) := by
  obtain ⟨a1, a2, a3, a4, a5⟩ := h
  have e : ∀ i, i ≠ j → up2 z 600 j x 600 i = z 600 i := fun i hi => by rw [up2_self, pk_un hi]
  exact ⟨by rw [e 3 (by omega)]; exact a1, by rw [e 2 (by omega)]; exact a2, by rw [up2_ne (by omega)]; exact a3, by rw [e 7 (by omega)]; exact a4, by rw [e 6 (by omega)]; exact a5⟩
/-- a turn of the reader's loop, its parts by name -/
theorem rd_turn {ac E q : Nat} {z y : fr_V} (hac : ac = 10 ∨ ac = 20) (hE : E ≤ 500) (hy : tkOK ac E q z y) : (∃ b, q < b ∧ b ≤ E ∧ y 600 10 = nI b ∧ (up2 (f_put6 y ac).2 600 14 (f_put6 y ac).1) 600 10 = nI b) ∧ rd6 ac E (up2 (f_put6 y ac).2 600 14 (f_put6 y ac).1) ∧ (up2 (f_put6 y ac).2 600 14 (f_put6 y ac).1) 600 9 = nI q ∧ (up2 (f_put6 y ac).2 600 14 (f_put6 y ac).1) 600 2 = nI E := by
  obtain ⟨k1, k2, ⟨b, b1, b2, b3⟩, k4, k5, k6⟩ := hy
  have hp := put6_pp k1 hac (fun w hw => (k2.2 w hw).1)
  have ne : ∀ (w : fr_V) (j i : Nat) (x : Int32), i ≠ j → up2 w 600 j x 600 i = w 600 i := fun w j i x hi => by rw [up2_self, pk_un hi]
  refine ⟨⟨b, b1, b2, b3, ?_⟩, hp.1.u hac (by decide), ?_, ?_⟩
  · rw [ne _ 14 10 _ (by omega), hp.2.2 10 (by omega)]; exact b3
  · rw [ne _ 14 9 _ (by omega), hp.2.2 9 (by omega)]; exact k4
  · rw [ne _ 14 2 _ (by omega)]; exact hp.1.2.1
theorem rd_L {l : Launch} {I : List Nat} (hI : fr_I I) (u : fr_U) (ac E : Nat) (hac : ac = 10 ∨ ac = 20) (hE : E ≤ 500) {Q : Option Value → fr_V → fr_U → Prop} : ∀ (d s : Nat) (z : fr_V) (hk : J l mX6_read I (rdF ac E d z) u 135 [(0, .ref 600), (1, .int (nI E)), (2, .ref ac)] [] Q) (hd : d + s = E) (hz : rl6 ac E z), J l mX6_read I z u 80 [(0, .ref 600), (1, .int (nI E)), (2, .ref ac), (3, .int (nI s))] [] Q := by
  intro d
  induction d with
  | zero =>
    intro s z hk hd hz
    refine J_iload_n dX6_read_80 rfl 3 rfl ?_
    refine J_aload_n dX6_read_81 rfl 0 rfl ?_
    refine J_gete (ci := 6) (j := 2) (x := nI E) dX6_read_82 fl_X6_28 (i600 hI) rfl rfl hz.1.2.1 ?_
    refine J_icmp_ge (tgt := 135) dX6_read_85 (by decide) (fun c1 => ?_) (fun c1 => absurd (nI_le (a := E) (b := s) (by omega) (by omega)) c1)
    refine J_lv [0, 1, 2] rfl ?_
    exact hk
  | succ d ih =>
    intro s z hk hd hz
    obtain ⟨q, hqq, hq⟩ := hz.2
    refine J_iload_n dX6_read_80 rfl 3 rfl ?_
    refine J_aload_n dX6_read_81 rfl 0 rfl ?_
    refine J_gete (ci := 6) (j := 2) (x := nI E) dX6_read_82 fl_X6_28 (i600 hI) rfl rfl hz.1.2.1 ?_
    refine J_icmp_ge (tgt := 135) dX6_read_85 (by decide) (fun c1 => absurd c1 (nI_ge (a := s) (b := E) (by omega) (by omega))) (fun c1 => ?_)
    refine J_aload_n dX6_read_88 rfl 0 rfl ?_
    refine J_gete (ci := 6) (j := 9) (x := nI q) dX6_read_89 fl_X6_72 (i600 hI) rfl rfl hq ?_
    refine J_aload_n dX6_read_92 rfl 0 rfl ?_
    refine J_gete (ci := 6) (j := 2) (x := nI E) dX6_read_93 fl_X6_28 (i600 hI) rfl rfl hz.1.2.1 ?_
    refine J_icmp_ge (tgt := 135) dX6_read_96 (by decide) (fun c2 => ?_) (fun c2 => ?_)
    · refine J_lv [0, 1, 2] rfl ?_
      rw [rdF_s, hq, if_pos c2] at hk
      exact hk
    · have hqE : q < E := nz_nle (by omega) (by omega) c2
      refine J_aload_n dX6_read_99 rfl 0 rfl ?_
      refine J_gete (ci := 6) (j := 14) (x := z 600 14) dX6_read_100 fl_X6_63 (i600 hI) rfl rfl rfl ?_
      refine J_if_ne (tgt := 135) dX6_read_103 (by decide) (fun c3 => ?_) (fun c3 => ?_)
      · refine J_lv [0, 1, 2] rfl ?_
        rw [rdF_s, hq, if_neg c2, if_neg c3] at hk
        exact hk
      · refine J_aload_n dX6_read_106 rfl 0 rfl ?_
        refine J_cVN (z := mX6_takeToken) (As := []) (rest := []) (ci := 6) dX6_read_107 ml_X6_75 ok_X6_takeToken iv_X6_takeToken (by decide) (i600 hI) rfl rfl rfl rfl (Nat.le_of_ble_eq_true rfl) (k_X6_takeToken hI z u E hE hz.1.2.1 q hq hqE) (fun y hy => ?_)
        have ht : tkOK ac E q z y := by rw [hy]; exact tt_ok hac hz.1 hq hqE
        obtain ⟨⟨b, b1, b2, b3, b4⟩, r1, r2, r3⟩ := rd_turn hac hE ht
        refine J_aload_n dX6_read_110 rfl 0 rfl ?_
        refine J_aload_n dX6_read_111 rfl 0 rfl ?_
        refine J_eVX (z := mX6_put) (As := []) (rest := [.ref 600]) (ci := 6) (x := (f_put6 y ac).1) (w := (f_put6 y ac).2) dX6_read_112 ml_X6_78 ok_X6_put iv_X6_put (by decide) (i600 hI) rfl rfl rfl rfl (Nat.le_of_ble_eq_true rfl) (k_X6_put hI y u ac E hac ht.1 ht.2.1.2 ht.2.1.1) ?_
        refine J_puti (ci := 6) (j := 14) dX6_read_115 fl_X6_63 (i600 hI) rfl rfl (fun q h => by cases h; rfl) rfl ?_
        refine J_aload_n dX6_read_118 rfl 0 rfl ?_
        refine J_gete (ci := 6) (j := 14) (x := (f_put6 y ac).1) dX6_read_119 fl_X6_63 (i600 hI) rfl rfl rfl ?_
        refine J_if_ne (tgt := 129) dX6_read_122 (by decide) (fun c4 => ?_) (fun c4 => ?_)
        · refine J_iinc (q := 3) (z := nI (s + 1)) (lv' := [(3, .int (nI (s + 1))), (0, .ref 600), (1, .int (nI E)), (2, .ref ac)]) dX6_read_129 rfl (nI_1 s) (by decide) rfl ?_
          refine J_goto (tgt := 80) dX6_read_132 (by decide) ?_
          refine J_lv [1, 2, 3, 0] rfl ?_
          have et : rd_t ac E z = (up2 (f_put6 y ac).2 600 14 (f_put6 y ac).1) := by unfold rd_t; rw [hq, nI_clamp (show q < 2 ^ 31 by omega), ← hy, if_neg c4]
          rw [rdF_s, hq, if_neg c2, if_pos c3, et] at hk
          exact ih (s + 1) _ hk (by omega) ⟨r1, q, by omega, r2⟩
        · refine J_aload_n dX6_read_125 rfl 0 rfl ?_
          refine J_eVN (z := mX6_skipBlanks) (As := []) (rest := []) (ci := 6) (w := (f_skip (up2 ((f_put6 y ac).2) 600 14 ((f_put6 y ac).1)) E b)) dX6_read_126 ml_X6_69 ok_X6_skipBlanks iv_X6_skipBlanks (by decide) (i600 hI) rfl rfl rfl rfl (Nat.le_of_ble_eq_true rfl) (k_X6_skipBlanks hI (up2 ((f_put6 y ac).2) 600 14 ((f_put6 y ac).1)) u E hE r3 b b4 b2) ?_
          refine J_iinc (q := 3) (z := nI (s + 1)) (lv' := [(3, .int (nI (s + 1))), (0, .ref 600), (1, .int (nI E)), (2, .ref ac)]) dX6_read_129 rfl (nI_1 s) (by decide) rfl ?_
          refine J_goto (tgt := 80) dX6_read_132 (by decide) ?_
          refine J_lv [1, 2, 3, 0] rfl ?_
          have et : rd_t ac E z = f_skip (up2 (f_put6 y ac).2 600 14 (f_put6 y ac).1) E b := by unfold rd_t; rw [hq, nI_clamp (show q < 2 ^ 31 by omega), ← hy, if_pos c4, b3, nI_clamp (show b < 2 ^ 31 by omega)]
          rw [rdF_s, hq, if_neg c2, if_pos c3, et] at hk
          exact ih (s + 1) _ hk (by omega) ⟨r1.u hac (by decide), ⟨_, (sc_le _ E (E - b) (by omega)).2, by unfold f_skip; rw [up2_self, pk_us]⟩⟩
def f_rdE (v : fr_V) : Int32 × fr_V := if (v 600 14) = 0 then (if (v 600 5) = 0 then (if (v 600 14) = 0 then (if (v 600 14) = 0 then (v 600 4, up2 v 600 15 (-1)) else ((-1), up2 v 600 15 (-1))) else if (v 600 14) = 0 then (v 600 4, up2 v 600 15 (v 600 9)) else ((-1), up2 v 600 15 (v 600 9))) else ((-1), up2 (up2 v 600 14 1) 600 15 (v 600 9))) else if (v 600 14) = 0 then (if (v 600 14) = 0 then (v 600 4, up2 v 600 15 (-1)) else ((-1), up2 v 600 15 (-1))) else if (v 600 14) = 0 then (v 600 4, up2 v 600 15 (v 600 9)) else ((-1), up2 v 600 15 (v 600 9))
theorem rdE_L {l : Launch} {I : List Nat} (hI : fr_I I) (v : fr_V) (u : fr_U) (ac E : Nat) : J l mX6_read I v u 135 [(0, .ref 600), (1, .int (nI E)), (2, .ref ac)] [] (QX u (fun a b => a = (f_rdE v).1 ∧ b = (f_rdE v).2)) := by
  refine J_aload_n dX6_read_135 rfl 0 rfl ?_
  refine J_gete (ci := 6) (j := 14) (x := v 600 14) dX6_read_136 fl_X6_63 (i600 hI) rfl rfl rfl ?_
  refine J_if_ne (tgt := 154) dX6_read_139 (by decide) (fun c1 => ?_) (fun c1 => ?_)
  · refine J_aload_n dX6_read_154 rfl 0 rfl ?_
    refine J_aload_n dX6_read_155 rfl 0 rfl ?_
    refine J_gete (ci := 6) (j := 14) (x := v 600 14) dX6_read_156 fl_X6_63 (i600 hI) rfl rfl rfl ?_
    refine J_if_ne (tgt := 166) dX6_read_159 (by decide) (fun c2 => ?_) (fun c2 => ?_)
    · refine J_aload_n dX6_read_166 rfl 0 rfl ?_
      refine J_gete (ci := 6) (j := 9) (x := v 600 9) dX6_read_167 fl_X6_72 (i600 hI) rfl rfl rfl ?_
      refine J_puti (ci := 6) (j := 15) dX6_read_170 fl_X6_15 (i600 hI) rfl rfl (fun q h => by cases h; rfl) rfl ?_
      refine J_aload_n dX6_read_173 rfl 0 rfl ?_
      refine J_gete (ci := 6) (j := 14) (x := v 600 14) dX6_read_174 fl_X6_63 (i600 hI) rfl rfl rfl ?_
      refine J_if_ne (tgt := 187) dX6_read_177 (by decide) (fun c3 => ?_) (fun c3 => ?_)
      · refine J_iconst (x := (-1)) dX6_read_187 (by decide) ?_
        exact J_iret dX6_read_188 rfl ⟨_, rfl, rfl, by unfold f_rdE; rw [if_neg c1, if_neg c2, if_neg c3], by unfold f_rdE; rw [if_neg c1, if_neg c2, if_neg c3]⟩
      · refine J_aload_n dX6_read_180 rfl 0 rfl ?_
        refine J_gete (ci := 6) (j := 4) (x := v 600 4) dX6_read_181 fl_X6_60 (i600 hI) rfl rfl rfl ?_
        refine J_goto (tgt := 188) dX6_read_184 (by decide) ?_
        exact J_iret dX6_read_188 rfl ⟨_, rfl, rfl, by unfold f_rdE; rw [if_neg c1, if_neg c2, if_pos c3], by unfold f_rdE; rw [if_neg c1, if_neg c2, if_pos c3]⟩
    · refine J_iconst (x := (-1)) dX6_read_162 (by decide) ?_
      refine J_goto (tgt := 170) dX6_read_163 (by decide) ?_
      refine J_puti (ci := 6) (j := 15) dX6_read_170 fl_X6_15 (i600 hI) rfl rfl (fun q h => by cases h; rfl) rfl ?_
      refine J_aload_n dX6_read_173 rfl 0 rfl ?_
      refine J_gete (ci := 6) (j := 14) (x := v 600 14) dX6_read_174 fl_X6_63 (i600 hI) rfl rfl rfl ?_
      refine J_if_ne (tgt := 187) dX6_read_177 (by decide) (fun c4 => ?_) (fun c4 => ?_)
      · refine J_iconst (x := (-1)) dX6_read_187 (by decide) ?_
        exact J_iret dX6_read_188 rfl ⟨_, rfl, rfl, by unfold f_rdE; rw [if_neg c1, if_pos c2, if_neg c4], by unfold f_rdE; rw [if_neg c1, if_pos c2, if_neg c4]⟩
      · refine J_aload_n dX6_read_180 rfl 0 rfl ?_
        refine J_gete (ci := 6) (j := 4) (x := v 600 4) dX6_read_181 fl_X6_60 (i600 hI) rfl rfl rfl ?_
        refine J_goto (tgt := 188) dX6_read_184 (by decide) ?_
        exact J_iret dX6_read_188 rfl ⟨_, rfl, rfl, by unfold f_rdE; rw [if_neg c1, if_pos c2, if_pos c4], by unfold f_rdE; rw [if_neg c1, if_pos c2, if_pos c4]⟩
  · refine J_aload_n dX6_read_142 rfl 0 rfl ?_
    refine J_gete (ci := 6) (j := 5) (x := v 600 5) dX6_read_143 fl_X6_57 (i600 hI) rfl rfl rfl ?_
    refine J_if_eq (tgt := 154) dX6_read_146 (by decide) (fun c5 => ?_) (fun c5 => ?_)
    · refine J_aload_n dX6_read_154 rfl 0 rfl ?_
      refine J_aload_n dX6_read_155 rfl 0 rfl ?_
      refine J_gete (ci := 6) (j := 14) (x := v 600 14) dX6_read_156 fl_X6_63 (i600 hI) rfl rfl rfl ?_
      refine J_if_ne (tgt := 166) dX6_read_159 (by decide) (fun c6 => ?_) (fun c6 => ?_)
      · refine J_aload_n dX6_read_166 rfl 0 rfl ?_
        refine J_gete (ci := 6) (j := 9) (x := v 600 9) dX6_read_167 fl_X6_72 (i600 hI) rfl rfl rfl ?_
        refine J_puti (ci := 6) (j := 15) dX6_read_170 fl_X6_15 (i600 hI) rfl rfl (fun q h => by cases h; rfl) rfl ?_
        refine J_aload_n dX6_read_173 rfl 0 rfl ?_
        refine J_gete (ci := 6) (j := 14) (x := v 600 14) dX6_read_174 fl_X6_63 (i600 hI) rfl rfl rfl ?_
        refine J_if_ne (tgt := 187) dX6_read_177 (by decide) (fun c7 => ?_) (fun c7 => ?_)
        · refine J_iconst (x := (-1)) dX6_read_187 (by decide) ?_
          exact J_iret dX6_read_188 rfl ⟨_, rfl, rfl, by unfold f_rdE; rw [if_pos c1, if_pos c5, if_neg c6, if_neg c7], by unfold f_rdE; rw [if_pos c1, if_pos c5, if_neg c6, if_neg c7]⟩
        · refine J_aload_n dX6_read_180 rfl 0 rfl ?_
          refine J_gete (ci := 6) (j := 4) (x := v 600 4) dX6_read_181 fl_X6_60 (i600 hI) rfl rfl rfl ?_
          refine J_goto (tgt := 188) dX6_read_184 (by decide) ?_
          exact J_iret dX6_read_188 rfl ⟨_, rfl, rfl, by unfold f_rdE; rw [if_pos c1, if_pos c5, if_neg c6, if_pos c7], by unfold f_rdE; rw [if_pos c1, if_pos c5, if_neg c6, if_pos c7]⟩
      · refine J_iconst (x := (-1)) dX6_read_162 (by decide) ?_
        refine J_goto (tgt := 170) dX6_read_163 (by decide) ?_
        refine J_puti (ci := 6) (j := 15) dX6_read_170 fl_X6_15 (i600 hI) rfl rfl (fun q h => by cases h; rfl) rfl ?_
        refine J_aload_n dX6_read_173 rfl 0 rfl ?_
        refine J_gete (ci := 6) (j := 14) (x := v 600 14) dX6_read_174 fl_X6_63 (i600 hI) rfl rfl rfl ?_
        refine J_if_ne (tgt := 187) dX6_read_177 (by decide) (fun c8 => ?_) (fun c8 => ?_)
        · refine J_iconst (x := (-1)) dX6_read_187 (by decide) ?_
          exact J_iret dX6_read_188 rfl ⟨_, rfl, rfl, by unfold f_rdE; rw [if_pos c1, if_pos c5, if_pos c6, if_neg c8], by unfold f_rdE; rw [if_pos c1, if_pos c5, if_pos c6, if_neg c8]⟩
        · refine J_aload_n dX6_read_180 rfl 0 rfl ?_
          refine J_gete (ci := 6) (j := 4) (x := v 600 4) dX6_read_181 fl_X6_60 (i600 hI) rfl rfl rfl ?_
          refine J_goto (tgt := 188) dX6_read_184 (by decide) ?_
          exact J_iret dX6_read_188 rfl ⟨_, rfl, rfl, by unfold f_rdE; rw [if_pos c1, if_pos c5, if_pos c6, if_pos c8], by unfold f_rdE; rw [if_pos c1, if_pos c5, if_pos c6, if_pos c8]⟩
    · refine J_aload_n dX6_read_149 rfl 0 rfl ?_
      refine J_iconst (x := 1) dX6_read_150 (by decide) ?_
      refine J_puti (ci := 6) (j := 14) dX6_read_151 fl_X6_63 (i600 hI) rfl rfl (fun q h => by cases h; rfl) rfl ?_
      refine J_aload_n dX6_read_154 rfl 0 rfl ?_
      refine J_aload_n dX6_read_155 rfl 0 rfl ?_
      refine J_gete (ci := 6) (j := 14) (x := 1) dX6_read_156 fl_X6_63 (i600 hI) rfl rfl rfl ?_
      refine J_if_ne (tgt := 166) dX6_read_159 (by decide) (fun c9 => ?_) (fun c9 => absurd c9 (by decide))
      refine J_aload_n dX6_read_166 rfl 0 rfl ?_
      refine J_gete (ci := 6) (j := 9) (x := v 600 9) dX6_read_167 fl_X6_72 (i600 hI) rfl rfl rfl ?_
      refine J_puti (ci := 6) (j := 15) dX6_read_170 fl_X6_15 (i600 hI) rfl rfl (fun q h => by cases h; rfl) rfl ?_
      refine J_aload_n dX6_read_173 rfl 0 rfl ?_
      refine J_gete (ci := 6) (j := 14) (x := 1) dX6_read_174 fl_X6_63 (i600 hI) rfl rfl rfl ?_
      refine J_if_ne (tgt := 187) dX6_read_177 (by decide) (fun c10 => ?_) (fun c10 => absurd c10 (by decide))
      refine J_iconst (x := (-1)) dX6_read_187 (by decide) ?_
      exact J_iret dX6_read_188 rfl ⟨_, rfl, rfl, by unfold f_rdE; rw [if_pos c1, if_neg c5], by unfold f_rdE; rw [if_pos c1, if_neg c5]⟩
def rd0 (v : fr_V) (ac n : Nat) : fr_V := up2 (up2 (up2 (up2 (up2 (up2 (up2 (f_clr (up2 (up2 (up2 v 600 2 (nI n)) 600 1 0) 600 3 (nI ac)) ac) 600 7 (nI (lnB ac + 0))) 600 6 (nI (3000 + 0))) 600 5 0) 600 4 0) 600 14 0) 600 15 (-1)) 600 10 0
noncomputable def f_read (v : fr_V) (ac n : Nat) : Int32 × fr_V := f_rdE (rdF ac n n (f_skip (rd0 v ac n) n 0))
theorem rd0_ok (v : fr_V) {ac n : Nat} (hac : ac = 10 ∨ ac = 20) : rd6 ac n (rd0 v ac n) := by
  unfold rd0 f_clr
  refine (((((?_ : rd6 ac n _).u hac (by decide)).u hac (by decide)).u hac (by decide)).u hac (by decide)).u hac (by decide)
  refine ⟨?_, ?_, ⟨0, by omega, ?_⟩, ⟨0, by omega, ?_⟩, ⟨0, by omega, ?_⟩⟩
  · rw [up2_self, pk_un (by decide), up2_self, pk_un (by decide), upA_ne (by omega), up2_ne (by omega), up2_self, pk_us]
  · rw [up2_self, pk_un (by decide), up2_self, pk_un (by decide), upA_ne (by omega), up2_ne (by omega), up2_self, pk_un (by decide), up2_self, pk_un (by decide), up2_self, pk_us]
  · rw [up2_ne (by omega), up2_ne (by omega), upA_ne (by omega), up2_self, pk_us]; rfl
  · rw [up2_self, pk_un (by decide), up2_self, pk_us]
  · rw [up2_self, pk_us]
theorem clr_6 {v : fr_V} {ac : Nat} (hac : ac = 10 ∨ ac = 20) : f_clr v ac 600 = v 600 := by
  unfold f_clr
  rw [upA_ne (by omega), up2_ne (by omega)]
theorem k_X6_read {l : Launch} {I : List Nat} (hI : fr_I I) (v : fr_V) (u : fr_U) (ac n t : Nat) (hac : ac = 10 ∨ ac = 20) (ht : v 600 1 = nI t) (hnt : n ≤ t) (ht5 : t ≤ 500) : Con l mX6_read I v u [.ref 600, .int (nI n), .ref ac] (QX u (fun a b => a = (f_read v ac n).1 ∧ b = (f_read v ac n).2)) := by
  refine Con.of (by decide) (Nat.le_of_ble_eq_true rfl) ?_
  show J l mX6_read I v u 0 [(0, .ref 600), (1, .int (nI n)), (2, .ref ac)] [] _
  have hn5 : n ≤ 500 := by omega
  have hl0 := ln_lt hac (i := 0) (by omega)
  refine J_aload_n dX6_read_0 rfl 0 rfl ?_
  refine J_iload_n dX6_read_1 rfl 1 rfl ?_
  refine J_aload_n dX6_read_2 rfl 0 rfl ?_
  refine J_gete (ci := 6) (j := 1) (x := nI t) dX6_read_3 fl_X6_19 (i600 hI) rfl rfl ht ?_
  refine J_mmin dX6_read_6 ml_X6_22 (by decide) (Nat.le_of_ble_eq_true rfl) ?_
  rw [show (if nI t < nI n then nI t else nI n) = nI n from if_neg (nI_nlt (by omega) (by omega))]
  refine J_puti (ci := 6) (j := 2) dX6_read_9 fl_X6_28 (i600 hI) rfl rfl (fun q h => by cases h; rfl) rfl ?_
  refine J_aload_n dX6_read_12 rfl 0 rfl ?_
  refine J_iconst (x := 0) dX6_read_13 (by decide) ?_
  refine J_puti (ci := 6) (j := 1) dX6_read_14 fl_X6_19 (i600 hI) rfl rfl (fun q h => by cases h; rfl) rfl ?_
  refine J_aload_n dX6_read_17 rfl 0 rfl ?_
  refine J_aload_n dX6_read_18 rfl 2 rfl ?_
  refine J_putd (ci := 6) (j := 3) (t := ac) dX6_read_19 fl_X6_31 (i600 hI) rfl rfl (by omega) (fun q h => by cases h; rfl) (fun a => rfl) (fun a => rfl) ?_
  refine J_aload_n dX6_read_22 rfl 0 rfl ?_
  refine J_getd (ci := 6) (j := 3) (t := ac) dX6_read_23 fl_X6_31 (i600 hI) rfl rfl (by rw [show (up2 (up2 (up2 v 600 2 (nI n)) 600 1 0) 600 3 (nI ac)) 600 3 = nI ac from rfl]; exact nI_pos (by omega)) (by rw [show (up2 (up2 (up2 v 600 2 (nI n)) 600 1 0) 600 3 (nI ac)) 600 3 = nI ac from rfl]; exact nI_clamp (by omega)) ?_
  refine J_eVN (z := mX0_clear) (As := []) (rest := []) (ci := 0) (w := (f_clr (up2 (up2 (up2 v 600 2 (nI n)) 600 1 0) 600 3 (nI ac)) ac)) dX6_read_26 ml_X6_35 ok_X0_clear iv_X0_clear (by decide) (i_ac hI hac) (s_ac hac) rfl rfl rfl (Nat.le_of_ble_eq_true rfl) (k_X0_clear hI (up2 (up2 (up2 v 600 2 (nI n)) 600 1 0) 600 3 (nI ac)) u hac) ?_
  refine J_aload_n dX6_read_29 rfl 0 rfl ?_
  refine J_aload_n dX6_read_30 rfl 0 rfl ?_
  refine J_getd (ci := 6) (j := 3) (t := ac) dX6_read_31 fl_X6_31 (i600 hI) rfl rfl (by rw [show (f_clr (up2 (up2 (up2 v 600 2 (nI n)) 600 1 0) 600 3 (nI ac)) ac) 600 3 = nI ac from (show _ = _ from by rw [clr_6 hac]; rfl)]; exact nI_pos (by omega)) (by rw [show (f_clr (up2 (up2 (up2 v 600 2 (nI n)) 600 1 0) 600 3 (nI ac)) ac) 600 3 = nI ac from (show _ = _ from by rw [clr_6 hac]; rfl)]; exact nI_clamp (by omega)) ?_
  refine J_getr (ci := 0) (j := 0) (t := ac + 1) dX6_read_34 fl_X6_40 (i_ac hI hac) (s_ac hac) rfl (ru_sr hac) ?_
  refine J_iconst (x := 0) dX6_read_37 (by decide) ?_
  refine J_aldN (t := lnB ac + 0) dX6_read_38 (ru_in hI hac) (ru_sh hac) (vp_in_nI (n := 0) (by omega) (by omega)) rfl ?_
  refine J_putd (ci := 6) (j := 7) (t := lnB ac + 0) dX6_read_39 fl_X6_44 (i600 hI) rfl rfl (by omega) (fun q h => by cases h; rfl) (fun a => rfl) (fun a => rfl) ?_
  refine J_aload_n dX6_read_42 rfl 0 rfl ?_
  refine J_gets (x := .ref (3000 + 0)) dX6_read_43 el_X6_48 (x_word 0 (by decide)) ?_
  refine J_putd (ci := 6) (j := 6) (t := 3000 + 0) dX6_read_46 fl_X6_54 (i600 hI) rfl rfl (by omega) (fun q h => by cases h; rfl) (fun a => rfl) (fun a => rfl) ?_
  refine J_aload_n dX6_read_49 rfl 0 rfl ?_
  refine J_iconst (x := 0) dX6_read_50 (by decide) ?_
  refine J_puti (ci := 6) (j := 5) dX6_read_51 fl_X6_57 (i600 hI) rfl rfl (fun q h => by cases h; rfl) rfl ?_
  refine J_aload_n dX6_read_54 rfl 0 rfl ?_
  refine J_iconst (x := 0) dX6_read_55 (by decide) ?_
  refine J_puti (ci := 6) (j := 4) dX6_read_56 fl_X6_60 (i600 hI) rfl rfl (fun q h => by cases h; rfl) rfl ?_
  refine J_aload_n dX6_read_59 rfl 0 rfl ?_
  refine J_iconst (x := 0) dX6_read_60 (by decide) ?_
  refine J_puti (ci := 6) (j := 14) dX6_read_61 fl_X6_63 (i600 hI) rfl rfl (fun q h => by cases h; rfl) rfl ?_
  refine J_aload_n dX6_read_64 rfl 0 rfl ?_
  refine J_iconst (x := (-1)) dX6_read_65 (by decide) ?_
  refine J_puti (ci := 6) (j := 15) dX6_read_66 fl_X6_15 (i600 hI) rfl rfl (fun q h => by cases h; rfl) rfl ?_
  refine J_aload_n dX6_read_69 rfl 0 rfl ?_
  refine J_iconst (x := 0) dX6_read_70 (by decide) ?_
  refine J_puti (ci := 6) (j := 10) dX6_read_71 fl_X6_66 (i600 hI) rfl rfl (fun q h => by cases h; rfl) rfl ?_
  refine J_aload_n dX6_read_74 rfl 0 rfl ?_
  have h2 : rd0 v ac n 600 2 = nI n := (rd0_ok v hac).2.1
  show J l _ I (rd0 v ac n) u _ _ _ _
  refine J_eVN (z := mX6_skipBlanks) (As := []) (rest := []) (ci := 6) (w := (f_skip (rd0 v ac n) n 0)) dX6_read_75 ml_X6_69 ok_X6_skipBlanks iv_X6_skipBlanks (by decide) (i600 hI) rfl rfl rfl rfl (Nat.le_of_ble_eq_true rfl) (k_X6_skipBlanks hI (rd0 v ac n) u n hn5 h2 0 rfl (by omega)) ?_
  refine J_iconst (x := 0) dX6_read_78 (by decide) ?_
  refine J_istore_n (lv' := [(3, .int 0), (0, .ref 600), (1, .int (nI n)), (2, .ref ac)]) dX6_read_79 rfl (by decide) rfl ?_
  refine J_lv [1, 2, 3, 0] rfl ?_
  refine rd_L hI u ac n hac hn5 n 0 _ ?_ (by omega) ⟨?_, _, (sc_le _ n (n - 0) (by omega)).2, by unfold f_skip; rw [up2_self, pk_us]⟩
  · exact rdE_L hI _ u ac n
  · exact (rd0_ok v hac).u hac (by decide)
