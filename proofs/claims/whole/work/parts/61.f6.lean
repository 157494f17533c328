theorem kw_6 (v : fr_V) (N : Nat) (x : Int32) : f_kw v N x 100 6 = x := by
  unfold f_kw
  by_cases h : x = v 100 6
  · rw [if_pos h]; exact h.symm
  · rw [if_neg h]
    unfold kw_end f_knowDeaths
    rw [upA_ne (by omega), upA_ne (by omega), upA_ne (by omega), up2_self, pk_us]
theorem kw_id {z : fr_V} {N : Nat} {x : Int32} (h : z 100 6 = x) : f_kw z N x = z := by
  unfold f_kw
  rw [if_pos h.symm]
/-- the cells that names changes beside the buyer's own search -/
def fw3 (v z : fr_V) : Prop := ∀ c, c ≠ 900 → c ≠ 906 → c ≠ 907 → c ≠ 200 → c ≠ 201 → c ≠ 202 → c ≠ 203 → z c = v c
theorem fw3.rfl {v : fr_V} : fw3 v v := fun _ _ _ _ _ _ _ _ => Eq.refl _
theorem live_3 {v z : fr_V} (h : fw3 v z) (n c g : Nat) (x3 x4 : Int32) : f_live z n c g x3 x4 = f_live v n c g x3 x4 := by
  unfold f_live
  rw [h (910 + c) (by omega) (by omega) (by omega) (by omega) (by omega) (by omega) (by omega), cy_e (h 110 (by omega) (by omega) (by omega) (by omega) (by omega) (by omega) (by omega)) (h 501 (by omega) (by omega) (by omega) (by omega) (by omega) (by omega) (by omega)) (h 502 (by omega) (by omega) (by omega) (by omega) (by omega) (by omega) (by omega))]
theorem w8_3 {v z : fr_V} (h : fw3 v z) (n c1 c2 k : Nat) (x2 x4 x5 : Int32) (p q : Nat) : f_w8 z n c1 c2 k x2 x4 x5 p q = f_w8 v n c1 c2 k x2 x4 x5 p q := by
  have e : f_live z = f_live v := by funext n c g x3 x4; exact live_3 h n c g x3 x4
  unfold f_w8 wo8 bo8
  rw [e]
theorem set_3 {v z : fr_V} (h : fw3 v z) {ac : Nat} (hac : ac = 10 ∨ ac = 20) (j : Nat) : f_set z ac j = f_set v ac j := by
  unfold f_set
  rw [h (ac + 3) (by omega) (by omega) (by omega) (by omega) (by omega) (by omega) (by omega)]
theorem ag_3 {v z : fr_V} (h : fw3 v z) (x y : Int32) : f_X5_ageIn z x y = f_X5_ageIn v x y := by
  unfold f_X5_ageIn
  rw [h 501 (by omega) (by omega) (by omega) (by omega) (by omega) (by omega) (by omega)]
theorem wn_3 {v z : fr_V} (h : fw3 v z) {ac : Nat} (hac : ac = 10 ∨ ac = 20) {N n w : Nat} (hk : v 100 6 = nI w) (x1 x2 x3 : Int32) : f_wn z ac N n w x1 x2 x3 = f_wn v ac N n w x1 x2 x3 := by
  have hk2 : z 100 6 = nI w := by rw [h 100 (by omega) (by omega) (by omega) (by omega) (by omega) (by omega) (by omega)]; exact hk
  unfold f_wn
  rw [kw_id hk, kw_id hk2, w8_3 h, set_3 h hac]
  unfold clOf agOf
  rw [h 502 (by omega) (by omega) (by omega) (by omega) (by omega) (by omega) (by omega), ag_3 h, ag_3 h]
theorem lf_3 {v z : fr_V} (h : fw3 v z) {n : Nat} (k : lf8 n v) : lf8 n z := by
  unfold lf8
  rw [h 500 (by omega) (by omega) (by omega) (by omega) (by omega) (by omega) (by omega), h 501 (by omega) (by omega) (by omega) (by omega) (by omega) (by omega) (by omega)]
  exact k
theorem lv_3 {v z : fr_V} (h : fw3 v z) {w : Nat} {x : Int32} (k : lvOK v w x) : lvOK z w x := by
  unfold lvOK
  rw [h 502 (by omega) (by omega) (by omega) (by omega) (by omega) (by omega) (by omega), ag_3 h]
  exact k
theorem k_wn3 {l : Launch} {I : List Nat} (hI : fr_I I) (v : fr_V) (u : fr_U) (ac N n w : Nat) (x1 x2 x3 : Int32) (z : fr_V) (hz : fw3 v z) (hk : v 100 6 = nI w) (hac : ac = 10 ∨ ac = 20) (ha : v 1000 1 = nI ac) (hw : v 1000 3 = nI w) (hw8 : w < 80) (hN : v 100 5 = nI N) (hW : nt_ok (v 102) (v 103) N) (hl : lf8 n v) (hr : ¬ f_set v ac 2 + 1 = 0) (h1 : lvOK v w x1) (h2 : ¬ x2 = (-1) → lvOK v w x2) : Con l mX10_worthNow I z u [.ref 1000, .int x1, .int x2, .int x3] (QX u (fun a b => a = f_wn v ac N n w x1 x2 x3 ∧ fw3 v b ∧ b 200 = z 200 ∧ b 201 = z 201 ∧ b 202 = z 202 ∧ b 203 = z 203)) := by
  have e : ∀ c, c ≠ 900 → c ≠ 906 → c ≠ 907 → c ≠ 200 → c ≠ 201 → c ≠ 202 → c ≠ 203 → z c = v c := hz
  have e1000 := e 1000 (by omega) (by omega) (by omega) (by omega) (by omega) (by omega) (by omega)
  have e100 := e 100 (by omega) (by omega) (by omega) (by omega) (by omega) (by omega) (by omega)
  have hk2 : z 100 6 = nI w := by rw [e100]; exact hk
  refine (k_X10_worthNow hI z u ac N n w x1 x2 x3 hac (by rw [e1000]; exact ha) (by rw [e1000]; exact hw) hw8 (by rw [e100]; exact hN) (by rw [e 102 (by omega) (by omega) (by omega) (by omega) (by omega) (by omega) (by omega), e 103 (by omega) (by omega) (by omega) (by omega) (by omega) (by omega) (by omega)]; exact hW) (lf_3 hz hl) (by rw [set_3 hz hac]; exact hr) (lv_3 hz h1) (fun q => lv_3 hz (h2 q))).mono (fun q y t h => ?_)
  obtain ⟨x, g1, g2, g3, g4⟩ := h
  rw [kw_id hk2] at g4
  exact ⟨x, g1, g2, g3.trans (wn_3 hz hac hk x1 x2 x3), fun c a1 a2 a3 a4 a5 a6 a7 => (g4 c a1 a2 a3).trans (hz c a1 a2 a3 a4 a5 a6 a7), g4 200 (by omega) (by omega) (by omega), g4 201 (by omega) (by omega) (by omega), g4 202 (by omega) (by omega) (by omega), g4 203 (by omega) (by omega) (by omega)⟩
theorem fits_e {v z : fr_V} {q : Nat} (h : z q = v q) (x1 x2 x3 x4 : Int32) : f_fits z q x1 x2 x3 x4 = f_fits v q x1 x2 x3 x4 := by
  unfold f_fits
  rw [h]
theorem ltF_e {v z : fr_V} {ac so ot : Nat} {x3 x4 x5 x6 : Int32} (h : ∀ i, i < 24 → z (lnB ac + i) = v (lnB ac + i)) : ∀ m, m ≤ 24 → ltF z ac so ot x3 x4 x5 x6 m = ltF v ac so ot x3 x4 x5 x6 m := by
  intro m
  induction m with
  | zero => intro _; rfl
  | succ m ih =>
    intro hm
    have e := h m (by omega)
    rw [ltF_s, ltF_s, ih (by omega), fits_e e]
    unfold lwf
    rw [e]
theorem rul_3 {v z : fr_V} (h : fw3 v z) {ac : Nat} (hac : ac = 10 ∨ ac = 20) {m : Nat} (hm : m ≤ 24) (so ot : Nat) (x3 x4 : Int32) : f_ruling z ac m so ot x3 x4 = f_ruling v ac m so ot x3 x4 := by
  unfold f_ruling f_X5_younger
  rw [h 1000 (by omega) (by omega) (by omega) (by omega) (by omega) (by omega) (by omega), h 502 (by omega) (by omega) (by omega) (by omega) (by omega) (by omega) (by omega)]
  simp only [ag_3 h]
  exact ltF_e (fun i hi => by have := ln_lt hac hi; exact h _ (by omega) (by omega) (by omega) (by omega) (by omega) (by omega) (by omega)) m hm
theorem may_3 {v z : fr_V} (h : fw3 v z) {ac : Nat} (hac : ac = 10 ∨ ac = 20) {m : Nat} (hm : m ≤ 24) (x1 x2 : Int32) : f_may z ac m x1 x2 = f_may v ac m x1 x2 := by
  unfold f_may
  rw [rul_3 h hac hm]
  cases hr : f_ruling v ac m 0 1 x1 x2 with
  | none => rfl
  | some i =>
    have := ln_lt hac (show i < 24 by have := rul_lt hr; omega)
    dsimp only
    unfold lwf
    rw [h (lnB ac + i) (by omega) (by omega) (by omega) (by omega) (by omega) (by omega) (by omega)]
theorem price_3 {v z : fr_V} (h : fw3 v z) {ac : Nat} (hac : ac = 10 ∨ ac = 20) {m : Nat} (hm : m ≤ 24) (x1 x2 : Int32) : f_price z ac m x1 x2 = f_price v ac m x1 x2 := by
  unfold f_price
  rw [rul_3 h hac hm]
  cases hr : f_ruling v ac m 2 2 x1 x2 with
  | none => rfl
  | some i =>
    have := ln_lt hac (show i < 24 by have := rul_lt hr; omega)
    dsimp only
    rw [h (lnB ac + i) (by omega) (by omega) (by omega) (by omega) (by omega) (by omega) (by omega)]
theorem ln_3 {v z : fr_V} (h : fw3 v z) {ac : Nat} (hac : ac = 10 ∨ ac = 20) {m : Nat} (k : lnOK v ac m) : lnOK z ac m := by
  obtain ⟨k1, k2, k3⟩ := k
  refine ⟨k1, by rw [h ac (by omega) (by omega) (by omega) (by omega) (by omega) (by omega) (by omega)]; exact k2, fun i hi => ?_⟩
  have := ln_lt hac (show i < 24 by omega)
  unfold lwf
  rw [h (lnB ac + i) (by omega) (by omega) (by omega) (by omega) (by omega) (by omega) (by omega)]
  exact k3 i hi
theorem dd_3 {v z : fr_V} (h : fw3 v z) (x : Int32) : f_X1_isDead z x = f_X1_isDead v x := by
  unfold f_X1_isDead
  rw [h 110 (by omega) (by omega) (by omega) (by omega) (by omega) (by omega) (by omega)]
def ofK (v : fr_V) (ac m : Nat) : Nat → Nat
  | 0 => 0
  | i + 1 => if f_X1_isDead v (nI i) = 0 then (if f_may v ac m (nI i) (-1) = 0 then ofK v ac m i else ofK v ac m i + 1) else ofK v ac m i
theorem ofK_s (v : fr_V) (ac m i : Nat) : ofK v ac m (i + 1) = if f_X1_isDead v (nI i) = 0 then (if f_may v ac m (nI i) (-1) = 0 then ofK v ac m i else ofK v ac m i + 1) else ofK v ac m i := rfl
theorem ofK_le (v : fr_V) (ac m : Nat) : ∀ i, ofK v ac m i ≤ i := by
  intro i
  induction i with
  | zero => exact Nat.le_refl _
  | succ i ih => rw [ofK_s]; split <;> (try split) <;> omega
/-- the rows of the offers: X the number of each life -/
def ofX (v : fr_V) (ac m : Nat) (X : Nat → Int32) (f0 : Nat → Int32) : Nat → Nat → Int32
  | 0 => f0
  | i + 1 => if f_X1_isDead v (nI i) = 0 then (if f_may v ac m (nI i) (-1) = 0 then ofX v ac m X f0 i else upd (ofX v ac m X f0 i) (ofK v ac m i) (X i)) else ofX v ac m X f0 i
theorem ofX_s (v : fr_V) (ac m : Nat) (X : Nat → Int32) (f0 : Nat → Int32) (i : Nat) : ofX v ac m X f0 (i + 1) = if f_X1_isDead v (nI i) = 0 then (if f_may v ac m (nI i) (-1) = 0 then ofX v ac m X f0 i else upd (ofX v ac m X f0 i) (ofK v ac m i) (X i)) else ofX v ac m X f0 i := rfl
theorem ofX_in {v : fr_V} {ac m : Nat} {f0 : Nat → Int32} : ∀ i, i ≤ 12 → ∀ q, q < ofK v ac m i → vp_in (ofX v ac m (fun i => nI i) f0 i q) 12 := by
  intro i
  induction i with
  | zero => intro _ q hq; exact absurd hq (Nat.not_lt_zero q)
  | succ i ih =>
    intro hi q hq
    rw [ofK_s] at hq
    rw [ofX_s]
    by_cases c1 : f_X1_isDead v (nI i) = 0
    · rw [if_pos c1] at hq ⊢
      by_cases c2 : f_may v ac m (nI i) (-1) = 0
      · rw [if_pos c2] at hq ⊢; exact ih (by omega) q hq
      · rw [if_neg c2] at hq ⊢
        unfold upd
        by_cases e : q = ofK v ac m i
        · rw [if_pos e]; exact vp_in_nI (by omega) (by omega)
        · rw [if_neg e]; exact ih (by omega) q (by omega)
    · rw [if_neg c1] at hq ⊢; exact ih (by omega) q hq
def prX (v : fr_V) (ac m : Nat) (i : Nat) : Int32 := f_price v ac m (nI i) (-1)
def gnX (v : fr_V) (ac m N n w : Nat) (i : Nat) : Int32 := 2 * f_wn v ac N n w (nI i) (-1) 0 - 1000 * prX v ac m i
def nmI (v : fr_V) (ac m N n w i : Nat) (z : fr_V) : Prop := fw3 v z ∧ z 200 3 = nI (ofK v ac m i) ∧ z 201 = ofX v ac m (fun i => nI i) (v 201) i ∧ z 202 = ofX v ac m (prX v ac m) (v 202) i ∧ z 203 = ofX v ac m (gnX v ac m N n w) (v 203) i ∧ z 200 10 = v 200 10
theorem crF_N {cp : Nat} (h1 : 1 ≤ cp) (h3 : cp ≤ 3) : ∀ d a, 1 ≤ a → a ≤ 20000 → ∃ R, crF (nI cp) d (nI a) = nI R ∧ 1 ≤ R ∧ R ≤ 20000 := by
  intro d
  induction d with
  | zero => intro a h4 h5; exact ⟨a, rfl, h4, h5⟩
  | succ d ih =>
    intro a h4 h5
    rw [crF_s]
    by_cases c : (5000 : Int32) < nI a
    · rw [if_pos c]; exact ⟨a, rfl, h4, h5⟩
    · rw [if_neg c, nI_1, pk_mul]
      have ha : a ≤ 5000 := nz_nlt (a := 5000) (by omega) (by omega) c
      refine ih _ (Nat.mul_pos (by omega) (by omega)) ?_
      calc a * (cp + 1) ≤ 5000 * 4 := Nat.mul_le_mul ha (by omega)
        _ = 20000 := rfl
theorem offer_e {y : fr_V} {k : Nat} (hk : k < 12) (h : y 200 3 = nI k) (x1 x2 x3 : Int32) : f_X2_offer y x1 x2 x3 = up2 (up2 (up2 (up2 y 201 k x1) 202 k x2) 203 k x3) 200 3 (nI (k + 1)) := by
  unfold f_X2_offer
  rw [h, nI_clamp (by omega), if_pos (show nI k < 12 from nI_lt (b := 12) hk (by omega)), nI_1]
theorem nm_L {l : Launch} {I : List Nat} (hI : fr_I I) (v : fr_V) (u : fr_U) (ac m N n w : Nat) (x1 : Int32) (hk : v 100 6 = nI w) (hac : ac = 10 ∨ ac = 20) (ha : v 1000 1 = nI ac) (hln : lnOK v ac m) (hw : v 1000 3 = nI w) (hw8 : w < 80) (hN : v 100 5 = nI N) (hW : nt_ok (v 102) (v 103) N) (hl : lf8 n v) (hr : ¬ f_set v ac 2 + 1 = 0) (hx : ∀ i, i < n → lvOK v w (nI i)) (hn12 : n ≤ 12) {Q : Option Value → fr_V → fr_U → Prop} (hkk : ∀ z : fr_V, nmI v ac m N n w n z → J l mX10_names I z u 101 [(0, .ref 1000), (1, .int x1)] [] Q) : ∀ (d i : Nat) (z : fr_V) (hd : n - i < d) (hj : i ≤ n) (hz : nmI v ac m N n w i z), J l mX10_names I z u 33 [(0, .ref 1000), (1, .int x1), (2, .int (nI i))] [] (Q) := by
  intro d
  induction d with
  | zero => intros; omega
  | succ d ih =>
    intro i z hd hj hz
    refine J_iload_n dX10_names_33 rfl 2 rfl ?_
    refine J_aload_n dX10_names_34 rfl 0 rfl ?_
    refine J_getr (ci := 10) (j := 4) (t := 500) dX10_names_35 fl_X10_29 (i1000 hI) rfl rfl rfl ?_
    refine J_gete (ci := 5) (j := 2) (x := nI n) dX10_names_38 fl_X10_236 (i500 hI) rfl rfl ((congrFun (hz.1 500 (by omega) (by omega) (by omega) (by omega) (by omega) (by omega) (by omega)) 2).trans hl.2.1) ?_
    refine J_icmp_ge (tgt := 101) dX10_names_41 (by decide) (fun c1 => ?_) (fun c1 => ?_)
    · have e : i = n := by have := nz_le (by omega) (by omega) c1; omega
      subst e
      refine J_lv [0, 1] rfl ?_
      exact hkk z hz
    · have hin : i < n := nz_nle (by omega) (by omega) c1
      refine J_aload_n dX10_names_44 rfl 0 rfl ?_
      refine J_getr (ci := 10) (j := 5) (t := 100) dX10_names_45 fl_X10_38 (i1000 hI) rfl rfl rfl ?_
      refine J_iload_n dX10_names_48 rfl 2 rfl ?_
      refine J_eVI (z := mX1_isDead) (As := [.int (nI i)]) (rest := []) (ci := 1) (x := f_X1_isDead v (nI i)) dX10_names_49 ml_X10_239 ok_X1_isDead iv_X1_isDead (by decide) (i100 hI) rfl rfl rfl rfl (Nat.le_of_ble_eq_true rfl) ((dd_3 hz.1 (nI i) ▸ k_X1_isDead hI z u (nI i) (vp_in_nI (by omega) (by omega)))) ?_
      refine J_if_ne (tgt := 95) dX10_names_52 (by decide) (fun c2 => ?_) (fun c2 => ?_)
      · refine J_iinc (q := 2) (z := nI (i + 1)) (lv' := [(2, .int (nI (i + 1))), (0, .ref 1000), (1, .int x1)]) dX10_names_95 rfl (nI_1 i) (by decide) rfl ?_
        refine J_goto (tgt := 33) dX10_names_98 (by decide) ?_
        refine J_lv [1, 2, 0] rfl ?_
        exact ih (i + 1) _ (by omega) (by omega) ⟨hz.1, by rw [ofK_s, if_neg c2]; exact hz.2.1, by rw [ofX_s, if_neg c2]; exact hz.2.2.1, by rw [ofX_s, if_neg c2]; exact hz.2.2.2.1, by rw [ofX_s, if_neg c2]; exact hz.2.2.2.2.1, hz.2.2.2.2.2⟩
      · refine J_aload_n dX10_names_55 rfl 0 rfl ?_
        refine J_iload_n dX10_names_56 rfl 2 rfl ?_
        refine J_iconst (x := (-1)) dX10_names_57 (by decide) ?_
        refine J_eVI (z := mX10_mayBeNamed) (As := [.int (nI i), .int (-1)]) (rest := []) (ci := 10) (x := f_may v ac m (nI i) (-1)) dX10_names_58 ml_X10_106 ok_X10_mayBeNamed iv_X10_mayBeNamed (by decide) (i1000 hI) rfl rfl rfl rfl (Nat.le_of_ble_eq_true rfl) ((may_3 hz.1 hac hln.1 (nI i) (-1) ▸ k_X10_mayBeNamed hI z u ac m (nI i) (-1) hac (by rw [hz.1 1000 (by omega) (by omega) (by omega) (by omega) (by omega) (by omega) (by omega)]; exact ha) (ln_3 hz.1 hac hln) (vp_in_nI (by omega) (by omega)) (fun h => absurd rfl h))) ?_
        refine J_if_eq (tgt := 95) dX10_names_61 (by decide) (fun c3 => ?_) (fun c3 => ?_)
        · refine J_iinc (q := 2) (z := nI (i + 1)) (lv' := [(2, .int (nI (i + 1))), (0, .ref 1000), (1, .int x1)]) dX10_names_95 rfl (nI_1 i) (by decide) rfl ?_
          refine J_goto (tgt := 33) dX10_names_98 (by decide) ?_
          refine J_lv [1, 2, 0] rfl ?_
          exact ih (i + 1) _ (by omega) (by omega) ⟨hz.1, by rw [ofK_s, if_pos c2, if_pos c3]; exact hz.2.1, by rw [ofX_s, if_pos c2, if_pos c3]; exact hz.2.2.1, by rw [ofX_s, if_pos c2, if_pos c3]; exact hz.2.2.2.1, by rw [ofX_s, if_pos c2, if_pos c3]; exact hz.2.2.2.2.1, hz.2.2.2.2.2⟩
        · refine J_aload_n dX10_names_64 rfl 0 rfl ?_
          refine J_iload_n dX10_names_65 rfl 2 rfl ?_
          refine J_iconst (x := (-1)) dX10_names_66 (by decide) ?_
          refine J_eVI (z := mX10_priceOn) (As := [.int (nI i), .int (-1)]) (rest := []) (ci := 10) (x := prX v ac m i) dX10_names_67 ml_X10_110 ok_X10_priceOn iv_X10_priceOn (by decide) (i1000 hI) rfl rfl rfl rfl (Nat.le_of_ble_eq_true rfl) ((show Con l mX10_priceOn I z u _ (QI z u (fun a => a = prX v ac m i)) from (by have h := k_X10_priceOn (l := l) hI z u ac m (nI i) (-1) hac (by rw [hz.1 1000 (by omega) (by omega) (by omega) (by omega) (by omega) (by omega) (by omega)]; exact ha) (ln_3 hz.1 hac hln) (vp_in_nI (by omega) (by omega)) (fun h => absurd rfl h); rw [price_3 hz.1 hac hln.1 (nI i) (-1)] at h; exact h))) ?_
          refine J_istore_n (lv' := [(3, .int (prX v ac m i)), (0, .ref 1000), (1, .int x1), (2, .int (nI i))]) dX10_names_70 rfl (by decide) rfl ?_
          refine J_aload_n dX10_names_71 rfl 1 rfl ?_
          refine J_getr (ci := 10) (j := 8) (t := 200) dX10_names_72 fl_X10_63 (i1000 hI) rfl rfl rfl ?_
          refine J_iload_n dX10_names_75 rfl 3 rfl ?_
          refine J_iload_n dX10_names_76 rfl 0 rfl ?_
          refine J_iconst (x := 2) dX10_names_77 (by decide) ?_
          refine J_aload_n dX10_names_78 rfl 1 rfl ?_
          refine J_iload_n dX10_names_79 rfl 3 rfl ?_
          refine J_iconst (x := (-1)) dX10_names_80 (by decide) ?_
          refine J_iconst (x := 0) dX10_names_81 (by decide) ?_
          refine J_cVX (z := mX10_worthNow) (As := [.int (nI i), .int (-1), .int 0]) (rest := [.int 2, .int (prX v ac m i), .int (nI i), .ref 200]) (ci := 10) dX10_names_82 ml_X10_226 ok_X10_worthNow iv_X10_worthNow (by decide) (i1000 hI) rfl rfl rfl rfl (Nat.le_of_ble_eq_true rfl) (k_wn3 hI v u ac N n w (nI i) (-1) 0 z hz.1 hk hac ha hw hw8 hN hW hl hr (hx i hin) (fun h => absurd rfl h)) (fun b y hy => ?_)
          obtain ⟨hb, hy0, hy1, hy2, hy3, hy4⟩ := hy
          have hk12 : ofK v ac m i < 12 := by have := ofK_le v ac m i; omega
          have hof : y 200 3 = nI (ofK v ac m i) := by rw [hy1]; exact hz.2.1
          refine J_imul dX10_names_85 ?_
          refine J_sipush (x := 1000) dX10_names_86 (by decide) ?_
          refine J_iload_n dX10_names_89 rfl 0 rfl ?_
          refine J_imul dX10_names_90 ?_
          refine J_isub dX10_names_91 ?_
          refine J_eVN (z := mX2_offer) (As := [.int (nI i), .int (prX v ac m i), .int ((2 * b) - (1000 * (prX v ac m i)))]) (rest := []) (ci := 2) (w := up2 (up2 (up2 (up2 y 201 (ofK v ac m i) (nI i)) 202 (ofK v ac m i) (prX v ac m i)) 203 (ofK v ac m i) ((2 * b) - (1000 * (prX v ac m i)))) 200 3 (nI (ofK v ac m i + 1))) dX10_names_92 ml_X10_242 ok_X2_offer iv_X2_offer (by decide) (i200 hI) rfl rfl rfl rfl (Nat.le_of_ble_eq_true rfl) ((offer_e hk12 hof (nI i) (prX v ac m i) ((2 * b) - (1000 * (prX v ac m i))) ▸ k_X2_offer hI y u (nI i) (prX v ac m i) ((2 * b) - (1000 * (prX v ac m i))) (ofK v ac m i) hof (by omega))) ?_
          refine J_iinc (q := 3) (z := nI (i + 1)) (lv' := [(2, .int (nI (i + 1))), (3, .int (prX v ac m i)), (0, .ref 1000), (1, .int x1)]) dX10_names_95 rfl (nI_1 i) (by decide) rfl ?_
          refine J_goto (tgt := 33) dX10_names_98 (by decide) ?_
          refine J_lv [2, 3, 0] rfl ?_
          refine ih (i + 1) _ (by omega) (by omega) ⟨fun c a1 a2 a3 a4 a5 a6 a7 => ?_, ?_, ?_, ?_, ?_, ?_⟩
          · rw [up2_ne a4, up2_ne a7, up2_ne a6, up2_ne a5]; exact hy0 c a1 a2 a3 a4 a5 a6 a7
          · rw [up2_self, pk_us, ofK_s, if_pos c2, if_neg c3]
          · rw [up2_ne (by omega), up2_ne (by omega), up2_ne (by omega), up2_self, hy2, hz.2.2.1, ofX_s, if_pos c2, if_neg c3]
          · rw [up2_ne (by omega), up2_ne (by omega), up2_self, up2_ne (by omega), hy3, hz.2.2.2.1, ofX_s, if_pos c2, if_neg c3]
          · rw [up2_ne (by omega), up2_self, up2_ne (by omega), up2_ne (by omega), hy4, hz.2.2.2.2.1, ofX_s, if_pos c2, if_neg c3, hb]; rfl
          · show y 200 10 = _; rw [hy1]; exact hz.2.2.2.2.2
def nmP (v : fr_V) (ac m N n w : Nat) (x1 : Int32) (a : Int32) (b : fr_V) : Prop := ∃ z, nmI v ac m N n w n z ∧ a = (f_choose z (ofK v ac m n) x1 (f_set v ac 3)).1 ∧ b = (f_choose z (ofK v ac m n) x1 (f_set v ac 3)).2
theorem sm3.ln {v z : fr_V} (h : sm3 v z) {ac : Nat} (hac : ac = 10 ∨ ac = 20) {m : Nat} (k : lnOK v ac m) : lnOK z ac m := by
  obtain ⟨k1, k2, k3⟩ := k
  refine ⟨k1, by rw [h.1 ac (by omega) (by omega) (by omega) (by omega) (by omega)]; exact k2, fun i hi => ?_⟩
  have := ln_lt hac (show i < 24 by omega)
  unfold lwf
  rw [h.1 (lnB ac + i) (by omega) (by omega) (by omega) (by omega) (by omega)]
  exact k3 i hi
def nmQ (v : fr_V) (ac m N n w : Nat) (x1 : Int32) (a : Int32) (b : fr_V) : Prop := if x1 < 0 then a = (-2147483648) ∧ b = v else if x1 ≤ 99999 then nmP (f_kw v N (nI w)) ac m N n w x1 a b else a = (-2147483648) ∧ b = v
theorem k_X10_names {l : Launch} {I : List Nat} (hI : fr_I I) (v : fr_V) (u : fr_U) (ac m N n w : Nat) (x1 : Int32) (hac : ac = 10 ∨ ac = 20) (ha : v 1000 1 = nI ac) (hln : lnOK v ac m) (hw : v 1000 3 = nI w) (hw8 : w < 80) (hN : v 100 5 = nI N) (hW : nt_ok (v 102) (v 103) N) (hl : lf8 n v) (hr : ¬ f_set v ac 2 + 1 = 0) (hx : ∀ i, i < n → lvOK v w (nI i)) (hcap : ∃ cp, 1 ≤ cp ∧ cp ≤ 3 ∧ f_set v ac 3 = nI cp) : Con l mX10_names I v u [.ref 1000, .int x1] (QX u (fun a b => nmQ v ac m N n w x1 a b)) := by
  refine Con.of (by decide) (Nat.le_of_ble_eq_true rfl) ?_
  show J l mX10_names I v u 0 [(0, .ref 1000), (1, .int x1)] [] _
  refine J_iload_n dX10_names_0 rfl 1 rfl ?_
  refine J_if_lt (tgt := 10) dX10_names_1 (by decide) (fun c1 => ?_) (fun c1 => ?_)
  · refine J_ldc (x := (-2147483648)) dX10_names_10 cn_X10_232 ?_
    exact J_iret dX10_names_12 rfl ⟨_, rfl, rfl, by show nmQ v ac m N n w x1 _ _; unfold nmQ; rw [if_pos c1]; exact ⟨rfl, rfl⟩⟩
  · refine J_iload_n dX10_names_4 rfl 1 rfl ?_
    refine J_ldc (x := 99999) dX10_names_5 cn_X10_229 ?_
    refine J_icmp_le (tgt := 13) dX10_names_7 (by decide) (fun c2 => ?_) (fun c2 => ?_)
    · refine J_aload_n dX10_names_13 rfl 0 rfl ?_
      refine J_getr (ci := 10) (j := 5) (t := 100) dX10_names_14 fl_X10_38 (i1000 hI) rfl rfl rfl ?_
      refine J_aload_n dX10_names_17 rfl 0 rfl ?_
      refine J_gete (ci := 10) (j := 3) (x := nI w) dX10_names_18 fl_X10_92 (i1000 hI) rfl rfl hw ?_
      refine J_eVN (z := mX1_know) (As := [.int (nI w)]) (rest := []) (ci := 1) (w := (f_kw v N (nI w))) dX10_names_21 ml_X10_149 ok_X1_know iv_X1_know (by decide) (i100 hI) rfl rfl rfl rfl (Nat.le_of_ble_eq_true rfl) (k_X1_know hI v u (nI w) N hN hW) ?_
      refine J_aload_n dX10_names_24 rfl 0 rfl ?_
      refine J_getr (ci := 10) (j := 8) (t := 200) dX10_names_25 fl_X10_63 (i1000 hI) rfl rfl rfl ?_
      refine J_eVN (z := mX2_clearOffers) (As := []) (rest := []) (ci := 2) (w := (f_X2_clearOffers (f_kw v N (nI w)))) dX10_names_28 ml_X10_233 ok_X2_clearOffers iv_X2_clearOffers (by decide) (i200 hI) rfl rfl rfl rfl (Nat.le_of_ble_eq_true rfl) (k_X2_clearOffers hI (f_kw v N (nI w)) u) ?_
      refine J_iconst (x := 0) dX10_names_31 (by decide) ?_
      refine J_istore_n (lv' := [(2, .int 0), (0, .ref 1000), (1, .int x1)]) dX10_names_32 rfl (by decide) rfl ?_
      refine J_lv [1, 2, 0] rfl ?_
      have q := sm3.kw (v := v) (N := N) (x := nI w)
      have q1000 := q.1 1000 (by omega) (by omega) (by omega) (by omega) (by omega)
      have hac2 : (f_kw v N (nI w)) 1000 1 = nI ac := by rw [q1000]; exact ha
      obtain ⟨cp, h1, h3, hcp⟩ := hcap
      obtain ⟨R, hR⟩ := crF_N h1 h3 (ofK (f_kw v N (nI w)) ac m n) 1 (by omega) (by omega)
      rw [← hcp, ← q.set hac 3] at hR
      refine nm_L hI (f_kw v N (nI w)) u ac m N n w x1 (kw_6 _ _ _) hac hac2 (q.ln hac hln) (by rw [q1000]; exact hw) hw8 (by rw [q.2.1 5 (by omega)]; exact hN) (by rw [q.1 102 (by omega) (by omega) (by omega) (by omega) (by omega), q.1 103 (by omega) (by omega) (by omega) (by omega) (by omega)]; exact hW) (q.lf hl) (by rw [q.set hac]; exact hr) (fun i hi => q.lv (hx i hi)) hl.1 (fun z hz => ?_) (n + 1) 0 _ (by omega) (by omega) ⟨fun c _ _ _ a4 _ _ _ => up2_ne a4, rfl, rfl, rfl, rfl, rfl⟩
      refine J_aload_n dX10_names_101 rfl 0 rfl ?_
      refine J_getr (ci := 10) (j := 8) (t := 200) dX10_names_102 fl_X10_63 (i1000 hI) rfl rfl rfl ?_
      refine J_iload_n dX10_names_105 rfl 1 rfl ?_
      refine J_aload_n dX10_names_106 rfl 0 rfl ?_
      refine J_getd (ci := 10) (j := 1) (t := ac) dX10_names_107 fl_X10_19 (i1000 hI) rfl rfl (by rw [show z 1000 1 = nI ac from ((congrFun (hz.1 1000 (by omega) (by omega) (by omega) (by omega) (by omega) (by omega) (by omega)) 1).trans hac2)]; exact nI_pos (by omega)) (by rw [show z 1000 1 = nI ac from ((congrFun (hz.1 1000 (by omega) (by omega) (by omega) (by omega) (by omega) (by omega) (by omega)) 1).trans hac2)]; exact nI_clamp (by omega)) ?_
      refine J_iconst (x := 3) dX10_names_110 (by decide) ?_
      refine J_eVI (z := mX0_setting) (As := [.int 3]) (rest := [.int x1, .ref 200]) (ci := 0) (x := f_set (f_kw v N (nI w)) ac 3) dX10_names_111 ml_X10_177 ok_X0_setting iv_X0_setting (by decide) (i_ac hI hac) (s_ac hac) rfl rfl rfl (Nat.le_of_ble_eq_true rfl) ((set_3 hz.1 hac 3 ▸ k_X0_setting hI z u hac 3 (by omega))) ?_
      refine J_eVX (z := mX2_choose) (As := [.int x1, .int (f_set (f_kw v N (nI w)) ac 3)]) (rest := []) (ci := 2) (x := (f_choose z (ofK (f_kw v N (nI w)) ac m n) x1 (f_set (f_kw v N (nI w)) ac 3)).1) (w := (f_choose z (ofK (f_kw v N (nI w)) ac m n) x1 (f_set (f_kw v N (nI w)) ac 3)).2) dX10_names_114 ml_X10_245 ok_X2_choose iv_X2_choose (by decide) (i200 hI) rfl rfl rfl rfl (Nat.le_of_ble_eq_true rfl) (k_X2_choose hI z u x1 (f_set (f_kw v N (nI w)) ac 3) (ofK (f_kw v N (nI w)) ac m n) R hz.2.1 (by have := ofK_le (f_kw v N (nI w)) ac m n; have := hl.1; omega) (by rw [hz.2.2.1]; exact ofX_in n hl.1) hR.1 (by omega) hR.2.1) ?_
      exact J_iret dX10_names_117 rfl ⟨_, rfl, rfl, by show nmQ v ac m N n w x1 _ _; unfold nmQ; rw [if_neg c1, if_pos c2]; exact ⟨z, hz, rfl, rfl⟩⟩
    · refine J_ldc (x := (-2147483648)) dX10_names_10 cn_X10_232 ?_
      exact J_iret dX10_names_12 rfl ⟨_, rfl, rfl, by show nmQ v ac m N n w x1 _ _; unfold nmQ; rw [if_neg c1, if_neg c2]; exact ⟨rfl, rfl⟩⟩
