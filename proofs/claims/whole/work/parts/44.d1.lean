theorem i_ac {I : List Nat} (hI : fr_I I) {ac : Nat} (h : ac = 10 ∨ ac = 20) : ac ∈ I := by rcases h with rfl | rfl; exact i10 hI; exact i20 hI
theorem s_ac {ac : Nat} (h : ac = 10 ∨ ac = 20) : (sh ac).1 = 0 := by rcases h with rfl | rfl <;> rfl
def f_set (v : fr_V) (ac j : Nat) : Int32 := if (v (ac + 3) j) = (-1) then fr_us j else v (ac + 3) j
theorem k_X0_setting {l : Launch} {I : List Nat} (hI : fr_I I) (v : fr_V) (u : fr_U) {ac : Nat} (hac : ac = 10 ∨ ac = 20) (j : Nat) (hj : j < 4) : Con l mX0_setting I v u [.ref ac, .int (nI j)] (QI v u (fun a => a = f_set v ac j)) := by
  have e : (nI j).toNatClampNeg = j := nI_clamp (by omega)
  rcases hac with rfl | rfl
  · have h := k_X0_setting10 (l := l) hI v u (nI j) (vp_in_nI hj (by omega))
    unfold f_setting10 at h
    rw [e] at h
    exact h
  · have h := k_X0_setting20 (l := l) hI v u (nI j) (vp_in_nI hj (by omega))
    unfold f_setting20 at h
    rw [e] at h
    exact h
/-- what the payments leave as it is -/
def sm3 (v z : fr_V) : Prop := (∀ c, c < 2000 → c ≠ 100 → c ≠ 108 → c ≠ 109 → c ≠ 110 → z c = v c) ∧ (∀ j, j ≠ 6 → z 100 j = v 100 j) ∧ ∀ r, z (2000 + 10 * r) = v (2000 + 10 * r)
theorem sm3.rfl {v : fr_V} : sm3 v v := ⟨fun _ _ _ _ _ _ => Eq.refl _, fun _ _ => Eq.refl _, fun _ => Eq.refl _⟩
theorem sm3.tr {a b c : fr_V} (h : sm3 a b) (k : sm3 b c) : sm3 a c :=
  ⟨fun x h1 h2 h3 h4 h5 => (k.1 x h1 h2 h3 h4 h5).trans (h.1 x h1 h2 h3 h4 h5), fun j hj => (k.2.1 j hj).trans (h.2.1 j hj), fun r => (k.2.2 r).trans (h.2.2 r)⟩
theorem sm3.up {v : fr_V} {q i : Nat} {x : Int32} : sm3 v (up2 v (2007 + 10 * q) i x) :=
  ⟨fun c h1 _ _ _ _ => up2_ne (by omega), fun j _ => by rw [up2_ne (by omega)], fun r => up2_ne (by omega)⟩
theorem sm3.upA {v : fr_V} {q : Nat} {f : Nat → Int32} : sm3 v (upA v (2007 + 10 * q) f) :=
  ⟨fun c h1 _ _ _ _ => upA_ne (by omega), fun j _ => by rw [upA_ne (by omega)], fun r => upA_ne (by omega)⟩
theorem sm3.kw {v : fr_V} {N : Nat} {x : Int32} : sm3 v (f_kw v N x) := by
  unfold f_kw
  split
  · exact sm3.rfl
  · unfold kw_end f_knowDeaths
    refine ⟨fun c h1 h2 h3 h4 h5 => ?_, fun j hj => ?_, fun r => ?_⟩
    · rw [upA_ne h4, upA_ne h5, upA_ne h3, up2_ne h2]
    · rw [upA_ne (by omega), upA_ne (by omega), upA_ne (by omega)]
      show upd (v 100) 6 x j = _
      exact if_neg hj
    · rw [upA_ne (by omega), upA_ne (by omega), upA_ne (by omega), up2_ne (by omega)]
theorem sm3.ok {I : List Nat} {nr N : Nat} {v z : fr_V} (h : sm3 v z) (k : p3OK I nr N v) : p3OK I nr N z := by
  obtain ⟨⟨a1, a2, a3⟩, a4, a5, a6⟩ := k
  refine ⟨⟨a1, by rw [h.1 300 (by omega) (by omega) (by omega) (by omega) (by omega)]; exact a2, fun r hr => ⟨(a3 r hr).1, (a3 r hr).2.1, by rw [h.1 302 (by omega) (by omega) (by omega) (by omega) (by omega)]; exact (a3 r hr).2.2⟩⟩, by rw [h.2.1 5 (by omega)]; exact a4, by rw [h.1 102 (by omega) (by omega) (by omega) (by omega) (by omega), h.1 103 (by omega) (by omega) (by omega) (by omega) (by omega)]; exact a5, fun r hr => ?_⟩
  rw [h.2.2 r]
  exact a6 r hr
theorem sm3.set {v z : fr_V} (h : sm3 v z) {ac : Nat} (hac : ac = 10 ∨ ac = 20) (j : Nat) : f_set z ac j = f_set v ac j := by
  unfold f_set
  rw [h.1 (ac + 3) (by omega) (by omega) (by omega) (by omega) (by omega)]
theorem sm3.p3 {N r k h0 : Nat} {x4 : Int32} {v : fr_V} : ∀ s, sm3 v (p3 N r k h0 x4 v s) := by
  intro s
  induction s with
  | zero => exact sm3.rfl
  | succ s ih =>
    rw [p3_s]
    refine ih.tr ?_
    unfold p3_t
    repeat' split
    all_goals first | exact sm3.rfl | exact sm3.up
def fgA (x : Int32) (w0 : fr_V) : Nat → fr_V
  | 0 => w0
  | r + 1 => upA (fgA x w0 r) (2007 + 10 * r) (fgF x (fgA x w0 r (2007 + 10 * r)) 80)
theorem fgA_s (x : Int32) (w0 : fr_V) (r : Nat) : fgA x w0 (r + 1) = upA (fgA x w0 r) (2007 + 10 * r) (fgF x (fgA x w0 r (2007 + 10 * r)) 80) := rfl
noncomputable def stC (N k ar : Nat) (x4 : Int32) (w0 : fr_V) : Nat → fr_V
  | 0 => w0
  | r + 1 => p3 N r k (k - ar) x4 (stC N k ar x4 w0 r) (k + 1 - (k - ar))
theorem stC_s (N k ar : Nat) (x4 : Int32) (w0 : fr_V) (r : Nat) : stC N k ar x4 w0 (r + 1) = p3 N r k (k - ar) x4 (stC N k ar x4 w0 r) (k + 1 - (k - ar)) := rfl
noncomputable def stB (N nr ar k0 : Nat) (x4 : Int32) (w0 : fr_V) : Nat → fr_V
  | 0 => w0
  | s + 1 => stC N (k0 + s) ar x4 (f_kw (stB N nr ar k0 x4 w0 s) N (nI (k0 + s))) nr
theorem stB_s (N nr ar k0 : Nat) (x4 : Int32) (w0 : fr_V) (s : Nat) : stB N nr ar k0 x4 w0 (s + 1) = stC N (k0 + s) ar x4 (f_kw (stB N nr ar k0 x4 w0 s) N (nI (k0 + s))) nr := rfl
noncomputable def f_settle (v : fr_V) (N nr ar k0 : Nat) (x4 : Int32) (now : Nat) : fr_V := up2 (stB N nr ar k0 x4 (fgA (nI k0) v nr) (now + 1 - k0)) 300 10 (nI now)
theorem stC_L {l : Launch} {I : List Nat} (hI : fr_I I) (u : fr_U) (nr N ar k0 now ac : Nat) (x4 : Int32) (hac : ac = 10 ∨ ac = 20) (hnr : nr ≤ 16) (hnow : now < 80) (hk0 : k0 ≤ now) (har : ar ≤ 40) (s : Nat) (hs8 : k0 + s ≤ now) (w0 : fr_V) {Q : Option Value → fr_V → fr_U → Prop} (hk : ∀ z : fr_V, z = stC N (k0 + s) ar x4 w0 nr → p3OK I nr N z → z 300 10 = nI k0 → f_set z ac 0 = nI ar → f_set z ac 1 = x4 → J l mX3_settle I z u 82 [(0, .ref 300), (1, .int (nI now)), (2, .ref ac), (3, .int (nI (k0 + s))), (4, .int (nI nr))] [] Q) : ∀ (d r : Nat) (z : fr_V) (hd : nr - r < d) (hj : r ≤ nr) (hz : z = stC N (k0 + s) ar x4 w0 r) (hv : p3OK I nr N z) (hs : z 300 10 = nI k0) (h0 : f_set z ac 0 = nI ar) (h1 : f_set z ac 1 = x4), J l mX3_settle I z u 50 [(0, .ref 300), (1, .int (nI now)), (2, .ref ac), (3, .int (nI (k0 + s))), (4, .int (nI r))] [] Q := by
  intro d
  induction d with
  | zero => intros; omega
  | succ d ih =>
    intro r z hd hj hz hv hs h0 h1
    refine J_iload dX3_settle_50 4 rfl ?_
    refine J_aload_n dX3_settle_52 rfl 0 rfl ?_
    refine J_gete (ci := 3) (j := 2) (x := nI nr) dX3_settle_53 fl_X3_40 (i300 hI) rfl rfl hv.1.2.1 ?_
    refine J_icmp_ge (tgt := 82) dX3_settle_56 (by decide) (fun c1 => ?_) (fun c1 => ?_)
    · have e : r = nr := by have := nz_le (by omega) (by omega) c1; omega
      subst e
      refine J_lv [0, 1, 2, 3, 4] rfl ?_
      exact hk z hz hv hs h0 h1
    · have hr : r < nr := nz_nle (by omega) (by omega) c1
      refine J_aload_n dX3_settle_59 rfl 0 rfl ?_
      refine J_iload dX3_settle_60 4 rfl ?_
      refine J_iload_n dX3_settle_62 rfl 3 rfl ?_
      refine J_aload_n dX3_settle_63 rfl 2 rfl ?_
      refine J_iconst (x := 0) dX3_settle_64 (by decide) ?_
      refine J_eVI (z := mX0_setting) (As := [.int 0]) (rest := [.int (nI (k0 + s)), .int (nI r), .ref 300]) (ci := 0) (x := nI ar) dX3_settle_65 ml_X3_106 ok_X0_setting iv_X0_setting (by decide) (i_ac hI hac) (s_ac hac) rfl rfl rfl (Nat.le_of_ble_eq_true rfl) ((h0 ▸ k_X0_setting hI z u hac 0 (by omega))) ?_
      refine J_aload_n dX3_settle_68 rfl 2 rfl ?_
      refine J_iconst (x := 1) dX3_settle_69 (by decide) ?_
      refine J_eVI (z := mX0_setting) (As := [.int 1]) (rest := [.int (nI ar), .int (nI (k0 + s)), .int (nI r), .ref 300]) (ci := 0) (x := x4) dX3_settle_70 ml_X3_106 ok_X0_setting iv_X0_setting (by decide) (i_ac hI hac) (s_ac hac) rfl rfl rfl (Nat.le_of_ble_eq_true rfl) ((h1 ▸ k_X0_setting hI z u hac 1 (by omega))) ?_
      refine J_eVN (z := mX3_pay) (As := [.int (nI r), .int (nI (k0 + s)), .int (nI ar), .int x4]) (rest := []) (ci := 3) (w := p3 N r (k0 + s) (k0 + s - ar) x4 z (k0 + s + 1 - (k0 + s - ar))) dX3_settle_73 ml_X3_112 ok_X3_pay iv_X3_pay (by decide) (i300 hI) rfl rfl rfl rfl (Nat.le_of_ble_eq_true rfl) (k_X3_pay hI z u nr N r (k0 + s) ar x4 hr (by omega) har hv) ?_
      refine J_iinc (q := 4) (z := nI (r + 1)) (lv' := [(4, .int (nI (r + 1))), (0, .ref 300), (1, .int (nI now)), (2, .ref ac), (3, .int (nI (k0 + s)))]) dX3_settle_76 rfl (nI_1 r) (by decide) rfl ?_
      refine J_goto (tgt := 50) dX3_settle_79 (by decide) ?_
      refine J_lv [1, 2, 3, 4, 0] rfl ?_
      exact ih (r + 1) _ (by omega) (by omega) (by rw [stC_s, ← hz]) ((sm3.p3 _).ok hv) (((sm3.p3 (v := z) _).1 300 (by omega) (by omega) (by omega) (by omega) (by omega)) ▸ hs) (((sm3.p3 _).set hac 0).trans h0) (((sm3.p3 _).set hac 1).trans h1)
theorem stB_L {l : Launch} {I : List Nat} (hI : fr_I I) (u : fr_U) (nr N ar k0 now ac : Nat) (x4 : Int32) (hac : ac = 10 ∨ ac = 20) (hnr : nr ≤ 16) (hnow : now < 80) (hk0 : k0 ≤ now) (har : ar ≤ 40) (w0 : fr_V) : ∀ (d s : Nat) (z : fr_V) (hd : now + 1 - k0 - s < d) (hj : s ≤ now + 1 - k0) (hz : z = stB N nr ar k0 x4 w0 s) (hv : p3OK I nr N z) (hs : z 300 10 = nI k0) (h0 : f_set z ac 0 = nI ar) (h1 : f_set z ac 1 = x4), J l mX3_settle I z u 34 [(0, .ref 300), (1, .int (nI now)), (2, .ref ac), (3, .int (nI (k0 + s)))] [] (QN u (fun a => a = up2 (stB N nr ar k0 x4 w0 (now + 1 - k0)) 300 10 (nI now))) := by
  intro d
  induction d with
  | zero => intros; omega
  | succ d ih =>
    intro s z hd hj hz hv hs h0 h1
    refine J_iload_n dX3_settle_34 rfl 3 rfl ?_
    refine J_iload_n dX3_settle_35 rfl 1 rfl ?_
    refine J_icmp_gt (tgt := 88) dX3_settle_36 (by decide) (fun c1 => ?_) (fun c1 => ?_)
    · refine J_aload_n dX3_settle_88 rfl 0 rfl ?_
      refine J_iload_n dX3_settle_89 rfl 1 rfl ?_
      refine J_puti (ci := 3) (j := 10) dX3_settle_90 fl_X3_96 (i300 hI) rfl rfl (fun q h => by cases h; rfl) rfl ?_
      exact J_vret dX3_settle_93 rfl ⟨rfl, rfl, by have e : s = now + 1 - k0 := by {have := nz_lt (by omega) (by omega) c1; omega}; rw [hz, e]⟩
    · have hsk : k0 + s ≤ now := nz_nlt (by omega) (by omega) c1
      refine J_aload_n dX3_settle_39 rfl 0 rfl ?_
      refine J_getr (ci := 3) (j := 0) (t := 100) dX3_settle_40 fl_X3_36 (i300 hI) rfl rfl rfl ?_
      refine J_iload_n dX3_settle_43 rfl 3 rfl ?_
      refine J_eVN (z := mX1_know) (As := [.int (nI (k0 + s))]) (rest := []) (ci := 1) (w := f_kw z N (nI (k0 + s))) dX3_settle_44 ml_X3_103 ok_X1_know iv_X1_know (by decide) (i100 hI) rfl rfl rfl rfl (Nat.le_of_ble_eq_true rfl) (k_X1_know hI z u (nI (k0 + s)) N hv.2.1 hv.2.2.1) ?_
      refine J_iconst (x := 0) dX3_settle_47 (by decide) ?_
      refine J_istore (lv' := [(4, .int 0), (0, .ref 300), (1, .int (nI now)), (2, .ref ac), (3, .int (nI (k0 + s)))]) dX3_settle_48 (by decide) rfl ?_
      refine J_lv [1, 2, 3, 4, 0] rfl ?_
      refine stC_L hI u nr N ar k0 now ac x4 hac hnr hnow hk0 har s hsk (f_kw z N (nI (k0 + s))) (fun y hy hv hs h0 h1 => ?_) (nr + 1) 0 _ (by omega) (by omega) rfl (sm3.kw.ok hv) (((sm3.kw (v := z)).1 300 (by omega) (by omega) (by omega) (by omega) (by omega)) ▸ hs) ((sm3.kw.set hac 0).trans h0) ((sm3.kw.set hac 1).trans h1)
      refine J_iinc (q := 3) (z := nI ((k0 + s) + 1)) (lv' := [(3, .int (nI ((k0 + s) + 1))), (0, .ref 300), (1, .int (nI now)), (2, .ref ac), (4, .int (nI nr))]) dX3_settle_82 rfl (nI_1 (k0 + s)) (by decide) rfl ?_
      refine J_goto (tgt := 34) dX3_settle_85 (by decide) ?_
      refine J_lv [1, 2, 3, 0] rfl ?_
      exact ih (s + 1) _ (by omega) (by omega) (by rw [stB_s, ← hz]; exact hy) hv hs h0 h1
theorem fgA_L {l : Launch} {I : List Nat} (hI : fr_I I) (u : fr_U) (nr N ar k0 now ac : Nat) (x4 : Int32) (hac : ac = 10 ∨ ac = 20) (hnr : nr ≤ 16) (hnow : now < 80) (hk0 : k0 ≤ now) (har : ar ≤ 40) (w0 : fr_V) {Q : Option Value → fr_V → fr_U → Prop} (hk : ∀ z : fr_V, z = fgA (nI k0) w0 nr → p3OK I nr N z → z 300 10 = nI k0 → f_set z ac 0 = nI ar → f_set z ac 1 = x4 → J l mX3_settle I z u 29 [(0, .ref 300), (1, .int (nI now)), (2, .ref ac)] [] Q) : ∀ (d r : Nat) (z : fr_V) (hd : nr - r < d) (hj : r ≤ nr) (hz : z = fgA (nI k0) w0 r) (hv : p3OK I nr N z) (hs : z 300 10 = nI k0) (h0 : f_set z ac 0 = nI ar) (h1 : f_set z ac 1 = x4), J l mX3_settle I z u 2 [(0, .ref 300), (1, .int (nI now)), (2, .ref ac), (3, .int (nI r))] [] Q := by
  intro d
  induction d with
  | zero => intros; omega
  | succ d ih =>
    intro r z hd hj hz hv hs h0 h1
    refine J_iload_n dX3_settle_2 rfl 3 rfl ?_
    refine J_aload_n dX3_settle_3 rfl 0 rfl ?_
    refine J_gete (ci := 3) (j := 2) (x := nI nr) dX3_settle_4 fl_X3_40 (i300 hI) rfl rfl hv.1.2.1 ?_
    refine J_icmp_ge (tgt := 29) dX3_settle_7 (by decide) (fun c1 => ?_) (fun c1 => ?_)
    · have e : r = nr := by have := nz_le (by omega) (by omega) c1; omega
      subst e
      refine J_lv [0, 1, 2] rfl ?_
      exact hk z hz hv hs h0 h1
    · have hr : r < nr := nz_nle (by omega) (by omega) c1
      refine J_aload_n dX3_settle_10 rfl 0 rfl ?_
      refine J_getr (ci := 3) (j := 1) (t := 302) dX3_settle_11 fl_X3_11 (i300 hI) rfl rfl rfl ?_
      refine J_iload_n dX3_settle_14 rfl 3 rfl ?_
      refine J_aldR (t := 2000 + 10 * r) dX3_settle_15 (i302 hI) rfl (vp_in_nI (by have := hv.1.1; omega) (by omega)) (rn_0 hv.1 hr) (rn_1 hv.1 hr) ?_
      refine J_aload_n dX3_settle_16 rfl 0 rfl ?_
      refine J_gete (ci := 3) (j := 10) (x := nI k0) dX3_settle_17 fl_X3_96 (i300 hI) rfl rfl hs ?_
      refine J_eVN (z := mX7_forgetFrom) (As := [.int (nI k0)]) (rest := []) (ci := 7) (w := upA z (2007 + 10 * r) (fgF (nI k0) (z (2007 + 10 * r)) 80)) dX3_settle_20 ml_X3_99 ok_X7_forgetFrom iv_X7_forgetFrom (by decide) (hv.1.2.2 r hr).1 (by rw [sh_rent]) rfl rfl rfl (Nat.le_of_ble_eq_true rfl) (k_X7_forgetFrom hI z u r (hv.1.2.2 r hr).1 (hv.1.2.2 r hr).2.1 (nI k0)) ?_
      refine J_iinc (q := 3) (z := nI (r + 1)) (lv' := [(3, .int (nI (r + 1))), (0, .ref 300), (1, .int (nI now)), (2, .ref ac)]) dX3_settle_23 rfl (nI_1 r) (by decide) rfl ?_
      refine J_goto (tgt := 2) dX3_settle_26 (by decide) ?_
      refine J_lv [1, 2, 3, 0] rfl ?_
      exact ih (r + 1) _ (by omega) (by omega) (by rw [fgA_s, ← hz]) (sm3.upA.ok hv) (by rw [upA_ne (by omega)]; exact hs) ((sm3.upA.set hac 0).trans h0) ((sm3.upA.set hac 1).trans h1)
theorem k_X3_settle {l : Launch} {I : List Nat} (hI : fr_I I) (v : fr_V) (u : fr_U) (nr N ar k0 now ac : Nat) (x4 : Int32) (hac : ac = 10 ∨ ac = 20) (hnr : nr ≤ 16) (hnow : now < 80) (hk0 : k0 ≤ now) (har : ar ≤ 40) (hv : p3OK I nr N v) (hs : v 300 10 = nI k0) (h0 : f_set v ac 0 = nI ar) (h1 : f_set v ac 1 = x4) : Con l mX3_settle I v u [.ref 300, .int (nI now), .ref ac] (QN u (fun a => a = f_settle v N nr ar k0 x4 now)) := by
  refine Con.of (by decide) (Nat.le_of_ble_eq_true rfl) ?_
  show J l mX3_settle I v u 0 [(0, .ref 300), (1, .int (nI now)), (2, .ref ac)] [] _
  refine J_iconst (x := 0) dX3_settle_0 (by decide) ?_
  refine J_istore_n (lv' := [(3, .int 0), (0, .ref 300), (1, .int (nI now)), (2, .ref ac)]) dX3_settle_1 rfl (by decide) rfl ?_
  refine J_lv [1, 2, 3, 0] rfl ?_
  refine fgA_L hI u nr N ar k0 now ac x4 hac hnr hnow hk0 har v (fun z hz hv hs h0 h1 => ?_) (nr + 1) 0 _ (by omega) (by omega) rfl hv hs h0 h1
  refine J_aload_n dX3_settle_29 rfl 0 rfl ?_
  refine J_gete (ci := 3) (j := 10) (x := nI k0) dX3_settle_30 fl_X3_96 (i300 hI) rfl rfl hs ?_
  refine J_istore_n (lv' := [(3, .int (nI k0)), (0, .ref 300), (1, .int (nI now)), (2, .ref ac)]) dX3_settle_33 rfl (by decide) rfl ?_
  refine J_lv [1, 2, 3, 0] rfl ?_
  exact stB_L hI u nr N ar k0 now ac x4 hac hnr hnow hk0 har (fgA (nI k0) v nr) (now + 1 - k0 + 1) 0 _ (by omega) (by omega) hz hv hs h0 h1
