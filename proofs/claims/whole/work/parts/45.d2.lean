theorem hdF_e {SR SL TK SP SH f g : Nat → Int32} {r x : Int32} (hfg : ∀ i, i < 8 → f i = g i) : ∀ n, (∀ j, j < n → vp_in (SL j) 8 ∧ vp_in (TK j) 8) → ∀ i, i < 8 → hdF SR SL TK SP SH r x f n i = hdF SR SL TK SP SH r x g n i := by
  intro n
  induction n with
  | zero => intro _ i hi; exact hfg i hi
  | succ n ih =>
    intro hq i hi
    have ih' := ih (fun j hj => hq j (by omega))
    obtain ⟨a, ha, ea⟩ := vp_in_of (hq n (by omega)).1 (by omega)
    obtain ⟨b, hb, eb⟩ := vp_in_of (hq n (by omega)).2 (by omega)
    have ea' : (SL n).toNatClampNeg = a := by rw [ea, nI_clamp (by omega)]
    have eb' : (TK n).toNatClampNeg = b := by rw [eb, nI_clamp (by omega)]
    rw [hdF_s, hdF_s, ea', eb']
    have k1 := ih' a ha
    have k2 := ih' b hb
    have k3 := ih' i hi
    by_cases c1 : SR n = r
    · rw [if_pos c1, if_pos c1]
      by_cases c2 : x < SH n
      · rw [if_pos c2, if_pos c2]; exact k3
      · rw [if_neg c2, if_neg c2]
        unfold upd
        rw [k1, k2, k3]
    · rw [if_neg c1, if_neg c1]; exact k3
def hdC (v : fr_V) (NS r : Nat) (x : Int32) : Nat → Int32 := if v (2000 + 10 * r) 4 ≤ x then hdF (v 304) (v 305) (v 306) (v 307) (v 308) (nI r) x (upd (fun _ => 0) (v (2000 + 10 * r) 0).toNatClampNeg 60) NS else fun _ => 0
theorem hd_C {v : fr_V} {NS r : Nat} {x : Int32} (hq : ∀ j, j < NS → vp_in (v 305 j) 8 ∧ vp_in (v 306 j) 8) {i : Nat} (hi : i < 8) : hdR v NS r x i = hdC v NS r x i := by
  unfold hdR hdC
  split
  · refine hdF_e (fun q h => ?_) NS hq i hi
    unfold hd0 upd
    rw [fl_eq, if_pos h]
  · rw [fl_eq, if_pos hi]
theorem hdC_G {v : fr_V} {NS r : Nat} {x : Int32} {G : Nat → Int32} : hdC (upA v 310 G) NS r x = hdC v NS r x := by
  unfold hdC
  rw [upA_ne (show 2000 + 10 * r ≠ 310 by omega), upA_ne (show 304 ≠ 310 by omega), upA_ne (show 305 ≠ 310 by omega), upA_ne (show 306 ≠ 310 by omega), upA_ne (show 307 ≠ 310 by omega), upA_ne (show 308 ≠ 310 by omega)]
def slF (c : Int32) (H : Nat → Int32) : Nat → Int32
  | 0 => c
  | i + 1 => slF c H i - c * H i / 60
theorem slF_s (c : Int32) (H : Nat → Int32) (i : Nat) : slF c H (i + 1) = slF c H i - c * H i / 60 := rfl
def sgF (H : Nat → Int32) : Nat → Nat
  | 0 => 0
  | i + 1 => if H i ≤ H (sgF H i) then sgF H i else i
theorem sgF_s (H : Nat → Int32) (i : Nat) : sgF H (i + 1) = if H i ≤ H (sgF H i) then sgF H i else i := rfl
theorem sgF_8 (H : Nat → Int32) : ∀ i, i ≤ 8 → sgF H i < 8 := by
  intro i
  induction i with
  | zero => intro _; exact Nat.zero_lt_succ _
  | succ i ih => intro h; rw [sgF_s]; split; exact ih (by omega); omega
theorem slF_e {c : Int32} {H G : Nat → Int32} (h : ∀ i, i < 8 → H i = G i) : ∀ i, i ≤ 8 → slF c H i = slF c G i := by
  intro i
  induction i with
  | zero => intro _; rfl
  | succ i ih => intro q; rw [slF_s, slF_s, ih (by omega), h i (by omega)]
theorem sgF_e {H G : Nat → Int32} (h : ∀ i, i < 8 → H i = G i) : ∀ i, i ≤ 8 → sgF H i = sgF G i := by
  intro i
  induction i with
  | zero => intro _; rfl
  | succ i ih => intro q; rw [sgF_s, sgF_s, ih (by omega), h i (by omega), h _ (sgF_8 G i (by omega))]
def shV (c : Int32) (H : Nat → Int32) (x1 : Int32) : Int32 := c * H x1.toNatClampNeg / 60 + (if x1 = nI (sgF H 8) then slF c H 8 else 0)
theorem shV_e {c x1 : Int32} {H G : Nat → Int32} (h : ∀ i, i < 8 → H i = G i) (h1 : vp_in x1 8) : shV c H x1 = shV c G x1 := by
  obtain ⟨a, ha, rfl⟩ := vp_in_of h1 (by omega)
  unfold shV
  rw [nI_clamp (show a < 2 ^ 31 by omega), h a ha, sgF_e h 8 (by omega), slF_e h 8 (by omega)]
def shC (v : fr_V) (NS r : Nat) (x1 x3 : Int32) : Int32 := shV (v (2000 + 10 * r) 3) (hdC v NS r x3) x1
theorem shC_G {v : fr_V} {NS r : Nat} {x1 x3 : Int32} {G : Nat → Int32} : shC (upA v 310 G) NS r x1 x3 = shC v NS r x1 x3 := by
  unfold shC
  rw [hdC_G, upA_ne (show 2000 + 10 * r ≠ 310 by omega)]
theorem sl_L {l : Launch} {I : List Nat} (hI : fr_I I) (v : fr_V) (u : fr_U) (x1 x3 c : Int32) (r : Nat) (Hh : Nat → Int32) (h1 : vp_in x1 8) : ∀ (d j : Nat) (a : Int32) (g : Nat) (hd : 8 - j < d) (hj : j ≤ 8) (ha : a = slF c Hh j) (hg : g = sgF Hh j) (hg8 : g < 8), J l mX3_shareOf I (upA v 310 Hh) u 27 [(0, .ref 300), (1, .int x1), (2, .int (nI r)), (3, .int x3), (4, .int c), (5, .int a), (6, .int (nI g)), (7, .int (nI j))] [] (QX u (fun a b => a = shV c Hh x1 ∧ b = upA v 310 Hh)) := by
  intro d
  induction d with
  | zero => intros; omega
  | succ d ih =>
    intro j a g hd hj ha hg hg8
    refine J_iload dX3_shareOf_27 7 rfl ?_
    refine J_bipush (x := 8) dX3_shareOf_29 (by decide) ?_
    refine J_icmp_ge (tgt := 79) dX3_shareOf_31 (by decide) (fun c1 => ?_) (fun c1 => ?_)
    · refine J_iload dX3_shareOf_79 4 rfl ?_
      refine J_aload_n dX3_shareOf_81 rfl 0 rfl ?_
      refine J_getr (ci := 3) (j := 9) (t := 310) dX3_shareOf_82 fl_X3_33 (i300 hI) rfl rfl rfl ?_
      refine J_iload_n dX3_shareOf_85 rfl 1 rfl ?_
      refine J_iale (x := Hh x1.toNatClampNeg) dX3_shareOf_86 (i310 hI) rfl h1 rfl ?_
      refine J_imul dX3_shareOf_87 ?_
      refine J_bipush (x := 60) dX3_shareOf_88 (by decide) ?_
      refine J_idiv dX3_shareOf_90 (by decide) ?_
      refine J_iload_n dX3_shareOf_91 rfl 1 rfl ?_
      refine J_iload dX3_shareOf_92 6 rfl ?_
      refine J_icmp_ne (tgt := 102) dX3_shareOf_94 (by decide) (fun c2 => ?_) (fun c2 => ?_)
      · refine J_iconst (x := 0) dX3_shareOf_102 (by decide) ?_
        refine J_iadd dX3_shareOf_103 ?_
        exact J_iret dX3_shareOf_104 rfl ⟨_, rfl, rfl, by have e : j = 8 := by {have := nz_le (a := 8) (by omega) (by omega) c1; omega}; subst e; unfold shV; rw [← hg, ← ha, if_neg c2], rfl⟩
      · refine J_iload dX3_shareOf_97 5 rfl ?_
        refine J_goto (tgt := 103) dX3_shareOf_99 (by decide) ?_
        refine J_iadd dX3_shareOf_103 ?_
        exact J_iret dX3_shareOf_104 rfl ⟨_, rfl, rfl, by have e : j = 8 := by {have := nz_le (a := 8) (by omega) (by omega) c1; omega}; subst e; unfold shV; rw [← hg, ← ha, if_pos c2], rfl⟩
    · have hj8 : j < 8 := nz_nle (a := 8) (by omega) (by omega) c1
      refine J_iload dX3_shareOf_34 5 rfl ?_
      refine J_iload dX3_shareOf_36 4 rfl ?_
      refine J_aload_n dX3_shareOf_38 rfl 0 rfl ?_
      refine J_getr (ci := 3) (j := 9) (t := 310) dX3_shareOf_39 fl_X3_33 (i300 hI) rfl rfl rfl ?_
      refine J_iload dX3_shareOf_42 7 rfl ?_
      refine J_iale (x := Hh j) dX3_shareOf_44 (i310 hI) rfl (ix_in (j := j) rfl (by omega) (by omega)) ((congrArg _ (ix_cl (j := j) rfl (by omega))).trans rfl) ?_
      refine J_imul dX3_shareOf_45 ?_
      refine J_bipush (x := 60) dX3_shareOf_46 (by decide) ?_
      refine J_idiv dX3_shareOf_48 (by decide) ?_
      refine J_isub dX3_shareOf_49 ?_
      refine J_istore (lv' := [(5, .int (a - ((c * (Hh j)) / 60))), (0, .ref 300), (1, .int x1), (2, .int (nI r)), (3, .int x3), (4, .int c), (6, .int (nI g)), (7, .int (nI j))]) dX3_shareOf_50 (by decide) rfl ?_
      refine J_aload_n dX3_shareOf_52 rfl 1 rfl ?_
      refine J_getr (ci := 3) (j := 9) (t := 310) dX3_shareOf_53 fl_X3_33 (i300 hI) rfl rfl rfl ?_
      refine J_iload dX3_shareOf_56 7 rfl ?_
      refine J_iale (x := Hh j) dX3_shareOf_58 (i310 hI) rfl (ix_in (j := j) rfl (by omega) (by omega)) ((congrArg _ (ix_cl (j := j) rfl (by omega))).trans rfl) ?_
      refine J_aload_n dX3_shareOf_59 rfl 1 rfl ?_
      refine J_getr (ci := 3) (j := 9) (t := 310) dX3_shareOf_60 fl_X3_33 (i300 hI) rfl rfl rfl ?_
      refine J_iload dX3_shareOf_63 6 rfl ?_
      refine J_iale (x := Hh g) dX3_shareOf_65 (i310 hI) rfl (ix_in (j := g) rfl (by omega) (by omega)) ((congrArg _ (ix_cl (j := g) rfl (by omega))).trans rfl) ?_
      refine J_icmp_le (tgt := 73) dX3_shareOf_66 (by decide) (fun c3 => ?_) (fun c3 => ?_)
      · refine J_iinc (q := 7) (z := nI (j + 1)) (lv' := [(7, .int (nI (j + 1))), (5, .int (a - ((c * (Hh j)) / 60))), (0, .ref 300), (1, .int x1), (2, .int (nI r)), (3, .int x3), (4, .int c), (6, .int (nI g))]) dX3_shareOf_73 rfl (nI_1 j) (by decide) rfl ?_
        refine J_goto (tgt := 27) dX3_shareOf_76 (by decide) ?_
        refine J_lv [2, 3, 4, 5, 6, 1, 7, 0] rfl ?_
        exact ih (j + 1) _ _ (by omega) (by omega) (by rw [slF_s, ← ha]) (by rw [sgF_s, ← hg, if_pos c3]) hg8
      · refine J_iload dX3_shareOf_69 7 rfl ?_
        refine J_istore (lv' := [(6, .int (nI j)), (5, .int (a - ((c * (Hh j)) / 60))), (0, .ref 300), (1, .int x1), (2, .int (nI r)), (3, .int x3), (4, .int c), (7, .int (nI j))]) dX3_shareOf_71 (by decide) rfl ?_
        refine J_iinc (q := 7) (z := nI (j + 1)) (lv' := [(7, .int (nI (j + 1))), (6, .int (nI j)), (5, .int (a - ((c * (Hh j)) / 60))), (0, .ref 300), (1, .int x1), (2, .int (nI r)), (3, .int x3), (4, .int c)]) dX3_shareOf_73 rfl (nI_1 j) (by decide) rfl ?_
        refine J_goto (tgt := 27) dX3_shareOf_76 (by decide) ?_
        refine J_lv [3, 4, 5, 6, 7, 2, 1, 0] rfl ?_
        exact ih (j + 1) _ _ (by omega) (by omega) (by rw [slF_s, ← ha]) (by rw [sgF_s, ← hg, if_neg c3]) (by omega)
theorem k_X3_shareOf0 {l : Launch} {I : List Nat} (hI : fr_I I) (v : fr_V) (u : fr_U) (nr r NS : Nat) (hn : rnOK I nr v) (hr : r < nr) (x1 x3 : Int32) (hS : v 300 8 = nI NS) (hS2 : NS ≤ 40) (hq : ∀ j, j < NS → vp_in (v 305 j) 8 ∧ vp_in (v 306 j) 8) (hh : vp_in (v (2000 + 10 * r) 0) 8) (h1 : vp_in x1 8) : Con l mX3_shareOf I v u [.ref 300, .int x1, .int (nI r), .int x3] (QX u (fun a b => a = shV (v (2000 + 10 * r) 3) (hdR v NS r x3) x1 ∧ b = upA v 310 (hdR v NS r x3))) := by
  refine Con.of (by decide) (Nat.le_of_ble_eq_true rfl) ?_
  show J l mX3_shareOf I v u 0 [(0, .ref 300), (1, .int x1), (2, .int (nI r)), (3, .int x3)] [] _
  refine J_aload_n dX3_shareOf_0 rfl 0 rfl ?_
  refine J_getr (ci := 3) (j := 1) (t := 302) dX3_shareOf_1 fl_X3_11 (i300 hI) rfl rfl rfl ?_
  refine J_iload_n dX3_shareOf_4 rfl 2 rfl ?_
  refine J_aldR (t := 2000 + 10 * r) dX3_shareOf_5 (i302 hI) rfl (vp_in_nI (by have := hn.1; omega) (by omega)) (rn_0 hn hr) (rn_1 hn hr) ?_
  refine J_gete (ci := 7) (j := 3) (x := v (2000 + 10 * r) 3) dX3_shareOf_6 fl_X3_71 (hn.2.2 r hr).1 (by rw [sh_rent]) rfl rfl ?_
  refine J_istore (lv' := [(4, .int (v (2000 + 10 * r) 3)), (0, .ref 300), (1, .int x1), (2, .int (nI r)), (3, .int x3)]) dX3_shareOf_9 (by decide) rfl ?_
  refine J_iload dX3_shareOf_11 0 rfl ?_
  refine J_istore (lv' := [(5, .int (v (2000 + 10 * r) 3)), (4, .int (v (2000 + 10 * r) 3)), (0, .ref 300), (1, .int x1), (2, .int (nI r)), (3, .int x3)]) dX3_shareOf_13 (by decide) rfl ?_
  refine J_iconst (x := 0) dX3_shareOf_15 (by decide) ?_
  refine J_istore (lv' := [(6, .int 0), (5, .int (v (2000 + 10 * r) 3)), (4, .int (v (2000 + 10 * r) 3)), (0, .ref 300), (1, .int x1), (2, .int (nI r)), (3, .int x3)]) dX3_shareOf_16 (by decide) rfl ?_
  refine J_aload_n dX3_shareOf_18 rfl 3 rfl ?_
  refine J_iload_n dX3_shareOf_19 rfl 5 rfl ?_
  refine J_iload_n dX3_shareOf_20 rfl 6 rfl ?_
  refine J_eVN (z := mX3_spreadParts) (As := [.int (nI r), .int x3]) (rest := []) (ci := 3) (w := upA v 310 (hdR v NS r x3)) dX3_shareOf_21 ml_X3_51 ok_X3_spreadParts iv_X3_spreadParts (by decide) (i300 hI) rfl rfl rfl rfl (Nat.le_of_ble_eq_true rfl) (k_X3_spreadParts hI v u nr r NS hn hr _ hS hS2 hq hh) ?_
  refine J_iconst (x := 0) dX3_shareOf_24 (by decide) ?_
  refine J_istore (lv' := [(7, .int 0), (6, .int 0), (5, .int (v (2000 + 10 * r) 3)), (4, .int (v (2000 + 10 * r) 3)), (0, .ref 300), (1, .int x1), (2, .int (nI r)), (3, .int x3)]) dX3_shareOf_25 (by decide) rfl ?_
  refine J_lv [4, 5, 6, 7, 3, 2, 1, 0] rfl ?_
  exact sl_L hI v u x1 x3 _ r (hdR v NS r x3) h1 9 0 _ 0 (by omega) (by omega) rfl rfl (by omega)
theorem k_X3_shareOf {l : Launch} {I : List Nat} (hI : fr_I I) (v : fr_V) (u : fr_U) (nr r NS : Nat) (hn : rnOK I nr v) (hr : r < nr) (x1 x3 : Int32) (hS : v 300 8 = nI NS) (hS2 : NS ≤ 40) (hq : ∀ j, j < NS → vp_in (v 305 j) 8 ∧ vp_in (v 306 j) 8) (hh : vp_in (v (2000 + 10 * r) 0) 8) (h1 : vp_in x1 8) : Con l mX3_shareOf I v u [.ref 300, .int x1, .int (nI r), .int x3] (QX u (fun a b => a = shC v NS r x1 x3 ∧ b = upA v 310 (hdR v NS r x3))) := by
  refine (k_X3_shareOf0 hI v u nr r NS hn hr x1 x3 hS hS2 hq hh h1).mono (fun q w z h => ?_)
  obtain ⟨x, e1, e2, e3, e4⟩ := h
  exact ⟨x, e1, e2, e3.trans (shV_e (fun i hi => hd_C hq hi) h1), e4⟩
def pmI (v : fr_V) (r : Nat) (x : Int32) (a0 : Int32) : Nat → Int32
  | 0 => a0
  | h + 1 => pmI v r x a0 h + (if f_X7_isPaidBy v r (nI h) x = 0 then 0 else v (2000 + 10 * r) 3)
theorem pmI_s (v : fr_V) (r : Nat) (x a0 : Int32) (h : Nat) : pmI v r x a0 (h + 1) = pmI v r x a0 h + (if f_X7_isPaidBy v r (nI h) x = 0 then 0 else v (2000 + 10 * r) 3) := rfl
def pmO (v : fr_V) (k : Nat) : Nat → Int32
  | 0 => 0
  | r + 1 => pmI v r (nI k) (pmO v k r) (k + 1)
theorem pmO_s (v : fr_V) (k r : Nat) : pmO v k (r + 1) = pmI v r (nI k) (pmO v k r) (k + 1) := rfl
theorem pmI_L {l : Launch} {I : List Nat} (hI : fr_I I) (v : fr_V) (u : fr_U) (nr k : Nat) (hn : rnOK I nr v) (hk8 : k < 80) (r : Nat) (hr : r < nr) (a0 : Int32) {Q : Option Value → fr_V → fr_U → Prop} (hk : ∀ a : Int32, a = pmI v r (nI k) a0 (k + 1) → J l mX3_payments I v u 58 [(0, .ref 300), (1, .int (nI k)), (2, .int a), (3, .int (nI r))] [] Q) : ∀ (d h : Nat) (a : Int32) (hd : k + 1 - h < d) (hj : h ≤ k + 1) (ha : a = pmI v r (nI k) a0 h), J l mX3_payments I v u 15 [(0, .ref 300), (1, .int (nI k)), (2, .int a), (3, .int (nI r)), (4, .int (nI h))] [] (Q) := by
  intro d
  induction d with
  | zero => intros; omega
  | succ d ih =>
    intro h a hd hj ha
    refine J_iload dX3_payments_15 4 rfl ?_
    refine J_iload_n dX3_payments_17 rfl 1 rfl ?_
    refine J_icmp_gt (tgt := 58) dX3_payments_18 (by decide) (fun c1 => ?_) (fun c1 => ?_)
    · have e : h = k + 1 := by have := nz_lt (by omega) (by omega) c1; omega
      subst e
      refine J_lv [0, 1, 2, 3] rfl ?_
      exact hk a ha
    · have hhk : h ≤ k := nz_nlt (by omega) (by omega) c1
      refine J_iload_n dX3_payments_21 rfl 2 rfl ?_
      refine J_aload_n dX3_payments_22 rfl 0 rfl ?_
      refine J_getr (ci := 3) (j := 1) (t := 302) dX3_payments_23 fl_X3_11 (i300 hI) rfl rfl rfl ?_
      refine J_iload_n dX3_payments_26 rfl 3 rfl ?_
      refine J_aldR (t := 2000 + 10 * r) dX3_payments_27 (i302 hI) rfl (vp_in_nI (by have := hn.1; omega) (by omega)) (rn_0 hn hr) (rn_1 hn hr) ?_
      refine J_iload dX3_payments_28 4 rfl ?_
      refine J_iload_n dX3_payments_30 rfl 1 rfl ?_
      refine J_eVI (z := mX7_isPaidBy) (As := [.int (nI h), .int (nI k)]) (rest := [.int a]) (ci := 7) (x := f_X7_isPaidBy v r (nI h) (nI k)) dX3_payments_31 ml_X3_128 ok_X7_isPaidBy iv_X7_isPaidBy (by decide) (hn.2.2 r hr).1 (by rw [sh_rent]) rfl rfl rfl (Nat.le_of_ble_eq_true rfl) (k_X7_isPaidBy hI v u r (nI h) (nI k) (hn.2.2 r hr).1 (hn.2.2 r hr).2.1 (vp_in_nI (by omega) (by omega))) ?_
      refine J_if_eq (tgt := 49) dX3_payments_34 (by decide) (fun c2 => ?_) (fun c2 => ?_)
      · refine J_iconst (x := 0) dX3_payments_49 (by decide) ?_
        refine J_iadd dX3_payments_50 ?_
        refine J_istore_n (lv' := [(2, .int (a + 0)), (0, .ref 300), (1, .int (nI k)), (3, .int (nI r)), (4, .int (nI h))]) dX3_payments_51 rfl (by decide) rfl ?_
        refine J_iinc (q := 4) (z := nI (h + 1)) (lv' := [(4, .int (nI (h + 1))), (2, .int (a + 0)), (0, .ref 300), (1, .int (nI k)), (3, .int (nI r))]) dX3_payments_52 rfl (nI_1 h) (by decide) rfl ?_
        refine J_goto (tgt := 15) dX3_payments_55 (by decide) ?_
        refine J_lv [2, 3, 1, 4, 0] rfl ?_
        exact ih (h + 1) _ (by omega) (by omega) (by rw [pmI_s, ← ha, if_pos c2])
      · refine J_aload_n dX3_payments_37 rfl 0 rfl ?_
        refine J_getr (ci := 3) (j := 1) (t := 302) dX3_payments_38 fl_X3_11 (i300 hI) rfl rfl rfl ?_
        refine J_iload_n dX3_payments_41 rfl 3 rfl ?_
        refine J_aldR (t := 2000 + 10 * r) dX3_payments_42 (i302 hI) rfl (vp_in_nI (by have := hn.1; omega) (by omega)) (rn_0 hn hr) (rn_1 hn hr) ?_
        refine J_gete (ci := 7) (j := 3) (x := v (2000 + 10 * r) 3) dX3_payments_43 fl_X3_71 (hn.2.2 r hr).1 (by rw [sh_rent]) rfl rfl ?_
        refine J_goto (tgt := 50) dX3_payments_46 (by decide) ?_
        refine J_iadd dX3_payments_50 ?_
        refine J_istore_n (lv' := [(2, .int (a + (v (2000 + 10 * r) 3))), (0, .ref 300), (1, .int (nI k)), (3, .int (nI r)), (4, .int (nI h))]) dX3_payments_51 rfl (by decide) rfl ?_
        refine J_iinc (q := 4) (z := nI (h + 1)) (lv' := [(4, .int (nI (h + 1))), (2, .int (a + (v (2000 + 10 * r) 3))), (0, .ref 300), (1, .int (nI k)), (3, .int (nI r))]) dX3_payments_52 rfl (nI_1 h) (by decide) rfl ?_
        refine J_goto (tgt := 15) dX3_payments_55 (by decide) ?_
        refine J_lv [2, 3, 1, 4, 0] rfl ?_
        exact ih (h + 1) _ (by omega) (by omega) (by rw [pmI_s, ← ha, if_neg c2])
theorem pmO_L {l : Launch} {I : List Nat} (hI : fr_I I) (v : fr_V) (u : fr_U) (nr k : Nat) (hn : rnOK I nr v) (hk8 : k < 80) (hnr : nr ≤ 16) : ∀ (d r : Nat) (a : Int32) (hd : nr - r < d) (hj : r ≤ nr) (ha : a = pmO v k r), J l mX3_payments I v u 4 [(0, .ref 300), (1, .int (nI k)), (2, .int a), (3, .int (nI r))] [] (QI v u (fun z => z = pmO v k nr)) := by
  intro d
  induction d with
  | zero => intros; omega
  | succ d ih =>
    intro r a hd hj ha
    refine J_iload_n dX3_payments_4 rfl 3 rfl ?_
    refine J_aload_n dX3_payments_5 rfl 0 rfl ?_
    refine J_gete (ci := 3) (j := 2) (x := nI nr) dX3_payments_6 fl_X3_40 (i300 hI) rfl rfl hn.2.1 ?_
    refine J_icmp_ge (tgt := 64) dX3_payments_9 (by decide) (fun c1 => ?_) (fun c1 => ?_)
    · refine J_iload_n dX3_payments_64 rfl 2 rfl ?_
      exact J_iret dX3_payments_65 rfl ⟨_, rfl, rfl, rfl, by have e : r = nr := by {have := hn.1; have := nz_le (by omega) (by omega) c1; omega}; rw [ha, e]⟩
    · have hr : r < nr := nz_nle (by have := hn.1; omega) (by have := hn.1; omega) c1
      refine J_iconst (x := 0) dX3_payments_12 (by decide) ?_
      refine J_istore (lv' := [(4, .int 0), (0, .ref 300), (1, .int (nI k)), (2, .int a), (3, .int (nI r))]) dX3_payments_13 (by decide) rfl ?_
      refine J_lv [1, 2, 3, 4, 0] rfl ?_
      refine pmI_L hI v u nr k hn hk8 r hr a (fun b hb => ?_) (k + 1 + 1) 0 _ (by omega) (by omega) rfl
      refine J_iinc (q := 3) (z := nI (r + 1)) (lv' := [(3, .int (nI (r + 1))), (0, .ref 300), (1, .int (nI k)), (2, .int b)]) dX3_payments_58 rfl (nI_1 r) (by decide) rfl ?_
      refine J_goto (tgt := 4) dX3_payments_61 (by decide) ?_
      refine J_lv [1, 2, 3, 0] rfl ?_
      exact ih (r + 1) _ (by omega) (by omega) (by rw [pmO_s, ← ha]; exact hb)
theorem k_X3_payments {l : Launch} {I : List Nat} (hI : fr_I I) (v : fr_V) (u : fr_U) (nr k : Nat) (hn : rnOK I nr v) (hk8 : k < 80) : Con l mX3_payments I v u [.ref 300, .int (nI k)] (QI v u (fun z => z = pmO v k nr)) := by
  refine Con.of (by decide) (Nat.le_of_ble_eq_true rfl) ?_
  show J l mX3_payments I v u 0 [(0, .ref 300), (1, .int (nI k))] [] _
  refine J_iconst (x := 0) dX3_payments_0 (by decide) ?_
  refine J_istore_n (lv' := [(2, .int 0), (0, .ref 300), (1, .int (nI k))]) dX3_payments_1 rfl (by decide) rfl ?_
  refine J_iconst (x := 0) dX3_payments_2 (by decide) ?_
  refine J_istore_n (lv' := [(3, .int 0), (2, .int 0), (0, .ref 300), (1, .int (nI k))]) dX3_payments_3 rfl (by decide) rfl ?_
  refine J_lv [2, 3, 1, 0] rfl ?_
  exact pmO_L hI v u nr k hn hk8 hn.1 (nr + 1) 0 _ (by omega) (by omega) rfl
def gnI (v : fr_V) (NS r : Nat) (x1 x : Int32) (a0 : Int32) : Nat → Int32
  | 0 => a0
  | h + 1 => if f_X7_isPaidBy v r (nI h) x = 0 then gnI v NS r x1 x a0 h else gnI v NS r x1 x a0 h + shC v NS r x1 (v (2007 + 10 * r) h)
theorem gnI_s (v : fr_V) (NS r : Nat) (x1 x a0 : Int32) (h : Nat) : gnI v NS r x1 x a0 (h + 1) = if f_X7_isPaidBy v r (nI h) x = 0 then gnI v NS r x1 x a0 h else gnI v NS r x1 x a0 h + shC v NS r x1 (v (2007 + 10 * r) h) := rfl
def gnO (v : fr_V) (NS k : Nat) (x1 : Int32) : Nat → Int32
  | 0 => 0
  | r + 1 => gnI v NS r x1 (nI k) (gnO v NS k x1 r) (k + 1)
theorem gnO_s (v : fr_V) (NS k : Nat) (x1 : Int32) (r : Nat) : gnO v NS k x1 (r + 1) = gnI v NS r x1 (nI k) (gnO v NS k x1 r) (k + 1) := rfl
theorem isPaid_G {v : fr_V} {G : Nat → Int32} {r : Nat} {x1 x2 : Int32} : f_X7_isPaidBy (upA v 310 G) r x1 x2 = f_X7_isPaidBy v r x1 x2 := by
  unfold f_X7_isPaidBy
  rw [upA_ne (show 2007 + 10 * r ≠ 310 by omega)]
theorem rnOK.G {I : List Nat} {nr : Nat} {v : fr_V} {G : Nat → Int32} (h : rnOK I nr v) : rnOK I nr (upA v 310 G) := ⟨h.1, h.2.1, fun r hr => h.2.2 r hr⟩
theorem upA_G {v : fr_V} {G F : Nat → Int32} {c : Nat} : upA (upA v c G) c F = upA v c F := by
  funext a
  unfold upA
  split <;> rfl
theorem k_G {l : Launch} {I : List Nat} (hI : fr_I I) (v : fr_V) (u : fr_U) (nr r NS : Nat) (hn : rnOK I nr v) (hr : r < nr) (x1 x3 : Int32) (hS : v 300 8 = nI NS) (hS2 : NS ≤ 40) (hq : ∀ j, j < NS → vp_in (v 305 j) 8 ∧ vp_in (v 306 j) 8) (hh : vp_in (v (2000 + 10 * r) 0) 8) (h1 : vp_in x1 8) (G : Nat → Int32) : Con l mX3_shareOf I (upA v 310 G) u [.ref 300, .int x1, .int (nI r), .int x3] (QX u (fun a b => a = shC v NS r x1 x3 ∧ ∃ F, b = upA v 310 F)) := by
  refine (k_X3_shareOf hI (upA v 310 G) u nr r NS hn.G hr x1 x3 hS hS2 hq (by rw [upA_ne (by omega)]; exact hh) h1).mono (fun q w z h => ?_)
  obtain ⟨x, e1, e2, e3, e4⟩ := h
  exact ⟨x, e1, e2, e3.trans shC_G, _, e4.trans upA_G⟩
theorem gnI_L {l : Launch} {I : List Nat} (hI : fr_I I) (v : fr_V) (u : fr_U) (nr k NS : Nat) (hn : rnOK I nr v) (hk8 : k < 80) (x1 : Int32) (hS : v 300 8 = nI NS) (hS2 : NS ≤ 40) (hq : ∀ j, j < NS → vp_in (v 305 j) 8 ∧ vp_in (v 306 j) 8) (hh : ∀ r, r < nr → vp_in (v (2000 + 10 * r) 0) 8) (h1 : vp_in x1 8) (r : Nat) (hr : r < nr) (a0 : Int32) {Q : Option Value → fr_V → fr_U → Prop} (hk : ∀ (a : Int32) (G : Nat → Int32), a = gnI v NS r x1 (nI k) a0 (k + 1) → J l mX3_gainsOf I (upA v 310 G) u 68 [(0, .ref 300), (1, .int x1), (2, .int (nI k)), (3, .int a), (4, .int (nI r))] [] Q) : ∀ (d h : Nat) (a : Int32) (G : Nat → Int32) (hd : k + 1 - h < d) (hj : h ≤ k + 1) (ha : a = gnI v NS r x1 (nI k) a0 h), J l mX3_gainsOf I (upA v 310 G) u 17 [(0, .ref 300), (1, .int x1), (2, .int (nI k)), (3, .int a), (4, .int (nI r)), (5, .int (nI h))] [] (Q) := by
  intro d
  induction d with
  | zero => intros; omega
  | succ d ih =>
    intro h a G hd hj ha
    refine J_iload dX3_gainsOf_17 5 rfl ?_
    refine J_iload_n dX3_gainsOf_19 rfl 2 rfl ?_
    refine J_icmp_gt (tgt := 68) dX3_gainsOf_20 (by decide) (fun c1 => ?_) (fun c1 => ?_)
    · have e : h = k + 1 := by have := nz_lt (by omega) (by omega) c1; omega
      subst e
      refine J_lv [0, 1, 2, 3, 4] rfl ?_
      exact hk a G ha
    · have hhk : h ≤ k := nz_nlt (by omega) (by omega) c1
      refine J_aload_n dX3_gainsOf_23 rfl 0 rfl ?_
      refine J_getr (ci := 3) (j := 1) (t := 302) dX3_gainsOf_24 fl_X3_11 (i300 hI) rfl rfl rfl ?_
      refine J_iload dX3_gainsOf_27 4 rfl ?_
      refine J_aldR (t := 2000 + 10 * r) dX3_gainsOf_29 (i302 hI) rfl (vp_in_nI (by have := hn.1; omega) (by omega)) (rn_0 (hn.G (G := G)) hr) (rn_1 (hn.G (G := G)) hr) ?_
      refine J_iload dX3_gainsOf_30 5 rfl ?_
      refine J_iload_n dX3_gainsOf_32 rfl 2 rfl ?_
      refine J_eVI (z := mX7_isPaidBy) (As := [.int (nI h), .int (nI k)]) (rest := []) (ci := 7) (x := f_X7_isPaidBy v r (nI h) (nI k)) dX3_gainsOf_33 ml_X3_128 ok_X7_isPaidBy iv_X7_isPaidBy (by decide) (hn.2.2 r hr).1 (by rw [sh_rent]) rfl rfl rfl (Nat.le_of_ble_eq_true rfl) ((isPaid_G (v := v) (G := G) (r := r) (x1 := nI h) (x2 := nI k)) ▸ k_X7_isPaidBy hI (upA v 310 G) u r (nI h) (nI k) (hn.2.2 r hr).1 (hn.2.2 r hr).2.1 (vp_in_nI (by omega) (by omega))) ?_
      refine J_if_eq (tgt := 62) dX3_gainsOf_36 (by decide) (fun c2 => ?_) (fun c2 => ?_)
      · refine J_iinc (q := 5) (z := nI (h + 1)) (lv' := [(5, .int (nI (h + 1))), (0, .ref 300), (1, .int x1), (2, .int (nI k)), (3, .int a), (4, .int (nI r))]) dX3_gainsOf_62 rfl (nI_1 h) (by decide) rfl ?_
        refine J_goto (tgt := 17) dX3_gainsOf_65 (by decide) ?_
        refine J_lv [1, 2, 3, 4, 5, 0] rfl ?_
        exact ih (h + 1) _ _ (by omega) (by omega) (by rw [gnI_s, ← ha, if_pos c2])
      · refine J_iload_n dX3_gainsOf_39 rfl 3 rfl ?_
        refine J_aload_n dX3_gainsOf_40 rfl 0 rfl ?_
        refine J_iload_n dX3_gainsOf_41 rfl 1 rfl ?_
        refine J_iload dX3_gainsOf_42 4 rfl ?_
        refine J_aload_n dX3_gainsOf_44 rfl 0 rfl ?_
        refine J_getr (ci := 3) (j := 1) (t := 302) dX3_gainsOf_45 fl_X3_11 (i300 hI) rfl rfl rfl ?_
        refine J_iload dX3_gainsOf_48 4 rfl ?_
        refine J_aldR (t := 2000 + 10 * r) dX3_gainsOf_50 (i302 hI) rfl (vp_in_nI (by have := hn.1; omega) (by omega)) (rn_0 (hn.G (G := G)) hr) (rn_1 (hn.G (G := G)) hr) ?_
        refine J_getr (ci := 7) (j := 6) (t := 2007 + 10 * r) dX3_gainsOf_51 fl_X3_116 (hn.2.2 r hr).1 (by rw [sh_rent]) rfl (sref_rent r) ?_
        refine J_iload dX3_gainsOf_54 5 rfl ?_
        refine J_iale (x := v (2007 + 10 * r) h) dX3_gainsOf_56 (hn.2.2 r hr).2.1 (sh_paid r) (ix_in (j := h) rfl (by omega) (by omega)) (by rw [ix_cl (j := h) rfl (by omega)]; rw [upA_ne (show 2007 + 10 * r ≠ 310 by omega)]) ?_
        refine J_cVX (z := mX3_shareOf) (As := [.int x1, .int (nI r), .int (v (2007 + 10 * r) h)]) (rest := [.int a]) (ci := 3) dX3_gainsOf_57 ml_X3_131 ok_X3_shareOf iv_X3_shareOf (by decide) (i300 hI) rfl rfl rfl rfl (Nat.le_of_ble_eq_true rfl) (k_G hI v u nr r NS hn hr x1 _ hS hS2 hq (hh r hr) h1 G) (fun b w hw => ?_)
        obtain ⟨hb, F, rfl⟩ := hw
        refine J_iadd dX3_gainsOf_60 ?_
        refine J_istore_n (lv' := [(3, .int (a + b)), (0, .ref 300), (1, .int x1), (2, .int (nI k)), (4, .int (nI r)), (5, .int (nI h))]) dX3_gainsOf_61 rfl (by decide) rfl ?_
        refine J_iinc (q := 5) (z := nI (h + 1)) (lv' := [(5, .int (nI (h + 1))), (3, .int (a + b)), (0, .ref 300), (1, .int x1), (2, .int (nI k)), (4, .int (nI r))]) dX3_gainsOf_62 rfl (nI_1 h) (by decide) rfl ?_
        refine J_goto (tgt := 17) dX3_gainsOf_65 (by decide) ?_
        refine J_lv [2, 3, 4, 1, 5, 0] rfl ?_
        exact ih (h + 1) _ _ (by omega) (by omega) (by rw [gnI_s, ← ha, if_neg c2, hb])
theorem gnO_L {l : Launch} {I : List Nat} (hI : fr_I I) (v : fr_V) (u : fr_U) (nr k NS : Nat) (hn : rnOK I nr v) (hk8 : k < 80) (x1 : Int32) (hS : v 300 8 = nI NS) (hS2 : NS ≤ 40) (hq : ∀ j, j < NS → vp_in (v 305 j) 8 ∧ vp_in (v 306 j) 8) (hh : ∀ r, r < nr → vp_in (v (2000 + 10 * r) 0) 8) (h1 : vp_in x1 8) (hnr : nr ≤ 16) : ∀ (d r : Nat) (a : Int32) (G : Nat → Int32) (hd : nr - r < d) (hj : r ≤ nr) (ha : a = gnO v NS k x1 r), J l mX3_gainsOf I (upA v 310 G) u 5 [(0, .ref 300), (1, .int x1), (2, .int (nI k)), (3, .int a), (4, .int (nI r))] [] (QX u (fun z b => z = gnO v NS k x1 nr ∧ ∃ G, b = upA v 310 G)) := by
  intro d
  induction d with
  | zero => intros; omega
  | succ d ih =>
    intro r a G hd hj ha
    refine J_iload dX3_gainsOf_5 4 rfl ?_
    refine J_aload_n dX3_gainsOf_7 rfl 0 rfl ?_
    refine J_gete (ci := 3) (j := 2) (x := nI nr) dX3_gainsOf_8 fl_X3_40 (i300 hI) rfl rfl hn.2.1 ?_
    refine J_icmp_ge (tgt := 74) dX3_gainsOf_11 (by decide) (fun c1 => ?_) (fun c1 => ?_)
    · refine J_iload_n dX3_gainsOf_74 rfl 3 rfl ?_
      exact J_iret dX3_gainsOf_75 rfl ⟨_, rfl, rfl, (by have e : r = nr := by {have := hn.1; have := nz_le (by omega) (by omega) c1; omega}; rw [ha, e]), G, rfl⟩
    · have hr : r < nr := nz_nle (by have := hn.1; omega) (by have := hn.1; omega) c1
      refine J_iconst (x := 0) dX3_gainsOf_14 (by decide) ?_
      refine J_istore (lv' := [(5, .int 0), (0, .ref 300), (1, .int x1), (2, .int (nI k)), (3, .int a), (4, .int (nI r))]) dX3_gainsOf_15 (by decide) rfl ?_
      refine J_lv [1, 2, 3, 4, 5, 0] rfl ?_
      refine gnI_L hI v u nr k NS hn hk8 x1 hS hS2 hq hh h1 r hr a (fun b F hb => ?_) (k + 1 + 1) 0 _ G (by omega) (by omega) rfl
      refine J_iinc (q := 4) (z := nI (r + 1)) (lv' := [(4, .int (nI (r + 1))), (0, .ref 300), (1, .int x1), (2, .int (nI k)), (3, .int b)]) dX3_gainsOf_68 rfl (nI_1 r) (by decide) rfl ?_
      refine J_goto (tgt := 5) dX3_gainsOf_71 (by decide) ?_
      refine J_lv [1, 2, 3, 4, 0] rfl ?_
      exact ih (r + 1) _ _ (by omega) (by omega) (by rw [gnO_s, ← ha]; exact hb)
theorem k_X3_gainsOf {l : Launch} {I : List Nat} (hI : fr_I I) (v : fr_V) (u : fr_U) (nr k NS : Nat) (hn : rnOK I nr v) (hk8 : k < 80) (x1 : Int32) (hS : v 300 8 = nI NS) (hS2 : NS ≤ 40) (hq : ∀ j, j < NS → vp_in (v 305 j) 8 ∧ vp_in (v 306 j) 8) (hh : ∀ r, r < nr → vp_in (v (2000 + 10 * r) 0) 8) (h1 : vp_in x1 8) : Con l mX3_gainsOf I v u [.ref 300, .int x1, .int (nI k)] (QX u (fun z b => z = gnO v NS k x1 nr ∧ ∃ G, b = upA v 310 G)) := by
  refine Con.of (by decide) (Nat.le_of_ble_eq_true rfl) ?_
  show J l mX3_gainsOf I v u 0 [(0, .ref 300), (1, .int x1), (2, .int (nI k))] [] _
  refine J_iconst (x := 0) dX3_gainsOf_0 (by decide) ?_
  refine J_istore_n (lv' := [(3, .int 0), (0, .ref 300), (1, .int x1), (2, .int (nI k))]) dX3_gainsOf_1 rfl (by decide) rfl ?_
  refine J_iconst (x := 0) dX3_gainsOf_2 (by decide) ?_
  refine J_istore (lv' := [(4, .int 0), (3, .int 0), (0, .ref 300), (1, .int x1), (2, .int (nI k))]) dX3_gainsOf_3 (by decide) rfl ?_
  refine J_lv [2, 3, 4, 1, 0] rfl ?_
  refine J_ve (w := upA v 310 (v 310)) (upA_id v _).symm ?_
  exact gnO_L hI v u nr k NS hn hk8 x1 hS hS2 hq hh h1 hn.1 (nr + 1) 0 _ _ (by omega) (by omega) rfl
def dbF (v : fr_V) (r : Nat) (x : Int32) : Nat → Int32
  | 0 => 0
  | h + 1 => if f_X7_isPaidBy v r (nI h) x = 0 then dbF v r x h else if f_isDue3 v r (nI h) = 0 then dbF v r x h + v (2000 + 10 * r) 3 else dbF v r x h
theorem dbF_s (v : fr_V) (r : Nat) (x : Int32) (h : Nat) : dbF v r x (h + 1) = if f_X7_isPaidBy v r (nI h) x = 0 then dbF v r x h else if f_isDue3 v r (nI h) = 0 then dbF v r x h + v (2000 + 10 * r) 3 else dbF v r x h := rfl
theorem db_L {l : Launch} {I : List Nat} (hI : fr_I I) (v : fr_V) (u : fr_U) (nr N r k : Nat) (hr : r < nr) (hk8 : k < 80) (hv : p3OK I nr N v) : ∀ (d h : Nat) (a : Int32) (hd : k + 1 - h < d) (hj : h ≤ k + 1) (ha : a = dbF v r (nI k) h), J l mX3_debtOf I v u 13 [(0, .ref 300), (1, .int (nI r)), (2, .int (nI k)), (3, .int a), (4, .int (nI h))] [] (QX u (fun z b => z = dbF v r (nI k) (k + 1) ∧ b = v)) := by
  intro d
  induction d with
  | zero => intros; omega
  | succ d ih =>
    intro h a hd hj ha
    refine J_iload dX3_debtOf_13 4 rfl ?_
    refine J_iload_n dX3_debtOf_15 rfl 2 rfl ?_
    refine J_icmp_gt (tgt := 62) dX3_debtOf_16 (by decide) (fun c1 => ?_) (fun c1 => ?_)
    · refine J_iload_n dX3_debtOf_62 rfl 3 rfl ?_
      exact J_iret dX3_debtOf_63 rfl ⟨_, rfl, rfl, by have e : h = k + 1 := by {have := nz_lt (by omega) (by omega) c1; omega}; rw [ha, e], rfl⟩
    · have hhk : h ≤ k := nz_nlt (by omega) (by omega) c1
      refine J_aload_n dX3_debtOf_19 rfl 0 rfl ?_
      refine J_getr (ci := 3) (j := 1) (t := 302) dX3_debtOf_20 fl_X3_11 (i300 hI) rfl rfl rfl ?_
      refine J_iload_n dX3_debtOf_23 rfl 1 rfl ?_
      refine J_aldR (t := 2000 + 10 * r) dX3_debtOf_24 (i302 hI) rfl (vp_in_nI (by have := hv.1.1; omega) (by omega)) (rn_0 hv.1 hr) (rn_1 hv.1 hr) ?_
      refine J_iload dX3_debtOf_25 4 rfl ?_
      refine J_iload_n dX3_debtOf_27 rfl 2 rfl ?_
      refine J_eVI (z := mX7_isPaidBy) (As := [.int (nI h), .int (nI k)]) (rest := []) (ci := 7) (x := f_X7_isPaidBy v r (nI h) (nI k)) dX3_debtOf_28 ml_X3_128 ok_X7_isPaidBy iv_X7_isPaidBy (by decide) (hv.1.2.2 r hr).1 (by rw [sh_rent]) rfl rfl rfl (Nat.le_of_ble_eq_true rfl) (k_X7_isPaidBy hI v u r (nI h) (nI k) (hv.1.2.2 r hr).1 (hv.1.2.2 r hr).2.1 (vp_in_nI (by omega) (by omega))) ?_
      refine J_if_eq (tgt := 56) dX3_debtOf_31 (by decide) (fun c2 => ?_) (fun c2 => ?_)
      · refine J_iinc (q := 4) (z := nI (h + 1)) (lv' := [(4, .int (nI (h + 1))), (0, .ref 300), (1, .int (nI r)), (2, .int (nI k)), (3, .int a)]) dX3_debtOf_56 rfl (nI_1 h) (by decide) rfl ?_
        refine J_goto (tgt := 13) dX3_debtOf_59 (by decide) ?_
        refine J_lv [1, 2, 3, 4, 0] rfl ?_
        exact ih (h + 1) _ (by omega) (by omega) (by rw [dbF_s, ← ha, if_pos c2])
      · refine J_aload_n dX3_debtOf_34 rfl 0 rfl ?_
        refine J_iload_n dX3_debtOf_35 rfl 1 rfl ?_
        refine J_iload dX3_debtOf_36 4 rfl ?_
        refine J_eVI (z := mX3_isDue) (As := [.int (nI r), .int (nI h)]) (rest := []) (ci := 3) (x := f_isDue3 v r (nI h)) dX3_debtOf_38 ml_X3_122 ok_X3_isDue iv_X3_isDue (by decide) (i300 hI) rfl rfl rfl rfl (Nat.le_of_ble_eq_true rfl) (k_X3_isDue hI v u nr r hv.1 hr _ (hv.2.2.2 r hr).1 (hv.2.2.2 r hr).2) ?_
        refine J_if_ne (tgt := 56) dX3_debtOf_41 (by decide) (fun c3 => ?_) (fun c3 => ?_)
        · refine J_iinc (q := 4) (z := nI (h + 1)) (lv' := [(4, .int (nI (h + 1))), (0, .ref 300), (1, .int (nI r)), (2, .int (nI k)), (3, .int a)]) dX3_debtOf_56 rfl (nI_1 h) (by decide) rfl ?_
          refine J_goto (tgt := 13) dX3_debtOf_59 (by decide) ?_
          refine J_lv [1, 2, 3, 4, 0] rfl ?_
          exact ih (h + 1) _ (by omega) (by omega) (by rw [dbF_s, ← ha, if_neg c2, if_neg c3])
        · refine J_iload_n dX3_debtOf_44 rfl 3 rfl ?_
          refine J_aload_n dX3_debtOf_45 rfl 0 rfl ?_
          refine J_getr (ci := 3) (j := 1) (t := 302) dX3_debtOf_46 fl_X3_11 (i300 hI) rfl rfl rfl ?_
          refine J_iload_n dX3_debtOf_49 rfl 1 rfl ?_
          refine J_aldR (t := 2000 + 10 * r) dX3_debtOf_50 (i302 hI) rfl (vp_in_nI (by have := hv.1.1; omega) (by omega)) (rn_0 hv.1 hr) (rn_1 hv.1 hr) ?_
          refine J_gete (ci := 7) (j := 3) (x := v (2000 + 10 * r) 3) dX3_debtOf_51 fl_X3_71 (hv.1.2.2 r hr).1 (by rw [sh_rent]) rfl rfl ?_
          refine J_iadd dX3_debtOf_54 ?_
          refine J_istore_n (lv' := [(3, .int (a + (v (2000 + 10 * r) 3))), (0, .ref 300), (1, .int (nI r)), (2, .int (nI k)), (4, .int (nI h))]) dX3_debtOf_55 rfl (by decide) rfl ?_
          refine J_iinc (q := 4) (z := nI (h + 1)) (lv' := [(4, .int (nI (h + 1))), (3, .int (a + (v (2000 + 10 * r) 3))), (0, .ref 300), (1, .int (nI r)), (2, .int (nI k))]) dX3_debtOf_56 rfl (nI_1 h) (by decide) rfl ?_
          refine J_goto (tgt := 13) dX3_debtOf_59 (by decide) ?_
          refine J_lv [2, 3, 4, 1, 0] rfl ?_
          exact ih (h + 1) _ (by omega) (by omega) (by rw [dbF_s, ← ha, if_neg c2, if_pos c3])
theorem k_X3_debtOf {l : Launch} {I : List Nat} (hI : fr_I I) (v : fr_V) (u : fr_U) (nr N r k : Nat) (hr : r < nr) (hk8 : k < 80) (hv : p3OK I nr N v) : Con l mX3_debtOf I v u [.ref 300, .int (nI r), .int (nI k)] (QX u (fun z b => z = dbF (f_kw v N (nI k)) r (nI k) (k + 1) ∧ b = f_kw v N (nI k))) := by
  refine Con.of (by decide) (Nat.le_of_ble_eq_true rfl) ?_
  show J l mX3_debtOf I v u 0 [(0, .ref 300), (1, .int (nI r)), (2, .int (nI k))] [] _
  refine J_aload_n dX3_debtOf_0 rfl 0 rfl ?_
  refine J_getr (ci := 3) (j := 0) (t := 100) dX3_debtOf_1 fl_X3_36 (i300 hI) rfl rfl rfl ?_
  refine J_iload_n dX3_debtOf_4 rfl 2 rfl ?_
  refine J_eVN (z := mX1_know) (As := [.int (nI k)]) (rest := []) (ci := 1) (w := f_kw v N (nI k)) dX3_debtOf_5 ml_X3_103 ok_X1_know iv_X1_know (by decide) (i100 hI) rfl rfl rfl rfl (Nat.le_of_ble_eq_true rfl) (k_X1_know hI v u (nI k) N hv.2.1 hv.2.2.1) ?_
  refine J_iconst (x := 0) dX3_debtOf_8 (by decide) ?_
  refine J_istore_n (lv' := [(3, .int 0), (0, .ref 300), (1, .int (nI r)), (2, .int (nI k))]) dX3_debtOf_9 rfl (by decide) rfl ?_
  refine J_iconst (x := 0) dX3_debtOf_10 (by decide) ?_
  refine J_istore (lv' := [(4, .int 0), (3, .int 0), (0, .ref 300), (1, .int (nI r)), (2, .int (nI k))]) dX3_debtOf_11 (by decide) rfl ?_
  refine J_lv [2, 3, 4, 1, 0] rfl ?_
  exact db_L hI (f_kw v N (nI k)) u nr N r k hr hk8 (sm3.kw.ok hv) (k + 2) 0 _ (by omega) (by omega) rfl
def dsW (v : fr_V) (N : Nat) (x : Int32) : Nat → fr_V
  | 0 => v
  | r + 1 => f_kw (dsW v N x r) N x
theorem dsW_s (v : fr_V) (N : Nat) (x : Int32) (r : Nat) : dsW v N x (r + 1) = f_kw (dsW v N x r) N x := rfl
def dsF (v : fr_V) (N k : Nat) : Nat → Int32
  | 0 => 0
  | r + 1 => dsF v N k r + dbF (dsW v N (nI k) (r + 1)) r (nI k) (k + 1)
theorem dsF_s (v : fr_V) (N k r : Nat) : dsF v N k (r + 1) = dsF v N k r + dbF (dsW v N (nI k) (r + 1)) r (nI k) (k + 1) := rfl
theorem ds_L {l : Launch} {I : List Nat} (hI : fr_I I) (v : fr_V) (u : fr_U) (nr N k : Nat) (hnr : nr ≤ 16) (hk8 : k < 80) : ∀ (d r : Nat) (a : Int32) (z : fr_V) (hd : nr - r < d) (hj : r ≤ nr) (ha : a = dsF v N k r) (hz : z = dsW v N (nI k) r) (hv : p3OK I nr N z), J l mX3_debts I z u 4 [(0, .ref 300), (1, .int (nI k)), (2, .int a), (3, .int (nI r))] [] (QX u (fun c b => c = dsF v N k nr ∧ b = dsW v N (nI k) nr)) := by
  intro d
  induction d with
  | zero => intros; omega
  | succ d ih =>
    intro r a z hd hj ha hz hv
    refine J_iload_n dX3_debts_4 rfl 3 rfl ?_
    refine J_aload_n dX3_debts_5 rfl 0 rfl ?_
    refine J_gete (ci := 3) (j := 2) (x := nI nr) dX3_debts_6 fl_X3_40 (i300 hI) rfl rfl hv.1.2.1 ?_
    refine J_icmp_ge (tgt := 27) dX3_debts_9 (by decide) (fun c1 => ?_) (fun c1 => ?_)
    · refine J_iload_n dX3_debts_27 rfl 2 rfl ?_
      exact J_iret dX3_debts_28 rfl ⟨_, rfl, rfl, by have e : r = nr := by {have := nz_le (by omega) (by omega) c1; omega}; rw [ha, hz, e]; exact ⟨rfl, rfl⟩⟩
    · have hr : r < nr := nz_nle (by omega) (by omega) c1
      refine J_iload_n dX3_debts_12 rfl 2 rfl ?_
      refine J_aload_n dX3_debts_13 rfl 0 rfl ?_
      refine J_iload_n dX3_debts_14 rfl 3 rfl ?_
      refine J_iload_n dX3_debts_15 rfl 1 rfl ?_
      refine J_eVX (z := mX3_debtOf) (As := [.int (nI r), .int (nI k)]) (rest := [.int a]) (ci := 3) (x := dbF (f_kw z N (nI k)) r (nI k) (k + 1)) (w := f_kw z N (nI k)) dX3_debts_16 ml_X3_135 ok_X3_debtOf iv_X3_debtOf (by decide) (i300 hI) rfl rfl rfl rfl (Nat.le_of_ble_eq_true rfl) (k_X3_debtOf hI z u nr N r k hr hk8 hv) ?_
      refine J_iadd dX3_debts_19 ?_
      refine J_istore_n (lv' := [(2, .int (a + (dbF (f_kw z N (nI k)) r (nI k) (k + 1)))), (0, .ref 300), (1, .int (nI k)), (3, .int (nI r))]) dX3_debts_20 rfl (by decide) rfl ?_
      refine J_iinc (q := 3) (z := nI (r + 1)) (lv' := [(3, .int (nI (r + 1))), (2, .int (a + (dbF (f_kw z N (nI k)) r (nI k) (k + 1)))), (0, .ref 300), (1, .int (nI k))]) dX3_debts_21 rfl (nI_1 r) (by decide) rfl ?_
      refine J_goto (tgt := 4) dX3_debts_24 (by decide) ?_
      refine J_lv [2, 3, 1, 0] rfl ?_
      exact ih (r + 1) _ _ (by omega) (by omega) (by rw [dsF_s, ← ha, dsW_s, ← hz]) (by rw [dsW_s, ← hz]) (sm3.kw.ok hv)
theorem k_X3_debts {l : Launch} {I : List Nat} (hI : fr_I I) (v : fr_V) (u : fr_U) (nr N k : Nat) (hk8 : k < 80) (hv : p3OK I nr N v) : Con l mX3_debts I v u [.ref 300, .int (nI k)] (QX u (fun c b => c = dsF v N k nr ∧ b = dsW v N (nI k) nr)) := by
  refine Con.of (by decide) (Nat.le_of_ble_eq_true rfl) ?_
  show J l mX3_debts I v u 0 [(0, .ref 300), (1, .int (nI k))] [] _
  refine J_iconst (x := 0) dX3_debts_0 (by decide) ?_
  refine J_istore_n (lv' := [(2, .int 0), (0, .ref 300), (1, .int (nI k))]) dX3_debts_1 rfl (by decide) rfl ?_
  refine J_iconst (x := 0) dX3_debts_2 (by decide) ?_
  refine J_istore_n (lv' := [(3, .int 0), (2, .int 0), (0, .ref 300), (1, .int (nI k))]) dX3_debts_3 rfl (by decide) rfl ?_
  refine J_lv [2, 3, 1, 0] rfl ?_
  exact ds_L hI v u nr N k hv.1.1 hk8 (nr + 1) 0 _ _ (by omega) (by omega) rfl rfl hv
