theorem acF_e {v z : fr_V} (h : ∀ c, c < 1139 → c ≠ 1100 → z c = v c) (w b hh e x ag : Int32) : ∀ M, acF z w b hh e x ag M = acF v w b hh e x ag M := by
  intro M
  induction M with
  | zero => rfl
  | succ M ih =>
    have hp : acP z w b hh x ag M ↔ acP v w b hh x ag M := by
      unfold acP f_X11_isIn
      rw [h 1131 (by omega) (by omega), h 1133 (by omega) (by omega), h 1134 (by omega) (by omega), h 1135 (by omega) (by omega), h 1136 (by omega) (by omega), h 1137 (by omega) (by omega), h 1138 (by omega) (by omega), h 1107 (by omega) (by omega)]
    by_cases c : acP v w b hh x ag M
    · rw [acF_p c, acF_p (hp.mpr c), h 1131 (by omega) (by omega), h 1132 (by omega) (by omega)]
    · rw [acF_n c, acF_n (fun q => c (hp.mp q)), ih]
theorem act_e {v z : fr_V} (h : ∀ c, c < 1139 → c ≠ 1100 → z c = v c) (M : Nat) (w a b hh e : Int32) : f_act z M w a b hh e = f_act v M w a b hh e := by
  unfold f_act acZ f_X11_ageIn
  rw [acF_e h, h 1106 (by omega) (by omega)]
theorem may_e {v z : fr_V} (h : ∀ c, c < 1139 → c ≠ 1100 → z c = v c) (h3 : z 1100 3 = v 1100 3) (M : Nat) (a b : Int32) : f_X11_mayBe z M a b = f_X11_mayBe v M a b := by
  unfold f_X11_mayBe
  rw [act_e h, h3]
theorem price_e {v z : fr_V} (h : ∀ c, c < 1139 → c ≠ 1100 → z c = v c) (h3 : z 1100 3 = v 1100 3) (M : Nat) (a b : Int32) : f_X11_priceOf z M a b = f_X11_priceOf v M a b := by
  unfold f_X11_priceOf
  rw [act_e h, h3]
noncomputable def oK (v : fr_V) (M : Nat) : Nat → Nat
  | 0 => 0
  | i + 1 => if v 1146 i = (-1) then (if f_X11_mayBe v M (nI i) (-1) = 0 then oK v M i else oK v M i + 1) else oK v M i
theorem oK_s (v : fr_V) (M i : Nat) : oK v M (i + 1) = if v 1146 i = (-1) then (if f_X11_mayBe v M (nI i) (-1) = 0 then oK v M i else oK v M i + 1) else oK v M i := rfl
theorem oK_le (v : fr_V) (M : Nat) : ∀ i, oK v M i ≤ i := by
  intro i
  induction i with
  | zero => exact Nat.le_refl _
  | succ i ih => rw [oK_s]; split <;> (try split) <;> omega
noncomputable def oX (v : fr_V) (M : Nat) (f0 : Nat → Int32) : Nat → Nat → Int32
  | 0 => f0
  | i + 1 => if v 1146 i = (-1) then (if f_X11_mayBe v M (nI i) (-1) = 0 then oX v M f0 i else upd (oX v M f0 i) (oK v M i) (nI i)) else oX v M f0 i
theorem oX_s (v : fr_V) (M : Nat) (f0 : Nat → Int32) (i : Nat) : oX v M f0 (i + 1) = if v 1146 i = (-1) then (if f_X11_mayBe v M (nI i) (-1) = 0 then oX v M f0 i else upd (oX v M f0 i) (oK v M i) (nI i)) else oX v M f0 i := rfl
theorem oX_in {v : fr_V} {M : Nat} {f0 : Nat → Int32} : ∀ i, ∀ q, q < oK v M i → ∃ j, j < i ∧ oX v M f0 i q = nI j := by
  intro i
  induction i with
  | zero => intro q hq; exact absurd hq (Nat.not_lt_zero q)
  | succ i ih =>
    intro q hq
    rw [oK_s] at hq
    rw [oX_s]
    have up : ∀ q, q < oK v M i → ∃ j, j < i + 1 ∧ oX v M f0 i q = nI j := fun q hq => by obtain ⟨j, hj, e⟩ := ih q hq; exact ⟨j, by omega, e⟩
    by_cases c1 : v 1146 i = (-1)
    · rw [if_pos c1] at hq ⊢
      by_cases c2 : f_X11_mayBe v M (nI i) (-1) = 0
      · rw [if_pos c2] at hq ⊢; exact up q hq
      · rw [if_neg c2] at hq ⊢
        unfold upd
        by_cases e : q = oK v M i
        · rw [if_pos e]; exact ⟨i, by omega, rfl⟩
        · rw [if_neg e]; exact up q (by omega)
    · rw [if_neg c1] at hq ⊢; exact up q hq
def rwF (c : Int32) : Nat → Int32
  | 0 => 1
  | k + 1 => if rwF c k ≤ 5000 then rwF c k * (c + 1) else rwF c k
theorem rwF_s (c : Int32) (k : Nat) : rwF c (k + 1) = if rwF c k ≤ 5000 then rwF c k * (c + 1) else rwF c k := rfl
theorem nn1_L {l : Launch} {I : List Nat} (hI : fr_I I) (v : fr_V) (u : fr_U) (M n : Nat) (x1 : Int32) (hL : v 1100 4 = nI n) (hL2 : n ≤ 12) (hM0 : v 1100 38 = nI M) (hM : M ≤ 24) {Q : Option Value → fr_V → fr_U → Prop} (hk : ∀ (G : Nat → Int32) (rw : Int32), G = oX v M (v 1156) n → rw = rwF (v 1141 3) (oK v M n) → J l mX11_names I (upA v 1156 G) u 107 [(0, .ref 1100), (1, .int x1), (2, .int (nI (oK v M n))), (3, .int rw)] [] Q) : ∀ (d i : Nat) (G : Nat → Int32) (rw : Int32) (hd : n - i < d) (hj : i ≤ n) (hG : G = oX v M (v 1156) i) (hr : rw = rwF (v 1141 3) (oK v M i)), J l mX11_names I (upA v 1156 G) u 35 [(0, .ref 1100), (1, .int x1), (2, .int (nI (oK v M i))), (3, .int rw), (4, .int (nI i))] [] (Q) := by
  intro d
  induction d with
  | zero => intros; omega
  | succ d ih =>
    intro i G rw hd hj hG hr
    refine J_iload dX11_names_35 4 rfl ?_
    refine J_aload_n dX11_names_37 rfl 0 rfl ?_
    refine J_gete (ci := 11) (j := 4) (x := nI n) dX11_names_38 fl_X11_211 (i1100 hI) rfl rfl hL ?_
    refine J_icmp_ge (tgt := 107) dX11_names_41 (by decide) (fun c1 => ?_) (fun c1 => ?_)
    · have e : i = n := by have := nz_le (by omega) (by omega) c1; omega
      subst e
      refine J_lv [0, 1, 2, 3] rfl ?_
      exact hk G rw hG hr
    · have hin : i < n := nz_nle (by omega) (by omega) c1
      have hoi := oK_le v M i
      refine J_aload_n dX11_names_44 rfl 0 rfl ?_
      refine J_getr (ci := 11) (j := 45) (t := 1146) dX11_names_45 fl_X11_96 (i1100 hI) rfl rfl rfl ?_
      refine J_iload dX11_names_48 4 rfl ?_
      refine J_iale (x := v 1146 i) dX11_names_50 (i1146 hI) rfl (ix_in (j := i) rfl (by omega) (by omega)) ((congrArg _ (ix_cl (j := i) rfl (by omega))).trans rfl) ?_
      refine J_iconst (x := (-1)) dX11_names_51 (by decide) ?_
      refine J_icmp_ne (tgt := 101) dX11_names_52 (by decide) (fun c2 => ?_) (fun c2 => ?_)
      · refine J_iinc (q := 4) (z := nI (i + 1)) (lv' := [(4, .int (nI (i + 1))), (0, .ref 1100), (1, .int x1), (2, .int (nI (oK v M i))), (3, .int rw)]) dX11_names_101 rfl (nI_1 i) (by decide) rfl ?_
        refine J_goto (tgt := 35) dX11_names_104 (by decide) ?_
        rw [show nI (oK v M i) = nI (oK v M (i + 1)) from by rw [oK_s, if_neg c2]]
        refine J_lv [1, 2, 3, 4, 0] rfl ?_
        exact ih (i + 1) _ _ (by omega) (by omega) (by rw [oX_s, if_neg c2]; exact hG) (by rw [oK_s, if_neg c2]; exact hr)
      · refine J_aload_n dX11_names_55 rfl 0 rfl ?_
        refine J_iload dX11_names_56 4 rfl ?_
        refine J_iconst (x := (-1)) dX11_names_58 (by decide) ?_
        refine J_eVI (z := mX11_mayBe) (As := [.int (nI i), .int (-1)]) (rest := []) (ci := 11) (x := f_X11_mayBe v M (nI i) (-1)) dX11_names_59 ml_X11_224 ok_X11_mayBe iv_X11_mayBe (by decide) (i1100 hI) rfl rfl rfl rfl (Nat.le_of_ble_eq_true rfl) ((may_e (v := v) (z := upA v 1156 G) (fun c h1 h2 => upA_ne (by omega)) rfl M (nI i) (-1) ▸ k_X11_mayBe hI (upA v 1156 G) u M (nI i) (-1) hM0 hM (vp_in_nI (by omega) (by omega)) (fun h => absurd rfl h))) ?_
        refine J_if_ne (tgt := 68) dX11_names_62 (by decide) (fun c3 => ?_) (fun c3 => ?_)
        · refine J_aload_n dX11_names_68 rfl 0 rfl ?_
          refine J_getr (ci := 11) (j := 55) (t := 1156) dX11_names_69 fl_X11_114 (i1100 hI) rfl rfl rfl ?_
          refine J_iload_n dX11_names_72 rfl 2 rfl ?_
          refine J_iload dX11_names_73 4 rfl ?_
          refine J_iase (j := (oK v M i)) dX11_names_75 (i1156 hI) rfl (ix_in (j := (oK v M i)) rfl (by omega) (by omega)) (ix_cl (j := (oK v M i)) rfl (by omega)) ?_
          refine J_iinc (q := 2) (z := nI ((oK v M i) + 1)) (lv' := [(2, .int (nI ((oK v M i) + 1))), (0, .ref 1100), (1, .int x1), (3, .int rw), (4, .int (nI i))]) dX11_names_76 rfl (nI_1 (oK v M i)) (by decide) rfl ?_
          refine J_iload_n dX11_names_79 rfl 3 rfl ?_
          refine J_sipush (x := 5000) dX11_names_80 (by decide) ?_
          refine J_icmp_le (tgt := 90) dX11_names_83 (by decide) (fun c4 => ?_) (fun c4 => ?_)
          · refine J_iload_n dX11_names_90 rfl 3 rfl ?_
            refine J_aload_n dX11_names_91 rfl 1 rfl ?_
            refine J_getr (ci := 11) (j := 40) (t := 1141) dX11_names_92 fl_X11_86 (i1100 hI) rfl rfl rfl ?_
            refine J_iconst (x := 3) dX11_names_95 (by decide) ?_
            refine J_iale (x := v 1141 3) dX11_names_96 (i1141 hI) rfl (ix_in (j := 3) rfl (by omega) (by omega)) ((congrArg _ (ix_cl (j := 3) rfl (by omega))).trans rfl) ?_
            refine J_iconst (x := 1) dX11_names_97 (by decide) ?_
            refine J_iadd dX11_names_98 ?_
            refine J_imul dX11_names_99 ?_
            refine J_istore_n (lv' := [(3, .int (rw * ((v 1141 3) + 1))), (2, .int (nI ((oK v M i) + 1))), (0, .ref 1100), (1, .int x1), (4, .int (nI i))]) dX11_names_100 rfl (by decide) rfl ?_
            refine J_iinc (q := 4) (z := nI (i + 1)) (lv' := [(4, .int (nI (i + 1))), (3, .int (rw * ((v 1141 3) + 1))), (2, .int (nI ((oK v M i) + 1))), (0, .ref 1100), (1, .int x1)]) dX11_names_101 rfl (nI_1 i) (by decide) rfl ?_
            refine J_goto (tgt := 35) dX11_names_104 (by decide) ?_
            rw [up2_upA]
            rw [show nI (oK v M i + 1) = nI (oK v M (i + 1)) from by rw [oK_s, if_pos c2, if_neg c3]]
            refine J_lv [3, 4, 2, 1, 0] rfl ?_
            exact ih (i + 1) _ _ (by omega) (by omega) (by rw [oX_s, if_pos c2, if_neg c3, hG]) (by rw [oK_s, if_pos c2, if_neg c3, rwF_s, ← hr, if_pos c4])
          · refine J_iload_n dX11_names_86 rfl 3 rfl ?_
            refine J_goto (tgt := 100) dX11_names_87 (by decide) ?_
            refine J_istore_n (lv' := [(3, .int rw), (2, .int (nI ((oK v M i) + 1))), (0, .ref 1100), (1, .int x1), (4, .int (nI i))]) dX11_names_100 rfl (by decide) rfl ?_
            refine J_iinc (q := 4) (z := nI (i + 1)) (lv' := [(4, .int (nI (i + 1))), (3, .int rw), (2, .int (nI ((oK v M i) + 1))), (0, .ref 1100), (1, .int x1)]) dX11_names_101 rfl (nI_1 i) (by decide) rfl ?_
            refine J_goto (tgt := 35) dX11_names_104 (by decide) ?_
            rw [up2_upA]
            rw [show nI (oK v M i + 1) = nI (oK v M (i + 1)) from by rw [oK_s, if_pos c2, if_neg c3]]
            refine J_lv [3, 4, 2, 1, 0] rfl ?_
            exact ih (i + 1) _ _ (by omega) (by omega) (by rw [oX_s, if_pos c2, if_neg c3, hG]) (by rw [oK_s, if_pos c2, if_neg c3, rwF_s, ← hr, if_neg c4])
        · refine J_goto (tgt := 101) dX11_names_65 (by decide) ?_
          refine J_iinc (q := 4) (z := nI (i + 1)) (lv' := [(4, .int (nI (i + 1))), (0, .ref 1100), (1, .int x1), (2, .int (nI (oK v M i))), (3, .int rw)]) dX11_names_101 rfl (nI_1 i) (by decide) rfl ?_
          refine J_goto (tgt := 35) dX11_names_104 (by decide) ?_
          rw [show nI (oK v M i) = nI (oK v M (i + 1)) from by rw [oK_s, if_pos c2, if_pos c3]]
          refine J_lv [1, 2, 3, 4, 0] rfl ?_
          exact ih (i + 1) _ _ (by omega) (by omega) (by rw [oX_s, if_pos c2, if_pos c3]; exact hG) (by rw [oK_s, if_pos c2, if_pos c3]; exact hr)
noncomputable def pR (v : fr_V) (M : Nat) (O f0 : Nat → Int32) : Nat → Nat → Int32
  | 0 => f0
  | i + 1 => upd (pR v M O f0 i) i (f_X11_priceOf v M (O i) (-1))
theorem pR_s (v : fr_V) (M : Nat) (O f0 : Nat → Int32) (i : Nat) : pR v M O f0 (i + 1) = upd (pR v M O f0 i) i (f_X11_priceOf v M (O i) (-1)) := rfl
noncomputable def gR (v : fr_V) (M : Nat) (O f0 : Nat → Int32) : Nat → Nat → Int32
  | 0 => f0
  | i + 1 => upd (gR v M O f0 i) i (2 * f_worthOf v (O i) - 1000 * f_X11_priceOf v M (O i) (-1))
theorem gR_s (v : fr_V) (M : Nat) (O f0 : Nat → Int32) (i : Nat) : gR v M O f0 (i + 1) = upd (gR v M O f0 i) i (2 * f_worthOf v (O i) - 1000 * f_X11_priceOf v M (O i) (-1)) := rfl
theorem wo_e {v : fr_V} {f g : Nat → Int32} (x : Int32) : f_worthOf (upA (upA v 1158 f) 1157 g) x = f_worthOf v x := rfl
theorem upA_c {v : fr_V} {a b : Nat} {f g : Nat → Int32} (h : a ≠ b) : upA (upA v a f) b g = upA (upA v b g) a f := by
  funext c
  unfold upA
  by_cases h1 : c = b
  · subst h1; rw [if_pos rfl, if_neg (fun q => h q.symm), if_pos rfl]
  · by_cases h2 : c = a
    · subst h2; rw [if_neg h1, if_pos rfl, if_pos rfl]
    · rw [if_neg h1, if_neg h2, if_neg h2, if_neg h1]
theorem nn2_L {l : Launch} {I : List Nat} (hI : fr_I I) (v : fr_V) (u : fr_U) (M k : Nat) (x1 rw : Int32) (Pf : Nat → Nat) (hk12 : k ≤ 12) (hM0 : v 1100 38 = nI M) (hM : M ≤ 24) (hset : ¬ v 1141 2 + 1 = 0) (hA : ∀ i, i < k → lfOK v (v 1156 i) (Pf i)) {Q : Option Value → fr_V → fr_U → Prop} (hk : ∀ (F G : Nat → Int32), F = pR v M (v 1156) (v 1158) k → G = gR v M (v 1156) (v 1157) k → J l mX11_names I (upA (upA v 1158 F) 1157 G) u 189 [(0, .ref 1100), (1, .int x1), (2, .int (nI k)), (3, .int rw)] [] Q) : ∀ (d i : Nat) (F G : Nat → Int32) (hd : k - i < d) (hj : i ≤ k) (hF : F = pR v M (v 1156) (v 1158) i) (hG : G = gR v M (v 1156) (v 1157) i), J l mX11_names I (upA (upA v 1158 F) 1157 G) u 126 [(0, .ref 1100), (1, .int x1), (2, .int (nI k)), (3, .int rw), (4, .int (nI i))] [] (Q) := by
  intro d
  induction d with
  | zero => intros; omega
  | succ d ih =>
    intro i F G hd hj hF hG
    refine J_iload dX11_names_126 4 rfl ?_
    refine J_iload_n dX11_names_128 rfl 2 rfl ?_
    refine J_icmp_ge (tgt := 189) dX11_names_129 (by decide) (fun c1 => ?_) (fun c1 => ?_)
    · have e : i = k := by have := nz_le (by omega) (by omega) c1; omega
      subst e
      refine J_lv [0, 1, 2, 3] rfl ?_
      exact hk F G hF hG
    · have hik : i < k := nz_nle (by omega) (by omega) c1
      refine J_aload_n dX11_names_132 rfl 0 rfl ?_
      refine J_getr (ci := 11) (j := 57) (t := 1158) dX11_names_133 fl_X11_120 (i1100 hI) rfl rfl rfl ?_
      refine J_iload dX11_names_136 4 rfl ?_
      refine J_aload_n dX11_names_138 rfl 0 rfl ?_
      refine J_aload_n dX11_names_139 rfl 0 rfl ?_
      refine J_getr (ci := 11) (j := 55) (t := 1156) dX11_names_140 fl_X11_114 (i1100 hI) rfl rfl rfl ?_
      refine J_iload dX11_names_143 4 rfl ?_
      refine J_iale (x := v 1156 i) dX11_names_145 (i1156 hI) rfl (ix_in (j := i) rfl (by omega) (by omega)) ((congrArg _ (ix_cl (j := i) rfl (by omega))).trans rfl) ?_
      refine J_iconst (x := (-1)) dX11_names_146 (by decide) ?_
      refine J_eVI (z := mX11_priceOf) (As := [.int (v 1156 i), .int (-1)]) (rest := [.int (nI i), .ref 1158]) (ci := 11) (x := f_X11_priceOf v M (v 1156 i) (-1)) dX11_names_147 ml_X11_227 ok_X11_priceOf iv_X11_priceOf (by decide) (i1100 hI) rfl rfl rfl rfl (Nat.le_of_ble_eq_true rfl) ((price_e (v := v) (z := (upA (upA v 1158 F) 1157 G)) (fun c h1 h2 => by rw [upA_ne (by omega), upA_ne (by omega)]) rfl M (v 1156 i) (-1) ▸ k_X11_priceOf hI (upA (upA v 1158 F) 1157 G) u M (v 1156 i) (-1) hM0 hM (hA i hik).1 (fun h => absurd rfl h))) ?_
      refine J_iase (j := i) dX11_names_150 (i1158 hI) rfl (ix_in (j := i) rfl (by omega) (by omega)) (ix_cl (j := i) rfl (by omega)) ?_
      rw [upA_c (show 1158 ≠ 1157 by decide), up2_upA, upA_c (show 1157 ≠ 1158 by decide)]
      refine J_aload_n dX11_names_151 rfl 0 rfl ?_
      refine J_getr (ci := 11) (j := 56) (t := 1157) dX11_names_152 fl_X11_117 (i1100 hI) rfl rfl rfl ?_
      refine J_iload dX11_names_155 4 rfl ?_
      refine J_iconst (x := 2) dX11_names_157 (by decide) ?_
      refine J_aload_n dX11_names_158 rfl 0 rfl ?_
      refine J_aload_n dX11_names_159 rfl 0 rfl ?_
      refine J_getr (ci := 11) (j := 55) (t := 1156) dX11_names_160 fl_X11_114 (i1100 hI) rfl rfl rfl ?_
      refine J_iload dX11_names_163 4 rfl ?_
      refine J_iale (x := v 1156 i) dX11_names_165 (i1156 hI) rfl (ix_in (j := i) rfl (by omega) (by omega)) ((congrArg _ (ix_cl (j := i) rfl (by omega))).trans rfl) ?_
      refine J_eVI (z := mX11_worthOf) (As := [.int (v 1156 i)]) (rest := [.int 2, .int (nI i), .ref 1157]) (ci := 11) (x := f_worthOf v (v 1156 i)) dX11_names_166 ml_X11_308 ok_X11_worthOf iv_X11_worthOf (by decide) (i1100 hI) rfl rfl rfl rfl (Nat.le_of_ble_eq_true rfl) ((show Con l mX11_worthOf I (upA (upA v 1158 (upd F i (f_X11_priceOf v M (v 1156 i) (-1)))) 1157 G) u _ _ from wo_e (v := v) (v 1156 i) ▸ k2_worthOf hI (upA (upA v 1158 (upd F i (f_X11_priceOf v M (v 1156 i) (-1)))) 1157 G) u (v 1156 i) (Pf i) (hA i hik) hset)) ?_
      refine J_imul dX11_names_169 ?_
      refine J_sipush (x := 1000) dX11_names_170 (by decide) ?_
      refine J_aload_n dX11_names_173 rfl 0 rfl ?_
      refine J_getr (ci := 11) (j := 57) (t := 1158) dX11_names_174 fl_X11_120 (i1100 hI) rfl rfl rfl ?_
      refine J_iload dX11_names_177 4 rfl ?_
      refine J_iale (x := (upd F i (f_X11_priceOf v M (v 1156 i) (-1))) i) dX11_names_179 (i1158 hI) rfl (ix_in (j := i) rfl (by omega) (by omega)) ((congrArg _ (ix_cl (j := i) rfl (by omega))).trans rfl) ?_
      refine J_imul dX11_names_180 ?_
      refine J_isub dX11_names_181 ?_
      refine J_iase (j := i) dX11_names_182 (i1157 hI) rfl (ix_in (j := i) rfl (by omega) (by omega)) (ix_cl (j := i) rfl (by omega)) ?_
      refine J_iinc (q := 4) (z := nI (i + 1)) (lv' := [(4, .int (nI (i + 1))), (0, .ref 1100), (1, .int x1), (2, .int (nI k)), (3, .int rw)]) dX11_names_183 rfl (nI_1 i) (by decide) rfl ?_
      refine J_goto (tgt := 126) dX11_names_186 (by decide) ?_
      rw [up2_upA]
      refine J_lv [1, 2, 3, 4, 0] rfl ?_
      exact ih (i + 1) _ _ (by omega) (by omega) (by rw [pR_s, hF]) (by rw [gR_s, hG]; exact congrArg _ (congrArg _ (congrArg _ pk_us)))
