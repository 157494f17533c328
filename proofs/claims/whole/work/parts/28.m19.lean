theorem up2_c (v : fr_V) (k : Nat) {i j : Nat} (hij : i ≠ j) (a b c d : Int32) : up2 (up2 (up2 (up2 v k i a) k j b) k i c) k j d = up2 (up2 v k i c) k j d := by
  funext x y
  by_cases h : x = k
  · subst h
    by_cases h2 : y = j
    · simp [up2, upd, h2]
    · by_cases h3 : y = i
      · subst h3; simp [up2, upd, hij]
      · simp [up2, upd, h2, h3]
  · simp [up2, h]
noncomputable def dgF (W : Nat → Int32) (E : Nat) : Nat → Int32 → Int32
  | 0, w => w
  | d + 1, w => @ite Int32 (isDg W (E - (d + 1))) (Classical.propDecidable _) (dgF W E d (if w ≤ 9999 then 10 * w + W (E - (d + 1)) - 48 else w)) w
theorem dgF_p {W : Nat → Int32} {E d : Nat} {w : Int32} (h : isDg W (E - (d + 1))) : dgF W E (d + 1) w = dgF W E d (if w ≤ 9999 then 10 * w + W (E - (d + 1)) - 48 else w) := if_pos h
theorem dgF_n {W : Nat → Int32} {E d : Nat} {w : Int32} (h : ¬ isDg W (E - (d + 1))) : dgF W E (d + 1) w = w := if_neg h
theorem tk_C {l : Launch} {I : List Nat} (hI : fr_I I) (v : fr_V) (u : fr_U) (E : Nat) (hE : E ≤ 500) (hE0 : v 1100 25 = nI E) {Q : Option Value → fr_V → fr_U → Prop} : ∀ (d p : Nat) (w : Int32) (hk : J l mX11_take I (up2 (up2 v 1100 28 (dgF (v 1101) E d w)) 1100 26 (nI (sc (isDg (v 1101)) E d))) u 268 [(0, .ref 1100)] [] Q) (hp : d + p = E), J l mX11_take I (up2 (up2 v 1100 28 w) 1100 26 (nI p)) u 170 [(0, .ref 1100)] [] Q := by
  intro d
  induction d with
  | zero =>
    intro p w hk hp
    have e : E = p := by omega
    subst e
    refine J_aload_n dX11_take_170 rfl 0 rfl ?_
    refine J_aload_n dX11_take_171 rfl 0 rfl ?_
    refine J_gete (ci := 11) (j := 26) (x := nI E) dX11_take_172 fl_X11_144 (i1100 hI) rfl rfl rfl ?_
    refine J_eVI (z := mX11_isDigit) (As := [.int (nI E)]) (rest := []) (ci := 11) (x := f_X11_isDigit (up2 (up2 v 1100 28 w) 1100 26 (nI E)) (nI E)) dX11_take_175 ml_X11_161 ok_X11_isDigit iv_X11_isDigit (by decide) (i1100 hI) rfl rfl rfl rfl (Nat.le_of_ble_eq_true rfl) (k_X11_isDigit hI (up2 (up2 v 1100 28 w) 1100 26 (nI E)) u _ (fun h => vp_in_nI (by have q9 : ¬ v 1100 25 ≤ nI E := h; rw [hE0] at q9; have := nz_nle (by omega) (by omega) q9; omega) (by omega))) ?_
    refine J_if_eq (tgt := 268) dX11_take_178 (by decide) (fun c1 => ?_) (fun c1 => absurd ((dg_iff (v := up2 (up2 v 1100 28 w) 1100 26 (nI E)) (E := E) hE0 hE (by omega)).mpr (Or.inl rfl)) c1)
    refine J_lv [0] rfl ?_
    exact hk
  | succ d ih =>
    intro p w hk hp
    have hpd : p = E - (d + 1) := by omega
    refine J_aload_n dX11_take_170 rfl 0 rfl ?_
    refine J_aload_n dX11_take_171 rfl 0 rfl ?_
    refine J_gete (ci := 11) (j := 26) (x := nI p) dX11_take_172 fl_X11_144 (i1100 hI) rfl rfl rfl ?_
    refine J_eVI (z := mX11_isDigit) (As := [.int (nI p)]) (rest := []) (ci := 11) (x := f_X11_isDigit (up2 (up2 v 1100 28 w) 1100 26 (nI p)) (nI p)) dX11_take_175 ml_X11_161 ok_X11_isDigit iv_X11_isDigit (by decide) (i1100 hI) rfl rfl rfl rfl (Nat.le_of_ble_eq_true rfl) (k_X11_isDigit hI (up2 (up2 v 1100 28 w) 1100 26 (nI p)) u _ (fun h => vp_in_nI (by have q9 : ¬ v 1100 25 ≤ nI p := h; rw [hE0] at q9; have := nz_nle (by omega) (by omega) q9; omega) (by omega))) ?_
    refine J_if_eq (tgt := 268) dX11_take_178 (by decide) (fun c1 => ?_) (fun c1 => ?_)
    · refine J_lv [0] rfl ?_
      have hl : ¬ isDg (v 1101) p := ((dg_iff (v := up2 (up2 v 1100 28 w) 1100 26 (nI p)) (E := E) hE0 hE (by omega)).mp c1).elim (fun e => by omega) id
      rw [sc_n (by rw [← hpd]; exact hl), dgF_n (by rw [← hpd]; exact hl), ← hpd] at hk
      exact hk
    · have hpE : p < E := by omega
      refine J_aload_n dX11_take_181 rfl 0 rfl ?_
      refine J_aload_n dX11_take_182 rfl 0 rfl ?_
      refine J_gete (ci := 11) (j := 28) (x := w) dX11_take_183 fl_X11_158 (i1100 hI) rfl rfl rfl ?_
      refine J_sipush (x := 9999) dX11_take_186 (by decide) ?_
      refine J_icmp_le (tgt := 199) dX11_take_189 (by decide) (fun c2 => ?_) (fun c2 => ?_)
      · refine J_bipush (x := 10) dX11_take_199 (by decide) ?_
        refine J_aload_n dX11_take_201 rfl 0 rfl ?_
        refine J_gete (ci := 11) (j := 28) (x := w) dX11_take_202 fl_X11_158 (i1100 hI) rfl rfl rfl ?_
        refine J_imul dX11_take_205 ?_
        refine J_aload_n dX11_take_206 rfl 0 rfl ?_
        refine J_getr (ci := 11) (j := 0) (t := 1101) dX11_take_207 fl_X11_7 (i1100 hI) rfl rfl rfl ?_
        refine J_aload_n dX11_take_210 rfl 0 rfl ?_
        refine J_gete (ci := 11) (j := 26) (x := nI p) dX11_take_211 fl_X11_144 (i1100 hI) rfl rfl rfl ?_
        refine J_iale (x := v 1101 p) dX11_take_214 (i1101 hI) rfl (ix_in (j := p) rfl (by omega) (by omega)) ((congrArg _ (ix_cl (j := p) rfl (by omega))).trans rfl) ?_
        refine J_iadd dX11_take_215 ?_
        refine J_bipush (x := 48) dX11_take_216 (by decide) ?_
        refine J_isub dX11_take_218 ?_
        refine J_puti (ci := 11) (j := 28) dX11_take_219 fl_X11_158 (i1100 hI) rfl rfl (fun q h => by cases h; rfl) rfl ?_
        refine J_aload_n dX11_take_222 rfl 0 rfl ?_
        refine J_dup dX11_take_223 rfl ?_
        refine J_gete (ci := 11) (j := 26) (x := nI p) dX11_take_224 fl_X11_144 (i1100 hI) rfl rfl rfl ?_
        refine J_iconst (x := 1) dX11_take_227 (by decide) ?_
        refine J_iadd dX11_take_228 ?_
        refine J_puti (ci := 11) (j := 26) dX11_take_229 fl_X11_144 (i1100 hI) rfl rfl (fun q h => by cases h; rfl) rfl ?_
        refine J_goto (tgt := 170) dX11_take_232 (by decide) ?_
        rw [up2_c v 1100 (by decide), nI_1]
        refine J_lv [0] rfl ?_
        have hl : isDg (v 1101) p := Classical.byContradiction (fun q => c1 ((dg_iff (v := up2 (up2 v 1100 28 w) 1100 26 (nI p)) (E := E) hE0 hE (by omega)).mpr (Or.inr q)))
        refine ih (p + 1) _ ?_ (by omega)
        rw [sc_p (by rw [← hpd]; exact hl), dgF_p (by rw [← hpd]; exact hl), ← hpd, if_pos c2] at hk
        exact hk
      · refine J_aload_n dX11_take_192 rfl 0 rfl ?_
        refine J_gete (ci := 11) (j := 28) (x := w) dX11_take_193 fl_X11_158 (i1100 hI) rfl rfl rfl ?_
        refine J_goto (tgt := 219) dX11_take_196 (by decide) ?_
        refine J_puti (ci := 11) (j := 28) dX11_take_219 fl_X11_158 (i1100 hI) rfl rfl (fun q h => by cases h; rfl) rfl ?_
        refine J_aload_n dX11_take_222 rfl 0 rfl ?_
        refine J_dup dX11_take_223 rfl ?_
        refine J_gete (ci := 11) (j := 26) (x := nI p) dX11_take_224 fl_X11_144 (i1100 hI) rfl rfl rfl ?_
        refine J_iconst (x := 1) dX11_take_227 (by decide) ?_
        refine J_iadd dX11_take_228 ?_
        refine J_puti (ci := 11) (j := 26) dX11_take_229 fl_X11_144 (i1100 hI) rfl rfl (fun q h => by cases h; rfl) rfl ?_
        refine J_goto (tgt := 170) dX11_take_232 (by decide) ?_
        rw [up2_c v 1100 (by decide), nI_1]
        refine J_lv [0] rfl ?_
        have hl : isDg (v 1101) p := Classical.byContradiction (fun q => c1 ((dg_iff (v := up2 (up2 v 1100 28 w) 1100 26 (nI p)) (E := E) hE0 hE (by omega)).mpr (Or.inr q)))
        refine ih (p + 1) _ ?_ (by omega)
        rw [sc_p (by rw [← hpd]; exact hl), dgF_p (by rw [← hpd]; exact hl), ← hpd, if_neg c2] at hk
        exact hk
noncomputable def f_tk (v : fr_V) (E q : Nat) : fr_V :=
  if q = E then up2 (up2 (up2 v 1100 26 (nI q)) 1100 29 (nI q)) 1100 27 0
  else @ite fr_V (isLt (v 1101) q) (Classical.propDecidable _) (up2 (up2 (up2 (up2 (up2 v 1100 26 (nI q)) 1100 29 (nI q)) 1100 26 (nI (sc (isLt (v 1101)) E (E - q)))) 1100 28 (wA (v 1101) q (sc (isLt (v 1101)) E (E - q)) 15)) 1100 27 (if 0 ≤ wA (v 1101) q (sc (isLt (v 1101)) E (E - q)) 15 then 1 else 4))
  (@ite fr_V (isDg (v 1101) q) (Classical.propDecidable _) (up2 (up2 (up2 (up2 (up2 v 1100 26 (nI q)) 1100 29 (nI q)) 1100 27 2) 1100 28 (dgF (v 1101) E (E - q) 0)) 1100 26 (nI (sc (isDg (v 1101)) E (E - q))))
  (up2 (up2 (up2 (up2 v 1100 26 (nI q)) 1100 29 (nI q)) 1100 27 (if v 1101 q = 59 then 3 else 4)) 1100 26 (nI q + 1)))
theorem tk_M {l : Launch} {I : List Nat} (hI : fr_I I) (v : fr_V) (u : fr_U) (E : Nat) (hE : E ≤ 500) (hE0 : v 1100 25 = nI E) (hwd : ∀ i, i < 75 → v 1123 i = wd i) (q : Nat) (hq : q ≤ E) : J l mX11_take I (up2 v 1100 26 (nI q)) u 52 [(0, .ref 1100)] [] (QN u (fun a => a = f_tk v E q)) := by
  refine J_aload_n dX11_take_52 rfl 0 rfl ?_
  refine J_aload_n dX11_take_53 rfl 0 rfl ?_
  refine J_gete (ci := 11) (j := 26) (x := nI q) dX11_take_54 fl_X11_144 (i1100 hI) rfl rfl rfl ?_
  refine J_puti (ci := 11) (j := 29) dX11_take_57 fl_X11_138 (i1100 hI) rfl rfl (fun q h => by cases h; rfl) rfl ?_
  refine J_aload_n dX11_take_60 rfl 0 rfl ?_
  refine J_gete (ci := 11) (j := 26) (x := nI q) dX11_take_61 fl_X11_144 (i1100 hI) rfl rfl rfl ?_
  refine J_aload_n dX11_take_64 rfl 0 rfl ?_
  refine J_gete (ci := 11) (j := 25) (x := nI E) dX11_take_65 fl_X11_141 (i1100 hI) rfl rfl hE0 ?_
  refine J_icmp_ne (tgt := 79) dX11_take_68 (by decide) (fun c1 => ?_) (fun c1 => ?_)
  · have hqE : ¬ q = E := fun e => c1 (by rw [e])
    refine J_aload_n dX11_take_79 rfl 0 rfl ?_
    refine J_aload_n dX11_take_80 rfl 0 rfl ?_
    refine J_gete (ci := 11) (j := 26) (x := nI q) dX11_take_81 fl_X11_144 (i1100 hI) rfl rfl rfl ?_
    refine J_eVI (z := mX11_isSmall) (As := [.int (nI q)]) (rest := []) (ci := 11) (x := f_X11_isSmall (up2 (up2 v 1100 26 (nI q)) 1100 29 (nI q)) (nI q)) dX11_take_84 ml_X11_150 ok_X11_isSmall iv_X11_isSmall (by decide) (i1100 hI) rfl rfl rfl rfl (Nat.le_of_ble_eq_true rfl) (k_X11_isSmall hI (up2 (up2 v 1100 26 (nI q)) 1100 29 (nI q)) u _ (fun h => vp_in_nI (by have q9 : ¬ v 1100 25 ≤ nI q := h; rw [hE0] at q9; have := nz_nle (by omega) (by omega) q9; omega) (by omega))) ?_
    refine J_if_eq (tgt := 149) dX11_take_87 (by decide) (fun c2 => ?_) (fun c2 => ?_)
    · have hlt : ¬ isLt (v 1101) q := ((sm_iff (v := up2 (up2 v 1100 26 (nI q)) 1100 29 (nI q)) (E := E) hE0 hE hq).mp c2).elim (fun e => absurd e hqE) id
      refine J_aload_n dX11_take_149 rfl 0 rfl ?_
      refine J_aload_n dX11_take_150 rfl 0 rfl ?_
      refine J_gete (ci := 11) (j := 26) (x := nI q) dX11_take_151 fl_X11_144 (i1100 hI) rfl rfl rfl ?_
      refine J_eVI (z := mX11_isDigit) (As := [.int (nI q)]) (rest := []) (ci := 11) (x := f_X11_isDigit (up2 (up2 v 1100 26 (nI q)) 1100 29 (nI q)) (nI q)) dX11_take_154 ml_X11_161 ok_X11_isDigit iv_X11_isDigit (by decide) (i1100 hI) rfl rfl rfl rfl (Nat.le_of_ble_eq_true rfl) (k_X11_isDigit hI (up2 (up2 v 1100 26 (nI q)) 1100 29 (nI q)) u _ (fun h => vp_in_nI (by have q9 : ¬ v 1100 25 ≤ nI q := h; rw [hE0] at q9; have := nz_nle (by omega) (by omega) q9; omega) (by omega))) ?_
      refine J_if_eq (tgt := 235) dX11_take_157 (by decide) (fun c3 => ?_) (fun c3 => ?_)
      · have hdg : ¬ isDg (v 1101) q := ((dg_iff (v := up2 (up2 v 1100 26 (nI q)) 1100 29 (nI q)) (E := E) hE0 hE hq).mp c3).elim (fun e => absurd e hqE) id
        refine J_aload_n dX11_take_235 rfl 0 rfl ?_
        refine J_aload_n dX11_take_236 rfl 0 rfl ?_
        refine J_getr (ci := 11) (j := 0) (t := 1101) dX11_take_237 fl_X11_7 (i1100 hI) rfl rfl rfl ?_
        refine J_aload_n dX11_take_240 rfl 0 rfl ?_
        refine J_gete (ci := 11) (j := 26) (x := nI q) dX11_take_241 fl_X11_144 (i1100 hI) rfl rfl rfl ?_
        refine J_iale (x := v 1101 q) dX11_take_244 (i1101 hI) rfl (ix_in (j := q) rfl (by omega) (by omega)) ((congrArg _ (ix_cl (j := q) rfl (by omega))).trans rfl) ?_
        refine J_bipush (x := 59) dX11_take_245 (by decide) ?_
        refine J_icmp_ne (tgt := 254) dX11_take_247 (by decide) (fun c4 => ?_) (fun c4 => ?_)
        · refine J_iconst (x := 4) dX11_take_254 (by decide) ?_
          refine J_puti (ci := 11) (j := 27) dX11_take_255 fl_X11_147 (i1100 hI) rfl rfl (fun q h => by cases h; rfl) rfl ?_
          refine J_aload_n dX11_take_258 rfl 0 rfl ?_
          refine J_dup dX11_take_259 rfl ?_
          refine J_gete (ci := 11) (j := 26) (x := nI q) dX11_take_260 fl_X11_144 (i1100 hI) rfl rfl rfl ?_
          refine J_iconst (x := 1) dX11_take_263 (by decide) ?_
          refine J_iadd dX11_take_264 ?_
          refine J_puti (ci := 11) (j := 26) dX11_take_265 fl_X11_144 (i1100 hI) rfl rfl (fun q h => by cases h; rfl) rfl ?_
          exact J_vret dX11_take_268 rfl ⟨rfl, rfl, by unfold f_tk; rw [if_neg hqE, if_neg hlt, if_neg hdg, if_neg c4]⟩
        · refine J_iconst (x := 3) dX11_take_250 (by decide) ?_
          refine J_goto (tgt := 255) dX11_take_251 (by decide) ?_
          refine J_puti (ci := 11) (j := 27) dX11_take_255 fl_X11_147 (i1100 hI) rfl rfl (fun q h => by cases h; rfl) rfl ?_
          refine J_aload_n dX11_take_258 rfl 0 rfl ?_
          refine J_dup dX11_take_259 rfl ?_
          refine J_gete (ci := 11) (j := 26) (x := nI q) dX11_take_260 fl_X11_144 (i1100 hI) rfl rfl rfl ?_
          refine J_iconst (x := 1) dX11_take_263 (by decide) ?_
          refine J_iadd dX11_take_264 ?_
          refine J_puti (ci := 11) (j := 26) dX11_take_265 fl_X11_144 (i1100 hI) rfl rfl (fun q h => by cases h; rfl) rfl ?_
          exact J_vret dX11_take_268 rfl ⟨rfl, rfl, by unfold f_tk; rw [if_neg hqE, if_neg hlt, if_neg hdg, if_pos c4]⟩
      · refine J_aload_n dX11_take_160 rfl 0 rfl ?_
        refine J_iconst (x := 2) dX11_take_161 (by decide) ?_
        refine J_puti (ci := 11) (j := 27) dX11_take_162 fl_X11_147 (i1100 hI) rfl rfl (fun q h => by cases h; rfl) rfl ?_
        refine J_aload_n dX11_take_165 rfl 0 rfl ?_
        refine J_iconst (x := 0) dX11_take_166 (by decide) ?_
        refine J_puti (ci := 11) (j := 28) dX11_take_167 fl_X11_158 (i1100 hI) rfl rfl (fun q h => by cases h; rfl) rfl ?_
        have hdg : isDg (v 1101) q := Classical.byContradiction (fun h => c3 ((dg_iff (v := up2 (up2 v 1100 26 (nI q)) 1100 29 (nI q)) (E := E) hE0 hE hq).mpr (Or.inr h)))
        refine J_lv [0] rfl ?_
        refine J_ve (w := up2 (up2 (up2 (up2 (up2 v 1100 26 (nI q)) 1100 29 (nI q)) 1100 27 2) 1100 28 0) 1100 26 (nI q)) (up2_id rfl).symm ?_
        refine tk_C hI (up2 (up2 (up2 v 1100 26 (nI q)) 1100 29 (nI q)) 1100 27 2) u E hE hE0 (E - q) q 0 ?_ (by omega)
        exact J_vret dX11_take_268 rfl ⟨rfl, rfl, by unfold f_tk; rw [if_neg hqE, if_neg hlt, if_pos hdg]; try rfl⟩
    · have hlt : isLt (v 1101) q := Classical.byContradiction (fun h => c2 ((sm_iff (v := up2 (up2 v 1100 26 (nI q)) 1100 29 (nI q)) (E := E) hE0 hE hq).mpr (Or.inr h)))
      have hse : q ≤ (sc (isLt (v 1101)) E (E - q)) ∧ (sc (isLt (v 1101)) E (E - q)) ≤ E := by have := sc_le (isLt (v 1101)) E (E - q) (by omega); omega
      refine J_lv [0] rfl ?_
      refine J_ve (w := up2 (up2 (up2 v 1100 26 (nI q)) 1100 29 (nI q)) 1100 26 (nI q)) (up2_id rfl).symm ?_
      refine tk_B hI (up2 (up2 v 1100 26 (nI q)) 1100 29 (nI q)) u E hE hE0 (E - q) q ?_ (by omega)
      refine J_aload_n dX11_take_114 rfl 0 rfl ?_
      refine J_aload_n dX11_take_115 rfl 0 rfl ?_
      refine J_aload_n dX11_take_116 rfl 0 rfl ?_
      refine J_gete (ci := 11) (j := 29) (x := nI q) dX11_take_117 fl_X11_138 (i1100 hI) rfl rfl rfl ?_
      refine J_aload_n dX11_take_120 rfl 0 rfl ?_
      refine J_gete (ci := 11) (j := 26) (x := nI (sc (isLt (v 1101)) E (E - q))) dX11_take_121 fl_X11_144 (i1100 hI) rfl rfl rfl ?_
      refine J_eVI (z := mX11_wordAt) (As := [.int (nI q), .int (nI (sc (isLt (v 1101)) E (E - q)))]) (rest := [.ref 1100]) (ci := 11) (x := wA (v 1101) q (sc (isLt (v 1101)) E (E - q)) 15) dX11_take_124 ml_X11_154 ok_X11_wordAt iv_X11_wordAt (by decide) (i1100 hI) rfl rfl rfl rfl (Nat.le_of_ble_eq_true rfl) (k_X11_wordAt hI (up2 (up2 (up2 v 1100 26 (nI q)) 1100 29 (nI q)) 1100 26 (nI (sc (isLt (v 1101)) E (E - q)))) u q (sc (isLt (v 1101)) E (E - q)) hse.1 (by omega) hwd) ?_
      refine J_puti (ci := 11) (j := 28) dX11_take_127 fl_X11_158 (i1100 hI) rfl rfl (fun q h => by cases h; rfl) rfl ?_
      refine J_aload_n dX11_take_130 rfl 0 rfl ?_
      refine J_aload_n dX11_take_131 rfl 0 rfl ?_
      refine J_gete (ci := 11) (j := 28) (x := wA (v 1101) q (sc (isLt (v 1101)) E (E - q)) 15) dX11_take_132 fl_X11_158 (i1100 hI) rfl rfl rfl ?_
      refine J_if_ge (tgt := 142) dX11_take_135 (by decide) (fun c41 => ?_) (fun c41 => ?_)
      · refine J_iconst (x := 1) dX11_take_142 (by decide) ?_
        refine J_puti (ci := 11) (j := 27) dX11_take_143 fl_X11_147 (i1100 hI) rfl rfl (fun q h => by cases h; rfl) rfl ?_
        refine J_goto (tgt := 268) dX11_take_146 (by decide) ?_
        exact J_vret dX11_take_268 rfl ⟨rfl, rfl, by unfold f_tk; rw [if_neg hqE, if_pos hlt, if_pos c41]; try rfl⟩
      · refine J_iconst (x := 4) dX11_take_138 (by decide) ?_
        refine J_goto (tgt := 143) dX11_take_139 (by decide) ?_
        refine J_puti (ci := 11) (j := 27) dX11_take_143 fl_X11_147 (i1100 hI) rfl rfl (fun q h => by cases h; rfl) rfl ?_
        refine J_goto (tgt := 268) dX11_take_146 (by decide) ?_
        exact J_vret dX11_take_268 rfl ⟨rfl, rfl, by unfold f_tk; rw [if_neg hqE, if_pos hlt, if_neg c41]; try rfl⟩
  · refine J_aload_n dX11_take_71 rfl 0 rfl ?_
    refine J_iconst (x := 0) dX11_take_72 (by decide) ?_
    refine J_puti (ci := 11) (j := 27) dX11_take_73 fl_X11_147 (i1100 hI) rfl rfl (fun q h => by cases h; rfl) rfl ?_
    refine J_goto (tgt := 268) dX11_take_76 (by decide) ?_
    exact J_vret dX11_take_268 rfl ⟨rfl, rfl, by unfold f_tk; rw [if_pos ((nI_eq (by omega) (by omega)).mp c1)]⟩
noncomputable def f_take (v : fr_V) (E p : Nat) : fr_V := f_tk v E (sc (isBl (v 1101)) E (E - p))
theorem k_X11_take {l : Launch} {I : List Nat} (hI : fr_I I) (v : fr_V) (u : fr_U) (E : Nat) (hE : E ≤ 500) (hE0 : v 1100 25 = nI E) (hwd : ∀ i, i < 75 → v 1123 i = wd i) (p : Nat) (hp : v 1100 26 = nI p) (hpE : p ≤ E) : Con l mX11_take I v u [.ref 1100] (QN u (fun a => a = f_take v E p)) := by
  refine Con.of (by decide) (Nat.le_of_ble_eq_true rfl) ?_
  show J l mX11_take I v u 0 [(0, .ref 1100)] [] _
  refine J_ve (w := up2 v 1100 26 (nI p)) (up2_id hp).symm ?_
  refine tk_A hI v u E hE hE0 (E - p) p ?_ (by omega)
  exact tk_M hI v u E hE hE0 hwd _ (by have := sc_le (isBl (v 1101)) E (E - p) (by omega); omega)
