def dS (b : Nat) (G : Nat → Int32) : Nat → Nat → Int32 → Int32
  | 0, _, s => s
  | i + 1, w, s => dS b G i (w / b) (s + nI (w % b) * G i)
theorem dS_s (b : Nat) (G : Nat → Int32) (i w : Nat) (s : Int32) : dS b G (i + 1) w s = dS b G i (w / b) (s + nI (w % b) * G i) := rfl
def dT (b : Nat) : Nat → Nat → (Nat → Int32) → Nat → Int32
  | 0, _, f => f
  | i + 1, w, f => dT b i (w / b) (upd f i (nI (w % b)))
theorem dT_s (b i w : Nat) (f : Nat → Int32) : dT b (i + 1) w f = dT b i (w / b) (upd f i (nI (w % b))) := rfl
def nS (O T f0 : Nat → Int32) : Nat → Nat → Int32
  | 0 => f0
  | i + 1 => upd (nS O T f0 i) (O i).toNatClampNeg (T i)
theorem nS_s (O T f0 : Nat → Int32) (i : Nat) : nS O T f0 (i + 1) = upd (nS O T f0 i) (O i).toNatClampNeg (T i) := rfl
theorem in_L {l : Launch} {I : List Nat} (hI : fr_I I) (v : fr_V) (u : fr_U) (k R cp : Nat) (x1 : Int32) (hk12 : k ≤ 12) (hR : R ≤ 5000) (hcp : v 1141 3 = nI cp) (hc3 : cp ≤ 3) (c : Nat) (an be le : Int32) (Nm : Nat → Int32) {Q : Option Value → fr_V → fr_U → Prop} : ∀ (t w : Nat) (sm pd : Int32) (T : Nat → Int32) (ht : t ≤ k) (hw : w < 2 ^ 30) (hkk : J l mX11_names I (upA (upA v 1155 (dT (cp + 1) t w T)) 1154 Nm) u 304 [(0, .ref 1100), (1, .int x1), (2, .int (nI k)), (3, .int (nI R)), (4, .int an), (5, .int be), (6, .int le), (7, .int (nI c)), (9, .int (dS (cp + 1) (v 1157) t w sm)), (10, .int (dS (cp + 1) (v 1158) t w pd))] [] Q), J l mX11_names I (upA (upA v 1155 T) 1154 Nm) u 222 [(0, .ref 1100), (1, .int x1), (2, .int (nI k)), (3, .int (nI R)), (4, .int an), (5, .int be), (6, .int le), (7, .int (nI c)), (8, .int (nI w)), (9, .int sm), (10, .int pd), (11, .int (nI t - 1))] [] Q := by
  intro t
  induction t with
  | zero =>
    intro w sm pd T ht hw hkk
    refine J_iload dX11_names_222 11 rfl ?_
    refine J_if_lt (tgt := 304) dX11_names_224 (by decide) (fun c1 => ?_) (fun c1 => absurd dn_0 c1)
    refine J_lv [0, 1, 2, 3, 4, 5, 6, 7, 9, 10] rfl ?_
    exact hkk
  | succ s ih =>
    intro w sm pd T ht hw hkk
    rw [nI_pred]
    refine J_iload dX11_names_222 11 rfl ?_
    refine J_if_lt (tgt := 304) dX11_names_224 (by decide) (fun c1 => absurd c1 (nI_pos (by omega))) (fun c1 => ?_)
    refine J_aload_n dX11_names_227 rfl 0 rfl ?_
    refine J_getr (ci := 11) (j := 54) (t := 1155) dX11_names_228 fl_X11_111 (i1100 hI) rfl rfl rfl ?_
    refine J_iload dX11_names_231 11 rfl ?_
    refine J_iload dX11_names_233 8 rfl ?_
    refine J_aload_n dX11_names_235 rfl 0 rfl ?_
    refine J_getr (ci := 11) (j := 40) (t := 1141) dX11_names_236 fl_X11_86 (i1100 hI) rfl rfl rfl ?_
    refine J_iconst (x := 3) dX11_names_239 (by decide) ?_
    refine J_iale (x := nI cp) dX11_names_240 (i1141 hI) rfl (ix_in (j := 3) rfl (by omega) (by omega)) ((congrArg _ (ix_cl (j := 3) rfl (by omega))).trans hcp) ?_
    refine J_iconst (x := 1) dX11_names_241 (by decide) ?_
    refine J_iadd dX11_names_242 ?_
    refine J_irem dX11_names_243 (by rw [nI_1]; exact fun e => absurd ((nI_eq (b := 0) (by omega) (by omega)).mp e) (by omega)) ?_
    rw [show nI w - nI w / (nI cp + 1) * (nI cp + 1) = nI (w % (cp + 1)) from by rw [nI_1]; exact pk_rem (by omega) (by omega) (by omega)]
    refine J_iase (j := s) dX11_names_244 (i1155 hI) rfl (ix_in (j := s) rfl (by omega) (by omega)) (ix_cl (j := s) rfl (by omega)) ?_
    rw [upA_c (show 1155 ≠ 1154 by decide), up2_upA, upA_c (show 1154 ≠ 1155 by decide)]
    refine J_iload dX11_names_245 8 rfl ?_
    refine J_aload_n dX11_names_247 rfl 0 rfl ?_
    refine J_getr (ci := 11) (j := 40) (t := 1141) dX11_names_248 fl_X11_86 (i1100 hI) rfl rfl rfl ?_
    refine J_iconst (x := 3) dX11_names_251 (by decide) ?_
    refine J_iale (x := nI cp) dX11_names_252 (i1141 hI) rfl (ix_in (j := 3) rfl (by omega) (by omega)) ((congrArg _ (ix_cl (j := 3) rfl (by omega))).trans hcp) ?_
    refine J_iconst (x := 1) dX11_names_253 (by decide) ?_
    refine J_iadd dX11_names_254 ?_
    refine J_idiv dX11_names_255 (by rw [nI_1]; exact fun e => absurd ((nI_eq (b := 0) (by omega) (by omega)).mp e) (by omega)) ?_
    rw [show nI w / (nI cp + 1) = nI (w / (cp + 1)) from by rw [nI_1]; exact pk_div (by omega) (by omega) (by omega)]
    refine J_istore (lv' := [(8, .int (nI (w / (cp + 1)))), (0, .ref 1100), (1, .int x1), (2, .int (nI k)), (3, .int (nI R)), (4, .int an), (5, .int be), (6, .int le), (7, .int (nI c)), (9, .int sm), (10, .int pd), (11, .int (nI s))]) dX11_names_256 (by decide) rfl ?_
    refine J_iload dX11_names_258 9 rfl ?_
    refine J_aload_n dX11_names_260 rfl 1 rfl ?_
    refine J_getr (ci := 11) (j := 54) (t := 1155) dX11_names_261 fl_X11_111 (i1100 hI) rfl rfl rfl ?_
    refine J_iload dX11_names_264 11 rfl ?_
    refine J_iale (x := nI (w % (cp + 1))) dX11_names_266 (i1155 hI) rfl (ix_in (j := s) rfl (by omega) (by omega)) ((congrArg _ (ix_cl (j := s) rfl (by omega))).trans pk_us) ?_
    refine J_aload_n dX11_names_267 rfl 1 rfl ?_
    refine J_getr (ci := 11) (j := 56) (t := 1157) dX11_names_268 fl_X11_117 (i1100 hI) rfl rfl rfl ?_
    refine J_iload dX11_names_271 11 rfl ?_
    refine J_iale (x := v 1157 s) dX11_names_273 (i1157 hI) rfl (ix_in (j := s) rfl (by omega) (by omega)) ((congrArg _ (ix_cl (j := s) rfl (by omega))).trans rfl) ?_
    refine J_imul dX11_names_274 ?_
    refine J_iadd dX11_names_275 ?_
    refine J_istore (lv' := [(9, .int (sm + ((nI (w % (cp + 1))) * (v 1157 s)))), (8, .int (nI (w / (cp + 1)))), (0, .ref 1100), (1, .int x1), (2, .int (nI k)), (3, .int (nI R)), (4, .int an), (5, .int be), (6, .int le), (7, .int (nI c)), (10, .int pd), (11, .int (nI s))]) dX11_names_276 (by decide) rfl ?_
    refine J_iload dX11_names_278 10 rfl ?_
    refine J_aload_n dX11_names_280 rfl 2 rfl ?_
    refine J_getr (ci := 11) (j := 54) (t := 1155) dX11_names_281 fl_X11_111 (i1100 hI) rfl rfl rfl ?_
    refine J_iload dX11_names_284 11 rfl ?_
    refine J_iale (x := nI (w % (cp + 1))) dX11_names_286 (i1155 hI) rfl (ix_in (j := s) rfl (by omega) (by omega)) ((congrArg _ (ix_cl (j := s) rfl (by omega))).trans pk_us) ?_
    refine J_aload_n dX11_names_287 rfl 2 rfl ?_
    refine J_getr (ci := 11) (j := 57) (t := 1158) dX11_names_288 fl_X11_120 (i1100 hI) rfl rfl rfl ?_
    refine J_iload dX11_names_291 11 rfl ?_
    refine J_iale (x := v 1158 s) dX11_names_293 (i1158 hI) rfl (ix_in (j := s) rfl (by omega) (by omega)) ((congrArg _ (ix_cl (j := s) rfl (by omega))).trans rfl) ?_
    refine J_imul dX11_names_294 ?_
    refine J_iadd dX11_names_295 ?_
    refine J_istore (lv' := [(10, .int (pd + ((nI (w % (cp + 1))) * (v 1158 s)))), (9, .int (sm + ((nI (w % (cp + 1))) * (v 1157 s)))), (8, .int (nI (w / (cp + 1)))), (0, .ref 1100), (1, .int x1), (2, .int (nI k)), (3, .int (nI R)), (4, .int an), (5, .int be), (6, .int le), (7, .int (nI c)), (11, .int (nI s))]) dX11_names_296 (by decide) rfl ?_
    refine J_iinc (q := 11) (z := nI s - 1) (lv' := [(11, .int (nI s - 1)), (10, .int (pd + ((nI (w % (cp + 1))) * (v 1158 s)))), (9, .int (sm + ((nI (w % (cp + 1))) * (v 1157 s)))), (8, .int (nI (w / (cp + 1)))), (0, .ref 1100), (1, .int x1), (2, .int (nI k)), (3, .int (nI R)), (4, .int an), (5, .int be), (6, .int le), (7, .int (nI c))]) dX11_names_298 rfl (dn_1 s) (by decide) rfl ?_
    refine J_goto (tgt := 222) dX11_names_301 (by decide) ?_
    refine J_lv [4, 5, 6, 7, 8, 9, 10, 11, 3, 2, 1, 0] rfl ?_
    rw [dT_s, dS_s, dS_s] at hkk
    exact ih (w / (cp + 1)) _ _ _ (by omega) (Nat.lt_of_le_of_lt (Nat.div_le_self _ _) hw) hkk
theorem ne_L {l : Launch} {I : List Nat} (hI : fr_I I) (v : fr_V) (u : fr_U) (k R cp : Nat) (x1 : Int32) (hk12 : k ≤ 12) (hR : R ≤ 5000) (hcp : v 1141 3 = nI cp) (hc3 : cp ≤ 3) (c : Nat) (an be le sm pd : Int32) (T Nm : Nat → Int32) {Q : Option Value → fr_V → fr_U → Prop} (hkk : ∀ F : Nat → Int32, F = fl 0 Nm 12 → J l mX11_names I (upA (upA v 1155 T) 1154 F) u 374 [(0, .ref 1100), (1, .int x1), (2, .int (nI k)), (3, .int (nI R)), (4, .int an), (5, .int be), (6, .int le), (7, .int (nI c)), (9, .int sm), (10, .int pd)] [] Q) : ∀ (d i : Nat) (F : Nat → Int32) (hd : 12 - i < d) (hj : i ≤ 12) (hF : F = fl 0 Nm i), J l mX11_names I (upA (upA v 1155 T) 1154 F) u 353 [(0, .ref 1100), (1, .int x1), (2, .int (nI k)), (3, .int (nI R)), (4, .int an), (5, .int be), (6, .int le), (7, .int (nI c)), (9, .int sm), (10, .int pd), (11, .int (nI i))] [] (Q) := by
  intro d
  induction d with
  | zero => intros; omega
  | succ d ih =>
    intro i F hd hj hF
    refine J_iload dX11_names_353 10 rfl ?_
    refine J_bipush (x := 12) dX11_names_355 (by decide) ?_
    refine J_icmp_ge (tgt := 374) dX11_names_357 (by decide) (fun c1 => ?_) (fun c1 => ?_)
    · have e : i = 12 := by have := nz_le (a := 12) (by omega) (by omega) c1; omega
      subst e
      refine J_lv [0, 1, 2, 3, 4, 5, 6, 7, 8, 9] rfl ?_
      exact hkk F hF
    · have hi12 : i < 12 := nz_nle (a := 12) (by omega) (by omega) c1
      refine J_aload_n dX11_names_360 rfl 0 rfl ?_
      refine J_getr (ci := 11) (j := 53) (t := 1154) dX11_names_361 fl_X11_108 (i1100 hI) rfl rfl rfl ?_
      refine J_iload dX11_names_364 10 rfl ?_
      refine J_iconst (x := 0) dX11_names_366 (by decide) ?_
      refine J_iase (j := i) dX11_names_367 (i1154 hI) rfl (ix_in (j := i) rfl (by omega) (by omega)) (ix_cl (j := i) rfl (by omega)) ?_
      refine J_iinc (q := 10) (z := nI (i + 1)) (lv' := [(11, .int (nI (i + 1))), (0, .ref 1100), (1, .int x1), (2, .int (nI k)), (3, .int (nI R)), (4, .int an), (5, .int be), (6, .int le), (7, .int (nI c)), (9, .int sm), (10, .int pd)]) dX11_names_368 rfl (nI_1 i) (by decide) rfl ?_
      refine J_goto (tgt := 353) dX11_names_371 (by decide) ?_
      rw [up2_upA]
      refine J_lv [1, 2, 3, 4, 5, 6, 7, 8, 9, 10, 0] rfl ?_
      exact ih (i + 1) _ (by omega) (by omega) (by rw [fl_s, hF])
theorem ng_L {l : Launch} {I : List Nat} (hI : fr_I I) (v : fr_V) (u : fr_U) (k R cp : Nat) (x1 : Int32) (hk12 : k ≤ 12) (hR : R ≤ 5000) (hcp : v 1141 3 = nI cp) (hc3 : cp ≤ 3) (hO : ∀ i, i < k → vp_in (v 1156 i) 12) (c : Nat) (an be le sm pd : Int32) (T F0 : Nat → Int32) {Q : Option Value → fr_V → fr_U → Prop} (hkk : ∀ F : Nat → Int32, F = nS (v 1156) T F0 k → J l mX11_names I (upA (upA v 1155 T) 1154 F) u 408 [(0, .ref 1100), (1, .int x1), (2, .int (nI k)), (3, .int (nI R)), (4, .int an), (5, .int be), (6, .int le), (7, .int (nI c))] [] Q) : ∀ (d i : Nat) (F : Nat → Int32) (hd : k - i < d) (hj : i ≤ k) (hF : F = nS (v 1156) T F0 i), J l mX11_names I (upA (upA v 1155 T) 1154 F) u 377 [(0, .ref 1100), (1, .int x1), (2, .int (nI k)), (3, .int (nI R)), (4, .int an), (5, .int be), (6, .int le), (7, .int (nI c)), (9, .int sm), (10, .int pd), (11, .int (nI i))] [] (Q) := by
  intro d
  induction d with
  | zero => intros; omega
  | succ d ih =>
    intro i F hd hj hF
    refine J_iload dX11_names_377 10 rfl ?_
    refine J_iload_n dX11_names_379 rfl 2 rfl ?_
    refine J_icmp_ge (tgt := 408) dX11_names_380 (by decide) (fun c1 => ?_) (fun c1 => ?_)
    · have e : i = k := by have := nz_le (by omega) (by omega) c1; omega
      subst e
      refine J_lv [0, 1, 2, 3, 4, 5, 6, 7] rfl ?_
      exact hkk F hF
    · have hik : i < k := nz_nle (by omega) (by omega) c1
      refine J_aload_n dX11_names_383 rfl 0 rfl ?_
      refine J_getr (ci := 11) (j := 53) (t := 1154) dX11_names_384 fl_X11_108 (i1100 hI) rfl rfl rfl ?_
      refine J_aload_n dX11_names_387 rfl 0 rfl ?_
      refine J_getr (ci := 11) (j := 55) (t := 1156) dX11_names_388 fl_X11_114 (i1100 hI) rfl rfl rfl ?_
      refine J_iload dX11_names_391 10 rfl ?_
      refine J_iale (x := v 1156 i) dX11_names_393 (i1156 hI) rfl (ix_in (j := i) rfl (by omega) (by omega)) ((congrArg _ (ix_cl (j := i) rfl (by omega))).trans rfl) ?_
      refine J_aload_n dX11_names_394 rfl 0 rfl ?_
      refine J_getr (ci := 11) (j := 54) (t := 1155) dX11_names_395 fl_X11_111 (i1100 hI) rfl rfl rfl ?_
      refine J_iload dX11_names_398 10 rfl ?_
      refine J_iale (x := T i) dX11_names_400 (i1155 hI) rfl (ix_in (j := i) rfl (by omega) (by omega)) ((congrArg _ (ix_cl (j := i) rfl (by omega))).trans rfl) ?_
      refine J_iast dX11_names_401 (i1154 hI) rfl (hO i hik) ?_
      refine J_iinc (q := 10) (z := nI (i + 1)) (lv' := [(11, .int (nI (i + 1))), (0, .ref 1100), (1, .int x1), (2, .int (nI k)), (3, .int (nI R)), (4, .int an), (5, .int be), (6, .int le), (7, .int (nI c)), (9, .int sm), (10, .int pd)]) dX11_names_402 rfl (nI_1 i) (by decide) rfl ?_
      refine J_goto (tgt := 377) dX11_names_405 (by decide) ?_
      rw [up2_upA]
      refine J_lv [1, 2, 3, 4, 5, 6, 7, 8, 9, 10, 0] rfl ?_
      exact ih (i + 1) _ (by omega) (by omega) (by rw [nS_s, hF])
abbrev cdS : Type := Int32 × Int32 × Int32 × (Nat → Int32) × (Nat → Int32)
/-- a row is taken -/
def cdA (O : Nat → Int32) (k : Nat) (sm pd : Int32) (T Nm : Nat → Int32) : cdS := (1, sm, pd, T, nS O T (fl 0 Nm 12) k)
def cdT (O G P : Nat → Int32) (k b : Nat) (x1 : Int32) (c : Nat) (s : cdS) : cdS :=
  if x1 < dS b P k c 0 then (s.1, s.2.1, s.2.2.1, dT b k c s.2.2.2.1, s.2.2.2.2)
  else if s.1 = 0 then cdA O k (dS b G k c 0) (dS b P k c 0) (dT b k c s.2.2.2.1) s.2.2.2.2
  else if dS b G k c 0 < s.2.1 then (s.1, s.2.1, s.2.2.1, dT b k c s.2.2.2.1, s.2.2.2.2)
  else if dS b G k c 0 = s.2.1 then (if dS b P k c 0 < s.2.2.1 then cdA O k (dS b G k c 0) (dS b P k c 0) (dT b k c s.2.2.2.1) s.2.2.2.2 else (s.1, s.2.1, s.2.2.1, dT b k c s.2.2.2.1, s.2.2.2.2))
  else cdA O k (dS b G k c 0) (dS b P k c 0) (dT b k c s.2.2.2.1) s.2.2.2.2
def cdF (O G P : Nat → Int32) (k b : Nat) (x1 : Int32) (s0 : cdS) : Nat → cdS
  | 0 => s0
  | c + 1 => cdT O G P k b x1 c (cdF O G P k b x1 s0 c)
theorem cdF_s (O G P : Nat → Int32) (k b : Nat) (x1 : Int32) (s0 : cdS) (c : Nat) : cdF O G P k b x1 s0 (c + 1) = cdT O G P k b x1 c (cdF O G P k b x1 s0 c) := rfl
theorem cd_L {l : Launch} {I : List Nat} (hI : fr_I I) (v : fr_V) (u : fr_U) (k R cp : Nat) (x1 : Int32) (hk12 : k ≤ 12) (hR : R ≤ 5000) (hcp : v 1141 3 = nI cp) (hc3 : cp ≤ 3) (hO : ∀ i, i < k → vp_in (v 1156 i) 12) : ∀ (d c : Nat) (an be le : Int32) (T Nm : Nat → Int32) (hd : R - c < d) (hj : c ≤ R) (hs : (an, be, le, T, Nm) = cdF (v 1156) (v 1157) (v 1158) k (cp + 1) x1 (0, 0, 0, v 1155, v 1154) c), J l mX11_names I (upA (upA v 1155 T) 1154 Nm) u 201 [(0, .ref 1100), (1, .int x1), (2, .int (nI k)), (3, .int (nI R)), (4, .int an), (5, .int be), (6, .int le), (7, .int (nI c))] [] (QX u (fun a b => a = (cdF (v 1156) (v 1157) (v 1158) k (cp + 1) x1 (0, 0, 0, v 1155, v 1154) R).2.1 ∧ b = up2 (upA (upA v 1155 (cdF (v 1156) (v 1157) (v 1158) k (cp + 1) x1 (0, 0, 0, v 1155, v 1154) R).2.2.2.1) 1154 (cdF (v 1156) (v 1157) (v 1158) k (cp + 1) x1 (0, 0, 0, v 1155, v 1154) R).2.2.2.2) 1100 52 1)) := by
  intro d
  induction d with
  | zero => intros; omega
  | succ d ih =>
    intro c an be le T Nm hd hj hs
    refine J_iload dX11_names_201 7 rfl ?_
    refine J_iload_n dX11_names_203 rfl 3 rfl ?_
    refine J_icmp_ge (tgt := 414) dX11_names_204 (by decide) (fun c1 => ?_) (fun c1 => ?_)
    · refine J_aload_n dX11_names_414 rfl 0 rfl ?_
      refine J_iconst (x := 1) dX11_names_415 (by decide) ?_
      refine J_putz (ci := 11) (j := 52) dX11_names_416 fl_X11_322 (i1100 hI) rfl rfl (fun q h => by cases h; rfl) rfl ⟨by decide, by decide⟩ ?_
      refine J_iload dX11_names_419 5 rfl ?_
      exact J_iret dX11_names_421 rfl ⟨_, rfl, rfl, by have e : c = R := by {have := nz_le (by omega) (by omega) c1; omega}; subst e; rw [← hs]; exact ⟨rfl, rfl⟩⟩
    · have hcR : c < R := nz_nle (by omega) (by omega) c1
      refine J_iload dX11_names_207 7 rfl ?_
      refine J_istore (lv' := [(8, .int (nI c)), (0, .ref 1100), (1, .int x1), (2, .int (nI k)), (3, .int (nI R)), (4, .int an), (5, .int be), (6, .int le), (7, .int (nI c))]) dX11_names_209 (by decide) rfl ?_
      refine J_iconst (x := 0) dX11_names_211 (by decide) ?_
      refine J_istore (lv' := [(9, .int 0), (8, .int (nI c)), (0, .ref 1100), (1, .int x1), (2, .int (nI k)), (3, .int (nI R)), (4, .int an), (5, .int be), (6, .int le), (7, .int (nI c))]) dX11_names_212 (by decide) rfl ?_
      refine J_iconst (x := 0) dX11_names_214 (by decide) ?_
      refine J_istore (lv' := [(10, .int 0), (9, .int 0), (8, .int (nI c)), (0, .ref 1100), (1, .int x1), (2, .int (nI k)), (3, .int (nI R)), (4, .int an), (5, .int be), (6, .int le), (7, .int (nI c))]) dX11_names_215 (by decide) rfl ?_
      refine J_iload_n dX11_names_217 rfl 5 rfl ?_
      refine J_iconst (x := 1) dX11_names_218 (by decide) ?_
      refine J_isub dX11_names_219 ?_
      refine J_istore (lv' := [(11, .int ((nI k) - 1)), (10, .int 0), (9, .int 0), (8, .int (nI c)), (0, .ref 1100), (1, .int x1), (2, .int (nI k)), (3, .int (nI R)), (4, .int an), (5, .int be), (6, .int le), (7, .int (nI c))]) dX11_names_220 (by decide) rfl ?_
      refine J_lv [4, 5, 6, 7, 8, 9, 10, 11, 3, 2, 1, 0] rfl ?_
      refine in_L hI v u k R cp x1 hk12 hR hcp hc3 c an be le Nm k c 0 0 T (Nat.le_refl _) (by omega) ?_
      refine J_iload dX11_names_304 9 rfl ?_
      refine J_iload_n dX11_names_306 rfl 1 rfl ?_
      refine J_icmp_gt (tgt := 408) dX11_names_307 (by decide) (fun c21 => ?_) (fun c21 => ?_)
      · refine J_lv [0, 1, 2, 3, 4, 5, 6, 7] rfl ?_
        refine J_iinc (q := 7) (z := nI (c + 1)) (lv' := [(7, .int (nI (c + 1))), (0, .ref 1100), (1, .int x1), (2, .int (nI k)), (3, .int (nI R)), (4, .int an), (5, .int be), (6, .int le)]) dX11_names_408 rfl (nI_1 c) (by decide) rfl ?_
        refine J_goto (tgt := 201) dX11_names_411 (by decide) ?_
        refine J_lv [1, 2, 3, 4, 5, 6, 7, 0] rfl ?_
        exact ih (c + 1) _ _ _ _ _ (by omega) (by omega) (by rw [cdF_s, ← hs]; unfold cdT; dsimp only; rw [if_pos c21])
      · refine J_iload dX11_names_310 4 rfl ?_
        refine J_if_eq (tgt := 339) dX11_names_312 (by decide) (fun c22 => ?_) (fun c22 => ?_)
        · refine J_iconst (x := 1) dX11_names_339 (by decide) ?_
          refine J_istore (lv' := [(4, .int 1), (0, .ref 1100), (1, .int x1), (2, .int (nI k)), (3, .int (nI R)), (5, .int be), (6, .int le), (7, .int (nI c)), (9, .int (dS (cp + 1) (v 1157) k c 0)), (10, .int (dS (cp + 1) (v 1158) k c 0))]) dX11_names_340 (by decide) rfl ?_
          refine J_iload dX11_names_342 8 rfl ?_
          refine J_istore (lv' := [(5, .int (dS (cp + 1) (v 1157) k c 0)), (4, .int 1), (0, .ref 1100), (1, .int x1), (2, .int (nI k)), (3, .int (nI R)), (6, .int le), (7, .int (nI c)), (9, .int (dS (cp + 1) (v 1157) k c 0)), (10, .int (dS (cp + 1) (v 1158) k c 0))]) dX11_names_344 (by decide) rfl ?_
          refine J_iload dX11_names_346 9 rfl ?_
          refine J_istore (lv' := [(6, .int (dS (cp + 1) (v 1158) k c 0)), (5, .int (dS (cp + 1) (v 1157) k c 0)), (4, .int 1), (0, .ref 1100), (1, .int x1), (2, .int (nI k)), (3, .int (nI R)), (7, .int (nI c)), (9, .int (dS (cp + 1) (v 1157) k c 0)), (10, .int (dS (cp + 1) (v 1158) k c 0))]) dX11_names_348 (by decide) rfl ?_
          refine J_iconst (x := 0) dX11_names_350 (by decide) ?_
          refine J_istore (lv' := [(11, .int 0), (6, .int (dS (cp + 1) (v 1158) k c 0)), (5, .int (dS (cp + 1) (v 1157) k c 0)), (4, .int 1), (0, .ref 1100), (1, .int x1), (2, .int (nI k)), (3, .int (nI R)), (7, .int (nI c)), (9, .int (dS (cp + 1) (v 1157) k c 0)), (10, .int (dS (cp + 1) (v 1158) k c 0))]) dX11_names_351 (by decide) rfl ?_
          refine J_lv [4, 5, 6, 7, 3, 2, 1, 8, 9, 10, 0] rfl ?_
          refine ne_L hI v u k R cp x1 hk12 hR hcp hc3 c 1 (dS (cp + 1) (v 1157) k c 0) (dS (cp + 1) (v 1158) k c 0) (dS (cp + 1) (v 1157) k c 0) (dS (cp + 1) (v 1158) k c 0) (dT (cp + 1) k c T) Nm (fun F hF => ?_) 13 0 Nm (by omega) (by omega) rfl
          refine J_iconst (x := 0) dX11_names_374 (by decide) ?_
          refine J_istore (lv' := [(11, .int 0), (0, .ref 1100), (1, .int x1), (2, .int (nI k)), (3, .int (nI R)), (4, .int 1), (5, .int (dS (cp + 1) (v 1157) k c 0)), (6, .int (dS (cp + 1) (v 1158) k c 0)), (7, .int (nI c)), (9, .int (dS (cp + 1) (v 1157) k c 0)), (10, .int (dS (cp + 1) (v 1158) k c 0))]) dX11_names_375 (by decide) rfl ?_
          refine J_lv [1, 2, 3, 4, 5, 6, 7, 8, 9, 10, 0] rfl ?_
          refine ng_L hI v u k R cp x1 hk12 hR hcp hc3 hO c 1 (dS (cp + 1) (v 1157) k c 0) (dS (cp + 1) (v 1158) k c 0) (dS (cp + 1) (v 1157) k c 0) (dS (cp + 1) (v 1158) k c 0) (dT (cp + 1) k c T) F (fun F2 hF2 => ?_) (k + 1) 0 F (by omega) (by omega) rfl
          refine J_iinc (q := 7) (z := nI (c + 1)) (lv' := [(7, .int (nI (c + 1))), (0, .ref 1100), (1, .int x1), (2, .int (nI k)), (3, .int (nI R)), (4, .int 1), (5, .int (dS (cp + 1) (v 1157) k c 0)), (6, .int (dS (cp + 1) (v 1158) k c 0))]) dX11_names_408 rfl (nI_1 c) (by decide) rfl ?_
          refine J_goto (tgt := 201) dX11_names_411 (by decide) ?_
          refine J_lv [1, 2, 3, 4, 5, 6, 7, 0] rfl ?_
          exact ih (c + 1) _ _ _ _ _ (by omega) (by omega) (by rw [cdF_s, ← hs]; unfold cdT; dsimp only; rw [if_neg c21, if_pos c22]; unfold cdA; rw [← hF, ← hF2])
        · refine J_iload dX11_names_315 8 rfl ?_
          refine J_iload dX11_names_317 5 rfl ?_
          refine J_icmp_lt (tgt := 408) dX11_names_319 (by decide) (fun c23 => ?_) (fun c23 => ?_)
          · refine J_lv [0, 1, 2, 3, 4, 5, 6, 7] rfl ?_
            refine J_iinc (q := 7) (z := nI (c + 1)) (lv' := [(7, .int (nI (c + 1))), (0, .ref 1100), (1, .int x1), (2, .int (nI k)), (3, .int (nI R)), (4, .int an), (5, .int be), (6, .int le)]) dX11_names_408 rfl (nI_1 c) (by decide) rfl ?_
            refine J_goto (tgt := 201) dX11_names_411 (by decide) ?_
            refine J_lv [1, 2, 3, 4, 5, 6, 7, 0] rfl ?_
            exact ih (c + 1) _ _ _ _ _ (by omega) (by omega) (by rw [cdF_s, ← hs]; unfold cdT; dsimp only; rw [if_neg c21, if_neg c22, if_pos c23])
          · refine J_iload dX11_names_322 8 rfl ?_
            refine J_iload dX11_names_324 5 rfl ?_
            refine J_icmp_ne (tgt := 339) dX11_names_326 (by decide) (fun c24 => ?_) (fun c24 => ?_)
            · refine J_iconst (x := 1) dX11_names_339 (by decide) ?_
              refine J_istore (lv' := [(4, .int 1), (0, .ref 1100), (1, .int x1), (2, .int (nI k)), (3, .int (nI R)), (5, .int be), (6, .int le), (7, .int (nI c)), (9, .int (dS (cp + 1) (v 1157) k c 0)), (10, .int (dS (cp + 1) (v 1158) k c 0))]) dX11_names_340 (by decide) rfl ?_
              refine J_iload dX11_names_342 8 rfl ?_
              refine J_istore (lv' := [(5, .int (dS (cp + 1) (v 1157) k c 0)), (4, .int 1), (0, .ref 1100), (1, .int x1), (2, .int (nI k)), (3, .int (nI R)), (6, .int le), (7, .int (nI c)), (9, .int (dS (cp + 1) (v 1157) k c 0)), (10, .int (dS (cp + 1) (v 1158) k c 0))]) dX11_names_344 (by decide) rfl ?_
              refine J_iload dX11_names_346 9 rfl ?_
              refine J_istore (lv' := [(6, .int (dS (cp + 1) (v 1158) k c 0)), (5, .int (dS (cp + 1) (v 1157) k c 0)), (4, .int 1), (0, .ref 1100), (1, .int x1), (2, .int (nI k)), (3, .int (nI R)), (7, .int (nI c)), (9, .int (dS (cp + 1) (v 1157) k c 0)), (10, .int (dS (cp + 1) (v 1158) k c 0))]) dX11_names_348 (by decide) rfl ?_
              refine J_iconst (x := 0) dX11_names_350 (by decide) ?_
              refine J_istore (lv' := [(11, .int 0), (6, .int (dS (cp + 1) (v 1158) k c 0)), (5, .int (dS (cp + 1) (v 1157) k c 0)), (4, .int 1), (0, .ref 1100), (1, .int x1), (2, .int (nI k)), (3, .int (nI R)), (7, .int (nI c)), (9, .int (dS (cp + 1) (v 1157) k c 0)), (10, .int (dS (cp + 1) (v 1158) k c 0))]) dX11_names_351 (by decide) rfl ?_
              refine J_lv [4, 5, 6, 7, 3, 2, 1, 8, 9, 10, 0] rfl ?_
              refine ne_L hI v u k R cp x1 hk12 hR hcp hc3 c 1 (dS (cp + 1) (v 1157) k c 0) (dS (cp + 1) (v 1158) k c 0) (dS (cp + 1) (v 1157) k c 0) (dS (cp + 1) (v 1158) k c 0) (dT (cp + 1) k c T) Nm (fun F hF => ?_) 13 0 Nm (by omega) (by omega) rfl
              refine J_iconst (x := 0) dX11_names_374 (by decide) ?_
              refine J_istore (lv' := [(11, .int 0), (0, .ref 1100), (1, .int x1), (2, .int (nI k)), (3, .int (nI R)), (4, .int 1), (5, .int (dS (cp + 1) (v 1157) k c 0)), (6, .int (dS (cp + 1) (v 1158) k c 0)), (7, .int (nI c)), (9, .int (dS (cp + 1) (v 1157) k c 0)), (10, .int (dS (cp + 1) (v 1158) k c 0))]) dX11_names_375 (by decide) rfl ?_
              refine J_lv [1, 2, 3, 4, 5, 6, 7, 8, 9, 10, 0] rfl ?_
              refine ng_L hI v u k R cp x1 hk12 hR hcp hc3 hO c 1 (dS (cp + 1) (v 1157) k c 0) (dS (cp + 1) (v 1158) k c 0) (dS (cp + 1) (v 1157) k c 0) (dS (cp + 1) (v 1158) k c 0) (dT (cp + 1) k c T) F (fun F2 hF2 => ?_) (k + 1) 0 F (by omega) (by omega) rfl
              refine J_iinc (q := 7) (z := nI (c + 1)) (lv' := [(7, .int (nI (c + 1))), (0, .ref 1100), (1, .int x1), (2, .int (nI k)), (3, .int (nI R)), (4, .int 1), (5, .int (dS (cp + 1) (v 1157) k c 0)), (6, .int (dS (cp + 1) (v 1158) k c 0))]) dX11_names_408 rfl (nI_1 c) (by decide) rfl ?_
              refine J_goto (tgt := 201) dX11_names_411 (by decide) ?_
              refine J_lv [1, 2, 3, 4, 5, 6, 7, 0] rfl ?_
              exact ih (c + 1) _ _ _ _ _ (by omega) (by omega) (by rw [cdF_s, ← hs]; unfold cdT; dsimp only; rw [if_neg c21, if_neg c22, if_neg c23, if_neg c24]; unfold cdA; rw [← hF, ← hF2])
            · refine J_iload dX11_names_329 9 rfl ?_
              refine J_iload dX11_names_331 6 rfl ?_
              refine J_icmp_lt (tgt := 339) dX11_names_333 (by decide) (fun c25 => ?_) (fun c25 => ?_)
              · refine J_iconst (x := 1) dX11_names_339 (by decide) ?_
                refine J_istore (lv' := [(4, .int 1), (0, .ref 1100), (1, .int x1), (2, .int (nI k)), (3, .int (nI R)), (5, .int be), (6, .int le), (7, .int (nI c)), (9, .int (dS (cp + 1) (v 1157) k c 0)), (10, .int (dS (cp + 1) (v 1158) k c 0))]) dX11_names_340 (by decide) rfl ?_
                refine J_iload dX11_names_342 8 rfl ?_
                refine J_istore (lv' := [(5, .int (dS (cp + 1) (v 1157) k c 0)), (4, .int 1), (0, .ref 1100), (1, .int x1), (2, .int (nI k)), (3, .int (nI R)), (6, .int le), (7, .int (nI c)), (9, .int (dS (cp + 1) (v 1157) k c 0)), (10, .int (dS (cp + 1) (v 1158) k c 0))]) dX11_names_344 (by decide) rfl ?_
                refine J_iload dX11_names_346 9 rfl ?_
                refine J_istore (lv' := [(6, .int (dS (cp + 1) (v 1158) k c 0)), (5, .int (dS (cp + 1) (v 1157) k c 0)), (4, .int 1), (0, .ref 1100), (1, .int x1), (2, .int (nI k)), (3, .int (nI R)), (7, .int (nI c)), (9, .int (dS (cp + 1) (v 1157) k c 0)), (10, .int (dS (cp + 1) (v 1158) k c 0))]) dX11_names_348 (by decide) rfl ?_
                refine J_iconst (x := 0) dX11_names_350 (by decide) ?_
                refine J_istore (lv' := [(11, .int 0), (6, .int (dS (cp + 1) (v 1158) k c 0)), (5, .int (dS (cp + 1) (v 1157) k c 0)), (4, .int 1), (0, .ref 1100), (1, .int x1), (2, .int (nI k)), (3, .int (nI R)), (7, .int (nI c)), (9, .int (dS (cp + 1) (v 1157) k c 0)), (10, .int (dS (cp + 1) (v 1158) k c 0))]) dX11_names_351 (by decide) rfl ?_
                refine J_lv [4, 5, 6, 7, 3, 2, 1, 8, 9, 10, 0] rfl ?_
                refine ne_L hI v u k R cp x1 hk12 hR hcp hc3 c 1 (dS (cp + 1) (v 1157) k c 0) (dS (cp + 1) (v 1158) k c 0) (dS (cp + 1) (v 1157) k c 0) (dS (cp + 1) (v 1158) k c 0) (dT (cp + 1) k c T) Nm (fun F hF => ?_) 13 0 Nm (by omega) (by omega) rfl
                refine J_iconst (x := 0) dX11_names_374 (by decide) ?_
                refine J_istore (lv' := [(11, .int 0), (0, .ref 1100), (1, .int x1), (2, .int (nI k)), (3, .int (nI R)), (4, .int 1), (5, .int (dS (cp + 1) (v 1157) k c 0)), (6, .int (dS (cp + 1) (v 1158) k c 0)), (7, .int (nI c)), (9, .int (dS (cp + 1) (v 1157) k c 0)), (10, .int (dS (cp + 1) (v 1158) k c 0))]) dX11_names_375 (by decide) rfl ?_
                refine J_lv [1, 2, 3, 4, 5, 6, 7, 8, 9, 10, 0] rfl ?_
                refine ng_L hI v u k R cp x1 hk12 hR hcp hc3 hO c 1 (dS (cp + 1) (v 1157) k c 0) (dS (cp + 1) (v 1158) k c 0) (dS (cp + 1) (v 1157) k c 0) (dS (cp + 1) (v 1158) k c 0) (dT (cp + 1) k c T) F (fun F2 hF2 => ?_) (k + 1) 0 F (by omega) (by omega) rfl
                refine J_iinc (q := 7) (z := nI (c + 1)) (lv' := [(7, .int (nI (c + 1))), (0, .ref 1100), (1, .int x1), (2, .int (nI k)), (3, .int (nI R)), (4, .int 1), (5, .int (dS (cp + 1) (v 1157) k c 0)), (6, .int (dS (cp + 1) (v 1158) k c 0))]) dX11_names_408 rfl (nI_1 c) (by decide) rfl ?_
                refine J_goto (tgt := 201) dX11_names_411 (by decide) ?_
                refine J_lv [1, 2, 3, 4, 5, 6, 7, 0] rfl ?_
                exact ih (c + 1) _ _ _ _ _ (by omega) (by omega) (by rw [cdF_s, ← hs]; unfold cdT; dsimp only; rw [if_neg c21, if_neg c22, if_neg c23, if_pos c24, if_pos c25]; unfold cdA; rw [← hF, ← hF2])
              · refine J_goto (tgt := 408) dX11_names_336 (by decide) ?_
                refine J_lv [0, 1, 2, 3, 4, 5, 6, 7] rfl ?_
                refine J_iinc (q := 7) (z := nI (c + 1)) (lv' := [(7, .int (nI (c + 1))), (0, .ref 1100), (1, .int x1), (2, .int (nI k)), (3, .int (nI R)), (4, .int an), (5, .int be), (6, .int le)]) dX11_names_408 rfl (nI_1 c) (by decide) rfl ?_
                refine J_goto (tgt := 201) dX11_names_411 (by decide) ?_
                refine J_lv [1, 2, 3, 4, 5, 6, 7, 0] rfl ?_
                exact ih (c + 1) _ _ _ _ _ (by omega) (by omega) (by rw [cdF_s, ← hs]; unfold cdT; dsimp only; rw [if_neg c21, if_neg c22, if_neg c23, if_pos c24, if_neg c25])
