theorem tok_k {E : Nat} {v : fr_V} {j : Nat} (hj : j < 26 ∨ 29 < j) : f_tok E v 1100 j = v 1100 j := by unfold f_tok f_take; exact tk_f.2 j hj
theorem tok_c {E : Nat} {v : fr_V} {c : Nat} (hc : c ≠ 1100) : f_tok E v c = v c := by unfold f_tok f_take; exact tk_f.1 c hc
theorem rl_c {ac : Nat} {z y : fr_V} (h : y 600 7 = z 600 7) : rlOf y ac = rlOf z ac := by unfold rlOf; rw [h]
theorem ow_c {z y : fr_V} (h : y 600 6 = z 600 6) : owOf y = owOf z := by unfold owOf; rw [h]
theorem pt_4 {ac : Nat} {y : fr_V} (h : y 600 5 = 4) : (woOf y = some 13 → f_put6 y ac = (0, up2 y 600 5 5)) ∧ (¬ woOf y = some 13 → f_put6 y ac = (1, up2 y 600 5 5)) := by
  cases hw : woOf y with
  | none => exact ⟨fun q => (by cases q), fun _ => by rw [put_none hw]; unfold f_putN; rw [h]; rfl⟩
  | some w =>
    rw [put_some hw]
    unfold f_putW
    rw [h]
    by_cases e : w = 13
    · subst e; exact ⟨fun _ => rfl, fun q => absurd rfl q⟩
    · refine ⟨fun q => absurd (Option.some.inj q) e, fun _ => ?_⟩
      show (if w = 13 then ((0 : Int32), up2 y 600 5 5) else (1, up2 y 600 5 5)) = _
      rw [if_neg e]
section PDS
variable {ac E q : Nat} {z v : fr_V}
theorem span_n {x : Int32} (h : (f_X11_isNumber v 0 x).1 = 0) : f_span E v x = (0, (f_X11_isNumber v 0 x).2) := by unfold f_span; rw [if_pos h]
theorem span_w {x : Int32} {v1 : fr_V} (e1 : f_tok E (up2 v 1100 42 (v 1100 28)) = v1) (h : ¬ (f_X11_isNumber v 0 x).1 = 0) (h2 : f_X11_isWord v1 13 = 0) : f_span E v x = (0, (f_X11_wrong v1 1).2) := by
  subst e1; unfold f_span; rw [if_neg h, if_pos h2]
theorem span_m {x : Int32} {v1 v2 : fr_V} (e1 : f_tok E (up2 v 1100 42 (v 1100 28)) = v1) (e2 : f_tok E v1 = v2) (h : ¬ (f_X11_isNumber v 0 x).1 = 0) (h2 : ¬ f_X11_isWord v1 13 = 0) (h3 : (f_X11_isNumber v2 (v2 1100 42) x).1 = 0) : f_span E v x = (0, (f_X11_isNumber v2 (v2 1100 42) x).2) := by
  subst e2; subst e1; unfold f_span; rw [if_neg h, if_neg h2, if_pos h3]
theorem span_y {x : Int32} {v1 v2 : fr_V} (e1 : f_tok E (up2 v 1100 42 (v 1100 28)) = v1) (e2 : f_tok E v1 = v2) (h : ¬ (f_X11_isNumber v 0 x).1 = 0) (h2 : ¬ f_X11_isWord v1 13 = 0) (h3 : ¬ (f_X11_isNumber v2 (v2 1100 42) x).1 = 0) : f_span E v x = (1, f_tok E (up2 v2 1100 43 (v2 1100 28))) := by
  subst e2; subst e1; unfold f_span; rw [if_neg h, if_neg h2, if_neg h3]
/-- the second number of a span: the class asks for 0 to hi and then for the order, the reference for n to hi -/
theorem PB.num2 (h : PB ac E q z v) (hq : q < E) {ow n hi : Nat} (hlo : wdleast ow = nI 0) (hhi : wdmost ow = nI hi) (l1 : n ≤ 9999) (l2 : hi ≤ 9999) :
    (∃ k, n ≤ k ∧ k ≤ hi ∧ f_nf (f_tt z E q) ow = 0 ∧ f_tt z E q 600 12 = nI k ∧ v 1100 28 = nI k ∧ f_X11_isNumber v (nI n) (nI hi) = (1, v)) ∨ ((f_nf (f_tt z E q) ow = 0 → ¬ nI n ≤ f_tt z E q 600 12) ∧ f_X11_isNumber v (nI n) (nI hi) = (0, (f_X11_wrong v (if f_nf (f_tt z E q) ow = 0 then 2 else f_nf (f_tt z E q) ow)).2)) := by
  unfold f_nf f_X11_isNumber
  rw [hlo, hhi]
  rcases h.nm hq with ⟨h1, h2, h3⟩ | ⟨h1, h2⟩
  · rw [if_pos h1, if_pos h2]
    rcases h3 with ⟨k, hk, e1, e2⟩ | ⟨m, k, g1, g2, g3, g4, e1, e2⟩
    · rw [e1, e2, if_neg (nI_nlt (Nat.zero_le k) (by omega))]
      by_cases c2 : nI k ≤ nI hi
      · have c2' : k ≤ hi := (nI_leI (by omega) (by omega)).mp c2
        rw [if_pos c2, if_pos c2]
        by_cases c1 : nI k < nI n
        · rw [if_pos c1]
          refine Or.inr ⟨fun _ q9 => absurd c1 (Int32.not_lt.mpr q9), ?_⟩
          rw [if_pos rfl]
        · rw [if_neg c1]
          refine Or.inl ⟨k, ?_, c2', rfl, rfl, rfl, rfl⟩
          rcases Nat.lt_or_ge k n with q9 | q9
          · exact absurd (nI_lt q9 (by omega)) c1
          · exact q9
      · rw [if_neg c2, if_neg c2]
        refine Or.inr ⟨fun q9 => absurd q9 (by decide), ?_⟩
        rw [ite_self, if_neg (by decide)]
    · rw [e1, e2, if_neg (nI_nlt (by omega) (by omega)), if_neg (nI_nlt (by omega) (by omega)), if_neg (nI_ge (by omega) (by omega)), if_neg (nI_ge (by omega) (by omega))]
      exact Or.inr ⟨fun q9 => absurd q9 (by decide), by rw [if_neg (by decide)]⟩
  · rw [if_neg h1, if_neg h2]
    exact Or.inr ⟨fun q9 => absurd q9 (by decide), by rw [if_neg (by decide)]⟩
theorem nmb_v {a b : Int32} {v : fr_V} {p : Int32 × fr_V} (h : f_X11_isNumber v a b = p) : (f_X11_isNumber v a b).1 = p.1 := by rw [h]
theorem span_R (h : PB ac E q z v) (h5 : z 600 5 = 3) {ow hi : Nat} (ho : owOf z = ow) (how : ow = 8 ∨ ow = 10) (hhi : wdmost ow = nI hi) (hh : hi ≤ 9999) :
    ((f_span E v (nI hi)).1 = 0 ∧ ERR (go ac E z) (f_span E v (nI hi)).2 ∧ fv11 v (f_span E v (nI hi)).2) ∨
    ((f_span E v (nI hi)).1 = 1 ∧ ∃ q' z' a b, q < q' ∧ PB ac E q' z' (f_span E v (nI hi)).2 ∧ go ac E z = go ac E z' ∧ z' 600 5 = 2 ∧ (z' 600 4 = z 600 4 ∧ z' 600 6 = z 600 6 ∧ z' 600 7 = z 600 7) ∧ (∀ c, c ≠ 600 → c ≠ lnB ac + rlOf z ac → z' c = z c) ∧ z' (lnB ac + rlOf z ac) = upd (upd (z (lnB ac + rlOf z ac)) (if ow = 8 then 2 else 5) (nI a)) (if ow = 8 then 3 else 6) (nI b) ∧ (f_span E v (nI hi)).2 1100 42 = nI a ∧ (f_span E v (nI hi)).2 1100 43 = nI b ∧ a ≤ 9999 ∧ b ≤ 9999 ∧ fv11 v (f_span E v (nI hi)).2) := by
  have hlo : wdleast ow = nI 0 := by rcases how with rfl | rfl <;> rfl
  have hL := ln_far h.1
  rcases Nat.lt_or_ge q E with hq | hq
  rotate_left
  · have hqE : q = E := Nat.le_antisymm h.2.2.2.2.1 hq
    subst hqE
    have e := h.nmE 0 (nI hi)
    rw [span_n (by rw [e])]
    refine Or.inl ⟨rfl, ?_, ?_⟩
    · show ERR _ (f_X11_isNumber v 0 (nI hi)).2
      rw [e]; exact h.eE (by rw [h5]; decide) rfl
    · show fv11 v (f_X11_isNumber v 0 (nI hi)).2
      rw [e]; exact fv11.rf.w 1
  obtain ⟨t1, t2, -⟩ := h.tt hq
  have y5 : f_tt z E q 600 5 = 3 := by rw [t2 5 (by omega)]; exact h5
  have yo : owOf (f_tt z E q) = ow := by rw [ow_c (t2 6 (by omega))]; exact ho
  have hput : f_put6 (f_tt z E q) ac = f_pfr (f_tt z E q) ow := by rw [pt_3 y5, yo]
  generalize hY : up2 (up2 (f_tt z E q) 600 8 (f_tt z E q 600 12)) 600 5 4 = Y
  have hput1 : (f_put6 (f_tt z E q) ac).1 = f_nf Y ow := by rw [hput, ← hY]; rfl
  have hput2 : (f_put6 (f_tt z E q) ac).2 = Y := by rw [hput, ← hY]; rfl
  have Y12 : Y 600 12 = f_tt z E q 600 12 := by rw [← hY, u6 (by decide), u6 (by decide)]
  rcases h.num hq (y := Y) (by rw [← hY, u6 (by decide), u6 (by decide)]) Y12 hlo hhi (by omega) hh with ⟨n0, n1, n, -, hn, e12, e28⟩ | ⟨n0, n1⟩
  rotate_left
  · rw [nI_0] at n1
    rw [span_n (by rw [n1])]
    refine Or.inl ⟨rfl, ?_, ?_⟩
    · show ERR _ (f_X11_isNumber v 0 (nI hi)).2
      rw [n1]; exact h.eW hq hput1 n0 rfl
    · show fv11 v (f_X11_isNumber v 0 (nI hi)).2
      rw [n1]; exact fv11.rf.w _
  rw [nI_0] at n1
  have c1 : ¬ (f_X11_isNumber v 0 (nI hi)).1 = 0 := by rw [n1]; exact n10
  obtain ⟨q1, q01, q1E, g1, h1⟩ := h.adv hq (by rw [hput1]; exact n0) (v' := up2 v 1100 42 (v 1100 28)) rfl rfl
  rw [hput2] at g1 h1
  generalize hz1 : up2 (up2 Y 600 14 0) 600 9 (nI q1) = z1 at g1 h1
  generalize hv1 : f_tok E (up2 v 1100 42 (v 1100 28)) = v1 at h1
  have fv1 : fv11 v v1 := by rw [← hv1]; exact (fv11.rf.u (by omega)).t
  have a5 : z1 600 5 = 4 := by rw [← hz1, u6 (by decide), u6 (by decide), ← hY, u6s]
  have a8 : z1 600 8 = nI n := by rw [← hz1, u6 (by decide), u6 (by decide), ← hY, u6 (by decide), u6s, ← Y12]; exact e12
  have aj : ∀ j, j = 4 ∨ j = 6 ∨ j = 7 → z1 600 j = z 600 j := fun j hj => by rw [← hz1, u6 (by omega), u6 (by omega), ← hY, u6 (by omega), u6 (by omega)]; exact t2 j (by omega)
  have ac1 : ∀ c, c ≠ 600 → z1 c = z c := fun c hc => by rw [← hz1, up2_ne hc, up2_ne hc, ← hY, up2_ne hc, up2_ne hc]; exact t1 c hc
  have v42 : v1 1100 42 = nI n := by rw [← hv1, tok_k (by omega), u6s]; exact e28
  rw [g1]
  rcases Nat.lt_or_ge q1 E with hq1 | hq1
  rotate_left
  · have hqE : q1 = E := Nat.le_antisymm q1E hq1
    subst hqE
    rw [span_w hv1 c1 (h1.wdE 13)]
    exact Or.inl ⟨rfl, h1.eE (by rw [a5]; decide) rfl, fv1.w 1⟩
  obtain ⟨s1, s2, -⟩ := h1.tt hq1
  have p4 := pt_4 (ac := ac) (y := f_tt z1 E q1) (by rw [s2 5 (by omega)]; exact a5)
  by_cases w13 : woOf (f_tt z1 E q1) = some 13
  rotate_left
  · rw [span_w hv1 c1 ((h1.wd hq1 (k := 13) (by omega)).mpr w13)]
    exact Or.inl ⟨rfl, h1.eW hq1 (r := 1) (by rw [p4.2 w13]) (by decide) rfl, fv1.w 1⟩
  have c2 : ¬ f_X11_isWord v1 13 = 0 := fun e => (h1.wd hq1 (k := 13) (by omega)).mp e w13
  obtain ⟨q2, q12, q2E, g2, h2⟩ := h1.adv hq1 (by rw [p4.1 w13]) (v' := v1) rfl rfl
  rw [p4.1 w13] at g2 h2
  dsimp only at g2 h2
  generalize hz2 : up2 (up2 (up2 (f_tt z1 E q1) 600 5 5) 600 14 0) 600 9 (nI q2) = z2 at g2 h2
  generalize hv2 : f_tok E v1 = v2 at h2
  have fv2 : fv11 v v2 := by rw [← hv2]; exact fv1.t
  have b5 : z2 600 5 = 5 := by rw [← hz2, u6 (by decide), u6 (by decide), u6s]
  have bj : ∀ j, j = 4 ∨ j = 6 ∨ j = 7 ∨ j = 8 → z2 600 j = z1 600 j := fun j hj => by rw [← hz2, u6 (by omega), u6 (by omega), u6 (by omega)]; exact s2 j (by omega)
  have bc : ∀ c, c ≠ 600 → z2 c = z c := fun c hc => by rw [← hz2, up2_ne hc, up2_ne hc, up2_ne hc]; exact (s1 c hc).trans (ac1 c hc)
  have v42' : v2 1100 42 = nI n := by rw [← hv2, tok_k (by omega)]; exact v42
  rw [g2]
  rcases Nat.lt_or_ge q2 E with hq2 | hq2
  rotate_left
  · have hqE : q2 = E := Nat.le_antisymm q2E hq2
    subst hqE
    have e := h2.nmE (v2 1100 42) (nI hi)
    rw [span_m hv1 hv2 c1 c2 (by rw [e])]
    refine Or.inl ⟨rfl, ?_, ?_⟩
    · show ERR _ (f_X11_isNumber v2 (v2 1100 42) (nI hi)).2
      rw [e]; exact h2.eE (by rw [b5]; decide) rfl
    · show fv11 v (f_X11_isNumber v2 (v2 1100 42) (nI hi)).2
      rw [e]; exact fv2.w 1
  obtain ⟨r1, r2, -⟩ := h2.tt hq2
  generalize hy2 : f_tt z2 E q2 = y2 at r1 r2
  have d5 : y2 600 5 = 5 := by rw [r2 5 (by omega)]; exact b5
  have do6 : owOf y2 = ow := by rw [ow_c (z := z) ((r2 6 (by omega)).trans ((bj 6 (by omega)).trans (aj 6 (by omega))))]; exact ho
  have drl : rlOf y2 ac = rlOf z ac := rl_c ((r2 7 (by omega)).trans ((bj 7 (by omega)).trans (aj 7 (by omega))))
  have hp5 : f_put6 y2 ac = f_pup y2 ac (rlOf z ac) ow := by rw [pt_5 d5, do6, drl]
  have d8 : y2 600 8 = nI n := by rw [r2 8 (by omega), bj 8 (by omega)]; exact a8
  have N2 := h2.num2 hq2 (n := n) hlo hhi (by omega) hh
  rw [hy2, ← v42'] at N2
  rcases N2 with ⟨k, k1, k2, k3, k4, k5, k6⟩ | ⟨k1, k2⟩
  rotate_left
  · rw [span_m hv1 hv2 c1 c2 (by rw [k2])]
    have hr : (f_put6 (f_tt z2 E q2) ac).1 = (if f_nf y2 ow = 0 then 2 else f_nf y2 ow) := by
      rw [hy2, hp5]
      unfold f_pup
      by_cases c9 : f_nf y2 ow = 0
      · rw [if_pos c9, if_neg (by rw [d8, ← v42']; exact k1 c9), if_pos c9]
      · rw [if_neg c9, if_neg c9]
    have hr0 : ¬ (if f_nf y2 ow = 0 then (2 : Int32) else f_nf y2 ow) = 0 := by
      by_cases c9 : f_nf y2 ow = 0
      · rw [if_pos c9]; decide
      · rw [if_neg c9]; exact c9
    refine Or.inl ⟨rfl, ?_, ?_⟩
    · show ERR _ (f_X11_isNumber v2 (v2 1100 42) (nI hi)).2
      rw [k2]; exact h2.eW hq2 hr hr0 rfl
    · show fv11 v (f_X11_isNumber v2 (v2 1100 42) (nI hi)).2
      rw [k2]; exact fv2.w _
  have c3 : ¬ (f_X11_isNumber v2 (v2 1100 42) (nI hi)).1 = 0 := by rw [k6]; exact n10
  have le : y2 600 8 ≤ y2 600 12 := by rw [d8, k4]; exact nI_le (a := n) (b := k) k1 (by omega)
  rw [span_y hv1 hv2 c1 c2 c3]
  refine Or.inr ⟨rfl, ?_⟩
  have hput5 : f_put6 y2 ac = (0, up2 (up2 (up2 y2 (lnB ac + rlOf z ac) (if ow = 8 then 2 else 5) (nI n)) (lnB ac + rlOf z ac) (if ow = 8 then 3 else 6) (nI k)) 600 5 2) := by
    rw [hp5]
    unfold f_pup
    rw [if_pos k3, if_pos le, d8, k4]
    rcases how with rfl | rfl <;> rfl
  obtain ⟨q3, q23, q3E, g3, h3⟩ := h2.adv hq2 (by rw [hy2, hput5]) (v' := up2 v2 1100 43 (v2 1100 28)) rfl rfl
  rw [hy2, hput5] at g3 h3
  dsimp only at g3 h3
  rw [g3]
  have hLn : lnB ac + rlOf z ac ≠ 600 := by
    have hh7 := h.2.2.1.2.2.2.1
    obtain ⟨rl, hrl, e7⟩ := hh7
    unfold rlOf
    rw [e7, nI_clamp (by omega)]
    omega
  refine ⟨q3, _, n, k, by omega, h3, rfl, ?_, ⟨?_, ?_, ?_⟩, fun c hc1 hc2 => ?_, ?_, ?_, ?_, by omega, by omega, ?_⟩
  · rw [u6 (by decide), u6 (by decide)]; exact u6s
  · rw [u6 (by decide), u6 (by decide), u6 (by decide), up2_ne (Ne.symm hLn), up2_ne (Ne.symm hLn), r2 4 (by omega), bj 4 (by omega)]; exact aj 4 (by omega)
  · rw [u6 (by decide), u6 (by decide), u6 (by decide), up2_ne (Ne.symm hLn), up2_ne (Ne.symm hLn), r2 6 (by omega), bj 6 (by omega)]; exact aj 6 (by omega)
  · rw [u6 (by decide), u6 (by decide), u6 (by decide), up2_ne (Ne.symm hLn), up2_ne (Ne.symm hLn), r2 7 (by omega), bj 7 (by omega)]; exact aj 7 (by omega)
  · rw [up2_ne hc1, up2_ne hc1, up2_ne hc1, up2_ne hc2, up2_ne hc2]; exact (r1 c hc1).trans (bc c hc1)
  · rw [up2_ne hLn, up2_ne hLn, up2_ne hLn, up2_self, up2_self]
    rw [(r1 _ hLn).trans (bc _ hLn)]
  · show f_tok E (up2 v2 1100 43 (v2 1100 28)) 1100 42 = nI n
    rw [tok_k (by omega), u6 (by decide)]; exact v42'
  · show f_tok E (up2 v2 1100 43 (v2 1100 28)) 1100 43 = nI k
    rw [tok_k (by omega), u6s]; exact k5
  · exact (fv2.u (by omega)).t
end PDS
