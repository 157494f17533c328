def fr11 (v w : fr_V) : Prop := (∀ c, (c < 1131 ∨ 1142 < c) → c ≠ 1100 → w c = v c) ∧ ∀ j, (j < 23 ∨ j = 25 ∨ (29 < j ∧ j < 42) ∨ 43 < j) → w 1100 j = v 1100 j
theorem fr11.rfl {v : fr_V} : fr11 v v := ⟨fun _ _ _ => Eq.refl _, fun _ _ => Eq.refl _⟩
theorem fr11.tr {a b c : fr_V} (h : fr11 a b) (k : fr11 b c) : fr11 a c := ⟨fun x h1 h2 => (k.1 x h1 h2).trans (h.1 x h1 h2), fun j hj => (k.2 j hj).trans (h.2 j hj)⟩
theorem fr11.up {a b : fr_V} (h : fr11 a b) {k j : Nat} {x : Int32} (hk : (k = 1100 ∧ (j = 23 ∨ j = 24 ∨ (26 ≤ j ∧ j ≤ 29) ∨ j = 42 ∨ j = 43)) ∨ (1131 ≤ k ∧ k ≤ 1142)) : fr11 a (up2 b k j x) := by
  refine ⟨fun c h1 h2 => (up2_ne (by omega)).trans (h.1 c h1 h2), fun i hi => ?_⟩
  by_cases e : k = 1100
  · subst e; rw [up2_self, pk_un (by omega)]; exact h.2 i hi
  · rw [up2_ne (fun q => e q.symm)]; exact h.2 i hi
theorem fr_tk (v : fr_V) (E q : Nat) : fr11 v (f_tk v E q) := by
  unfold f_tk
  have h0 : fr11 v (up2 (up2 v 1100 26 (nI q)) 1100 29 (nI q)) := (fr11.rfl.up (by omega)).up (by omega)
  by_cases h1 : q = E
  · rw [if_pos h1]; exact h0.up (by omega)
  · rw [if_neg h1]
    by_cases h2 : isLt (v 1101) q
    · rw [if_pos h2]; exact ((h0.up (by omega)).up (by omega)).up (by omega)
    · rw [if_neg h2]
      by_cases h3 : isDg (v 1101) q
      · rw [if_pos h3]; exact ((h0.up (by omega)).up (by omega)).up (by omega)
      · rw [if_neg h3]; exact (h0.up (by omega)).up (by omega)
theorem fr_tok (E : Nat) (v : fr_V) : fr11 v (f_tok E v) := fr_tk _ _ _
theorem fr_wrong (v : fr_V) (x : Int32) : fr11 v (f_X11_wrong v x).2 := by
  unfold f_X11_wrong
  exact (fr11.rfl.up (by omega)).up (by omega)
theorem fr_num (v : fr_V) (a b : Int32) : fr11 v (f_X11_isNumber v a b).2 := by
  unfold f_X11_isNumber
  by_cases c1 : v 1100 27 = 2
  · rw [if_pos c1]
    by_cases c2 : v 1100 28 < a
    · rw [if_pos c2]; exact fr_wrong v 2
    · rw [if_neg c2]
      by_cases c3 : v 1100 28 ≤ b
      · rw [if_pos c3]; exact fr11.rfl
      · rw [if_neg c3]; exact fr_wrong v 2
  · rw [if_neg c1]; exact fr_wrong v 1
theorem adv_up {v w : fr_V} {k j : Nat} {x : Int32} (h : adv v w) (hk : ¬ (k = 1100 ∧ (j = 26 ∨ j = 27))) : adv v (up2 w k j x) := by
  have e : nx (up2 w k j x) = nx w := nx_up (fun q => hk ⟨q.1, Or.inl q.2⟩)
  have e2 : kd (up2 w k j x) = kd w := by
    unfold kd
    by_cases hk2 : k = 1100
    · subst hk2; rw [up2_self, pk_un (fun q => hk ⟨rfl, Or.inr q.symm⟩)]
    · rw [up2_ne (fun q => hk2 q.symm)]
  unfold adv
  rw [e, e2]
  exact h
def nd (E : Nat) (v : fr_V) : Nat := if kd v = 0 then 1 else E - nx v + 2
theorem nd_next {E : Nat} {v w : fr_V} (hv : ¬ kd v = 0) (h : adv v w) (k : nx w ≤ E) : nd E w + 1 ≤ nd E v := by
  unfold nd
  rw [if_neg hv]
  by_cases c : kd w = 0
  · rw [if_pos c]; omega
  · rw [if_neg c]
    have := h.2 c
    omega
theorem nd_1 (E : Nat) (v : fr_V) : 1 ≤ nd E v := by unfold nd; split <;> omega
theorem nd_max {E : Nat} (v : fr_V) : nd E v ≤ E + 2 := by unfold nd; split <;> omega
theorem span_fr {E : Nat} {v : fr_V} {x1 : Int32} : fr11 v (f_span E v x1).2 := by
    unfold f_span
    by_cases g0 : ((f_X11_isNumber v 0 x1).1) = 0
    · rw [if_pos g0]
      dsimp only
      exact (fr11.rfl).tr (fr_num _ _ _)
    · rw [if_neg g0]
      by_cases g1 : (f_X11_isWord (f_tok E (up2 v 1100 42 (v 1100 28))) 13) = 0
      · rw [if_pos g1]
        dsimp only
        exact (((fr11.rfl).up (k := 1100) (j := 42) (x := v 1100 28) (by omega)).tr (fr_tok _ _)).tr (fr_wrong _ _)
      · rw [if_neg g1]
        by_cases g2 : ((f_X11_isNumber (f_tok E (f_tok E (up2 v 1100 42 (v 1100 28)))) ((f_tok E (f_tok E (up2 v 1100 42 (v 1100 28)))) 1100 42) x1).1) = 0
        · rw [if_pos g2]
          dsimp only
          exact ((((fr11.rfl).up (k := 1100) (j := 42) (x := v 1100 28) (by omega)).tr (fr_tok _ _)).tr (fr_tok _ _)).tr (fr_num _ _ _)
        · rw [if_neg g2]
          dsimp only
          exact (((((fr11.rfl).up (k := 1100) (j := 42) (x := v 1100 28) (by omega)).tr (fr_tok _ _)).tr (fr_tok _ _)).up (k := 1100) (j := 43) (x := (f_tok E (f_tok E (up2 v 1100 42 (v 1100 28)))) 1100 28) (by omega)).tr (fr_tok _ _)
theorem cr_fr {E q : Nat} : ∀ (d : Nat) {v : fr_V}, fr11 v (f_cr E q d v).2 := by
  intro d
  induction d with
  | zero => intro v; exact fr11.rfl
  | succ d ih =>
    intro v
    rw [f_cr_s]
    by_cases g0 : ((f_X11_isNumber v 0 3).1) = 0
    · rw [if_pos g0]
      dsimp only
      exact (fr11.rfl).tr (fr_num _ _ _)
    · rw [if_neg g0]
      by_cases g1 : (((v 1135 q) >>> ((v 1100 28) &&& 31)) &&& 1) = 1
      · rw [if_pos g1]
        dsimp only
        exact (fr11.rfl).tr (fr_wrong _ _)
      · rw [if_neg g1]
        by_cases g2 : (f_X11_isWord (f_tok E (up2 v 1135 q ((v 1135 q) ||| (1 <<< ((v 1100 28) &&& 31))))) 14) = 0
        · rw [if_pos g2]
          dsimp only
          exact ((fr11.rfl).up (k := 1135) (j := q) (x := (v 1135 q) ||| (1 <<< ((v 1100 28) &&& 31))) (by omega)).tr (fr_tok _ _)
        · rw [if_neg g2]
          exact ((((fr11.rfl).up (k := 1135) (j := q) (x := (v 1135 q) ||| (1 <<< ((v 1100 28) &&& 31))) (by omega)).tr (fr_tok _ _)).tr (fr_tok _ _)).tr ih
noncomputable def f_wh (E q : Nat) : Nat → fr_V → Int32 → Int32 → Int32 × fr_V
  | 0, v, _, _ => (0, v)
  | d + 1, v, ha, hb => if (v 1100 27) = 1 then (if (v 1100 28) < 8 then (if (v 1135 q) = 0 then (1, up2 v 1135 q 15) else (1, v)) else if 12 < (v 1100 28) then (if (v 1135 q) = 0 then (1, up2 v 1135 q 15) else (1, v)) else if (v 1100 28) = 8 then (if ha = 0 then (if ((f_span E (f_tok E v) 130).1) = 0 then (0, (f_span E (f_tok E v) 130).2) else if hb = 0 then (if (v 1100 28) = 10 then f_wh E q d (up2 (up2 ((f_span E (f_tok E v) 130).2) 1133 q (((f_span E (f_tok E v) 130).2) 1100 42)) 1134 q (((f_span E (f_tok E v) 130).2) 1100 43)) 1 1 else f_wh E q d (up2 (up2 ((f_span E (f_tok E v) 130).2) 1133 q (((f_span E (f_tok E v) 130).2) 1100 42)) 1134 q (((f_span E (f_tok E v) 130).2) 1100 43)) 1 0) else f_wh E q d (up2 (up2 ((f_span E (f_tok E v) 130).2) 1133 q (((f_span E (f_tok E v) 130).2) 1100 42)) 1134 q (((f_span E (f_tok E v) 130).2) 1100 43)) 1 1) else (0, (f_X11_wrong v 3).2)) else if (v 1100 28) = 9 then (if (v 1135 q) ≤ 0 then (if (v 1100 28) = 10 then (if ((f_span E (f_tok E v) 79).1) = 0 then (0, (f_span E (f_tok E v) 79).2) else if ha = 0 then (if hb = 0 then f_wh E q d (up2 (up2 ((f_span E (f_tok E v) 79).2) 1136 q (((f_span E (f_tok E v) 79).2) 1100 42)) 1137 q (((f_span E (f_tok E v) 79).2) 1100 43)) 0 1 else f_wh E q d (up2 (up2 ((f_span E (f_tok E v) 79).2) 1136 q (((f_span E (f_tok E v) 79).2) 1100 42)) 1137 q (((f_span E (f_tok E v) 79).2) 1100 43)) 0 1) else if hb = 0 then f_wh E q d (up2 (up2 ((f_span E (f_tok E v) 79).2) 1136 q (((f_span E (f_tok E v) 79).2) 1100 42)) 1137 q (((f_span E (f_tok E v) 79).2) 1100 43)) 1 1 else f_wh E q d (up2 (up2 ((f_span E (f_tok E v) 79).2) 1136 q (((f_span E (f_tok E v) 79).2) 1100 42)) 1137 q (((f_span E (f_tok E v) 79).2) 1100 43)) 1 1) else if ((f_cr E q (E + 1) (f_tok E v)).1) = 0 then (0, (f_cr E q (E + 1) (f_tok E v)).2) else f_wh E q d ((f_cr E q (E + 1) (f_tok E v)).2) ha hb) else (0, (f_X11_wrong v 3).2)) else if (v 1100 28) = 10 then (if hb = 0 then (if ((f_span E (f_tok E v) 79).1) = 0 then (0, (f_span E (f_tok E v) 79).2) else if ha = 0 then f_wh E q d (up2 (up2 ((f_span E (f_tok E v) 79).2) 1136 q (((f_span E (f_tok E v) 79).2) 1100 42)) 1137 q (((f_span E (f_tok E v) 79).2) 1100 43)) 0 1 else f_wh E q d (up2 (up2 ((f_span E (f_tok E v) 79).2) 1136 q (((f_span E (f_tok E v) 79).2) 1100 42)) 1137 q (((f_span E (f_tok E v) 79).2) 1100 43)) 1 1) else (0, (f_X11_wrong v 3).2)) else if (v 1138 q) ≤ 0 then (if (v 1100 28) = 11 then f_wh E q d (up2 (f_tok E v) 1138 q 1) ha hb else f_wh E q d (up2 (f_tok E v) 1138 q 2) ha hb) else (0, (f_X11_wrong v 3).2)) else if (v 1135 q) = 0 then (1, up2 v 1135 q 15) else (1, v)
theorem f_wh_s (E q d : Nat) (v : fr_V) (ha hb : Int32) : f_wh E q (d + 1) v ha hb = (if (v 1100 27) = 1 then (if (v 1100 28) < 8 then (if (v 1135 q) = 0 then (1, up2 v 1135 q 15) else (1, v)) else if 12 < (v 1100 28) then (if (v 1135 q) = 0 then (1, up2 v 1135 q 15) else (1, v)) else if (v 1100 28) = 8 then (if ha = 0 then (if ((f_span E (f_tok E v) 130).1) = 0 then (0, (f_span E (f_tok E v) 130).2) else if hb = 0 then (if (v 1100 28) = 10 then f_wh E q d (up2 (up2 ((f_span E (f_tok E v) 130).2) 1133 q (((f_span E (f_tok E v) 130).2) 1100 42)) 1134 q (((f_span E (f_tok E v) 130).2) 1100 43)) 1 1 else f_wh E q d (up2 (up2 ((f_span E (f_tok E v) 130).2) 1133 q (((f_span E (f_tok E v) 130).2) 1100 42)) 1134 q (((f_span E (f_tok E v) 130).2) 1100 43)) 1 0) else f_wh E q d (up2 (up2 ((f_span E (f_tok E v) 130).2) 1133 q (((f_span E (f_tok E v) 130).2) 1100 42)) 1134 q (((f_span E (f_tok E v) 130).2) 1100 43)) 1 1) else (0, (f_X11_wrong v 3).2)) else if (v 1100 28) = 9 then (if (v 1135 q) ≤ 0 then (if (v 1100 28) = 10 then (if ((f_span E (f_tok E v) 79).1) = 0 then (0, (f_span E (f_tok E v) 79).2) else if ha = 0 then (if hb = 0 then f_wh E q d (up2 (up2 ((f_span E (f_tok E v) 79).2) 1136 q (((f_span E (f_tok E v) 79).2) 1100 42)) 1137 q (((f_span E (f_tok E v) 79).2) 1100 43)) 0 1 else f_wh E q d (up2 (up2 ((f_span E (f_tok E v) 79).2) 1136 q (((f_span E (f_tok E v) 79).2) 1100 42)) 1137 q (((f_span E (f_tok E v) 79).2) 1100 43)) 0 1) else if hb = 0 then f_wh E q d (up2 (up2 ((f_span E (f_tok E v) 79).2) 1136 q (((f_span E (f_tok E v) 79).2) 1100 42)) 1137 q (((f_span E (f_tok E v) 79).2) 1100 43)) 1 1 else f_wh E q d (up2 (up2 ((f_span E (f_tok E v) 79).2) 1136 q (((f_span E (f_tok E v) 79).2) 1100 42)) 1137 q (((f_span E (f_tok E v) 79).2) 1100 43)) 1 1) else if ((f_cr E q (E + 1) (f_tok E v)).1) = 0 then (0, (f_cr E q (E + 1) (f_tok E v)).2) else f_wh E q d ((f_cr E q (E + 1) (f_tok E v)).2) ha hb) else (0, (f_X11_wrong v 3).2)) else if (v 1100 28) = 10 then (if hb = 0 then (if ((f_span E (f_tok E v) 79).1) = 0 then (0, (f_span E (f_tok E v) 79).2) else if ha = 0 then f_wh E q d (up2 (up2 ((f_span E (f_tok E v) 79).2) 1136 q (((f_span E (f_tok E v) 79).2) 1100 42)) 1137 q (((f_span E (f_tok E v) 79).2) 1100 43)) 0 1 else f_wh E q d (up2 (up2 ((f_span E (f_tok E v) 79).2) 1136 q (((f_span E (f_tok E v) 79).2) 1100 42)) 1137 q (((f_span E (f_tok E v) 79).2) 1100 43)) 1 1) else (0, (f_X11_wrong v 3).2)) else if (v 1138 q) ≤ 0 then (if (v 1100 28) = 11 then f_wh E q d (up2 (f_tok E v) 1138 q 1) ha hb else f_wh E q d (up2 (f_tok E v) 1138 q 2) ha hb) else (0, (f_X11_wrong v 3).2)) else if (v 1135 q) = 0 then (1, up2 v 1135 q 15) else (1, v) : Int32 × fr_V) := rfl
theorem wh_L {l : Launch} {I : List Nat} (hI : fr_I I) (u : fr_U) (E q : Nat) (hq : q < 48) : ∀ (d : Nat) (v : fr_V) (ha hb : Int32) (h : rdOK E v) (hd : nd E v ≤ d), J l mX11_whom I v u 50 [(0, .ref 1100), (1, .int (nI q)), (2, .int ha), (3, .int hb)] [] (QX u (fun a b => a = (f_wh E q d v ha hb).1 ∧ b = (f_wh E q d v ha hb).2)) := by
  intro d
  induction d with
  | zero => intro v ha hb h hd; have := nd_1 E v; omega
  | succ d ih =>
    intro v ha hb h hd
    refine J_aload_n dX11_whom_50 rfl 0 rfl ?_
    refine J_gete (ci := 11) (j := 27) (x := v 1100 27) dX11_whom_51 fl_X11_147 (i1100 hI) rfl rfl rfl ?_
    refine J_iconst (x := 1) dX11_whom_54 (by decide) ?_
    refine J_icmp_ne (tgt := 322) dX11_whom_55 (by decide) (fun c1 => ?_) (fun c1 => ?_)
    · refine J_aload_n dX11_whom_322 rfl 0 rfl ?_
      refine J_getr (ci := 11) (j := 34) (t := 1135) dX11_whom_323 fl_X11_74 (i1100 hI) rfl rfl rfl ?_
      refine J_iload_n dX11_whom_326 rfl 1 rfl ?_
      refine J_iale (x := v 1135 q) dX11_whom_327 (i1135 hI) rfl (ix_in (j := q) rfl (by omega) (by omega)) ((congrArg _ (ix_cl (j := q) rfl (by omega))).trans rfl) ?_
      refine J_if_ne (tgt := 339) dX11_whom_328 (by decide) (fun c2 => ?_) (fun c2 => ?_)
      · refine J_iconst (x := 1) dX11_whom_339 (by decide) ?_
        exact J_zret dX11_whom_340 rfl (by decide) ⟨_, rfl, rfl, by rw [f_wh_s, if_neg c1, if_neg c2], by rw [f_wh_s, if_neg c1, if_neg c2]⟩
      · refine J_aload_n dX11_whom_331 rfl 0 rfl ?_
        refine J_getr (ci := 11) (j := 34) (t := 1135) dX11_whom_332 fl_X11_74 (i1100 hI) rfl rfl rfl ?_
        refine J_iload_n dX11_whom_335 rfl 1 rfl ?_
        refine J_bipush (x := 15) dX11_whom_336 (by decide) ?_
        refine J_iase (j := q) dX11_whom_338 (i1135 hI) rfl (ix_in (j := q) rfl (by omega) (by omega)) (ix_cl (j := q) rfl (by omega)) ?_
        refine J_iconst (x := 1) dX11_whom_339 (by decide) ?_
        exact J_zret dX11_whom_340 rfl (by decide) ⟨_, rfl, rfl, by rw [f_wh_s, if_neg c1, if_pos c2], by rw [f_wh_s, if_neg c1, if_pos c2]⟩
    · have hk1 : ¬ kd v = 0 := by unfold kd; rw [c1]; decide
      refine J_aload_n dX11_whom_58 rfl 0 rfl ?_
      refine J_gete (ci := 11) (j := 28) (x := v 1100 28) dX11_whom_59 fl_X11_158 (i1100 hI) rfl rfl rfl ?_
      refine J_bipush (x := 8) dX11_whom_62 (by decide) ?_
      refine J_icmp_lt (tgt := 322) dX11_whom_64 (by decide) (fun c3 => ?_) (fun c3 => ?_)
      · refine J_aload_n dX11_whom_322 rfl 0 rfl ?_
        refine J_getr (ci := 11) (j := 34) (t := 1135) dX11_whom_323 fl_X11_74 (i1100 hI) rfl rfl rfl ?_
        refine J_iload_n dX11_whom_326 rfl 1 rfl ?_
        refine J_iale (x := v 1135 q) dX11_whom_327 (i1135 hI) rfl (ix_in (j := q) rfl (by omega) (by omega)) ((congrArg _ (ix_cl (j := q) rfl (by omega))).trans rfl) ?_
        refine J_if_ne (tgt := 339) dX11_whom_328 (by decide) (fun c4 => ?_) (fun c4 => ?_)
        · refine J_iconst (x := 1) dX11_whom_339 (by decide) ?_
          exact J_zret dX11_whom_340 rfl (by decide) ⟨_, rfl, rfl, by rw [f_wh_s, if_pos c1, if_pos c3, if_neg c4], by rw [f_wh_s, if_pos c1, if_pos c3, if_neg c4]⟩
        · refine J_aload_n dX11_whom_331 rfl 0 rfl ?_
          refine J_getr (ci := 11) (j := 34) (t := 1135) dX11_whom_332 fl_X11_74 (i1100 hI) rfl rfl rfl ?_
          refine J_iload_n dX11_whom_335 rfl 1 rfl ?_
          refine J_bipush (x := 15) dX11_whom_336 (by decide) ?_
          refine J_iase (j := q) dX11_whom_338 (i1135 hI) rfl (ix_in (j := q) rfl (by omega) (by omega)) (ix_cl (j := q) rfl (by omega)) ?_
          refine J_iconst (x := 1) dX11_whom_339 (by decide) ?_
          exact J_zret dX11_whom_340 rfl (by decide) ⟨_, rfl, rfl, by rw [f_wh_s, if_pos c1, if_pos c3, if_pos c4], by rw [f_wh_s, if_pos c1, if_pos c3, if_pos c4]⟩
      · refine J_aload_n dX11_whom_67 rfl 0 rfl ?_
        refine J_gete (ci := 11) (j := 28) (x := v 1100 28) dX11_whom_68 fl_X11_158 (i1100 hI) rfl rfl rfl ?_
        refine J_bipush (x := 12) dX11_whom_71 (by decide) ?_
        refine J_icmp_gt (tgt := 322) dX11_whom_73 (by decide) (fun c5 => ?_) (fun c5 => ?_)
        · refine J_aload_n dX11_whom_322 rfl 0 rfl ?_
          refine J_getr (ci := 11) (j := 34) (t := 1135) dX11_whom_323 fl_X11_74 (i1100 hI) rfl rfl rfl ?_
          refine J_iload_n dX11_whom_326 rfl 1 rfl ?_
          refine J_iale (x := v 1135 q) dX11_whom_327 (i1135 hI) rfl (ix_in (j := q) rfl (by omega) (by omega)) ((congrArg _ (ix_cl (j := q) rfl (by omega))).trans rfl) ?_
          refine J_if_ne (tgt := 339) dX11_whom_328 (by decide) (fun c6 => ?_) (fun c6 => ?_)
          · refine J_iconst (x := 1) dX11_whom_339 (by decide) ?_
            exact J_zret dX11_whom_340 rfl (by decide) ⟨_, rfl, rfl, by rw [f_wh_s, if_pos c1, if_neg c3, if_pos c5, if_neg c6], by rw [f_wh_s, if_pos c1, if_neg c3, if_pos c5, if_neg c6]⟩
          · refine J_aload_n dX11_whom_331 rfl 0 rfl ?_
            refine J_getr (ci := 11) (j := 34) (t := 1135) dX11_whom_332 fl_X11_74 (i1100 hI) rfl rfl rfl ?_
            refine J_iload_n dX11_whom_335 rfl 1 rfl ?_
            refine J_bipush (x := 15) dX11_whom_336 (by decide) ?_
            refine J_iase (j := q) dX11_whom_338 (i1135 hI) rfl (ix_in (j := q) rfl (by omega) (by omega)) (ix_cl (j := q) rfl (by omega)) ?_
            refine J_iconst (x := 1) dX11_whom_339 (by decide) ?_
            exact J_zret dX11_whom_340 rfl (by decide) ⟨_, rfl, rfl, by rw [f_wh_s, if_pos c1, if_neg c3, if_pos c5, if_pos c6], by rw [f_wh_s, if_pos c1, if_neg c3, if_pos c5, if_pos c6]⟩
        · refine J_aload_n dX11_whom_76 rfl 0 rfl ?_
          refine J_gete (ci := 11) (j := 28) (x := v 1100 28) dX11_whom_77 fl_X11_158 (i1100 hI) rfl rfl rfl ?_
          refine J_istore (lv' := [(4, .int (v 1100 28)), (0, .ref 1100), (1, .int (nI q)), (2, .int ha), (3, .int hb)]) dX11_whom_80 (by decide) rfl ?_
          refine J_iload dX11_whom_82 0 rfl ?_
          refine J_bipush (x := 8) dX11_whom_84 (by decide) ?_
          refine J_icmp_ne (tgt := 93) dX11_whom_86 (by decide) (fun c7 => ?_) (fun c7 => ?_)
          · refine J_iload dX11_whom_93 0 rfl ?_
            refine J_bipush (x := 9) dX11_whom_95 (by decide) ?_
            refine J_icmp_ne (tgt := 117) dX11_whom_97 (by decide) (fun c8 => ?_) (fun c8 => ?_)
            · refine J_iload dX11_whom_117 0 rfl ?_
              refine J_bipush (x := 10) dX11_whom_119 (by decide) ?_
              refine J_icmp_ne (tgt := 128) dX11_whom_121 (by decide) (fun c9 => ?_) (fun c9 => ?_)
              · refine J_aload_n dX11_whom_128 rfl 1 rfl ?_
                refine J_getr (ci := 11) (j := 37) (t := 1138) dX11_whom_129 fl_X11_83 (i1100 hI) rfl rfl rfl ?_
                refine J_iload_n dX11_whom_132 rfl 2 rfl ?_
                refine J_iale (x := v 1138 q) dX11_whom_133 (i1138 hI) rfl (ix_in (j := q) rfl (by omega) (by omega)) ((congrArg _ (ix_cl (j := q) rfl (by omega))).trans rfl) ?_
                refine J_if_le (tgt := 141) dX11_whom_134 (by decide) (fun c10 => ?_) (fun c10 => ?_)
                · refine J_iconst (x := 0) dX11_whom_141 (by decide) ?_
                  refine J_istore (lv' := [(5, .int 0), (4, .int (v 1100 28)), (0, .ref 1100), (1, .int (nI q)), (2, .int ha), (3, .int hb)]) dX11_whom_142 (by decide) rfl ?_
                  refine J_iload dX11_whom_144 0 rfl ?_
                  refine J_if_eq (tgt := 155) dX11_whom_146 (by decide) (fun c11 => ?_) (fun c11 => absurd (by decide) c11)
                  refine J_aload_n dX11_whom_155 rfl 2 rfl ?_
                  refine J_eVN (z := mX11_take) (As := []) (rest := []) (ci := 11) (w := (f_tok E v)) dX11_whom_156 ml_X11_180 ok_X11_take iv_X11_take (by decide) (i1100 hI) rfl rfl rfl rfl (Nat.le_of_ble_eq_true rfl) (k2_take hI v u E (h)) ?_
                  refine J_iload dX11_whom_159 1 rfl ?_
                  refine J_bipush (x := 8) dX11_whom_161 (by decide) ?_
                  refine J_icmp_eq (tgt := 173) dX11_whom_163 (by decide) (fun c12 => absurd c12 c7) (fun c12 => ?_)
                  refine J_iload dX11_whom_166 1 rfl ?_
                  refine J_bipush (x := 10) dX11_whom_168 (by decide) ?_
                  refine J_icmp_ne (tgt := 284) dX11_whom_170 (by decide) (fun c13 => ?_) (fun c13 => absurd c13 c9)
                  refine J_iload dX11_whom_284 1 rfl ?_
                  refine J_bipush (x := 9) dX11_whom_286 (by decide) ?_
                  refine J_icmp_ne (tgt := 301) dX11_whom_288 (by decide) (fun c14 => ?_) (fun c14 => absurd c14 c8)
                  refine J_aload_n dX11_whom_301 rfl 2 rfl ?_
                  refine J_getr (ci := 11) (j := 37) (t := 1138) dX11_whom_302 fl_X11_83 (i1100 hI) rfl rfl rfl ?_
                  refine J_iload_n dX11_whom_305 rfl 3 rfl ?_
                  refine J_iload dX11_whom_306 1 rfl ?_
                  refine J_bipush (x := 11) dX11_whom_308 (by decide) ?_
                  refine J_icmp_ne (tgt := 317) dX11_whom_310 (by decide) (fun c15 => ?_) (fun c15 => ?_)
                  · refine J_iconst (x := 2) dX11_whom_317 (by decide) ?_
                    refine J_iase (j := q) dX11_whom_318 (i1138 hI) rfl (ix_in (j := q) rfl (by omega) (by omega)) (ix_cl (j := q) rfl (by omega)) ?_
                    refine J_goto (tgt := 50) dX11_whom_319 (by decide) ?_
                    refine J_lv [2, 3, 4, 5] rfl ?_
                    have a1 : adv v (up2 (f_tok E v) 1138 q 2) := (adv_up (k := 1138) (j := q) (x := 2) (adv.tr (Nat.le_refl _) (tok_adv (h))) (by omega))
                    have a2 := nd_next (E := E) hk1 a1 (nx_le ((f_tok_ok (h)).up (k := 1138) (j := q) (x := 2) (by omega) (by omega))).1
                    rw [f_wh_s, if_pos c1, if_neg c3, if_neg c5, if_neg c7, if_neg c8, if_neg c9, if_pos c10, if_neg c15]
                    exact ih (up2 (f_tok E v) 1138 q 2) ha hb ((f_tok_ok (h)).up (k := 1138) (j := q) (x := 2) (by omega) (by omega)) (by omega)
                  · refine J_iconst (x := 1) dX11_whom_313 (by decide) ?_
                    refine J_goto (tgt := 318) dX11_whom_314 (by decide) ?_
                    refine J_iase (j := q) dX11_whom_318 (i1138 hI) rfl (ix_in (j := q) rfl (by omega) (by omega)) (ix_cl (j := q) rfl (by omega)) ?_
                    refine J_goto (tgt := 50) dX11_whom_319 (by decide) ?_
                    refine J_lv [2, 3, 4, 5] rfl ?_
                    have a1 : adv v (up2 (f_tok E v) 1138 q 1) := (adv_up (k := 1138) (j := q) (x := 1) (adv.tr (Nat.le_refl _) (tok_adv (h))) (by omega))
                    have a2 := nd_next (E := E) hk1 a1 (nx_le ((f_tok_ok (h)).up (k := 1138) (j := q) (x := 1) (by omega) (by omega))).1
                    rw [f_wh_s, if_pos c1, if_neg c3, if_neg c5, if_neg c7, if_neg c8, if_neg c9, if_pos c10, if_pos c15]
                    exact ih (up2 (f_tok E v) 1138 q 1) ha hb ((f_tok_ok (h)).up (k := 1138) (j := q) (x := 1) (by omega) (by omega)) (by omega)
                · refine J_iconst (x := 1) dX11_whom_137 (by decide) ?_
                  refine J_goto (tgt := 142) dX11_whom_138 (by decide) ?_
                  refine J_istore (lv' := [(5, .int 1), (4, .int (v 1100 28)), (0, .ref 1100), (1, .int (nI q)), (2, .int ha), (3, .int hb)]) dX11_whom_142 (by decide) rfl ?_
                  refine J_iload dX11_whom_144 0 rfl ?_
                  refine J_if_eq (tgt := 155) dX11_whom_146 (by decide) (fun c16 => absurd c16 (by decide)) (fun c16 => ?_)
                  refine J_aload_n dX11_whom_149 rfl 2 rfl ?_
                  refine J_iconst (x := 3) dX11_whom_150 (by decide) ?_
                  refine J_eVX (z := mX11_wrong) (As := [.int 3]) (rest := []) (ci := 11) (x := 0) (w := (f_X11_wrong v 3).2) dX11_whom_151 ml_X11_164 ok_X11_wrong iv_X11_wrong (by decide) (i1100 hI) rfl rfl rfl rfl (Nat.le_of_ble_eq_true rfl) (k_X11_wrong hI v u 3) ?_
                  exact J_zret dX11_whom_154 rfl (by decide) ⟨_, rfl, rfl, by rw [f_wh_s, if_pos c1, if_neg c3, if_neg c5, if_neg c7, if_neg c8, if_neg c9, if_neg c10], by rw [f_wh_s, if_pos c1, if_neg c3, if_neg c5, if_neg c7, if_neg c8, if_neg c9, if_neg c10]⟩
              · refine J_iload_n dX11_whom_124 rfl 4 rfl ?_
                refine J_goto (tgt := 142) dX11_whom_125 (by decide) ?_
                refine J_istore (lv' := [(5, .int hb), (4, .int (v 1100 28)), (0, .ref 1100), (1, .int (nI q)), (2, .int ha), (3, .int hb)]) dX11_whom_142 (by decide) rfl ?_
                refine J_iload dX11_whom_144 0 rfl ?_
                refine J_if_eq (tgt := 155) dX11_whom_146 (by decide) (fun c17 => ?_) (fun c17 => ?_)
                · refine J_aload_n dX11_whom_155 rfl 2 rfl ?_
                  refine J_eVN (z := mX11_take) (As := []) (rest := []) (ci := 11) (w := (f_tok E v)) dX11_whom_156 ml_X11_180 ok_X11_take iv_X11_take (by decide) (i1100 hI) rfl rfl rfl rfl (Nat.le_of_ble_eq_true rfl) (k2_take hI v u E (h)) ?_
                  refine J_iload dX11_whom_159 1 rfl ?_
                  refine J_bipush (x := 8) dX11_whom_161 (by decide) ?_
                  refine J_icmp_eq (tgt := 173) dX11_whom_163 (by decide) (fun c18 => absurd c18 c7) (fun c18 => ?_)
                  refine J_iload dX11_whom_166 1 rfl ?_
                  refine J_bipush (x := 10) dX11_whom_168 (by decide) ?_
                  refine J_icmp_ne (tgt := 284) dX11_whom_170 (by decide) (fun c19 => absurd c9 c19) (fun c19 => ?_)
                  refine J_aload_n dX11_whom_173 rfl 2 rfl ?_
                  refine J_iload dX11_whom_174 1 rfl ?_
                  refine J_bipush (x := 8) dX11_whom_176 (by decide) ?_
                  refine J_icmp_ne (tgt := 187) dX11_whom_178 (by decide) (fun c20 => ?_) (fun c20 => absurd c20 c7)
                  refine J_bipush (x := 79) dX11_whom_187 (by decide) ?_
                  refine J_eVX (z := mX11_span) (As := [.int 79]) (rest := []) (ci := 11) (x := (f_span E (f_tok E v) 79).1) (w := (f_span E (f_tok E v) 79).2) dX11_whom_189 ml_X11_189 ok_X11_span iv_X11_span (by decide) (i1100 hI) rfl rfl rfl rfl (Nat.le_of_ble_eq_true rfl) (k_f_span hI (f_tok E v) u E 79 (f_tok_ok (h))) ?_
                  refine J_if_ne (tgt := 197) dX11_whom_192 (by decide) (fun c21 => ?_) (fun c21 => ?_)
                  · refine J_iload_n dX11_whom_197 rfl 4 rfl ?_
                    refine J_if_ne (tgt := 208) dX11_whom_198 (by decide) (fun c22 => ?_) (fun c22 => ?_)
                    · refine J_iconst (x := 1) dX11_whom_208 (by decide) ?_
                      refine J_goto (tgt := 213) dX11_whom_209 (by decide) ?_
                      refine J_istore_n (lv' := [(2, .int 1), (5, .int hb), (4, .int (v 1100 28)), (0, .ref 1100), (1, .int (nI q)), (3, .int hb)]) dX11_whom_213 rfl (by decide) rfl ?_
                      refine J_iload_n dX11_whom_214 rfl 5 rfl ?_
                      refine J_if_ne (tgt := 225) dX11_whom_215 (by decide) (fun c23 => absurd c17 c23) (fun c23 => ?_)
                      refine J_iload dX11_whom_218 2 rfl ?_
                      refine J_bipush (x := 10) dX11_whom_220 (by decide) ?_
                      refine J_icmp_ne (tgt := 229) dX11_whom_222 (by decide) (fun c24 => absurd c9 c24) (fun c24 => ?_)
                      refine J_iconst (x := 1) dX11_whom_225 (by decide) ?_
                      refine J_goto (tgt := 230) dX11_whom_226 (by decide) ?_
                      refine J_istore_n (lv' := [(3, .int 1), (2, .int 1), (5, .int hb), (4, .int (v 1100 28)), (0, .ref 1100), (1, .int (nI q))]) dX11_whom_230 rfl (by decide) rfl ?_
                      refine J_iload dX11_whom_231 3 rfl ?_
                      refine J_bipush (x := 8) dX11_whom_233 (by decide) ?_
                      refine J_icmp_ne (tgt := 261) dX11_whom_235 (by decide) (fun c25 => ?_) (fun c25 => absurd c25 c7)
                      refine J_aload_n dX11_whom_261 rfl 4 rfl ?_
                      refine J_getr (ci := 11) (j := 35) (t := 1136) dX11_whom_262 fl_X11_77 (i1100 hI) rfl rfl rfl ?_
                      refine J_iload_n dX11_whom_265 rfl 5 rfl ?_
                      refine J_aload_n dX11_whom_266 rfl 4 rfl ?_
                      refine J_gete (ci := 11) (j := 42) (x := ((f_span E (f_tok E v) 79).2) 1100 42) dX11_whom_267 fl_X11_177 (i1100 hI) rfl rfl rfl ?_
                      refine J_iase (j := q) dX11_whom_270 (i1136 hI) rfl (ix_in (j := q) rfl (by omega) (by omega)) (ix_cl (j := q) rfl (by omega)) ?_
                      refine J_aload_n dX11_whom_271 rfl 4 rfl ?_
                      refine J_getr (ci := 11) (j := 36) (t := 1137) dX11_whom_272 fl_X11_80 (i1100 hI) rfl rfl rfl ?_
                      refine J_iload_n dX11_whom_275 rfl 5 rfl ?_
                      refine J_aload_n dX11_whom_276 rfl 4 rfl ?_
                      refine J_gete (ci := 11) (j := 43) (x := ((f_span E (f_tok E v) 79).2) 1100 43) dX11_whom_277 fl_X11_186 (i1100 hI) rfl rfl rfl ?_
                      refine J_iase (j := q) dX11_whom_280 (i1137 hI) rfl (ix_in (j := q) rfl (by omega) (by omega)) (ix_cl (j := q) rfl (by omega)) ?_
                      refine J_goto (tgt := 319) dX11_whom_281 (by decide) ?_
                      refine J_goto (tgt := 50) dX11_whom_319 (by decide) ?_
                      refine J_lv [4, 5, 1, 0] rfl ?_
                      have a1 : adv v (up2 (up2 ((f_span E (f_tok E v) 79).2) 1136 q (((f_span E (f_tok E v) 79).2) 1100 42)) 1137 q (((f_span E (f_tok E v) 79).2) 1100 43)) := (adv_up (k := 1137) (j := q) (x := ((f_span E (f_tok E v) 79).2) 1100 43) (adv_up (k := 1136) (j := q) (x := ((f_span E (f_tok E v) 79).2) 1100 42) (adv.tr (Nat.le_trans (Nat.le_refl _) (tok_adv (h)).1) (span_adv (f_tok_ok (h)) c21)) (by omega)) (by omega))
                      have a2 := nd_next (E := E) hk1 a1 (nx_le (((f_span_ok (f_tok_ok (h))).up (k := 1136) (j := q) (x := ((f_span E (f_tok E v) 79).2) 1100 42) (by omega) (by omega)).up (k := 1137) (j := q) (x := ((f_span E (f_tok E v) 79).2) 1100 43) (by omega) (by omega))).1
                      rw [f_wh_s, if_pos c1, if_neg c3, if_neg c5, if_neg c7, if_neg c8, if_pos c9, if_pos c17, if_neg c21, if_neg c22]
                      exact ih (up2 (up2 ((f_span E (f_tok E v) 79).2) 1136 q (((f_span E (f_tok E v) 79).2) 1100 42)) 1137 q (((f_span E (f_tok E v) 79).2) 1100 43)) 1 1 (((f_span_ok (f_tok_ok (h))).up (k := 1136) (j := q) (x := ((f_span E (f_tok E v) 79).2) 1100 42) (by omega) (by omega)).up (k := 1137) (j := q) (x := ((f_span E (f_tok E v) 79).2) 1100 43) (by omega) (by omega)) (by omega)
                    · refine J_iload dX11_whom_201 1 rfl ?_
                      refine J_bipush (x := 8) dX11_whom_203 (by decide) ?_
                      refine J_icmp_ne (tgt := 212) dX11_whom_205 (by decide) (fun c26 => ?_) (fun c26 => absurd c26 c7)
                      refine J_iconst (x := 0) dX11_whom_212 (by decide) ?_
                      refine J_istore_n (lv' := [(2, .int 0), (5, .int hb), (4, .int (v 1100 28)), (0, .ref 1100), (1, .int (nI q)), (3, .int hb)]) dX11_whom_213 rfl (by decide) rfl ?_
                      refine J_iload_n dX11_whom_214 rfl 5 rfl ?_
                      refine J_if_ne (tgt := 225) dX11_whom_215 (by decide) (fun c27 => absurd c17 c27) (fun c27 => ?_)
                      refine J_iload dX11_whom_218 2 rfl ?_
                      refine J_bipush (x := 10) dX11_whom_220 (by decide) ?_
                      refine J_icmp_ne (tgt := 229) dX11_whom_222 (by decide) (fun c28 => absurd c9 c28) (fun c28 => ?_)
                      refine J_iconst (x := 1) dX11_whom_225 (by decide) ?_
                      refine J_goto (tgt := 230) dX11_whom_226 (by decide) ?_
                      refine J_istore_n (lv' := [(3, .int 1), (2, .int 0), (5, .int hb), (4, .int (v 1100 28)), (0, .ref 1100), (1, .int (nI q))]) dX11_whom_230 rfl (by decide) rfl ?_
                      refine J_iload dX11_whom_231 3 rfl ?_
                      refine J_bipush (x := 8) dX11_whom_233 (by decide) ?_
                      refine J_icmp_ne (tgt := 261) dX11_whom_235 (by decide) (fun c29 => ?_) (fun c29 => absurd c29 c7)
                      refine J_aload_n dX11_whom_261 rfl 4 rfl ?_
                      refine J_getr (ci := 11) (j := 35) (t := 1136) dX11_whom_262 fl_X11_77 (i1100 hI) rfl rfl rfl ?_
                      refine J_iload_n dX11_whom_265 rfl 5 rfl ?_
                      refine J_aload_n dX11_whom_266 rfl 4 rfl ?_
                      refine J_gete (ci := 11) (j := 42) (x := ((f_span E (f_tok E v) 79).2) 1100 42) dX11_whom_267 fl_X11_177 (i1100 hI) rfl rfl rfl ?_
                      refine J_iase (j := q) dX11_whom_270 (i1136 hI) rfl (ix_in (j := q) rfl (by omega) (by omega)) (ix_cl (j := q) rfl (by omega)) ?_
                      refine J_aload_n dX11_whom_271 rfl 4 rfl ?_
                      refine J_getr (ci := 11) (j := 36) (t := 1137) dX11_whom_272 fl_X11_80 (i1100 hI) rfl rfl rfl ?_
                      refine J_iload_n dX11_whom_275 rfl 5 rfl ?_
                      refine J_aload_n dX11_whom_276 rfl 4 rfl ?_
                      refine J_gete (ci := 11) (j := 43) (x := ((f_span E (f_tok E v) 79).2) 1100 43) dX11_whom_277 fl_X11_186 (i1100 hI) rfl rfl rfl ?_
                      refine J_iase (j := q) dX11_whom_280 (i1137 hI) rfl (ix_in (j := q) rfl (by omega) (by omega)) (ix_cl (j := q) rfl (by omega)) ?_
                      refine J_goto (tgt := 319) dX11_whom_281 (by decide) ?_
                      refine J_goto (tgt := 50) dX11_whom_319 (by decide) ?_
                      refine J_lv [4, 5, 1, 0] rfl ?_
                      have a1 : adv v (up2 (up2 ((f_span E (f_tok E v) 79).2) 1136 q (((f_span E (f_tok E v) 79).2) 1100 42)) 1137 q (((f_span E (f_tok E v) 79).2) 1100 43)) := (adv_up (k := 1137) (j := q) (x := ((f_span E (f_tok E v) 79).2) 1100 43) (adv_up (k := 1136) (j := q) (x := ((f_span E (f_tok E v) 79).2) 1100 42) (adv.tr (Nat.le_trans (Nat.le_refl _) (tok_adv (h)).1) (span_adv (f_tok_ok (h)) c21)) (by omega)) (by omega))
                      have a2 := nd_next (E := E) hk1 a1 (nx_le (((f_span_ok (f_tok_ok (h))).up (k := 1136) (j := q) (x := ((f_span E (f_tok E v) 79).2) 1100 42) (by omega) (by omega)).up (k := 1137) (j := q) (x := ((f_span E (f_tok E v) 79).2) 1100 43) (by omega) (by omega))).1
                      rw [f_wh_s, if_pos c1, if_neg c3, if_neg c5, if_neg c7, if_neg c8, if_pos c9, if_pos c17, if_neg c21, if_pos c22]
                      exact ih (up2 (up2 ((f_span E (f_tok E v) 79).2) 1136 q (((f_span E (f_tok E v) 79).2) 1100 42)) 1137 q (((f_span E (f_tok E v) 79).2) 1100 43)) 0 1 (((f_span_ok (f_tok_ok (h))).up (k := 1136) (j := q) (x := ((f_span E (f_tok E v) 79).2) 1100 42) (by omega) (by omega)).up (k := 1137) (j := q) (x := ((f_span E (f_tok E v) 79).2) 1100 43) (by omega) (by omega)) (by omega)
                  · refine J_iconst (x := 0) dX11_whom_195 (by decide) ?_
                    exact J_zret dX11_whom_196 rfl (by decide) ⟨_, rfl, rfl, by rw [f_wh_s, if_pos c1, if_neg c3, if_neg c5, if_neg c7, if_neg c8, if_pos c9, if_pos c17, if_pos c21], by rw [f_wh_s, if_pos c1, if_neg c3, if_neg c5, if_neg c7, if_neg c8, if_pos c9, if_pos c17, if_pos c21]⟩
                · refine J_aload_n dX11_whom_149 rfl 2 rfl ?_
                  refine J_iconst (x := 3) dX11_whom_150 (by decide) ?_
                  refine J_eVX (z := mX11_wrong) (As := [.int 3]) (rest := []) (ci := 11) (x := 0) (w := (f_X11_wrong v 3).2) dX11_whom_151 ml_X11_164 ok_X11_wrong iv_X11_wrong (by decide) (i1100 hI) rfl rfl rfl rfl (Nat.le_of_ble_eq_true rfl) (k_X11_wrong hI v u 3) ?_
                  exact J_zret dX11_whom_154 rfl (by decide) ⟨_, rfl, rfl, by rw [f_wh_s, if_pos c1, if_neg c3, if_neg c5, if_neg c7, if_neg c8, if_pos c9, if_neg c17], by rw [f_wh_s, if_pos c1, if_neg c3, if_neg c5, if_neg c7, if_neg c8, if_pos c9, if_neg c17]⟩
            · refine J_aload_n dX11_whom_100 rfl 1 rfl ?_
              refine J_getr (ci := 11) (j := 34) (t := 1135) dX11_whom_101 fl_X11_74 (i1100 hI) rfl rfl rfl ?_
              refine J_iload_n dX11_whom_104 rfl 2 rfl ?_
              refine J_iale (x := v 1135 q) dX11_whom_105 (i1135 hI) rfl (ix_in (j := q) rfl (by omega) (by omega)) ((congrArg _ (ix_cl (j := q) rfl (by omega))).trans rfl) ?_
              refine J_if_le (tgt := 113) dX11_whom_106 (by decide) (fun c30 => ?_) (fun c30 => ?_)
              · refine J_iconst (x := 0) dX11_whom_113 (by decide) ?_
                refine J_goto (tgt := 142) dX11_whom_114 (by decide) ?_
                refine J_istore (lv' := [(5, .int 0), (4, .int (v 1100 28)), (0, .ref 1100), (1, .int (nI q)), (2, .int ha), (3, .int hb)]) dX11_whom_142 (by decide) rfl ?_
                refine J_iload dX11_whom_144 0 rfl ?_
                refine J_if_eq (tgt := 155) dX11_whom_146 (by decide) (fun c31 => ?_) (fun c31 => absurd (by decide) c31)
                refine J_aload_n dX11_whom_155 rfl 2 rfl ?_
                refine J_eVN (z := mX11_take) (As := []) (rest := []) (ci := 11) (w := (f_tok E v)) dX11_whom_156 ml_X11_180 ok_X11_take iv_X11_take (by decide) (i1100 hI) rfl rfl rfl rfl (Nat.le_of_ble_eq_true rfl) (k2_take hI v u E (h)) ?_
                refine J_iload dX11_whom_159 1 rfl ?_
                refine J_bipush (x := 8) dX11_whom_161 (by decide) ?_
                refine J_icmp_eq (tgt := 173) dX11_whom_163 (by decide) (fun c32 => absurd c32 c7) (fun c32 => ?_)
                refine J_iload dX11_whom_166 1 rfl ?_
                refine J_bipush (x := 10) dX11_whom_168 (by decide) ?_
                refine J_icmp_ne (tgt := 284) dX11_whom_170 (by decide) (fun c33 => ?_) (fun c33 => ?_)
                · refine J_iload dX11_whom_284 1 rfl ?_
                  refine J_bipush (x := 9) dX11_whom_286 (by decide) ?_
                  refine J_icmp_ne (tgt := 301) dX11_whom_288 (by decide) (fun c34 => absurd c8 c34) (fun c34 => ?_)
                  refine J_aload_n dX11_whom_291 rfl 2 rfl ?_
                  refine J_iload_n dX11_whom_292 rfl 3 rfl ?_
                  refine J_eVX (z := mX11_classRow) (As := [.int (nI q)]) (rest := []) (ci := 11) (x := (f_cr E q (E + 1) (f_tok E v)).1) (w := (f_cr E q (E + 1) (f_tok E v)).2) dX11_whom_293 ml_X11_192 ok_X11_classRow iv_X11_classRow (by decide) (i1100 hI) rfl rfl rfl rfl (Nat.le_of_ble_eq_true rfl) (k_f_cr hI (f_tok E v) u E q hq (f_tok_ok (h))) ?_
                  refine J_if_ne (tgt := 319) dX11_whom_296 (by decide) (fun c35 => ?_) (fun c35 => ?_)
                  · refine J_goto (tgt := 50) dX11_whom_319 (by decide) ?_
                    refine J_lv [2, 3, 4, 5] rfl ?_
                    have a1 : adv v ((f_cr E q (E + 1) (f_tok E v)).2) := (adv.tr (Nat.le_trans (Nat.le_refl _) (tok_adv (h)).1) (cr_adv _ (f_tok_ok (h)) c35))
                    have a2 := nd_next (E := E) hk1 a1 (nx_le (f_cr_ok _ (f_tok_ok (h)))).1
                    rw [f_wh_s, if_pos c1, if_neg c3, if_neg c5, if_neg c7, if_pos c8, if_pos c30, if_neg c33, if_neg c35]
                    exact ih ((f_cr E q (E + 1) (f_tok E v)).2) ha hb (f_cr_ok _ (f_tok_ok (h))) (by omega)
                  · refine J_iconst (x := 0) dX11_whom_299 (by decide) ?_
                    exact J_zret dX11_whom_300 rfl (by decide) ⟨_, rfl, rfl, by rw [f_wh_s, if_pos c1, if_neg c3, if_neg c5, if_neg c7, if_pos c8, if_pos c30, if_neg c33, if_pos c35], by rw [f_wh_s, if_pos c1, if_neg c3, if_neg c5, if_neg c7, if_pos c8, if_pos c30, if_neg c33, if_pos c35]⟩
                · refine J_aload_n dX11_whom_173 rfl 2 rfl ?_
                  refine J_iload dX11_whom_174 1 rfl ?_
                  refine J_bipush (x := 8) dX11_whom_176 (by decide) ?_
                  refine J_icmp_ne (tgt := 187) dX11_whom_178 (by decide) (fun c36 => ?_) (fun c36 => absurd c36 c7)
                  refine J_bipush (x := 79) dX11_whom_187 (by decide) ?_
                  refine J_eVX (z := mX11_span) (As := [.int 79]) (rest := []) (ci := 11) (x := (f_span E (f_tok E v) 79).1) (w := (f_span E (f_tok E v) 79).2) dX11_whom_189 ml_X11_189 ok_X11_span iv_X11_span (by decide) (i1100 hI) rfl rfl rfl rfl (Nat.le_of_ble_eq_true rfl) (k_f_span hI (f_tok E v) u E 79 (f_tok_ok (h))) ?_
                  refine J_if_ne (tgt := 197) dX11_whom_192 (by decide) (fun c37 => ?_) (fun c37 => ?_)
                  · refine J_iload_n dX11_whom_197 rfl 4 rfl ?_
                    refine J_if_ne (tgt := 208) dX11_whom_198 (by decide) (fun c38 => ?_) (fun c38 => ?_)
                    · refine J_iconst (x := 1) dX11_whom_208 (by decide) ?_
                      refine J_goto (tgt := 213) dX11_whom_209 (by decide) ?_
                      refine J_istore_n (lv' := [(2, .int 1), (5, .int 0), (4, .int (v 1100 28)), (0, .ref 1100), (1, .int (nI q)), (3, .int hb)]) dX11_whom_213 rfl (by decide) rfl ?_
                      refine J_iload_n dX11_whom_214 rfl 5 rfl ?_
                      refine J_if_ne (tgt := 225) dX11_whom_215 (by decide) (fun c39 => ?_) (fun c39 => ?_)
                      · refine J_iconst (x := 1) dX11_whom_225 (by decide) ?_
                        refine J_goto (tgt := 230) dX11_whom_226 (by decide) ?_
                        refine J_istore_n (lv' := [(3, .int 1), (2, .int 1), (5, .int 0), (4, .int (v 1100 28)), (0, .ref 1100), (1, .int (nI q))]) dX11_whom_230 rfl (by decide) rfl ?_
                        refine J_iload dX11_whom_231 3 rfl ?_
                        refine J_bipush (x := 8) dX11_whom_233 (by decide) ?_
                        refine J_icmp_ne (tgt := 261) dX11_whom_235 (by decide) (fun c40 => ?_) (fun c40 => absurd c40 c7)
                        refine J_aload_n dX11_whom_261 rfl 4 rfl ?_
                        refine J_getr (ci := 11) (j := 35) (t := 1136) dX11_whom_262 fl_X11_77 (i1100 hI) rfl rfl rfl ?_
                        refine J_iload_n dX11_whom_265 rfl 5 rfl ?_
                        refine J_aload_n dX11_whom_266 rfl 4 rfl ?_
                        refine J_gete (ci := 11) (j := 42) (x := ((f_span E (f_tok E v) 79).2) 1100 42) dX11_whom_267 fl_X11_177 (i1100 hI) rfl rfl rfl ?_
                        refine J_iase (j := q) dX11_whom_270 (i1136 hI) rfl (ix_in (j := q) rfl (by omega) (by omega)) (ix_cl (j := q) rfl (by omega)) ?_
                        refine J_aload_n dX11_whom_271 rfl 4 rfl ?_
                        refine J_getr (ci := 11) (j := 36) (t := 1137) dX11_whom_272 fl_X11_80 (i1100 hI) rfl rfl rfl ?_
                        refine J_iload_n dX11_whom_275 rfl 5 rfl ?_
                        refine J_aload_n dX11_whom_276 rfl 4 rfl ?_
                        refine J_gete (ci := 11) (j := 43) (x := ((f_span E (f_tok E v) 79).2) 1100 43) dX11_whom_277 fl_X11_186 (i1100 hI) rfl rfl rfl ?_
                        refine J_iase (j := q) dX11_whom_280 (i1137 hI) rfl (ix_in (j := q) rfl (by omega) (by omega)) (ix_cl (j := q) rfl (by omega)) ?_
                        refine J_goto (tgt := 319) dX11_whom_281 (by decide) ?_
                        refine J_goto (tgt := 50) dX11_whom_319 (by decide) ?_
                        refine J_lv [4, 5, 1, 0] rfl ?_
                        have a1 : adv v (up2 (up2 ((f_span E (f_tok E v) 79).2) 1136 q (((f_span E (f_tok E v) 79).2) 1100 42)) 1137 q (((f_span E (f_tok E v) 79).2) 1100 43)) := (adv_up (k := 1137) (j := q) (x := ((f_span E (f_tok E v) 79).2) 1100 43) (adv_up (k := 1136) (j := q) (x := ((f_span E (f_tok E v) 79).2) 1100 42) (adv.tr (Nat.le_trans (Nat.le_refl _) (tok_adv (h)).1) (span_adv (f_tok_ok (h)) c37)) (by omega)) (by omega))
                        have a2 := nd_next (E := E) hk1 a1 (nx_le (((f_span_ok (f_tok_ok (h))).up (k := 1136) (j := q) (x := ((f_span E (f_tok E v) 79).2) 1100 42) (by omega) (by omega)).up (k := 1137) (j := q) (x := ((f_span E (f_tok E v) 79).2) 1100 43) (by omega) (by omega))).1
                        rw [f_wh_s, if_pos c1, if_neg c3, if_neg c5, if_neg c7, if_pos c8, if_pos c30, if_pos c33, if_neg c37, if_neg c38, if_neg c39]
                        exact ih (up2 (up2 ((f_span E (f_tok E v) 79).2) 1136 q (((f_span E (f_tok E v) 79).2) 1100 42)) 1137 q (((f_span E (f_tok E v) 79).2) 1100 43)) 1 1 (((f_span_ok (f_tok_ok (h))).up (k := 1136) (j := q) (x := ((f_span E (f_tok E v) 79).2) 1100 42) (by omega) (by omega)).up (k := 1137) (j := q) (x := ((f_span E (f_tok E v) 79).2) 1100 43) (by omega) (by omega)) (by omega)
                      · refine J_iload dX11_whom_218 2 rfl ?_
                        refine J_bipush (x := 10) dX11_whom_220 (by decide) ?_
                        refine J_icmp_ne (tgt := 229) dX11_whom_222 (by decide) (fun c41 => absurd c33 c41) (fun c41 => ?_)
                        refine J_iconst (x := 1) dX11_whom_225 (by decide) ?_
                        refine J_goto (tgt := 230) dX11_whom_226 (by decide) ?_
                        refine J_istore_n (lv' := [(3, .int 1), (2, .int 1), (5, .int 0), (4, .int (v 1100 28)), (0, .ref 1100), (1, .int (nI q))]) dX11_whom_230 rfl (by decide) rfl ?_
                        refine J_iload dX11_whom_231 3 rfl ?_
                        refine J_bipush (x := 8) dX11_whom_233 (by decide) ?_
                        refine J_icmp_ne (tgt := 261) dX11_whom_235 (by decide) (fun c42 => ?_) (fun c42 => absurd c42 c7)
                        refine J_aload_n dX11_whom_261 rfl 4 rfl ?_
                        refine J_getr (ci := 11) (j := 35) (t := 1136) dX11_whom_262 fl_X11_77 (i1100 hI) rfl rfl rfl ?_
                        refine J_iload_n dX11_whom_265 rfl 5 rfl ?_
                        refine J_aload_n dX11_whom_266 rfl 4 rfl ?_
                        refine J_gete (ci := 11) (j := 42) (x := ((f_span E (f_tok E v) 79).2) 1100 42) dX11_whom_267 fl_X11_177 (i1100 hI) rfl rfl rfl ?_
                        refine J_iase (j := q) dX11_whom_270 (i1136 hI) rfl (ix_in (j := q) rfl (by omega) (by omega)) (ix_cl (j := q) rfl (by omega)) ?_
                        refine J_aload_n dX11_whom_271 rfl 4 rfl ?_
                        refine J_getr (ci := 11) (j := 36) (t := 1137) dX11_whom_272 fl_X11_80 (i1100 hI) rfl rfl rfl ?_
                        refine J_iload_n dX11_whom_275 rfl 5 rfl ?_
                        refine J_aload_n dX11_whom_276 rfl 4 rfl ?_
                        refine J_gete (ci := 11) (j := 43) (x := ((f_span E (f_tok E v) 79).2) 1100 43) dX11_whom_277 fl_X11_186 (i1100 hI) rfl rfl rfl ?_
                        refine J_iase (j := q) dX11_whom_280 (i1137 hI) rfl (ix_in (j := q) rfl (by omega) (by omega)) (ix_cl (j := q) rfl (by omega)) ?_
                        refine J_goto (tgt := 319) dX11_whom_281 (by decide) ?_
                        refine J_goto (tgt := 50) dX11_whom_319 (by decide) ?_
                        refine J_lv [4, 5, 1, 0] rfl ?_
                        have a1 : adv v (up2 (up2 ((f_span E (f_tok E v) 79).2) 1136 q (((f_span E (f_tok E v) 79).2) 1100 42)) 1137 q (((f_span E (f_tok E v) 79).2) 1100 43)) := (adv_up (k := 1137) (j := q) (x := ((f_span E (f_tok E v) 79).2) 1100 43) (adv_up (k := 1136) (j := q) (x := ((f_span E (f_tok E v) 79).2) 1100 42) (adv.tr (Nat.le_trans (Nat.le_refl _) (tok_adv (h)).1) (span_adv (f_tok_ok (h)) c37)) (by omega)) (by omega))
                        have a2 := nd_next (E := E) hk1 a1 (nx_le (((f_span_ok (f_tok_ok (h))).up (k := 1136) (j := q) (x := ((f_span E (f_tok E v) 79).2) 1100 42) (by omega) (by omega)).up (k := 1137) (j := q) (x := ((f_span E (f_tok E v) 79).2) 1100 43) (by omega) (by omega))).1
                        rw [f_wh_s, if_pos c1, if_neg c3, if_neg c5, if_neg c7, if_pos c8, if_pos c30, if_pos c33, if_neg c37, if_neg c38, if_pos c39]
                        exact ih (up2 (up2 ((f_span E (f_tok E v) 79).2) 1136 q (((f_span E (f_tok E v) 79).2) 1100 42)) 1137 q (((f_span E (f_tok E v) 79).2) 1100 43)) 1 1 (((f_span_ok (f_tok_ok (h))).up (k := 1136) (j := q) (x := ((f_span E (f_tok E v) 79).2) 1100 42) (by omega) (by omega)).up (k := 1137) (j := q) (x := ((f_span E (f_tok E v) 79).2) 1100 43) (by omega) (by omega)) (by omega)
                    · refine J_iload dX11_whom_201 1 rfl ?_
                      refine J_bipush (x := 8) dX11_whom_203 (by decide) ?_
                      refine J_icmp_ne (tgt := 212) dX11_whom_205 (by decide) (fun c43 => ?_) (fun c43 => absurd c43 c7)
                      refine J_iconst (x := 0) dX11_whom_212 (by decide) ?_
                      refine J_istore_n (lv' := [(2, .int 0), (5, .int 0), (4, .int (v 1100 28)), (0, .ref 1100), (1, .int (nI q)), (3, .int hb)]) dX11_whom_213 rfl (by decide) rfl ?_
                      refine J_iload_n dX11_whom_214 rfl 5 rfl ?_
                      refine J_if_ne (tgt := 225) dX11_whom_215 (by decide) (fun c44 => ?_) (fun c44 => ?_)
                      · refine J_iconst (x := 1) dX11_whom_225 (by decide) ?_
                        refine J_goto (tgt := 230) dX11_whom_226 (by decide) ?_
                        refine J_istore_n (lv' := [(3, .int 1), (2, .int 0), (5, .int 0), (4, .int (v 1100 28)), (0, .ref 1100), (1, .int (nI q))]) dX11_whom_230 rfl (by decide) rfl ?_
                        refine J_iload dX11_whom_231 3 rfl ?_
                        refine J_bipush (x := 8) dX11_whom_233 (by decide) ?_
                        refine J_icmp_ne (tgt := 261) dX11_whom_235 (by decide) (fun c45 => ?_) (fun c45 => absurd c45 c7)
                        refine J_aload_n dX11_whom_261 rfl 4 rfl ?_
                        refine J_getr (ci := 11) (j := 35) (t := 1136) dX11_whom_262 fl_X11_77 (i1100 hI) rfl rfl rfl ?_
                        refine J_iload_n dX11_whom_265 rfl 5 rfl ?_
                        refine J_aload_n dX11_whom_266 rfl 4 rfl ?_
                        refine J_gete (ci := 11) (j := 42) (x := ((f_span E (f_tok E v) 79).2) 1100 42) dX11_whom_267 fl_X11_177 (i1100 hI) rfl rfl rfl ?_
                        refine J_iase (j := q) dX11_whom_270 (i1136 hI) rfl (ix_in (j := q) rfl (by omega) (by omega)) (ix_cl (j := q) rfl (by omega)) ?_
                        refine J_aload_n dX11_whom_271 rfl 4 rfl ?_
                        refine J_getr (ci := 11) (j := 36) (t := 1137) dX11_whom_272 fl_X11_80 (i1100 hI) rfl rfl rfl ?_
                        refine J_iload_n dX11_whom_275 rfl 5 rfl ?_
                        refine J_aload_n dX11_whom_276 rfl 4 rfl ?_
                        refine J_gete (ci := 11) (j := 43) (x := ((f_span E (f_tok E v) 79).2) 1100 43) dX11_whom_277 fl_X11_186 (i1100 hI) rfl rfl rfl ?_
                        refine J_iase (j := q) dX11_whom_280 (i1137 hI) rfl (ix_in (j := q) rfl (by omega) (by omega)) (ix_cl (j := q) rfl (by omega)) ?_
                        refine J_goto (tgt := 319) dX11_whom_281 (by decide) ?_
                        refine J_goto (tgt := 50) dX11_whom_319 (by decide) ?_
                        refine J_lv [4, 5, 1, 0] rfl ?_
                        have a1 : adv v (up2 (up2 ((f_span E (f_tok E v) 79).2) 1136 q (((f_span E (f_tok E v) 79).2) 1100 42)) 1137 q (((f_span E (f_tok E v) 79).2) 1100 43)) := (adv_up (k := 1137) (j := q) (x := ((f_span E (f_tok E v) 79).2) 1100 43) (adv_up (k := 1136) (j := q) (x := ((f_span E (f_tok E v) 79).2) 1100 42) (adv.tr (Nat.le_trans (Nat.le_refl _) (tok_adv (h)).1) (span_adv (f_tok_ok (h)) c37)) (by omega)) (by omega))
                        have a2 := nd_next (E := E) hk1 a1 (nx_le (((f_span_ok (f_tok_ok (h))).up (k := 1136) (j := q) (x := ((f_span E (f_tok E v) 79).2) 1100 42) (by omega) (by omega)).up (k := 1137) (j := q) (x := ((f_span E (f_tok E v) 79).2) 1100 43) (by omega) (by omega))).1
                        rw [f_wh_s, if_pos c1, if_neg c3, if_neg c5, if_neg c7, if_pos c8, if_pos c30, if_pos c33, if_neg c37, if_pos c38, if_neg c44]
                        exact ih (up2 (up2 ((f_span E (f_tok E v) 79).2) 1136 q (((f_span E (f_tok E v) 79).2) 1100 42)) 1137 q (((f_span E (f_tok E v) 79).2) 1100 43)) 0 1 (((f_span_ok (f_tok_ok (h))).up (k := 1136) (j := q) (x := ((f_span E (f_tok E v) 79).2) 1100 42) (by omega) (by omega)).up (k := 1137) (j := q) (x := ((f_span E (f_tok E v) 79).2) 1100 43) (by omega) (by omega)) (by omega)
                      · refine J_iload dX11_whom_218 2 rfl ?_
                        refine J_bipush (x := 10) dX11_whom_220 (by decide) ?_
                        refine J_icmp_ne (tgt := 229) dX11_whom_222 (by decide) (fun c46 => absurd c33 c46) (fun c46 => ?_)
                        refine J_iconst (x := 1) dX11_whom_225 (by decide) ?_
                        refine J_goto (tgt := 230) dX11_whom_226 (by decide) ?_
                        refine J_istore_n (lv' := [(3, .int 1), (2, .int 0), (5, .int 0), (4, .int (v 1100 28)), (0, .ref 1100), (1, .int (nI q))]) dX11_whom_230 rfl (by decide) rfl ?_
                        refine J_iload dX11_whom_231 3 rfl ?_
                        refine J_bipush (x := 8) dX11_whom_233 (by decide) ?_
                        refine J_icmp_ne (tgt := 261) dX11_whom_235 (by decide) (fun c47 => ?_) (fun c47 => absurd c47 c7)
                        refine J_aload_n dX11_whom_261 rfl 4 rfl ?_
                        refine J_getr (ci := 11) (j := 35) (t := 1136) dX11_whom_262 fl_X11_77 (i1100 hI) rfl rfl rfl ?_
                        refine J_iload_n dX11_whom_265 rfl 5 rfl ?_
                        refine J_aload_n dX11_whom_266 rfl 4 rfl ?_
                        refine J_gete (ci := 11) (j := 42) (x := ((f_span E (f_tok E v) 79).2) 1100 42) dX11_whom_267 fl_X11_177 (i1100 hI) rfl rfl rfl ?_
                        refine J_iase (j := q) dX11_whom_270 (i1136 hI) rfl (ix_in (j := q) rfl (by omega) (by omega)) (ix_cl (j := q) rfl (by omega)) ?_
                        refine J_aload_n dX11_whom_271 rfl 4 rfl ?_
                        refine J_getr (ci := 11) (j := 36) (t := 1137) dX11_whom_272 fl_X11_80 (i1100 hI) rfl rfl rfl ?_
                        refine J_iload_n dX11_whom_275 rfl 5 rfl ?_
                        refine J_aload_n dX11_whom_276 rfl 4 rfl ?_
                        refine J_gete (ci := 11) (j := 43) (x := ((f_span E (f_tok E v) 79).2) 1100 43) dX11_whom_277 fl_X11_186 (i1100 hI) rfl rfl rfl ?_
                        refine J_iase (j := q) dX11_whom_280 (i1137 hI) rfl (ix_in (j := q) rfl (by omega) (by omega)) (ix_cl (j := q) rfl (by omega)) ?_
                        refine J_goto (tgt := 319) dX11_whom_281 (by decide) ?_
                        refine J_goto (tgt := 50) dX11_whom_319 (by decide) ?_
                        refine J_lv [4, 5, 1, 0] rfl ?_
                        have a1 : adv v (up2 (up2 ((f_span E (f_tok E v) 79).2) 1136 q (((f_span E (f_tok E v) 79).2) 1100 42)) 1137 q (((f_span E (f_tok E v) 79).2) 1100 43)) := (adv_up (k := 1137) (j := q) (x := ((f_span E (f_tok E v) 79).2) 1100 43) (adv_up (k := 1136) (j := q) (x := ((f_span E (f_tok E v) 79).2) 1100 42) (adv.tr (Nat.le_trans (Nat.le_refl _) (tok_adv (h)).1) (span_adv (f_tok_ok (h)) c37)) (by omega)) (by omega))
                        have a2 := nd_next (E := E) hk1 a1 (nx_le (((f_span_ok (f_tok_ok (h))).up (k := 1136) (j := q) (x := ((f_span E (f_tok E v) 79).2) 1100 42) (by omega) (by omega)).up (k := 1137) (j := q) (x := ((f_span E (f_tok E v) 79).2) 1100 43) (by omega) (by omega))).1
                        rw [f_wh_s, if_pos c1, if_neg c3, if_neg c5, if_neg c7, if_pos c8, if_pos c30, if_pos c33, if_neg c37, if_pos c38, if_pos c44]
                        exact ih (up2 (up2 ((f_span E (f_tok E v) 79).2) 1136 q (((f_span E (f_tok E v) 79).2) 1100 42)) 1137 q (((f_span E (f_tok E v) 79).2) 1100 43)) 0 1 (((f_span_ok (f_tok_ok (h))).up (k := 1136) (j := q) (x := ((f_span E (f_tok E v) 79).2) 1100 42) (by omega) (by omega)).up (k := 1137) (j := q) (x := ((f_span E (f_tok E v) 79).2) 1100 43) (by omega) (by omega)) (by omega)
                  · refine J_iconst (x := 0) dX11_whom_195 (by decide) ?_
                    exact J_zret dX11_whom_196 rfl (by decide) ⟨_, rfl, rfl, by rw [f_wh_s, if_pos c1, if_neg c3, if_neg c5, if_neg c7, if_pos c8, if_pos c30, if_pos c33, if_pos c37], by rw [f_wh_s, if_pos c1, if_neg c3, if_neg c5, if_neg c7, if_pos c8, if_pos c30, if_pos c33, if_pos c37]⟩
              · refine J_iconst (x := 1) dX11_whom_109 (by decide) ?_
                refine J_goto (tgt := 142) dX11_whom_110 (by decide) ?_
                refine J_istore (lv' := [(5, .int 1), (4, .int (v 1100 28)), (0, .ref 1100), (1, .int (nI q)), (2, .int ha), (3, .int hb)]) dX11_whom_142 (by decide) rfl ?_
                refine J_iload dX11_whom_144 0 rfl ?_
                refine J_if_eq (tgt := 155) dX11_whom_146 (by decide) (fun c48 => absurd c48 (by decide)) (fun c48 => ?_)
                refine J_aload_n dX11_whom_149 rfl 2 rfl ?_
                refine J_iconst (x := 3) dX11_whom_150 (by decide) ?_
                refine J_eVX (z := mX11_wrong) (As := [.int 3]) (rest := []) (ci := 11) (x := 0) (w := (f_X11_wrong v 3).2) dX11_whom_151 ml_X11_164 ok_X11_wrong iv_X11_wrong (by decide) (i1100 hI) rfl rfl rfl rfl (Nat.le_of_ble_eq_true rfl) (k_X11_wrong hI v u 3) ?_
                exact J_zret dX11_whom_154 rfl (by decide) ⟨_, rfl, rfl, by rw [f_wh_s, if_pos c1, if_neg c3, if_neg c5, if_neg c7, if_pos c8, if_neg c30], by rw [f_wh_s, if_pos c1, if_neg c3, if_neg c5, if_neg c7, if_pos c8, if_neg c30]⟩
          · refine J_iload_n dX11_whom_89 rfl 3 rfl ?_
            refine J_goto (tgt := 142) dX11_whom_90 (by decide) ?_
            refine J_istore (lv' := [(5, .int ha), (4, .int (v 1100 28)), (0, .ref 1100), (1, .int (nI q)), (2, .int ha), (3, .int hb)]) dX11_whom_142 (by decide) rfl ?_
            refine J_iload dX11_whom_144 0 rfl ?_
            refine J_if_eq (tgt := 155) dX11_whom_146 (by decide) (fun c49 => ?_) (fun c49 => ?_)
            · refine J_aload_n dX11_whom_155 rfl 2 rfl ?_
              refine J_eVN (z := mX11_take) (As := []) (rest := []) (ci := 11) (w := (f_tok E v)) dX11_whom_156 ml_X11_180 ok_X11_take iv_X11_take (by decide) (i1100 hI) rfl rfl rfl rfl (Nat.le_of_ble_eq_true rfl) (k2_take hI v u E (h)) ?_
              refine J_iload dX11_whom_159 1 rfl ?_
              refine J_bipush (x := 8) dX11_whom_161 (by decide) ?_
              refine J_icmp_eq (tgt := 173) dX11_whom_163 (by decide) (fun c50 => ?_) (fun c50 => absurd c7 c50)
              refine J_aload_n dX11_whom_173 rfl 2 rfl ?_
              refine J_iload dX11_whom_174 1 rfl ?_
              refine J_bipush (x := 8) dX11_whom_176 (by decide) ?_
              refine J_icmp_ne (tgt := 187) dX11_whom_178 (by decide) (fun c51 => absurd c7 c51) (fun c51 => ?_)
              refine J_sipush (x := 130) dX11_whom_181 (by decide) ?_
              refine J_goto (tgt := 189) dX11_whom_184 (by decide) ?_
              refine J_eVX (z := mX11_span) (As := [.int 130]) (rest := []) (ci := 11) (x := (f_span E (f_tok E v) 130).1) (w := (f_span E (f_tok E v) 130).2) dX11_whom_189 ml_X11_189 ok_X11_span iv_X11_span (by decide) (i1100 hI) rfl rfl rfl rfl (Nat.le_of_ble_eq_true rfl) (k_f_span hI (f_tok E v) u E 130 (f_tok_ok (h))) ?_
              refine J_if_ne (tgt := 197) dX11_whom_192 (by decide) (fun c52 => ?_) (fun c52 => ?_)
              · refine J_iload_n dX11_whom_197 rfl 4 rfl ?_
                refine J_if_ne (tgt := 208) dX11_whom_198 (by decide) (fun c53 => absurd c49 c53) (fun c53 => ?_)
                refine J_iload dX11_whom_201 1 rfl ?_
                refine J_bipush (x := 8) dX11_whom_203 (by decide) ?_
                refine J_icmp_ne (tgt := 212) dX11_whom_205 (by decide) (fun c54 => absurd c7 c54) (fun c54 => ?_)
                refine J_iconst (x := 1) dX11_whom_208 (by decide) ?_
                refine J_goto (tgt := 213) dX11_whom_209 (by decide) ?_
                refine J_istore_n (lv' := [(2, .int 1), (5, .int ha), (4, .int (v 1100 28)), (0, .ref 1100), (1, .int (nI q)), (3, .int hb)]) dX11_whom_213 rfl (by decide) rfl ?_
                refine J_iload_n dX11_whom_214 rfl 5 rfl ?_
                refine J_if_ne (tgt := 225) dX11_whom_215 (by decide) (fun c55 => ?_) (fun c55 => ?_)
                · refine J_iconst (x := 1) dX11_whom_225 (by decide) ?_
                  refine J_goto (tgt := 230) dX11_whom_226 (by decide) ?_
                  refine J_istore_n (lv' := [(3, .int 1), (2, .int 1), (5, .int ha), (4, .int (v 1100 28)), (0, .ref 1100), (1, .int (nI q))]) dX11_whom_230 rfl (by decide) rfl ?_
                  refine J_iload dX11_whom_231 3 rfl ?_
                  refine J_bipush (x := 8) dX11_whom_233 (by decide) ?_
                  refine J_icmp_ne (tgt := 261) dX11_whom_235 (by decide) (fun c56 => absurd c7 c56) (fun c56 => ?_)
                  refine J_aload_n dX11_whom_238 rfl 4 rfl ?_
                  refine J_getr (ci := 11) (j := 32) (t := 1133) dX11_whom_239 fl_X11_68 (i1100 hI) rfl rfl rfl ?_
                  refine J_iload_n dX11_whom_242 rfl 5 rfl ?_
                  refine J_aload_n dX11_whom_243 rfl 4 rfl ?_
                  refine J_gete (ci := 11) (j := 42) (x := ((f_span E (f_tok E v) 130).2) 1100 42) dX11_whom_244 fl_X11_177 (i1100 hI) rfl rfl rfl ?_
                  refine J_iase (j := q) dX11_whom_247 (i1133 hI) rfl (ix_in (j := q) rfl (by omega) (by omega)) (ix_cl (j := q) rfl (by omega)) ?_
                  refine J_aload_n dX11_whom_248 rfl 4 rfl ?_
                  refine J_getr (ci := 11) (j := 33) (t := 1134) dX11_whom_249 fl_X11_71 (i1100 hI) rfl rfl rfl ?_
                  refine J_iload_n dX11_whom_252 rfl 5 rfl ?_
                  refine J_aload_n dX11_whom_253 rfl 4 rfl ?_
                  refine J_gete (ci := 11) (j := 43) (x := ((f_span E (f_tok E v) 130).2) 1100 43) dX11_whom_254 fl_X11_186 (i1100 hI) rfl rfl rfl ?_
                  refine J_iase (j := q) dX11_whom_257 (i1134 hI) rfl (ix_in (j := q) rfl (by omega) (by omega)) (ix_cl (j := q) rfl (by omega)) ?_
                  refine J_goto (tgt := 319) dX11_whom_258 (by decide) ?_
                  refine J_goto (tgt := 50) dX11_whom_319 (by decide) ?_
                  refine J_lv [4, 5, 1, 0] rfl ?_
                  have a1 : adv v (up2 (up2 ((f_span E (f_tok E v) 130).2) 1133 q (((f_span E (f_tok E v) 130).2) 1100 42)) 1134 q (((f_span E (f_tok E v) 130).2) 1100 43)) := (adv_up (k := 1134) (j := q) (x := ((f_span E (f_tok E v) 130).2) 1100 43) (adv_up (k := 1133) (j := q) (x := ((f_span E (f_tok E v) 130).2) 1100 42) (adv.tr (Nat.le_trans (Nat.le_refl _) (tok_adv (h)).1) (span_adv (f_tok_ok (h)) c52)) (by omega)) (by omega))
                  have a2 := nd_next (E := E) hk1 a1 (nx_le (((f_span_ok (f_tok_ok (h))).up (k := 1133) (j := q) (x := ((f_span E (f_tok E v) 130).2) 1100 42) (by omega) (by omega)).up (k := 1134) (j := q) (x := ((f_span E (f_tok E v) 130).2) 1100 43) (by omega) (by omega))).1
                  rw [f_wh_s, if_pos c1, if_neg c3, if_neg c5, if_pos c7, if_pos c49, if_neg c52, if_neg c55]
                  exact ih (up2 (up2 ((f_span E (f_tok E v) 130).2) 1133 q (((f_span E (f_tok E v) 130).2) 1100 42)) 1134 q (((f_span E (f_tok E v) 130).2) 1100 43)) 1 1 (((f_span_ok (f_tok_ok (h))).up (k := 1133) (j := q) (x := ((f_span E (f_tok E v) 130).2) 1100 42) (by omega) (by omega)).up (k := 1134) (j := q) (x := ((f_span E (f_tok E v) 130).2) 1100 43) (by omega) (by omega)) (by omega)
                · refine J_iload dX11_whom_218 2 rfl ?_
                  refine J_bipush (x := 10) dX11_whom_220 (by decide) ?_
                  refine J_icmp_ne (tgt := 229) dX11_whom_222 (by decide) (fun c57 => ?_) (fun c57 => ?_)
                  · refine J_iconst (x := 0) dX11_whom_229 (by decide) ?_
                    refine J_istore_n (lv' := [(3, .int 0), (2, .int 1), (5, .int ha), (4, .int (v 1100 28)), (0, .ref 1100), (1, .int (nI q))]) dX11_whom_230 rfl (by decide) rfl ?_
                    refine J_iload dX11_whom_231 3 rfl ?_
                    refine J_bipush (x := 8) dX11_whom_233 (by decide) ?_
                    refine J_icmp_ne (tgt := 261) dX11_whom_235 (by decide) (fun c58 => absurd c7 c58) (fun c58 => ?_)
                    refine J_aload_n dX11_whom_238 rfl 4 rfl ?_
                    refine J_getr (ci := 11) (j := 32) (t := 1133) dX11_whom_239 fl_X11_68 (i1100 hI) rfl rfl rfl ?_
                    refine J_iload_n dX11_whom_242 rfl 5 rfl ?_
                    refine J_aload_n dX11_whom_243 rfl 4 rfl ?_
                    refine J_gete (ci := 11) (j := 42) (x := ((f_span E (f_tok E v) 130).2) 1100 42) dX11_whom_244 fl_X11_177 (i1100 hI) rfl rfl rfl ?_
                    refine J_iase (j := q) dX11_whom_247 (i1133 hI) rfl (ix_in (j := q) rfl (by omega) (by omega)) (ix_cl (j := q) rfl (by omega)) ?_
                    refine J_aload_n dX11_whom_248 rfl 4 rfl ?_
                    refine J_getr (ci := 11) (j := 33) (t := 1134) dX11_whom_249 fl_X11_71 (i1100 hI) rfl rfl rfl ?_
                    refine J_iload_n dX11_whom_252 rfl 5 rfl ?_
                    refine J_aload_n dX11_whom_253 rfl 4 rfl ?_
                    refine J_gete (ci := 11) (j := 43) (x := ((f_span E (f_tok E v) 130).2) 1100 43) dX11_whom_254 fl_X11_186 (i1100 hI) rfl rfl rfl ?_
                    refine J_iase (j := q) dX11_whom_257 (i1134 hI) rfl (ix_in (j := q) rfl (by omega) (by omega)) (ix_cl (j := q) rfl (by omega)) ?_
                    refine J_goto (tgt := 319) dX11_whom_258 (by decide) ?_
                    refine J_goto (tgt := 50) dX11_whom_319 (by decide) ?_
                    refine J_lv [4, 5, 1, 0] rfl ?_
                    have a1 : adv v (up2 (up2 ((f_span E (f_tok E v) 130).2) 1133 q (((f_span E (f_tok E v) 130).2) 1100 42)) 1134 q (((f_span E (f_tok E v) 130).2) 1100 43)) := (adv_up (k := 1134) (j := q) (x := ((f_span E (f_tok E v) 130).2) 1100 43) (adv_up (k := 1133) (j := q) (x := ((f_span E (f_tok E v) 130).2) 1100 42) (adv.tr (Nat.le_trans (Nat.le_refl _) (tok_adv (h)).1) (span_adv (f_tok_ok (h)) c52)) (by omega)) (by omega))
                    have a2 := nd_next (E := E) hk1 a1 (nx_le (((f_span_ok (f_tok_ok (h))).up (k := 1133) (j := q) (x := ((f_span E (f_tok E v) 130).2) 1100 42) (by omega) (by omega)).up (k := 1134) (j := q) (x := ((f_span E (f_tok E v) 130).2) 1100 43) (by omega) (by omega))).1
                    rw [f_wh_s, if_pos c1, if_neg c3, if_neg c5, if_pos c7, if_pos c49, if_neg c52, if_pos c55, if_neg c57]
                    exact ih (up2 (up2 ((f_span E (f_tok E v) 130).2) 1133 q (((f_span E (f_tok E v) 130).2) 1100 42)) 1134 q (((f_span E (f_tok E v) 130).2) 1100 43)) 1 0 (((f_span_ok (f_tok_ok (h))).up (k := 1133) (j := q) (x := ((f_span E (f_tok E v) 130).2) 1100 42) (by omega) (by omega)).up (k := 1134) (j := q) (x := ((f_span E (f_tok E v) 130).2) 1100 43) (by omega) (by omega)) (by omega)
                  · refine J_iconst (x := 1) dX11_whom_225 (by decide) ?_
                    refine J_goto (tgt := 230) dX11_whom_226 (by decide) ?_
                    refine J_istore_n (lv' := [(3, .int 1), (2, .int 1), (5, .int ha), (4, .int (v 1100 28)), (0, .ref 1100), (1, .int (nI q))]) dX11_whom_230 rfl (by decide) rfl ?_
                    refine J_iload dX11_whom_231 3 rfl ?_
                    refine J_bipush (x := 8) dX11_whom_233 (by decide) ?_
                    refine J_icmp_ne (tgt := 261) dX11_whom_235 (by decide) (fun c59 => absurd c7 c59) (fun c59 => ?_)
                    refine J_aload_n dX11_whom_238 rfl 4 rfl ?_
                    refine J_getr (ci := 11) (j := 32) (t := 1133) dX11_whom_239 fl_X11_68 (i1100 hI) rfl rfl rfl ?_
                    refine J_iload_n dX11_whom_242 rfl 5 rfl ?_
                    refine J_aload_n dX11_whom_243 rfl 4 rfl ?_
                    refine J_gete (ci := 11) (j := 42) (x := ((f_span E (f_tok E v) 130).2) 1100 42) dX11_whom_244 fl_X11_177 (i1100 hI) rfl rfl rfl ?_
                    refine J_iase (j := q) dX11_whom_247 (i1133 hI) rfl (ix_in (j := q) rfl (by omega) (by omega)) (ix_cl (j := q) rfl (by omega)) ?_
                    refine J_aload_n dX11_whom_248 rfl 4 rfl ?_
                    refine J_getr (ci := 11) (j := 33) (t := 1134) dX11_whom_249 fl_X11_71 (i1100 hI) rfl rfl rfl ?_
                    refine J_iload_n dX11_whom_252 rfl 5 rfl ?_
                    refine J_aload_n dX11_whom_253 rfl 4 rfl ?_
                    refine J_gete (ci := 11) (j := 43) (x := ((f_span E (f_tok E v) 130).2) 1100 43) dX11_whom_254 fl_X11_186 (i1100 hI) rfl rfl rfl ?_
                    refine J_iase (j := q) dX11_whom_257 (i1134 hI) rfl (ix_in (j := q) rfl (by omega) (by omega)) (ix_cl (j := q) rfl (by omega)) ?_
                    refine J_goto (tgt := 319) dX11_whom_258 (by decide) ?_
                    refine J_goto (tgt := 50) dX11_whom_319 (by decide) ?_
                    refine J_lv [4, 5, 1, 0] rfl ?_
                    have a1 : adv v (up2 (up2 ((f_span E (f_tok E v) 130).2) 1133 q (((f_span E (f_tok E v) 130).2) 1100 42)) 1134 q (((f_span E (f_tok E v) 130).2) 1100 43)) := (adv_up (k := 1134) (j := q) (x := ((f_span E (f_tok E v) 130).2) 1100 43) (adv_up (k := 1133) (j := q) (x := ((f_span E (f_tok E v) 130).2) 1100 42) (adv.tr (Nat.le_trans (Nat.le_refl _) (tok_adv (h)).1) (span_adv (f_tok_ok (h)) c52)) (by omega)) (by omega))
                    have a2 := nd_next (E := E) hk1 a1 (nx_le (((f_span_ok (f_tok_ok (h))).up (k := 1133) (j := q) (x := ((f_span E (f_tok E v) 130).2) 1100 42) (by omega) (by omega)).up (k := 1134) (j := q) (x := ((f_span E (f_tok E v) 130).2) 1100 43) (by omega) (by omega))).1
                    rw [f_wh_s, if_pos c1, if_neg c3, if_neg c5, if_pos c7, if_pos c49, if_neg c52, if_pos c55, if_pos c57]
                    exact ih (up2 (up2 ((f_span E (f_tok E v) 130).2) 1133 q (((f_span E (f_tok E v) 130).2) 1100 42)) 1134 q (((f_span E (f_tok E v) 130).2) 1100 43)) 1 1 (((f_span_ok (f_tok_ok (h))).up (k := 1133) (j := q) (x := ((f_span E (f_tok E v) 130).2) 1100 42) (by omega) (by omega)).up (k := 1134) (j := q) (x := ((f_span E (f_tok E v) 130).2) 1100 43) (by omega) (by omega)) (by omega)
              · refine J_iconst (x := 0) dX11_whom_195 (by decide) ?_
                exact J_zret dX11_whom_196 rfl (by decide) ⟨_, rfl, rfl, by rw [f_wh_s, if_pos c1, if_neg c3, if_neg c5, if_pos c7, if_pos c49, if_pos c52], by rw [f_wh_s, if_pos c1, if_neg c3, if_neg c5, if_pos c7, if_pos c49, if_pos c52]⟩
            · refine J_aload_n dX11_whom_149 rfl 2 rfl ?_
              refine J_iconst (x := 3) dX11_whom_150 (by decide) ?_
              refine J_eVX (z := mX11_wrong) (As := [.int 3]) (rest := []) (ci := 11) (x := 0) (w := (f_X11_wrong v 3).2) dX11_whom_151 ml_X11_164 ok_X11_wrong iv_X11_wrong (by decide) (i1100 hI) rfl rfl rfl rfl (Nat.le_of_ble_eq_true rfl) (k_X11_wrong hI v u 3) ?_
              exact J_zret dX11_whom_154 rfl (by decide) ⟨_, rfl, rfl, by rw [f_wh_s, if_pos c1, if_neg c3, if_neg c5, if_pos c7, if_neg c49], by rw [f_wh_s, if_pos c1, if_neg c3, if_neg c5, if_pos c7, if_neg c49]⟩
theorem f_wh_ok {E q : Nat} : ∀ (d : Nat) {v : fr_V} {ha hb : Int32} (h : rdOK E v), rdOK E (f_wh E q d v ha hb).2 := by
  intro d
  induction d with
  | zero => intro v ha hb h; exact h
  | succ d ih =>
    intro v ha hb h
    rw [f_wh_s]
    by_cases g0 : (v 1100 27) = 1
    · rw [if_pos g0]
      by_cases g1 : (v 1100 28) < 8
      · rw [if_pos g1]
        by_cases g2 : (v 1135 q) = 0
        · rw [if_pos g2]
          dsimp only
          exact (h).up (k := 1135) (j := q) (x := 15) (by omega) (by omega)
        · rw [if_neg g2]
          dsimp only
          exact h
      · rw [if_neg g1]
        by_cases g2 : 12 < (v 1100 28)
        · rw [if_pos g2]
          by_cases g3 : (v 1135 q) = 0
          · rw [if_pos g3]
            dsimp only
            exact (h).up (k := 1135) (j := q) (x := 15) (by omega) (by omega)
          · rw [if_neg g3]
            dsimp only
            exact h
        · rw [if_neg g2]
          by_cases g3 : (v 1100 28) = 8
          · rw [if_pos g3]
            by_cases g4 : ha = 0
            · rw [if_pos g4]
              by_cases g5 : ((f_span E (f_tok E v) 130).1) = 0
              · rw [if_pos g5]
                dsimp only
                exact f_span_ok (f_tok_ok (h))
              · rw [if_neg g5]
                by_cases g6 : hb = 0
                · rw [if_pos g6]
                  by_cases g7 : (v 1100 28) = 10
                  · rw [if_pos g7]
                    exact ih (((f_span_ok (f_tok_ok (h))).up (k := 1133) (j := q) (x := ((f_span E (f_tok E v) 130).2) 1100 42) (by omega) (by omega)).up (k := 1134) (j := q) (x := ((f_span E (f_tok E v) 130).2) 1100 43) (by omega) (by omega))
                  · rw [if_neg g7]
                    exact ih (((f_span_ok (f_tok_ok (h))).up (k := 1133) (j := q) (x := ((f_span E (f_tok E v) 130).2) 1100 42) (by omega) (by omega)).up (k := 1134) (j := q) (x := ((f_span E (f_tok E v) 130).2) 1100 43) (by omega) (by omega))
                · rw [if_neg g6]
                  exact ih (((f_span_ok (f_tok_ok (h))).up (k := 1133) (j := q) (x := ((f_span E (f_tok E v) 130).2) 1100 42) (by omega) (by omega)).up (k := 1134) (j := q) (x := ((f_span E (f_tok E v) 130).2) 1100 43) (by omega) (by omega))
            · rw [if_neg g4]
              dsimp only
              exact wrong_ok (h)
          · rw [if_neg g3]
            by_cases g4 : (v 1100 28) = 9
            · rw [if_pos g4]
              by_cases g5 : (v 1135 q) ≤ 0
              · rw [if_pos g5]
                by_cases g6 : (v 1100 28) = 10
                · rw [if_pos g6]
                  by_cases g7 : ((f_span E (f_tok E v) 79).1) = 0
                  · rw [if_pos g7]
                    dsimp only
                    exact f_span_ok (f_tok_ok (h))
                  · rw [if_neg g7]
                    by_cases g8 : ha = 0
                    · rw [if_pos g8]
                      by_cases g9 : hb = 0
                      · rw [if_pos g9]
                        exact ih (((f_span_ok (f_tok_ok (h))).up (k := 1136) (j := q) (x := ((f_span E (f_tok E v) 79).2) 1100 42) (by omega) (by omega)).up (k := 1137) (j := q) (x := ((f_span E (f_tok E v) 79).2) 1100 43) (by omega) (by omega))
                      · rw [if_neg g9]
                        exact ih (((f_span_ok (f_tok_ok (h))).up (k := 1136) (j := q) (x := ((f_span E (f_tok E v) 79).2) 1100 42) (by omega) (by omega)).up (k := 1137) (j := q) (x := ((f_span E (f_tok E v) 79).2) 1100 43) (by omega) (by omega))
                    · rw [if_neg g8]
                      by_cases g9 : hb = 0
                      · rw [if_pos g9]
                        exact ih (((f_span_ok (f_tok_ok (h))).up (k := 1136) (j := q) (x := ((f_span E (f_tok E v) 79).2) 1100 42) (by omega) (by omega)).up (k := 1137) (j := q) (x := ((f_span E (f_tok E v) 79).2) 1100 43) (by omega) (by omega))
                      · rw [if_neg g9]
                        exact ih (((f_span_ok (f_tok_ok (h))).up (k := 1136) (j := q) (x := ((f_span E (f_tok E v) 79).2) 1100 42) (by omega) (by omega)).up (k := 1137) (j := q) (x := ((f_span E (f_tok E v) 79).2) 1100 43) (by omega) (by omega))
                · rw [if_neg g6]
                  by_cases g7 : ((f_cr E q (E + 1) (f_tok E v)).1) = 0
                  · rw [if_pos g7]
                    dsimp only
                    exact f_cr_ok _ (f_tok_ok (h))
                  · rw [if_neg g7]
                    exact ih (f_cr_ok _ (f_tok_ok (h)))
              · rw [if_neg g5]
                dsimp only
                exact wrong_ok (h)
            · rw [if_neg g4]
              by_cases g5 : (v 1100 28) = 10
              · rw [if_pos g5]
                by_cases g6 : hb = 0
                · rw [if_pos g6]
                  by_cases g7 : ((f_span E (f_tok E v) 79).1) = 0
                  · rw [if_pos g7]
                    dsimp only
                    exact f_span_ok (f_tok_ok (h))
                  · rw [if_neg g7]
                    by_cases g8 : ha = 0
                    · rw [if_pos g8]
                      exact ih (((f_span_ok (f_tok_ok (h))).up (k := 1136) (j := q) (x := ((f_span E (f_tok E v) 79).2) 1100 42) (by omega) (by omega)).up (k := 1137) (j := q) (x := ((f_span E (f_tok E v) 79).2) 1100 43) (by omega) (by omega))
                    · rw [if_neg g8]
                      exact ih (((f_span_ok (f_tok_ok (h))).up (k := 1136) (j := q) (x := ((f_span E (f_tok E v) 79).2) 1100 42) (by omega) (by omega)).up (k := 1137) (j := q) (x := ((f_span E (f_tok E v) 79).2) 1100 43) (by omega) (by omega))
                · rw [if_neg g6]
                  dsimp only
                  exact wrong_ok (h)
              · rw [if_neg g5]
                by_cases g6 : (v 1138 q) ≤ 0
                · rw [if_pos g6]
                  by_cases g7 : (v 1100 28) = 11
                  · rw [if_pos g7]
                    exact ih ((f_tok_ok (h)).up (k := 1138) (j := q) (x := 1) (by omega) (by omega))
                  · rw [if_neg g7]
                    exact ih ((f_tok_ok (h)).up (k := 1138) (j := q) (x := 2) (by omega) (by omega))
                · rw [if_neg g6]
                  dsimp only
                  exact wrong_ok (h)
    · rw [if_neg g0]
      by_cases g1 : (v 1135 q) = 0
      · rw [if_pos g1]
        dsimp only
        exact (h).up (k := 1135) (j := q) (x := 15) (by omega) (by omega)
      · rw [if_neg g1]
        dsimp only
        exact h
theorem wh_le {E q : Nat} : ∀ (d : Nat) {v : fr_V} {ha hb : Int32} (h : rdOK E v) (k : ¬ (f_wh E q d v ha hb).1 = 0), nx v ≤ nx (f_wh E q d v ha hb).2 := by
  intro d
  induction d with
  | zero => intro v ha hb h k; exact absurd rfl k
  | succ d ih =>
    intro v ha hb h k
    rw [f_wh_s] at k ⊢
    by_cases g0 : (v 1100 27) = 1
    · rw [if_pos g0] at k ⊢
      by_cases g1 : (v 1100 28) < 8
      · rw [if_pos g1] at k ⊢
        by_cases g2 : (v 1135 q) = 0
        · rw [if_pos g2] at k ⊢
          dsimp only
          exact (Nat.le_trans (Nat.le_refl _) (Nat.le_of_eq (nx_up (k := 1135) (j := q) (x := 15) (by omega)).symm))
        · rw [if_neg g2] at k ⊢
          dsimp only
          exact (Nat.le_refl _)
      · rw [if_neg g1] at k ⊢
        by_cases g2 : 12 < (v 1100 28)
        · rw [if_pos g2] at k ⊢
          by_cases g3 : (v 1135 q) = 0
          · rw [if_pos g3] at k ⊢
            dsimp only
            exact (Nat.le_trans (Nat.le_refl _) (Nat.le_of_eq (nx_up (k := 1135) (j := q) (x := 15) (by omega)).symm))
          · rw [if_neg g3] at k ⊢
            dsimp only
            exact (Nat.le_refl _)
        · rw [if_neg g2] at k ⊢
          by_cases g3 : (v 1100 28) = 8
          · rw [if_pos g3] at k ⊢
            by_cases g4 : ha = 0
            · rw [if_pos g4] at k ⊢
              by_cases g5 : ((f_span E (f_tok E v) 130).1) = 0
              · rw [if_pos g5] at k ⊢
                exact absurd rfl k
              · rw [if_neg g5] at k ⊢
                by_cases g6 : hb = 0
                · rw [if_pos g6] at k ⊢
                  by_cases g7 : (v 1100 28) = 10
                  · rw [if_pos g7] at k ⊢
                    exact Nat.le_trans (Nat.le_trans (Nat.le_trans (Nat.le_trans (Nat.le_trans (Nat.le_refl _) (tok_adv (h)).1) (span_adv (f_tok_ok (h)) g5).1) (Nat.le_of_eq (nx_up (k := 1133) (j := q) (x := ((f_span E (f_tok E v) 130).2) 1100 42) (by omega)).symm)) (Nat.le_of_eq (nx_up (k := 1134) (j := q) (x := ((f_span E (f_tok E v) 130).2) 1100 43) (by omega)).symm)) (ih (((f_span_ok (f_tok_ok (h))).up (k := 1133) (j := q) (x := ((f_span E (f_tok E v) 130).2) 1100 42) (by omega) (by omega)).up (k := 1134) (j := q) (x := ((f_span E (f_tok E v) 130).2) 1100 43) (by omega) (by omega)) k)
                  · rw [if_neg g7] at k ⊢
                    exact Nat.le_trans (Nat.le_trans (Nat.le_trans (Nat.le_trans (Nat.le_trans (Nat.le_refl _) (tok_adv (h)).1) (span_adv (f_tok_ok (h)) g5).1) (Nat.le_of_eq (nx_up (k := 1133) (j := q) (x := ((f_span E (f_tok E v) 130).2) 1100 42) (by omega)).symm)) (Nat.le_of_eq (nx_up (k := 1134) (j := q) (x := ((f_span E (f_tok E v) 130).2) 1100 43) (by omega)).symm)) (ih (((f_span_ok (f_tok_ok (h))).up (k := 1133) (j := q) (x := ((f_span E (f_tok E v) 130).2) 1100 42) (by omega) (by omega)).up (k := 1134) (j := q) (x := ((f_span E (f_tok E v) 130).2) 1100 43) (by omega) (by omega)) k)
                · rw [if_neg g6] at k ⊢
                  exact Nat.le_trans (Nat.le_trans (Nat.le_trans (Nat.le_trans (Nat.le_trans (Nat.le_refl _) (tok_adv (h)).1) (span_adv (f_tok_ok (h)) g5).1) (Nat.le_of_eq (nx_up (k := 1133) (j := q) (x := ((f_span E (f_tok E v) 130).2) 1100 42) (by omega)).symm)) (Nat.le_of_eq (nx_up (k := 1134) (j := q) (x := ((f_span E (f_tok E v) 130).2) 1100 43) (by omega)).symm)) (ih (((f_span_ok (f_tok_ok (h))).up (k := 1133) (j := q) (x := ((f_span E (f_tok E v) 130).2) 1100 42) (by omega) (by omega)).up (k := 1134) (j := q) (x := ((f_span E (f_tok E v) 130).2) 1100 43) (by omega) (by omega)) k)
            · rw [if_neg g4] at k ⊢
              exact absurd rfl k
          · rw [if_neg g3] at k ⊢
            by_cases g4 : (v 1100 28) = 9
            · rw [if_pos g4] at k ⊢
              by_cases g5 : (v 1135 q) ≤ 0
              · rw [if_pos g5] at k ⊢
                by_cases g6 : (v 1100 28) = 10
                · rw [if_pos g6] at k ⊢
                  by_cases g7 : ((f_span E (f_tok E v) 79).1) = 0
                  · rw [if_pos g7] at k ⊢
                    exact absurd rfl k
                  · rw [if_neg g7] at k ⊢
                    by_cases g8 : ha = 0
                    · rw [if_pos g8] at k ⊢
                      by_cases g9 : hb = 0
                      · rw [if_pos g9] at k ⊢
                        exact Nat.le_trans (Nat.le_trans (Nat.le_trans (Nat.le_trans (Nat.le_trans (Nat.le_refl _) (tok_adv (h)).1) (span_adv (f_tok_ok (h)) g7).1) (Nat.le_of_eq (nx_up (k := 1136) (j := q) (x := ((f_span E (f_tok E v) 79).2) 1100 42) (by omega)).symm)) (Nat.le_of_eq (nx_up (k := 1137) (j := q) (x := ((f_span E (f_tok E v) 79).2) 1100 43) (by omega)).symm)) (ih (((f_span_ok (f_tok_ok (h))).up (k := 1136) (j := q) (x := ((f_span E (f_tok E v) 79).2) 1100 42) (by omega) (by omega)).up (k := 1137) (j := q) (x := ((f_span E (f_tok E v) 79).2) 1100 43) (by omega) (by omega)) k)
                      · rw [if_neg g9] at k ⊢
                        exact Nat.le_trans (Nat.le_trans (Nat.le_trans (Nat.le_trans (Nat.le_trans (Nat.le_refl _) (tok_adv (h)).1) (span_adv (f_tok_ok (h)) g7).1) (Nat.le_of_eq (nx_up (k := 1136) (j := q) (x := ((f_span E (f_tok E v) 79).2) 1100 42) (by omega)).symm)) (Nat.le_of_eq (nx_up (k := 1137) (j := q) (x := ((f_span E (f_tok E v) 79).2) 1100 43) (by omega)).symm)) (ih (((f_span_ok (f_tok_ok (h))).up (k := 1136) (j := q) (x := ((f_span E (f_tok E v) 79).2) 1100 42) (by omega) (by omega)).up (k := 1137) (j := q) (x := ((f_span E (f_tok E v) 79).2) 1100 43) (by omega) (by omega)) k)
                    · rw [if_neg g8] at k ⊢
                      by_cases g9 : hb = 0
                      · rw [if_pos g9] at k ⊢
                        exact Nat.le_trans (Nat.le_trans (Nat.le_trans (Nat.le_trans (Nat.le_trans (Nat.le_refl _) (tok_adv (h)).1) (span_adv (f_tok_ok (h)) g7).1) (Nat.le_of_eq (nx_up (k := 1136) (j := q) (x := ((f_span E (f_tok E v) 79).2) 1100 42) (by omega)).symm)) (Nat.le_of_eq (nx_up (k := 1137) (j := q) (x := ((f_span E (f_tok E v) 79).2) 1100 43) (by omega)).symm)) (ih (((f_span_ok (f_tok_ok (h))).up (k := 1136) (j := q) (x := ((f_span E (f_tok E v) 79).2) 1100 42) (by omega) (by omega)).up (k := 1137) (j := q) (x := ((f_span E (f_tok E v) 79).2) 1100 43) (by omega) (by omega)) k)
                      · rw [if_neg g9] at k ⊢
                        exact Nat.le_trans (Nat.le_trans (Nat.le_trans (Nat.le_trans (Nat.le_trans (Nat.le_refl _) (tok_adv (h)).1) (span_adv (f_tok_ok (h)) g7).1) (Nat.le_of_eq (nx_up (k := 1136) (j := q) (x := ((f_span E (f_tok E v) 79).2) 1100 42) (by omega)).symm)) (Nat.le_of_eq (nx_up (k := 1137) (j := q) (x := ((f_span E (f_tok E v) 79).2) 1100 43) (by omega)).symm)) (ih (((f_span_ok (f_tok_ok (h))).up (k := 1136) (j := q) (x := ((f_span E (f_tok E v) 79).2) 1100 42) (by omega) (by omega)).up (k := 1137) (j := q) (x := ((f_span E (f_tok E v) 79).2) 1100 43) (by omega) (by omega)) k)
                · rw [if_neg g6] at k ⊢
                  by_cases g7 : ((f_cr E q (E + 1) (f_tok E v)).1) = 0
                  · rw [if_pos g7] at k ⊢
                    exact absurd rfl k
                  · rw [if_neg g7] at k ⊢
                    exact Nat.le_trans (Nat.le_trans (Nat.le_trans (Nat.le_refl _) (tok_adv (h)).1) (cr_adv _ (f_tok_ok (h)) g7).1) (ih (f_cr_ok _ (f_tok_ok (h))) k)
              · rw [if_neg g5] at k ⊢
                exact absurd rfl k
            · rw [if_neg g4] at k ⊢
              by_cases g5 : (v 1100 28) = 10
              · rw [if_pos g5] at k ⊢
                by_cases g6 : hb = 0
                · rw [if_pos g6] at k ⊢
                  by_cases g7 : ((f_span E (f_tok E v) 79).1) = 0
                  · rw [if_pos g7] at k ⊢
                    exact absurd rfl k
                  · rw [if_neg g7] at k ⊢
                    by_cases g8 : ha = 0
                    · rw [if_pos g8] at k ⊢
                      exact Nat.le_trans (Nat.le_trans (Nat.le_trans (Nat.le_trans (Nat.le_trans (Nat.le_refl _) (tok_adv (h)).1) (span_adv (f_tok_ok (h)) g7).1) (Nat.le_of_eq (nx_up (k := 1136) (j := q) (x := ((f_span E (f_tok E v) 79).2) 1100 42) (by omega)).symm)) (Nat.le_of_eq (nx_up (k := 1137) (j := q) (x := ((f_span E (f_tok E v) 79).2) 1100 43) (by omega)).symm)) (ih (((f_span_ok (f_tok_ok (h))).up (k := 1136) (j := q) (x := ((f_span E (f_tok E v) 79).2) 1100 42) (by omega) (by omega)).up (k := 1137) (j := q) (x := ((f_span E (f_tok E v) 79).2) 1100 43) (by omega) (by omega)) k)
                    · rw [if_neg g8] at k ⊢
                      exact Nat.le_trans (Nat.le_trans (Nat.le_trans (Nat.le_trans (Nat.le_trans (Nat.le_refl _) (tok_adv (h)).1) (span_adv (f_tok_ok (h)) g7).1) (Nat.le_of_eq (nx_up (k := 1136) (j := q) (x := ((f_span E (f_tok E v) 79).2) 1100 42) (by omega)).symm)) (Nat.le_of_eq (nx_up (k := 1137) (j := q) (x := ((f_span E (f_tok E v) 79).2) 1100 43) (by omega)).symm)) (ih (((f_span_ok (f_tok_ok (h))).up (k := 1136) (j := q) (x := ((f_span E (f_tok E v) 79).2) 1100 42) (by omega) (by omega)).up (k := 1137) (j := q) (x := ((f_span E (f_tok E v) 79).2) 1100 43) (by omega) (by omega)) k)
                · rw [if_neg g6] at k ⊢
                  exact absurd rfl k
              · rw [if_neg g5] at k ⊢
                by_cases g6 : (v 1138 q) ≤ 0
                · rw [if_pos g6] at k ⊢
                  by_cases g7 : (v 1100 28) = 11
                  · rw [if_pos g7] at k ⊢
                    exact Nat.le_trans (Nat.le_trans (Nat.le_trans (Nat.le_refl _) (tok_adv (h)).1) (Nat.le_of_eq (nx_up (k := 1138) (j := q) (x := 1) (by omega)).symm)) (ih ((f_tok_ok (h)).up (k := 1138) (j := q) (x := 1) (by omega) (by omega)) k)
                  · rw [if_neg g7] at k ⊢
                    exact Nat.le_trans (Nat.le_trans (Nat.le_trans (Nat.le_refl _) (tok_adv (h)).1) (Nat.le_of_eq (nx_up (k := 1138) (j := q) (x := 2) (by omega)).symm)) (ih ((f_tok_ok (h)).up (k := 1138) (j := q) (x := 2) (by omega) (by omega)) k)
                · rw [if_neg g6] at k ⊢
                  exact absurd rfl k
    · rw [if_neg g0] at k ⊢
      by_cases g1 : (v 1135 q) = 0
      · rw [if_pos g1] at k ⊢
        dsimp only
        exact (Nat.le_trans (Nat.le_refl _) (Nat.le_of_eq (nx_up (k := 1135) (j := q) (x := 15) (by omega)).symm))
      · rw [if_neg g1] at k ⊢
        dsimp only
        exact (Nat.le_refl _)
theorem wh_fr {E q : Nat} : ∀ (d : Nat) {v : fr_V} {ha hb : Int32}, fr11 v (f_wh E q d v ha hb).2 := by
  intro d
  induction d with
  | zero => intro v ha hb; exact fr11.rfl
  | succ d ih =>
    intro v ha hb
    rw [f_wh_s]
    by_cases g0 : (v 1100 27) = 1
    · rw [if_pos g0]
      by_cases g1 : (v 1100 28) < 8
      · rw [if_pos g1]
        by_cases g2 : (v 1135 q) = 0
        · rw [if_pos g2]
          dsimp only
          exact (fr11.rfl).up (k := 1135) (j := q) (x := 15) (by omega)
        · rw [if_neg g2]
          dsimp only
          exact fr11.rfl
      · rw [if_neg g1]
        by_cases g2 : 12 < (v 1100 28)
        · rw [if_pos g2]
          by_cases g3 : (v 1135 q) = 0
          · rw [if_pos g3]
            dsimp only
            exact (fr11.rfl).up (k := 1135) (j := q) (x := 15) (by omega)
          · rw [if_neg g3]
            dsimp only
            exact fr11.rfl
        · rw [if_neg g2]
          by_cases g3 : (v 1100 28) = 8
          · rw [if_pos g3]
            by_cases g4 : ha = 0
            · rw [if_pos g4]
              by_cases g5 : ((f_span E (f_tok E v) 130).1) = 0
              · rw [if_pos g5]
                dsimp only
                exact ((fr11.rfl).tr (fr_tok _ _)).tr (span_fr)
              · rw [if_neg g5]
                by_cases g6 : hb = 0
                · rw [if_pos g6]
                  by_cases g7 : (v 1100 28) = 10
                  · rw [if_pos g7]
                    exact (((((fr11.rfl).tr (fr_tok _ _)).tr (span_fr)).up (k := 1133) (j := q) (x := ((f_span E (f_tok E v) 130).2) 1100 42) (by omega)).up (k := 1134) (j := q) (x := ((f_span E (f_tok E v) 130).2) 1100 43) (by omega)).tr ih
                  · rw [if_neg g7]
                    exact (((((fr11.rfl).tr (fr_tok _ _)).tr (span_fr)).up (k := 1133) (j := q) (x := ((f_span E (f_tok E v) 130).2) 1100 42) (by omega)).up (k := 1134) (j := q) (x := ((f_span E (f_tok E v) 130).2) 1100 43) (by omega)).tr ih
                · rw [if_neg g6]
                  exact (((((fr11.rfl).tr (fr_tok _ _)).tr (span_fr)).up (k := 1133) (j := q) (x := ((f_span E (f_tok E v) 130).2) 1100 42) (by omega)).up (k := 1134) (j := q) (x := ((f_span E (f_tok E v) 130).2) 1100 43) (by omega)).tr ih
            · rw [if_neg g4]
              dsimp only
              exact (fr11.rfl).tr (fr_wrong _ _)
          · rw [if_neg g3]
            by_cases g4 : (v 1100 28) = 9
            · rw [if_pos g4]
              by_cases g5 : (v 1135 q) ≤ 0
              · rw [if_pos g5]
                by_cases g6 : (v 1100 28) = 10
                · rw [if_pos g6]
                  by_cases g7 : ((f_span E (f_tok E v) 79).1) = 0
                  · rw [if_pos g7]
                    dsimp only
                    exact ((fr11.rfl).tr (fr_tok _ _)).tr (span_fr)
                  · rw [if_neg g7]
                    by_cases g8 : ha = 0
                    · rw [if_pos g8]
                      by_cases g9 : hb = 0
                      · rw [if_pos g9]
                        exact (((((fr11.rfl).tr (fr_tok _ _)).tr (span_fr)).up (k := 1136) (j := q) (x := ((f_span E (f_tok E v) 79).2) 1100 42) (by omega)).up (k := 1137) (j := q) (x := ((f_span E (f_tok E v) 79).2) 1100 43) (by omega)).tr ih
                      · rw [if_neg g9]
                        exact (((((fr11.rfl).tr (fr_tok _ _)).tr (span_fr)).up (k := 1136) (j := q) (x := ((f_span E (f_tok E v) 79).2) 1100 42) (by omega)).up (k := 1137) (j := q) (x := ((f_span E (f_tok E v) 79).2) 1100 43) (by omega)).tr ih
                    · rw [if_neg g8]
                      by_cases g9 : hb = 0
                      · rw [if_pos g9]
                        exact (((((fr11.rfl).tr (fr_tok _ _)).tr (span_fr)).up (k := 1136) (j := q) (x := ((f_span E (f_tok E v) 79).2) 1100 42) (by omega)).up (k := 1137) (j := q) (x := ((f_span E (f_tok E v) 79).2) 1100 43) (by omega)).tr ih
                      · rw [if_neg g9]
                        exact (((((fr11.rfl).tr (fr_tok _ _)).tr (span_fr)).up (k := 1136) (j := q) (x := ((f_span E (f_tok E v) 79).2) 1100 42) (by omega)).up (k := 1137) (j := q) (x := ((f_span E (f_tok E v) 79).2) 1100 43) (by omega)).tr ih
                · rw [if_neg g6]
                  by_cases g7 : ((f_cr E q (E + 1) (f_tok E v)).1) = 0
                  · rw [if_pos g7]
                    dsimp only
                    exact ((fr11.rfl).tr (fr_tok _ _)).tr (cr_fr _)
                  · rw [if_neg g7]
                    exact (((fr11.rfl).tr (fr_tok _ _)).tr (cr_fr _)).tr ih
              · rw [if_neg g5]
                dsimp only
                exact (fr11.rfl).tr (fr_wrong _ _)
            · rw [if_neg g4]
              by_cases g5 : (v 1100 28) = 10
              · rw [if_pos g5]
                by_cases g6 : hb = 0
                · rw [if_pos g6]
                  by_cases g7 : ((f_span E (f_tok E v) 79).1) = 0
                  · rw [if_pos g7]
                    dsimp only
                    exact ((fr11.rfl).tr (fr_tok _ _)).tr (span_fr)
                  · rw [if_neg g7]
                    by_cases g8 : ha = 0
                    · rw [if_pos g8]
                      exact (((((fr11.rfl).tr (fr_tok _ _)).tr (span_fr)).up (k := 1136) (j := q) (x := ((f_span E (f_tok E v) 79).2) 1100 42) (by omega)).up (k := 1137) (j := q) (x := ((f_span E (f_tok E v) 79).2) 1100 43) (by omega)).tr ih
                    · rw [if_neg g8]
                      exact (((((fr11.rfl).tr (fr_tok _ _)).tr (span_fr)).up (k := 1136) (j := q) (x := ((f_span E (f_tok E v) 79).2) 1100 42) (by omega)).up (k := 1137) (j := q) (x := ((f_span E (f_tok E v) 79).2) 1100 43) (by omega)).tr ih
                · rw [if_neg g6]
                  dsimp only
                  exact (fr11.rfl).tr (fr_wrong _ _)
              · rw [if_neg g5]
                by_cases g6 : (v 1138 q) ≤ 0
                · rw [if_pos g6]
                  by_cases g7 : (v 1100 28) = 11
                  · rw [if_pos g7]
                    exact (((fr11.rfl).tr (fr_tok _ _)).up (k := 1138) (j := q) (x := 1) (by omega)).tr ih
                  · rw [if_neg g7]
                    exact (((fr11.rfl).tr (fr_tok _ _)).up (k := 1138) (j := q) (x := 2) (by omega)).tr ih
                · rw [if_neg g6]
                  dsimp only
                  exact (fr11.rfl).tr (fr_wrong _ _)
    · rw [if_neg g0]
      by_cases g1 : (v 1135 q) = 0
      · rw [if_pos g1]
        dsimp only
        exact (fr11.rfl).up (k := 1135) (j := q) (x := 15) (by omega)
      · rw [if_neg g1]
        dsimp only
        exact fr11.rfl
noncomputable def f_whom (E : Nat) (v : fr_V) (q : Nat) : Int32 × fr_V := f_wh E q (E + 2) (up2 (up2 (up2 (up2 (up2 (up2 v 1133 q 0) 1134 q 1000) 1135 q 0) 1136 q 0) 1137 q 1000) 1138 q 0) 0 0
theorem k_f_whom {l : Launch} {I : List Nat} (hI : fr_I I) (v : fr_V) (u : fr_U) (E q : Nat) (hq : q < 48) (h : rdOK E v) : Con l mX11_whom I v u [.ref 1100, .int (nI q)] (QX u (fun a b => a = (f_whom E v q).1 ∧ b = (f_whom E v q).2)) := by
  refine Con.of (by decide) (Nat.le_of_ble_eq_true rfl) ?_
  show J l mX11_whom I v u 0 [(0, .ref 1100), (1, .int (nI q))] [] _
  refine J_iconst (x := 0) dX11_whom_0 (by decide) ?_
  refine J_istore_n (lv' := [(2, .int 0), (0, .ref 1100), (1, .int (nI q))]) dX11_whom_1 rfl (by decide) rfl ?_
  refine J_iconst (x := 0) dX11_whom_2 (by decide) ?_
  refine J_istore_n (lv' := [(3, .int 0), (2, .int 0), (0, .ref 1100), (1, .int (nI q))]) dX11_whom_3 rfl (by decide) rfl ?_
  refine J_aload_n dX11_whom_4 rfl 2 rfl ?_
  refine J_getr (ci := 11) (j := 32) (t := 1133) dX11_whom_5 fl_X11_68 (i1100 hI) rfl rfl rfl ?_
  refine J_iload_n dX11_whom_8 rfl 3 rfl ?_
  refine J_iconst (x := 0) dX11_whom_9 (by decide) ?_
  refine J_iase (j := q) dX11_whom_10 (i1133 hI) rfl (ix_in (j := q) rfl (by omega) (by omega)) (ix_cl (j := q) rfl (by omega)) ?_
  refine J_aload_n dX11_whom_11 rfl 2 rfl ?_
  refine J_getr (ci := 11) (j := 33) (t := 1134) dX11_whom_12 fl_X11_71 (i1100 hI) rfl rfl rfl ?_
  refine J_iload_n dX11_whom_15 rfl 3 rfl ?_
  refine J_sipush (x := 1000) dX11_whom_16 (by decide) ?_
  refine J_iase (j := q) dX11_whom_19 (i1134 hI) rfl (ix_in (j := q) rfl (by omega) (by omega)) (ix_cl (j := q) rfl (by omega)) ?_
  refine J_aload_n dX11_whom_20 rfl 2 rfl ?_
  refine J_getr (ci := 11) (j := 34) (t := 1135) dX11_whom_21 fl_X11_74 (i1100 hI) rfl rfl rfl ?_
  refine J_iload_n dX11_whom_24 rfl 3 rfl ?_
  refine J_iconst (x := 0) dX11_whom_25 (by decide) ?_
  refine J_iase (j := q) dX11_whom_26 (i1135 hI) rfl (ix_in (j := q) rfl (by omega) (by omega)) (ix_cl (j := q) rfl (by omega)) ?_
  refine J_aload_n dX11_whom_27 rfl 2 rfl ?_
  refine J_getr (ci := 11) (j := 35) (t := 1136) dX11_whom_28 fl_X11_77 (i1100 hI) rfl rfl rfl ?_
  refine J_iload_n dX11_whom_31 rfl 3 rfl ?_
  refine J_iconst (x := 0) dX11_whom_32 (by decide) ?_
  refine J_iase (j := q) dX11_whom_33 (i1136 hI) rfl (ix_in (j := q) rfl (by omega) (by omega)) (ix_cl (j := q) rfl (by omega)) ?_
  refine J_aload_n dX11_whom_34 rfl 2 rfl ?_
  refine J_getr (ci := 11) (j := 36) (t := 1137) dX11_whom_35 fl_X11_80 (i1100 hI) rfl rfl rfl ?_
  refine J_iload_n dX11_whom_38 rfl 3 rfl ?_
  refine J_sipush (x := 1000) dX11_whom_39 (by decide) ?_
  refine J_iase (j := q) dX11_whom_42 (i1137 hI) rfl (ix_in (j := q) rfl (by omega) (by omega)) (ix_cl (j := q) rfl (by omega)) ?_
  refine J_aload_n dX11_whom_43 rfl 2 rfl ?_
  refine J_getr (ci := 11) (j := 37) (t := 1138) dX11_whom_44 fl_X11_83 (i1100 hI) rfl rfl rfl ?_
  refine J_iload_n dX11_whom_47 rfl 3 rfl ?_
  refine J_iconst (x := 0) dX11_whom_48 (by decide) ?_
  refine J_iase (j := q) dX11_whom_49 (i1138 hI) rfl (ix_in (j := q) rfl (by omega) (by omega)) (ix_cl (j := q) rfl (by omega)) ?_
  refine J_lv [2, 3, 1, 0] rfl ?_
  exact wh_L hI u E q hq (E + 2) _ 0 0 (((((((h).up (k := 1133) (j := q) (x := 0) (by omega) (by omega)).up (k := 1134) (j := q) (x := 1000) (by omega) (by omega)).up (k := 1135) (j := q) (x := 0) (by omega) (by omega)).up (k := 1136) (j := q) (x := 0) (by omega) (by omega)).up (k := 1137) (j := q) (x := 1000) (by omega) (by omega)).up (k := 1138) (j := q) (x := 0) (by omega) (by omega)) (nd_max _)
theorem f_whom_ok {E q : Nat} {v : fr_V} (h : rdOK E v) : rdOK E (f_whom E v q).2 := f_wh_ok _ (((((((h).up (k := 1133) (j := q) (x := 0) (by omega) (by omega)).up (k := 1134) (j := q) (x := 1000) (by omega) (by omega)).up (k := 1135) (j := q) (x := 0) (by omega) (by omega)).up (k := 1136) (j := q) (x := 0) (by omega) (by omega)).up (k := 1137) (j := q) (x := 1000) (by omega) (by omega)).up (k := 1138) (j := q) (x := 0) (by omega) (by omega))
theorem whom_le {E q : Nat} {v : fr_V} (h : rdOK E v) (k : ¬ (f_whom E v q).1 = 0) : nx v ≤ nx (f_whom E v q).2 := Nat.le_trans (Nat.le_trans (Nat.le_trans (Nat.le_trans (Nat.le_trans (Nat.le_trans (Nat.le_trans (Nat.le_refl _) (Nat.le_of_eq (nx_up (k := 1133) (j := q) (x := 0) (by omega)).symm)) (Nat.le_of_eq (nx_up (k := 1134) (j := q) (x := 1000) (by omega)).symm)) (Nat.le_of_eq (nx_up (k := 1135) (j := q) (x := 0) (by omega)).symm)) (Nat.le_of_eq (nx_up (k := 1136) (j := q) (x := 0) (by omega)).symm)) (Nat.le_of_eq (nx_up (k := 1137) (j := q) (x := 1000) (by omega)).symm)) (Nat.le_of_eq (nx_up (k := 1138) (j := q) (x := 0) (by omega)).symm)) (wh_le _ (((((((h).up (k := 1133) (j := q) (x := 0) (by omega) (by omega)).up (k := 1134) (j := q) (x := 1000) (by omega) (by omega)).up (k := 1135) (j := q) (x := 0) (by omega) (by omega)).up (k := 1136) (j := q) (x := 0) (by omega) (by omega)).up (k := 1137) (j := q) (x := 1000) (by omega) (by omega)).up (k := 1138) (j := q) (x := 0) (by omega) (by omega)) k)
theorem whom_fr {E q : Nat} {v : fr_V} : fr11 v (f_whom E v q).2 := (((((((fr11.rfl).up (k := 1133) (j := q) (x := 0) (by omega)).up (k := 1134) (j := q) (x := 1000) (by omega)).up (k := 1135) (j := q) (x := 0) (by omega)).up (k := 1136) (j := q) (x := 0) (by omega)).up (k := 1137) (j := q) (x := 1000) (by omega)).up (k := 1138) (j := q) (x := 0) (by omega)).tr (wh_fr _)
