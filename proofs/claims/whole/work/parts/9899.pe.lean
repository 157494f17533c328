theorem cl_bits : ∀ cl, cl < 16 → ∀ n, n < 4 → (((nI cl >>> (nI n &&& 31)) &&& 1 = 1 ↔ ¬ (nI cl &&& (1 <<< (nI n &&& 31))) = 0) ∧ ∃ c, c < 16 ∧ 0 < c ∧ nI cl ||| (1 <<< (nI n &&& 31)) = nI c) := by decide +kernel
/-- what a line's reading leaves alone in the reference -/
def fvl (p : Nat) (v w : fr_V) : Prop := (∀ c i, c ≠ 1100 → (i ≠ p ∨ c < 1133 ∨ 1138 < c) → w c i = v c i) ∧ ∀ j, (j < 23 ∨ j = 25 ∨ (29 < j ∧ j < 42) ∨ 43 < j) → w 1100 j = v 1100 j
theorem fvl.rf {p : Nat} {v : fr_V} : fvl p v v := ⟨fun _ _ _ _ => rfl, fun _ _ => rfl⟩
theorem fvl.tr {p : Nat} {v w x : fr_V} (h : fvl p v w) (g : fvl p w x) : fvl p v x := ⟨fun c i hc hi => (g.1 c i hc hi).trans (h.1 c i hc hi), fun j hj => (g.2 j hj).trans (h.2 j hj)⟩
theorem fvl.o {p : Nat} {v w x : fr_V} (h : fvl p v w) (g : fv11 w x) : fvl p v x := h.tr ⟨fun c i hc _ => by rw [g.1 c hc], g.2⟩
theorem fvl.r {p : Nat} {v w : fr_V} (h : fvl p v w) {c : Nat} {x : Int32} (hc : 1133 ≤ c ∧ c ≤ 1138) : fvl p v (up2 w c p x) := by
  refine h.tr ⟨fun c9 i hc9 hi => ?_, fun j _ => by rw [up2_ne (by omega)]⟩
  by_cases e : c9 = c
  · subst e
    rw [u6 (by omega)]
  · rw [up2_ne e]
theorem pt_7 {ac : Nat} {y : fr_V} (h : y 600 5 = 7) (hw : woOf y = some 14) : f_put6 y ac = (0, up2 y 600 5 6) := by
  rw [put_some hw]; unfold f_putW; rw [h]; rfl
section PES
variable {ac E : Nat}
theorem cr_R {p : Nat} : ∀ (d q cl : Nat) (z v : fr_V), PB ac E q z v → z 600 5 = 6 → owOf z = 9 → z (lnB ac + rlOf z ac) 4 = nI cl → v 1135 p = nI cl → cl < 16 → E - q < d →
    ((f_cr E p d v).1 = 0 ∧ ERR (go ac E z) (f_cr E p d v).2 ∧ fvl p v (f_cr E p d v).2) ∨
    ((f_cr E p d v).1 = 1 ∧ ∃ q' z' c, q < q' ∧ PB ac E q' z' (f_cr E p d v).2 ∧ go ac E z = go ac E z' ∧ z' 600 5 = 7 ∧ (q' < E → ¬ woOf (f_tt z' E q') = some 14) ∧ (z' 600 4 = z 600 4 ∧ z' 600 6 = z 600 6 ∧ z' 600 7 = z 600 7) ∧ (∀ c, c ≠ 600 → c ≠ lnB ac + rlOf z ac → z' c = z c) ∧ z' (lnB ac + rlOf z ac) = upd (z (lnB ac + rlOf z ac)) 4 (nI c) ∧ c < 16 ∧ 0 < c ∧ (f_cr E p d v).2 1135 p = nI c ∧ (∀ c9, c9 ≠ 1100 → c9 ≠ 1135 → (f_cr E p d v).2 c9 = v c9) ∧ fvl p v (f_cr E p d v).2) := by
  intro d
  induction d with
  | zero => intro q cl z v h; intros; omega
  | succ d ih =>
    intro q cl z v h h5 ho hz hv hcl hd
    have hLn : lnB ac + rlOf z ac ≠ 600 := by
      have hL := ln_far h.1
      obtain ⟨rl, hrl, e7⟩ := h.2.2.1.2.2.2.1
      unfold rlOf
      rw [e7, nI_clamp (by omega)]
      omega
    rw [f_cr_s]
    rcases Nat.lt_or_ge q E with hq | hq
    rotate_left
    · have hqE : q = E := Nat.le_antisymm h.2.2.2.2.1 hq
      subst hqE
      have e := h.nmE 0 3
      rw [if_pos (by rw [e])]
      refine Or.inl ⟨rfl, ?_, ?_⟩
      · show ERR _ (f_X11_isNumber v 0 3).2
        rw [e]; exact h.eE (by rw [h5]; decide) rfl
      · show fvl p v (f_X11_isNumber v 0 3).2
        rw [e]; exact fvl.rf.o (fv11.rf.w 1)
    obtain ⟨t1, t2, -⟩ := h.tt hq
    generalize hy : f_tt z E q = y at t1 t2
    have y5 : y 600 5 = 6 := by rw [t2 5 (by omega)]; exact h5
    have yo : owOf y = 9 := by rw [ow_c (t2 6 (by omega))]; exact ho
    have yr : rlOf y ac = rlOf z ac := rl_c (t2 7 (by omega))
    have hput : f_put6 y ac = f_pcl y ac (rlOf z ac) 9 := by rw [pt_6 y5, yo, yr]
    have yL : y (lnB ac + rlOf z ac) = z (lnB ac + rlOf z ac) := t1 _ hLn
    rcases h.num hq (y := y) (ow := 9) (lo := 0) (hi := 3) (by rw [hy]) (by rw [hy]) rfl rfl (by omega) (by omega) with ⟨n0, n1, n, -, hn, e12, e28⟩ | ⟨n0, n1⟩
    rotate_left
    · rw [nI_0] at n1
      have n2 : f_X11_isNumber v 0 3 = (0, (f_X11_wrong v (f_nf y 9)).2) := n1
      rw [if_pos (by rw [n2])]
      refine Or.inl ⟨rfl, ?_, ?_⟩
      · show ERR _ (f_X11_isNumber v 0 3).2
        rw [n2]
        refine h.eW hq ?_ n0 rfl
        rw [hy, hput]
        unfold f_pcl
        rw [if_neg n0]
      · show fvl p v (f_X11_isNumber v 0 3).2
        rw [n2]; exact fvl.rf.o (fv11.rf.w _)
    rw [nI_0] at n1
    have n2 : f_X11_isNumber v 0 3 = (1, v) := n1
    rw [if_neg (show ¬ (f_X11_isNumber v 0 3).1 = 0 by rw [n2]; exact n10), hv, e28]
    obtain ⟨bits, c, hc, hc0, ec⟩ := cl_bits cl hcl n (by omega)
    by_cases b1 : (nI cl >>> (nI n &&& 31)) &&& 1 = 1
    · rw [if_pos b1]
      refine Or.inl ⟨rfl, ?_, fvl.rf.o (fv11.rf.w 3)⟩
      refine h.eW hq (r := 3) ?_ (by decide) rfl
      rw [hy, hput]
      unfold f_pcl
      rw [if_pos n0, yL, hz, e12, if_neg (bits.mp b1)]
    rw [if_neg b1, ec]
    have b2 : (nI cl &&& (1 <<< (nI n &&& 31))) = 0 := Classical.byContradiction (fun w => b1 (bits.mpr w))
    have hput2 : f_put6 y ac = (0, up2 (up2 y (lnB ac + rlOf z ac) 4 (nI c)) 600 5 7) := by
      rw [hput]
      unfold f_pcl
      rw [if_pos n0, yL, hz, e12, if_pos b2, ec]
    obtain ⟨q1, q01, q1E, g1, h1⟩ := h.adv hq (by rw [hy, hput2]) (v' := up2 v 1135 p (nI c)) (up2_ne (by decide)) (by rw [up2_ne (by decide)])
    rw [hy, hput2] at g1 h1
    dsimp only at g1 h1
    generalize hz1 : up2 (up2 (up2 (up2 y (lnB ac + rlOf z ac) 4 (nI c)) 600 5 7) 600 14 0) 600 9 (nI q1) = z1 at g1 h1
    have fv1 : fvl p v (f_tok E (up2 v 1135 p (nI c))) := (fvl.rf.r (by omega)).o fv11.rf.t
    have fo1 : ∀ c9, c9 ≠ 1100 → c9 ≠ 1135 → f_tok E (up2 v 1135 p (nI c)) c9 = v c9 := fun c9 k1 k2 => by rw [tok_c k1, up2_ne k2]
    have f135 : f_tok E (up2 v 1135 p (nI c)) 1135 p = nI c := by rw [tok_c (by decide), u6s]
    generalize hv1 : f_tok E (up2 v 1135 p (nI c)) = v1 at h1 fv1 fo1 f135
    have a5 : z1 600 5 = 7 := by rw [← hz1, u6 (by decide), u6 (by decide), u6s]
    have aj : ∀ j, j = 4 ∨ j = 6 ∨ j = 7 → z1 600 j = z 600 j := fun j hj => by rw [← hz1, u6 (by omega), u6 (by omega), u6 (by omega), up2_ne (Ne.symm hLn)]; exact t2 j (by omega)
    have ac1 : ∀ c, c ≠ 600 → c ≠ lnB ac + rlOf z ac → z1 c = z c := fun c hc hc2 => by rw [← hz1, up2_ne hc, up2_ne hc, up2_ne hc, up2_ne hc2]; exact t1 c hc
    have aL : z1 (lnB ac + rlOf z ac) = upd (z (lnB ac + rlOf z ac)) 4 (nI c) := by rw [← hz1, up2_ne hLn, up2_ne hLn, up2_ne hLn, up2_self, yL]
    rw [g1]
    by_cases w14 : q1 < E ∧ woOf (f_tt z1 E q1) = some 14
    rotate_left
    · have i0 : f_X11_isWord v1 14 = 0 := by
        rcases Nat.lt_or_ge q1 E with hq1 | hq1
        · exact (h1.wd hq1 (k := 14) (by omega)).mpr (fun w => w14 ⟨hq1, w⟩)
        · have hqE : q1 = E := Nat.le_antisymm q1E hq1
          subst hqE
          exact h1.wdE 14
      rw [if_pos i0]
      exact Or.inr ⟨rfl, q1, z1, c, q01, h1, rfl, a5, fun k1 k2 => w14 ⟨k1, k2⟩, ⟨aj 4 (by omega), aj 6 (by omega), aj 7 (by omega)⟩, ac1, aL, hc, hc0, f135, fo1, fv1⟩
    obtain ⟨hq1, w14⟩ := w14
    rw [if_neg (show ¬ f_X11_isWord v1 14 = 0 from fun w => (h1.wd hq1 (k := 14) (by omega)).mp w w14)]
    obtain ⟨s1, s2, -⟩ := h1.tt hq1
    have p7 := pt_7 (ac := ac) (y := f_tt z1 E q1) (by rw [s2 5 (by omega)]; exact a5) w14
    obtain ⟨q2, q12, q2E, g2, h2⟩ := h1.adv hq1 (by rw [p7]) (v' := v1) rfl rfl
    rw [p7] at g2 h2
    dsimp only at g2 h2
    generalize hz2 : up2 (up2 (up2 (f_tt z1 E q1) 600 5 6) 600 14 0) 600 9 (nI q2) = z2 at g2 h2
    have b5 : z2 600 5 = 6 := by rw [← hz2, u6 (by decide), u6 (by decide), u6s]
    have bj : ∀ j, j = 4 ∨ j = 6 ∨ j = 7 → z2 600 j = z 600 j := fun j hj => by rw [← hz2, u6 (by omega), u6 (by omega), u6 (by omega), s2 j (by omega)]; exact aj j hj
    have bc : ∀ c, c ≠ 600 → z2 c = z1 c := fun c hc => by rw [← hz2, up2_ne hc, up2_ne hc, up2_ne hc]; exact s1 c hc
    have br : rlOf z2 ac = rlOf z ac := rl_c (bj 7 (by omega))
    have bo : owOf z2 = 9 := by rw [ow_c (bj 6 (by omega))]; exact ho
    rw [g2]
    have hR := ih q2 c z2 (f_tok E v1) h2 b5 bo (by rw [br, bc _ hLn, aL]; exact pk_us) (by rw [tok_c (by decide)]; exact f135) hc (by omega)
    rw [br] at hR
    rcases hR with ⟨r1, r2, r3⟩ | ⟨r1, q', z', c', r2, r3, r4, r5, r6, ⟨r7, r8, r9⟩, r10, r11, r12, r13, r14, r15, r16⟩
    · exact Or.inl ⟨r1, r2, (fv1.o fv11.rf.t).tr r3⟩
    · refine Or.inr ⟨r1, q', z', c', by omega, r3, r4, r5, r6, ⟨r7.trans (bj 4 (by omega)), r8.trans (bj 6 (by omega)), r9.trans (bj 7 (by omega))⟩, fun c9 k1 k2 => (r10 c9 k1 k2).trans ((bc c9 k1).trans (ac1 c9 k1 k2)), ?_, r12, r13, r14, fun c9 k1 k2 => (r15 c9 k1 k2).trans ((tok_c k1).trans (fo1 c9 k1 k2)), (fv1.o fv11.rf.t).tr r16⟩
      rw [r11, bc _ hLn, aL]
      funext i
      unfold upd
      by_cases e : i = 4
      · rw [if_pos e, if_pos e]
      · rw [if_neg e, if_neg e, if_neg e]
end PES
