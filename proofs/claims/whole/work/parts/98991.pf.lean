/-- a line half read: the class's in the cell L, the reference's in the row p -/
def lnP (z v : fr_V) (L p : Nat) (ha hb : Int32) : Prop := v 1132 p = z L 1 ∧
  ((ha = 0 ∧ z L 2 = (-1) ∧ v 1133 p = 0 ∧ v 1134 p = 1000) ∨ (ha = 1 ∧ ¬ z L 2 = (-1) ∧ v 1133 p = z L 2 ∧ v 1134 p = z L 3)) ∧
  (∃ cl, cl < 16 ∧ z L 4 = nI cl ∧ v 1135 p = nI cl) ∧
  ((hb = 0 ∧ z L 5 = (-1) ∧ v 1136 p = 0 ∧ v 1137 p = 1000) ∨ (hb = 1 ∧ ¬ z L 5 = (-1) ∧ v 1136 p = z L 5 ∧ v 1137 p = z L 6)) ∧
  ((z L 7 = 0 ∧ v 1138 p = 0) ∨ (z L 7 = 2 ∧ v 1138 p = 1) ∨ (z L 7 = 1 ∧ v 1138 p = 2))
def S2 (E : Nat) (z : fr_V) (q : Nat) : Prop := z 600 5 = 2 ∨ (z 600 5 = 7 ∧ (q < E → ¬ woOf (f_tt z E q) = some 14))
theorem S2.n0 {E q : Nat} {z : fr_V} (h : S2 E z q) : ¬ z 600 5 = 0 := by
  rcases h with h | h
  · rw [h]; decide
  · rw [h.1]; decide
theorem pt_2n {ac : Nat} {y : fr_V} (h : y 600 5 = 2 ∨ y 600 5 = 7) (hw : woOf y = none) : f_put6 y ac = f_pwhN y := by
  rw [put_none hw]; unfold f_putN
  rcases h with h | h <;> rw [h] <;> rfl
theorem pt_2s {ac w : Nat} {y : fr_V} (h : y 600 5 = 2 ∨ (y 600 5 = 7 ∧ ¬ w = 14)) (hw : woOf y = some w) : f_put6 y ac = f_pwh y ac (rlOf y ac) w := by
  rw [put_some hw]; unfold f_putW
  rcases h with h | h
  · rw [h]; rfl
  · rw [h.1]
    show (if w = 14 then ((0 : Int32), up2 y 600 5 6) else ((f_pwh y ac (rlOf y ac) w).1, (f_pwh y ac (rlOf y ac) w).2)) = _
    rw [if_neg h.2]
theorem PB.c {ac E q : Nat} {z v w : fr_V} (h : PB ac E q z v) (e1 : w 1101 = v 1101) (e2 : w 1100 = v 1100) : PB ac E q z w := by
  unfold PB at h ⊢
  unfold tkR at h ⊢
  rw [e1, e2]
  exact h
theorem role_in : ∀ w, w < 15 → (wdrole w = 2 ↔ 8 ≤ w ∧ w ≤ 12) := by decide +kernel
theorem fin_ln {z v : fr_V} {L p : Nat} {ha hb : Int32} (h : lnP z v L p ha hb) : (v 1135 p = 0 → lnR z (up2 v 1135 p 15) L p) ∧ (¬ v 1135 p = 0 → lnR z v L p) := by
  obtain ⟨h1, h2, ⟨cl, hcl, h3, h4⟩, h5, h6⟩ := h
  have a2 : (z L 2 = (-1) ∧ v 1133 p = 0 ∧ v 1134 p = 1000) ∨ (¬ z L 2 = (-1) ∧ v 1133 p = z L 2 ∧ v 1134 p = z L 3) := h2.elim (fun q => Or.inl q.2) (fun q => Or.inr q.2)
  have a5 : (z L 5 = (-1) ∧ v 1136 p = 0 ∧ v 1137 p = 1000) ∨ (¬ z L 5 = (-1) ∧ v 1136 p = z L 5 ∧ v 1137 p = z L 6) := h5.elim (fun q => Or.inl q.2) (fun q => Or.inr q.2)
  refine ⟨fun e => ?_, fun e => ?_⟩
  · have c0 : cl = 0 := (nI_eq (a := cl) (b := 0) (by omega) (by omega)).mp (by rw [← h4]; exact e)
    exact ⟨h1, a2, ⟨cl, hcl, h3, Or.inl ⟨c0, u6s⟩⟩, a5, h6⟩
  · exact ⟨h1, a2, ⟨cl, hcl, h3, Or.inr ⟨fun c0 => e (by rw [h4, c0]; rfl), h4⟩⟩, a5, h6⟩
section PFS
variable {ac E : Nat}
theorem wh_fin {p d : Nat} {v : fr_V} {ha hb : Int32} (h : ¬ v 1100 27 = 1 ∨ v 1100 28 < 8 ∨ 12 < v 1100 28) : f_wh E p (d + 1) v ha hb = if v 1135 p = 0 then (1, up2 v 1135 p 15) else (1, v) := by
  rw [f_wh_s]
  by_cases c1 : v 1100 27 = 1
  · rw [if_pos c1]
    by_cases c2 : v 1100 28 < 8
    · rw [if_pos c2]
    · rw [if_neg c2, if_pos ((h.resolve_left (fun q => q c1)).resolve_left c2)]
  · rw [if_neg c1]
theorem wh_R {p : Nat} : ∀ (d q : Nat) (ha hb : Int32) (z v : fr_V), PB ac E q z v → S2 E z q → lnP z v (lnB ac + rlOf z ac) p ha hb → E - q + 1 < d →
    ((f_wh E p d v ha hb).1 = 0 ∧ ERR (go ac E z) (f_wh E p d v ha hb).2 ∧ fvl p v (f_wh E p d v ha hb).2) ∨
    ((f_wh E p d v ha hb).1 = 1 ∧ ∃ q' z', q ≤ q' ∧ PB ac E q' z' (f_wh E p d v ha hb).2 ∧ go ac E z = go ac E z' ∧ S2 E z' q' ∧ (q' < E → ∀ w, woOf (f_tt z' E q') = some w → ¬ (8 ≤ w ∧ w ≤ 12)) ∧ (z' 600 4 = z 600 4 ∧ z' 600 7 = z 600 7) ∧ (∀ c, c ≠ 600 → c ≠ lnB ac + rlOf z ac → z' c = z c) ∧ lnR z' (f_wh E p d v ha hb).2 (lnB ac + rlOf z ac) p ∧ z' (lnB ac + rlOf z ac) 0 = z (lnB ac + rlOf z ac) 0 ∧ fvl p v (f_wh E p d v ha hb).2) := by
  intro d
  induction d with
  | zero => intro q ha hb z v h; intros; omega
  | succ d ih =>
    intro q ha hb z v h hs hln hd
    have hLn : lnB ac + rlOf z ac ≠ 600 := by
      have hL := ln_far h.1
      obtain ⟨rl, hrl, e7⟩ := h.2.2.1.2.2.2.1
      unfold rlOf
      rw [e7, nI_clamp (by omega)]
      omega
    generalize hLL : lnB ac + rlOf z ac = L at hln hLn
    -- the line ends here, on both sides
    have done : (¬ v 1100 27 = 1 ∨ v 1100 28 < 8 ∨ 12 < v 1100 28) → (q < E → ∀ w, woOf (f_tt z E q) = some w → ¬ (8 ≤ w ∧ w ≤ 12)) → ((f_wh E p (d + 1) v ha hb).1 = 1 ∧ ∃ q' z', q ≤ q' ∧ PB ac E q' z' (f_wh E p (d + 1) v ha hb).2 ∧ go ac E z = go ac E z' ∧ S2 E z' q' ∧ (q' < E → ∀ w, woOf (f_tt z' E q') = some w → ¬ (8 ≤ w ∧ w ≤ 12)) ∧ (z' 600 4 = z 600 4 ∧ z' 600 7 = z 600 7) ∧ (∀ c, c ≠ 600 → c ≠ L → z' c = z c) ∧ lnR z' (f_wh E p (d + 1) v ha hb).2 L p ∧ z' L 0 = z L 0 ∧ fvl p v (f_wh E p (d + 1) v ha hb).2) := by
      intro e1 e2
      rw [wh_fin e1]
      have fl9 := fin_ln hln
      by_cases c : v 1135 p = 0
      · rw [if_pos c]
        have hc9 : PB ac E q z (up2 v 1135 p 15) := h.c (up2_ne (by decide)) (up2_ne (by decide))
        exact ⟨rfl, q, z, Nat.le_refl _, hc9, rfl, hs, e2, ⟨rfl, rfl⟩, fun _ _ _ => rfl, fl9.1 c, rfl, fvl.rf.r (by omega)⟩
      · rw [if_neg c]
        exact ⟨rfl, q, z, Nat.le_refl _, h, rfl, hs, e2, ⟨rfl, rfl⟩, fun _ _ _ => rfl, fl9.2 c, rfl, fvl.rf⟩
    rcases Nat.lt_or_ge q E with hq | hq
    rotate_left
    · have hqE : q = E := Nat.le_antisymm h.2.2.2.2.1 hq
      exact Or.inr (done (Or.inl (by rw [h.2.2.2.2.2.2.2.2.1 hqE]; decide)) (fun k => absurd k (by omega)))
    obtain ⟨t1, t2, tk⟩ := h.tt hq
    by_cases hword : ∃ w, 8 ≤ w ∧ w ≤ 12 ∧ woOf (f_tt z E q) = some w
    rotate_left
    · refine Or.inr (done ?_ (fun _ w hw k => hword ⟨w, k.1, k.2, hw⟩))
      rcases tk with ⟨w, hw, k1, k2, k3, -⟩ | ⟨k1, -, -, -⟩ | ⟨k1, -, -⟩ | ⟨k1, -, -⟩
      · rcases Nat.lt_or_ge w 8 with g | g
        · exact Or.inr (Or.inl (by rw [k2]; exact nI_lt (b := 8) g (by decide)))
        · rcases Nat.lt_or_ge 12 w with g2 | g2
          · exact Or.inr (Or.inr (by rw [k2]; exact nI_lt (a := 12) g2 (by omega)))
          · exact absurd ⟨w, g, g2, k3⟩ hword
      · exact Or.inl (by rw [k1]; decide)
      · exact Or.inl (by rw [k1]; decide)
      · exact Or.inl (by rw [k1]; decide)
    obtain ⟨w, w8, w12, hw⟩ := hword
    obtain ⟨k27, k28, k11⟩ : v 1100 27 = 1 ∧ v 1100 28 = nI w ∧ f_tt z E q 600 11 = 0 := by
      rcases tk with ⟨w', -, k1, k2, k3, k4⟩ | ⟨-, k3, -, -⟩ | ⟨-, k3, -⟩ | ⟨-, k3, -⟩
      · rw [hw] at k3
        rw [Option.some.inj k3]
        exact ⟨k1, k2, k4⟩
      · rw [hw] at k3; cases k3
      · rw [hw] at k3; cases k3
      · rw [hw] at k3; cases k3
    generalize hy : f_tt z E q = y at t1 t2 hw k11
    have yr : rlOf y ac = rlOf z ac := rl_c (t2 7 (by omega))
    have yL : y L = z L := t1 L hLn
    have y5 : y 600 5 = 2 ∨ (y 600 5 = 7 ∧ ¬ w = 14) := by
      rw [t2 5 (by omega)]
      exact hs.elim Or.inl (fun k => Or.inr ⟨k.1, by omega⟩)
    have hput : f_put6 y ac = if f_hasTold y L w = 0 then (if w = 8 then (0, up2 (up2 y 600 6 (nI (3000 + w))) 600 5 3) else if w = 10 then (0, up2 (up2 y 600 6 (nI (3000 + w))) 600 5 3) else if w = 9 then (0, up2 (up2 y 600 6 (nI (3000 + w))) 600 5 6) else if w = 11 then (0, up2 (up2 (up2 y 600 6 (nI (3000 + w))) L 7 2) 600 5 2) else (0, up2 (up2 (up2 y 600 6 (nI (3000 + w))) L 7 1) 600 5 2)) else (3, y) := by
      rw [pt_2s y5 hw, yr]
      unfold f_pwh
      rw [hLL, if_neg (show ¬ y 600 11 = 2 by rw [k11]; decide), if_pos ((role_in w (by omega)).mpr ⟨w8, w12⟩)]
    have told : f_hasTold y L w = f_hasTold z L w := by unfold f_hasTold; rw [yL]
    have hown : owOf (up2 (up2 y 600 6 (nI (3000 + w))) 600 5 3) = w ∧ owOf (up2 (up2 y 600 6 (nI (3000 + w))) 600 5 6) = w := by
      unfold owOf
      rw [u6 (by decide), u6s, u6 (by decide), u6s, nI_clamp (by omega)]
      omega
    have n8 : ¬ v 1100 28 < 8 := by rw [k28]; exact nI_nlt (b := 8) w8 (by omega)
    have n12 : ¬ 12 < v 1100 28 := by rw [k28]; exact nI_nlt (a := 12) w12 (by decide)
    have wh0 := f_wh_s E p d v ha hb
    rw [if_pos k27, if_neg n8, if_neg n12] at wh0
    have wrong3 : ¬ f_hasTold y L w = 0 → f_wh E p (d + 1) v ha hb = (0, (f_X11_wrong v 3).2) → ((f_wh E p (d + 1) v ha hb).1 = 0 ∧ ERR (go ac E z) (f_wh E p (d + 1) v ha hb).2 ∧ fvl p v (f_wh E p (d + 1) v ha hb).2) := by
      intro e1 e2
      rw [e2]
      exact ⟨rfl, h.eW hq (r := 3) (by rw [hy, hput, if_neg e1]) (by decide) rfl, fvl.rf.o (fv11.rf.w 3)⟩
    obtain ⟨l1, l2, ⟨cl, hcl, l3, l4⟩, l5, l6⟩ := id hln
    rcases (show w = 8 ∨ w = 9 ∨ w = 10 ∨ w = 11 ∨ w = 12 by omega) with rfl | rfl | rfl | rfl | rfl
    · have k8 : v 1100 28 = 8 := k28
      rw [if_pos k8] at wh0
      rcases l2 with ⟨e0, e1, e2, e3⟩ | ⟨e0, e1, e2, e3⟩
      rotate_left
      · refine Or.inl (wrong3 ?_ ?_)
        · rw [told]; unfold f_hasTold; rw [if_pos rfl, if_neg e1]; decide
        · rw [wh0, e0, if_neg n10]
      subst e0
      have ht : f_hasTold y L 8 = 0 := by rw [told]; unfold f_hasTold; rw [if_pos rfl, if_pos e1]
      have hp : f_put6 y ac = (0, up2 (up2 y 600 6 (nI (3000 + 8))) 600 5 3) := by rw [hput, if_pos ht]; rfl
      obtain ⟨q1, q01, q1E, g1, h1⟩ := h.adv hq (by rw [hy, hp]) (v' := v) rfl rfl
      rw [hy, hp] at g1 h1
      dsimp only at g1 h1
      generalize hz1 : up2 (up2 (up2 (up2 y 600 6 (nI (3000 + 8))) 600 5 3) 600 14 0) 600 9 (nI q1) = z1 at g1 h1
      have a5 : z1 600 5 = 3 := by rw [← hz1, u6 (by decide), u6 (by decide), u6s]
      have ao : owOf z1 = 8 := by unfold owOf; rw [← hz1, u6 (by decide), u6 (by decide), u6 (by decide), u6s, nI_clamp (by omega)]
      have aj : ∀ j, j = 4 ∨ j = 7 → z1 600 j = z 600 j := fun j hj => by rw [← hz1, u6 (by omega), u6 (by omega), u6 (by omega), u6 (by omega)]; exact t2 j (by omega)
      have acc : ∀ c, c ≠ 600 → z1 c = z c := fun c hc => by rw [← hz1, up2_ne hc, up2_ne hc, up2_ne hc, up2_ne hc]; exact t1 c hc
      have ar : lnB ac + rlOf z1 ac = L := by rw [rl_c (aj 7 (by omega)), hLL]
      have SP := span_R h1 a5 ao (Or.inl rfl) (hi := 130) rfl (by omega)
      rw [ar] at SP
      generalize hS : f_span E (f_tok E v) (nI 130) = S at SP
      have hS2 : f_span E (f_tok E v) 130 = S := hS
      rw [if_pos rfl, hS2] at wh0
      rw [g1]
      rcases SP with ⟨s1, s2, s3⟩ | ⟨s1, q2, z2, a, b, s2, s3, s4, s5, ⟨s6, s7, s8⟩, s9, s10, s11, s12, s13, s14, s15⟩
      · rw [if_pos s1] at wh0
        rw [wh0]
        exact Or.inl ⟨rfl, s2, (fvl.rf.o fv11.rf.t).o s3⟩
      rw [if_neg (show ¬ S.1 = 0 by rw [s1]; decide), s11, s12] at wh0
      have wh1 : f_wh E p (d + 1) v 0 hb = f_wh E p d (up2 (up2 S.2 1133 p (nI a)) 1134 p (nI b)) 1 hb := by
        rcases l5 with ⟨f0, -⟩ | ⟨f0, -⟩
        · rw [wh0, f0, if_pos rfl, if_neg (show ¬ v 1100 28 = 10 by rw [k8]; decide)]
        · rw [wh0, f0, if_neg n10]
      rw [wh1, s4]
      have vc : ∀ c, c ≠ 1100 → S.2 c = v c := fun c hc => (s15.1 c hc).trans (tok_c hc)
      have er2 : lnB ac + rlOf z2 ac = L := by rw [rl_c (s8.trans (aj 7 (by omega))), hLL]
      have zL : z2 L = upd (upd (z L) 2 (nI a)) 3 (nI b) := by rw [s10, acc L hLn]; rfl
      have fvt : fvl p v (up2 (up2 S.2 1133 p (nI a)) 1134 p (nI b)) := (((fvl.rf.o fv11.rf.t).o s15).r (by omega)).r (by omega)
      have hpb : PB ac E q2 z2 (up2 (up2 S.2 1133 p (nI a)) 1134 p (nI b)) := s3.c (by rw [up2_ne (by decide), up2_ne (by decide)]) (by rw [up2_ne (by decide), up2_ne (by decide)])
      have hl9 : lnP z2 (up2 (up2 S.2 1133 p (nI a)) 1134 p (nI b)) (lnB ac + rlOf z2 ac) p 1 hb := by
        rw [er2]
        unfold lnP
        rw [zL]
        rw [show (up2 (up2 S.2 1133 p (nI a)) 1134 p (nI b)) 1132 = v 1132 from by rw [up2_ne (by decide), up2_ne (by decide)]; exact vc 1132 (by decide), show (up2 (up2 S.2 1133 p (nI a)) 1134 p (nI b)) 1135 = v 1135 from by rw [up2_ne (by decide), up2_ne (by decide)]; exact vc 1135 (by decide), show (up2 (up2 S.2 1133 p (nI a)) 1134 p (nI b)) 1136 = v 1136 from by rw [up2_ne (by decide), up2_ne (by decide)]; exact vc 1136 (by decide), show (up2 (up2 S.2 1133 p (nI a)) 1134 p (nI b)) 1137 = v 1137 from by rw [up2_ne (by decide), up2_ne (by decide)]; exact vc 1137 (by decide), show (up2 (up2 S.2 1133 p (nI a)) 1134 p (nI b)) 1138 = v 1138 from by rw [up2_ne (by decide), up2_ne (by decide)]; exact vc 1138 (by decide)]
        rw [show (up2 (up2 S.2 1133 p (nI a)) 1134 p (nI b)) 1133 p = nI a from by rw [up2_ne (by decide), u6s], show (up2 (up2 S.2 1133 p (nI a)) 1134 p (nI b)) 1134 p = nI b from by rw [u6s]]
        have an : ¬ nI a = (-1) := nI_m1 (by omega)
        exact ⟨l1, Or.inr ⟨rfl, an, rfl, rfl⟩, ⟨cl, hcl, l3, l4⟩, l5, l6⟩
      have hR := ih q2 1 hb z2 (up2 (up2 S.2 1133 p (nI a)) 1134 p (nI b)) hpb (Or.inl s5) hl9 (by omega)
      rw [er2] at hR
      rcases hR with ⟨r1, r2, r3⟩ | ⟨r1, q3, z3, r2, r3, r4, r5, r6, ⟨r7, r8⟩, r9, r10, r11, r12⟩
      · exact Or.inl ⟨r1, r2, fvt.tr r3⟩
      · exact Or.inr ⟨r1, q3, z3, by omega, r3, r4, r5, r6, ⟨r7.trans (s6.trans (aj 4 (by omega))), r8.trans (s8.trans (aj 7 (by omega)))⟩, fun c k1 k2 => (r9 c k1 k2).trans ((s9 c k1 k2).trans (acc c k1)), r10, r11.trans (by rw [zL]; rfl), fvt.tr r12⟩
    · have k8 : v 1100 28 = 9 := k28
      rw [if_neg (show ¬ v 1100 28 = 8 by rw [k8]; decide), if_pos k8, l4] at wh0
      by_cases c0 : cl = 0
      rotate_left
      · refine Or.inl (wrong3 ?_ ?_)
        · rw [told]; unfold f_hasTold; rw [if_neg (by decide), if_neg (by decide), if_pos rfl, l3, if_neg (nI_ne0 (by omega) (by omega))]; decide
        · rw [wh0, if_neg (nI_nle (by omega) (by omega))]
      subst c0
      rw [if_pos (show nI 0 ≤ (0 : Int32) by decide), if_neg (show ¬ v 1100 28 = 10 by rw [k8]; decide)] at wh0
      have ht : f_hasTold y L 9 = 0 := by rw [told]; unfold f_hasTold; rw [if_neg (by decide), if_neg (by decide), if_pos rfl, l3, if_pos (show nI 0 = (0 : Int32) from rfl)]
      have hp : f_put6 y ac = (0, up2 (up2 y 600 6 (nI (3000 + 9))) 600 5 6) := by rw [hput, if_pos ht]; rfl
      obtain ⟨q1, q01, q1E, g1, h1⟩ := h.adv hq (by rw [hy, hp]) (v' := v) rfl rfl
      rw [hy, hp] at g1 h1
      dsimp only at g1 h1
      generalize hz1 : up2 (up2 (up2 (up2 y 600 6 (nI (3000 + 9))) 600 5 6) 600 14 0) 600 9 (nI q1) = z1 at g1 h1
      have a5 : z1 600 5 = 6 := by rw [← hz1, u6 (by decide), u6 (by decide), u6s]
      have ao : owOf z1 = 9 := by unfold owOf; rw [← hz1, u6 (by decide), u6 (by decide), u6 (by decide), u6s, nI_clamp (by omega)]
      have aj : ∀ j, j = 4 ∨ j = 7 → z1 600 j = z 600 j := fun j hj => by rw [← hz1, u6 (by omega), u6 (by omega), u6 (by omega), u6 (by omega)]; exact t2 j (by omega)
      have acc : ∀ c, c ≠ 600 → z1 c = z c := fun c hc => by rw [← hz1, up2_ne hc, up2_ne hc, up2_ne hc, up2_ne hc]; exact t1 c hc
      have ar : lnB ac + rlOf z1 ac = L := by rw [rl_c (aj 7 (by omega)), hLL]
      have CR := cr_R (p := p) (E + 1) q1 0 z1 (f_tok E v) h1 a5 ao (by rw [ar, acc L hLn]; exact l3) (by rw [tok_c (by decide)]; exact l4) (by omega) (by omega)
      rw [ar] at CR
      generalize hS : f_cr E p (E + 1) (f_tok E v) = S at CR wh0
      rw [g1]
      rcases CR with ⟨s1, s2, s3⟩ | ⟨s1, q2, z2, c9, s2, s3, s4, s5, s6, ⟨s7, s8, s9⟩, s10, s11, s12, s13, s14, s15, s16⟩
      · rw [if_pos s1] at wh0
        rw [wh0]
        exact Or.inl ⟨rfl, s2, (fvl.rf.o fv11.rf.t).tr s3⟩
      rw [if_neg (show ¬ S.1 = 0 by rw [s1]; decide)] at wh0
      rw [wh0, s4]
      have vc : ∀ c, c ≠ 1100 → c ≠ 1135 → S.2 c = v c := fun c hc h9 => (s15 c hc h9).trans (tok_c hc)
      have er2 : lnB ac + rlOf z2 ac = L := by rw [rl_c (s9.trans (aj 7 (by omega))), hLL]
      have zL : z2 L = upd (z L) 4 (nI c9) := by rw [s11, acc L hLn]
      have fvt : fvl p v S.2 := (fvl.rf.o fv11.rf.t).tr s16
      have hl9 : lnP z2 S.2 (lnB ac + rlOf z2 ac) p ha hb := by
        rw [er2]
        unfold lnP
        rw [zL, vc 1132 (by decide) (by decide), vc 1133 (by decide) (by decide), vc 1134 (by decide) (by decide), vc 1136 (by decide) (by decide), vc 1137 (by decide) (by decide), vc 1138 (by decide) (by decide)]
        exact ⟨l1, l2, ⟨c9, s12, rfl, s14⟩, l5, l6⟩
      have hR := ih q2 ha hb z2 S.2 s3 (Or.inr ⟨s5, s6⟩) hl9 (by omega)
      rw [er2] at hR
      rcases hR with ⟨r1, r2, r3⟩ | ⟨r1, q3, z3, r2, r3, r4, r5, r6, ⟨r7, r8⟩, r9, r10, r11, r12⟩
      · exact Or.inl ⟨r1, r2, fvt.tr r3⟩
      · exact Or.inr ⟨r1, q3, z3, by omega, r3, r4, r5, r6, ⟨r7.trans (s7.trans (aj 4 (by omega))), r8.trans (s9.trans (aj 7 (by omega)))⟩, fun c k1 k2 => (r9 c k1 k2).trans ((s10 c k1 k2).trans (acc c k1)), r10, r11.trans (by rw [zL]; rfl), fvt.tr r12⟩
    · have k8 : v 1100 28 = 10 := k28
      rw [if_neg (show ¬ v 1100 28 = 8 by rw [k8]; decide), if_neg (show ¬ v 1100 28 = 9 by rw [k8]; decide), if_pos k8] at wh0
      rcases l5 with ⟨e0, e1, e2, e3⟩ | ⟨e0, e1, e2, e3⟩
      rotate_left
      · refine Or.inl (wrong3 ?_ ?_)
        · rw [told]; unfold f_hasTold; rw [if_neg (by decide), if_pos rfl, if_neg e1]; decide
        · rw [wh0, e0, if_neg n10]
      subst e0
      have ht : f_hasTold y L 10 = 0 := by rw [told]; unfold f_hasTold; rw [if_neg (by decide), if_pos rfl, if_pos e1]
      have hp : f_put6 y ac = (0, up2 (up2 y 600 6 (nI (3000 + 10))) 600 5 3) := by rw [hput, if_pos ht]; rfl
      obtain ⟨q1, q01, q1E, g1, h1⟩ := h.adv hq (by rw [hy, hp]) (v' := v) rfl rfl
      rw [hy, hp] at g1 h1
      dsimp only at g1 h1
      generalize hz1 : up2 (up2 (up2 (up2 y 600 6 (nI (3000 + 10))) 600 5 3) 600 14 0) 600 9 (nI q1) = z1 at g1 h1
      have a5 : z1 600 5 = 3 := by rw [← hz1, u6 (by decide), u6 (by decide), u6s]
      have ao : owOf z1 = 10 := by unfold owOf; rw [← hz1, u6 (by decide), u6 (by decide), u6 (by decide), u6s, nI_clamp (by omega)]
      have aj : ∀ j, j = 4 ∨ j = 7 → z1 600 j = z 600 j := fun j hj => by rw [← hz1, u6 (by omega), u6 (by omega), u6 (by omega), u6 (by omega)]; exact t2 j (by omega)
      have acc : ∀ c, c ≠ 600 → z1 c = z c := fun c hc => by rw [← hz1, up2_ne hc, up2_ne hc, up2_ne hc, up2_ne hc]; exact t1 c hc
      have ar : lnB ac + rlOf z1 ac = L := by rw [rl_c (aj 7 (by omega)), hLL]
      have SP := span_R h1 a5 ao (Or.inr rfl) (hi := 79) rfl (by omega)
      rw [ar] at SP
      generalize hS : f_span E (f_tok E v) (nI 79) = S at SP
      have hS2 : f_span E (f_tok E v) 79 = S := hS
      rw [if_pos rfl, hS2] at wh0
      rw [g1]
      rcases SP with ⟨s1, s2, s3⟩ | ⟨s1, q2, z2, a, b, s2, s3, s4, s5, ⟨s6, s7, s8⟩, s9, s10, s11, s12, s13, s14, s15⟩
      · rw [if_pos s1] at wh0
        rw [wh0]
        exact Or.inl ⟨rfl, s2, (fvl.rf.o fv11.rf.t).o s3⟩
      rw [if_neg (show ¬ S.1 = 0 by rw [s1]; decide), s11, s12] at wh0
      have wh1 : f_wh E p (d + 1) v ha 0 = f_wh E p d (up2 (up2 S.2 1136 p (nI a)) 1137 p (nI b)) ha 1 := by
        rcases l2 with ⟨f0, -⟩ | ⟨f0, -⟩
        · rw [wh0, f0, if_pos rfl]
        · rw [wh0, f0, if_neg n10]
      rw [wh1, s4]
      have vc : ∀ c, c ≠ 1100 → S.2 c = v c := fun c hc => (s15.1 c hc).trans (tok_c hc)
      have er2 : lnB ac + rlOf z2 ac = L := by rw [rl_c (s8.trans (aj 7 (by omega))), hLL]
      have zL : z2 L = upd (upd (z L) 5 (nI a)) 6 (nI b) := by rw [s10, acc L hLn]; rfl
      have fvt : fvl p v (up2 (up2 S.2 1136 p (nI a)) 1137 p (nI b)) := (((fvl.rf.o fv11.rf.t).o s15).r (by omega)).r (by omega)
      have hpb : PB ac E q2 z2 (up2 (up2 S.2 1136 p (nI a)) 1137 p (nI b)) := s3.c (by rw [up2_ne (by decide), up2_ne (by decide)]) (by rw [up2_ne (by decide), up2_ne (by decide)])
      have hl9 : lnP z2 (up2 (up2 S.2 1136 p (nI a)) 1137 p (nI b)) (lnB ac + rlOf z2 ac) p ha 1 := by
        rw [er2]
        unfold lnP
        rw [zL]
        rw [show (up2 (up2 S.2 1136 p (nI a)) 1137 p (nI b)) 1132 = v 1132 from by rw [up2_ne (by decide), up2_ne (by decide)]; exact vc 1132 (by decide), show (up2 (up2 S.2 1136 p (nI a)) 1137 p (nI b)) 1133 = v 1133 from by rw [up2_ne (by decide), up2_ne (by decide)]; exact vc 1133 (by decide), show (up2 (up2 S.2 1136 p (nI a)) 1137 p (nI b)) 1134 = v 1134 from by rw [up2_ne (by decide), up2_ne (by decide)]; exact vc 1134 (by decide), show (up2 (up2 S.2 1136 p (nI a)) 1137 p (nI b)) 1135 = v 1135 from by rw [up2_ne (by decide), up2_ne (by decide)]; exact vc 1135 (by decide), show (up2 (up2 S.2 1136 p (nI a)) 1137 p (nI b)) 1138 = v 1138 from by rw [up2_ne (by decide), up2_ne (by decide)]; exact vc 1138 (by decide)]
        rw [show (up2 (up2 S.2 1136 p (nI a)) 1137 p (nI b)) 1136 p = nI a from by rw [up2_ne (by decide), u6s], show (up2 (up2 S.2 1136 p (nI a)) 1137 p (nI b)) 1137 p = nI b from by rw [u6s]]
        have an : ¬ nI a = (-1) := nI_m1 (by omega)
        exact ⟨l1, l2, ⟨cl, hcl, l3, l4⟩, Or.inr ⟨rfl, an, rfl, rfl⟩, l6⟩
      have hR := ih q2 ha 1 z2 (up2 (up2 S.2 1136 p (nI a)) 1137 p (nI b)) hpb (Or.inl s5) hl9 (by omega)
      rw [er2] at hR
      rcases hR with ⟨r1, r2, r3⟩ | ⟨r1, q3, z3, r2, r3, r4, r5, r6, ⟨r7, r8⟩, r9, r10, r11, r12⟩
      · exact Or.inl ⟨r1, r2, fvt.tr r3⟩
      · exact Or.inr ⟨r1, q3, z3, by omega, r3, r4, r5, r6, ⟨r7.trans (s6.trans (aj 4 (by omega))), r8.trans (s8.trans (aj 7 (by omega)))⟩, fun c k1 k2 => (r9 c k1 k2).trans ((s9 c k1 k2).trans (acc c k1)), r10, r11.trans (by rw [zL]; rfl), fvt.tr r12⟩
    · have k8 : v 1100 28 = 11 := k28
      rw [if_neg (show ¬ v 1100 28 = 8 by rw [k8]; decide), if_neg (show ¬ v 1100 28 = 9 by rw [k8]; decide), if_neg (show ¬ v 1100 28 = 10 by rw [k8]; decide)] at wh0
      have tl : f_hasTold y L 11 = if z L 7 = 0 then 0 else 1 := by rw [told]; unfold f_hasTold; rw [if_neg (by decide), if_neg (by decide), if_neg (by decide)]
      by_cases c0 : z L 7 = 0
      rotate_left
      · refine Or.inl (wrong3 ?_ ?_)
        · rw [tl, if_neg c0]; decide
        · rw [wh0, if_neg]
          rcases l6 with k | k | k
          · exact absurd k.1 c0
          · rw [k.2]; decide
          · rw [k.2]; decide
      have v0 : v 1138 p = 0 := by
        rcases l6 with k | k | k
        · exact k.2
        · rw [c0] at k; exact absurd k.1 (by decide)
        · rw [c0] at k; exact absurd k.1 (by decide)
      rw [v0, if_pos (show (0 : Int32) ≤ 0 by decide), if_pos k8] at wh0
      have hp : f_put6 y ac = (0, up2 (up2 (up2 y 600 6 (nI (3000 + 11))) L 7 2) 600 5 2) := by rw [hput, if_pos (by rw [tl, if_pos c0])]; rfl
      obtain ⟨q1, q01, q1E, g1, h1⟩ := h.adv hq (by rw [hy, hp]) (v' := v) rfl rfl
      rw [hy, hp] at g1 h1
      dsimp only at g1 h1
      generalize hz1 : up2 (up2 (up2 (up2 (up2 y 600 6 (nI (3000 + 11))) L 7 2) 600 5 2) 600 14 0) 600 9 (nI q1) = z1 at g1 h1
      have a5 : z1 600 5 = 2 := by rw [← hz1, u6 (by decide), u6 (by decide), u6s]
      have aj : ∀ j, j = 4 ∨ j = 7 → z1 600 j = z 600 j := fun j hj => by rw [← hz1, u6 (by omega), u6 (by omega), u6 (by omega), up2_ne (Ne.symm hLn), u6 (by omega)]; exact t2 j (by omega)
      have acc : ∀ c, c ≠ 600 → c ≠ L → z1 c = z c := fun c hc h9 => by rw [← hz1, up2_ne hc, up2_ne hc, up2_ne hc, up2_ne h9, up2_ne hc]; exact t1 c hc
      have zL : z1 L = upd (z L) 7 2 := by rw [← hz1, up2_ne hLn, up2_ne hLn, up2_ne hLn, up2_self, up2_ne hLn, yL]
      have er2 : lnB ac + rlOf z1 ac = L := by rw [rl_c (aj 7 (by omega)), hLL]
      have fvt : fvl p v (up2 (f_tok E v) 1138 p 1) := (fvl.rf.o fv11.rf.t).r (by omega)
      have hpb : PB ac E q1 z1 (up2 (f_tok E v) 1138 p 1) := h1.c (up2_ne (by decide)) (up2_ne (by decide))
      have hl9 : lnP z1 (up2 (f_tok E v) 1138 p 1) (lnB ac + rlOf z1 ac) p ha hb := by
        rw [er2]
        unfold lnP
        rw [zL, show (up2 (f_tok E v) 1138 p 1) 1132 = v 1132 from by rw [up2_ne (by decide)]; exact tok_c (by decide), show (up2 (f_tok E v) 1138 p 1) 1133 = v 1133 from by rw [up2_ne (by decide)]; exact tok_c (by decide), show (up2 (f_tok E v) 1138 p 1) 1134 = v 1134 from by rw [up2_ne (by decide)]; exact tok_c (by decide), show (up2 (f_tok E v) 1138 p 1) 1135 = v 1135 from by rw [up2_ne (by decide)]; exact tok_c (by decide), show (up2 (f_tok E v) 1138 p 1) 1136 = v 1136 from by rw [up2_ne (by decide)]; exact tok_c (by decide), show (up2 (f_tok E v) 1138 p 1) 1137 = v 1137 from by rw [up2_ne (by decide)]; exact tok_c (by decide)]
        rw [show (up2 (f_tok E v) 1138 p 1) 1138 p = 1 from u6s]
        exact ⟨l1, l2, ⟨cl, hcl, l3, l4⟩, l5, Or.inr (Or.inl ⟨rfl, rfl⟩)⟩
      rw [wh0, g1]
      have hR := ih q1 ha hb z1 (up2 (f_tok E v) 1138 p 1) hpb (Or.inl a5) hl9 (by omega)
      rw [er2] at hR
      rcases hR with ⟨r1, r2, r3⟩ | ⟨r1, q3, z3, r2, r3, r4, r5, r6, ⟨r7, r8⟩, r9, r10, r11, r12⟩
      · exact Or.inl ⟨r1, r2, fvt.tr r3⟩
      · exact Or.inr ⟨r1, q3, z3, by omega, r3, r4, r5, r6, ⟨r7.trans (aj 4 (by omega)), r8.trans (aj 7 (by omega))⟩, fun c k1 k2 => (r9 c k1 k2).trans (acc c k1 k2), r10, r11.trans (by rw [zL]; rfl), fvt.tr r12⟩
    · have k8 : v 1100 28 = 12 := k28
      rw [if_neg (show ¬ v 1100 28 = 8 by rw [k8]; decide), if_neg (show ¬ v 1100 28 = 9 by rw [k8]; decide), if_neg (show ¬ v 1100 28 = 10 by rw [k8]; decide)] at wh0
      have tl : f_hasTold y L 12 = if z L 7 = 0 then 0 else 1 := by rw [told]; unfold f_hasTold; rw [if_neg (by decide), if_neg (by decide), if_neg (by decide)]
      by_cases c0 : z L 7 = 0
      rotate_left
      · refine Or.inl (wrong3 ?_ ?_)
        · rw [tl, if_neg c0]; decide
        · rw [wh0, if_neg]
          rcases l6 with k | k | k
          · exact absurd k.1 c0
          · rw [k.2]; decide
          · rw [k.2]; decide
      have v0 : v 1138 p = 0 := by
        rcases l6 with k | k | k
        · exact k.2
        · rw [c0] at k; exact absurd k.1 (by decide)
        · rw [c0] at k; exact absurd k.1 (by decide)
      rw [v0, if_pos (show (0 : Int32) ≤ 0 by decide), if_neg (show ¬ v 1100 28 = 11 by rw [k8]; decide)] at wh0
      have hp : f_put6 y ac = (0, up2 (up2 (up2 y 600 6 (nI (3000 + 12))) L 7 1) 600 5 2) := by rw [hput, if_pos (by rw [tl, if_pos c0])]; rfl
      obtain ⟨q1, q01, q1E, g1, h1⟩ := h.adv hq (by rw [hy, hp]) (v' := v) rfl rfl
      rw [hy, hp] at g1 h1
      dsimp only at g1 h1
      generalize hz1 : up2 (up2 (up2 (up2 (up2 y 600 6 (nI (3000 + 12))) L 7 1) 600 5 2) 600 14 0) 600 9 (nI q1) = z1 at g1 h1
      have a5 : z1 600 5 = 2 := by rw [← hz1, u6 (by decide), u6 (by decide), u6s]
      have aj : ∀ j, j = 4 ∨ j = 7 → z1 600 j = z 600 j := fun j hj => by rw [← hz1, u6 (by omega), u6 (by omega), u6 (by omega), up2_ne (Ne.symm hLn), u6 (by omega)]; exact t2 j (by omega)
      have acc : ∀ c, c ≠ 600 → c ≠ L → z1 c = z c := fun c hc h9 => by rw [← hz1, up2_ne hc, up2_ne hc, up2_ne hc, up2_ne h9, up2_ne hc]; exact t1 c hc
      have zL : z1 L = upd (z L) 7 1 := by rw [← hz1, up2_ne hLn, up2_ne hLn, up2_ne hLn, up2_self, up2_ne hLn, yL]
      have er2 : lnB ac + rlOf z1 ac = L := by rw [rl_c (aj 7 (by omega)), hLL]
      have fvt : fvl p v (up2 (f_tok E v) 1138 p 2) := (fvl.rf.o fv11.rf.t).r (by omega)
      have hpb : PB ac E q1 z1 (up2 (f_tok E v) 1138 p 2) := h1.c (up2_ne (by decide)) (up2_ne (by decide))
      have hl9 : lnP z1 (up2 (f_tok E v) 1138 p 2) (lnB ac + rlOf z1 ac) p ha hb := by
        rw [er2]
        unfold lnP
        rw [zL, show (up2 (f_tok E v) 1138 p 2) 1132 = v 1132 from by rw [up2_ne (by decide)]; exact tok_c (by decide), show (up2 (f_tok E v) 1138 p 2) 1133 = v 1133 from by rw [up2_ne (by decide)]; exact tok_c (by decide), show (up2 (f_tok E v) 1138 p 2) 1134 = v 1134 from by rw [up2_ne (by decide)]; exact tok_c (by decide), show (up2 (f_tok E v) 1138 p 2) 1135 = v 1135 from by rw [up2_ne (by decide)]; exact tok_c (by decide), show (up2 (f_tok E v) 1138 p 2) 1136 = v 1136 from by rw [up2_ne (by decide)]; exact tok_c (by decide), show (up2 (f_tok E v) 1138 p 2) 1137 = v 1137 from by rw [up2_ne (by decide)]; exact tok_c (by decide)]
        rw [show (up2 (f_tok E v) 1138 p 2) 1138 p = 2 from u6s]
        exact ⟨l1, l2, ⟨cl, hcl, l3, l4⟩, l5, Or.inr (Or.inr ⟨rfl, rfl⟩)⟩
      rw [wh0, g1]
      have hR := ih q1 ha hb z1 (up2 (f_tok E v) 1138 p 2) hpb (Or.inl a5) hl9 (by omega)
      rw [er2] at hR
      rcases hR with ⟨r1, r2, r3⟩ | ⟨r1, q3, z3, r2, r3, r4, r5, r6, ⟨r7, r8⟩, r9, r10, r11, r12⟩
      · exact Or.inl ⟨r1, r2, fvt.tr r3⟩
      · exact Or.inr ⟨r1, q3, z3, by omega, r3, r4, r5, r6, ⟨r7.trans (aj 4 (by omega)), r8.trans (aj 7 (by omega))⟩, fun c k1 k2 => (r9 c k1 k2).trans (acc c k1 k2), r10, r11.trans (by rw [zL]; rfl), fvt.tr r12⟩
end PFS
