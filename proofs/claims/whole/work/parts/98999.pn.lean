theorem rdE_err {zf vf : fr_V} (h : ERR zf vf) : (f_rdE zf).1 = (-1) ∧ (∀ c, c ≠ 600 → (f_rdE zf).2 c = zf c) ∧ (∀ j, j ≠ 14 → j ≠ 15 → (f_rdE zf).2 600 j = zf 600 j) ∧ (f_rdE zf).2 600 14 = vf 1100 23 ∧ (f_rdE zf).2 600 15 = vf 1100 24 := by
  unfold f_rdE
  rcases h with ⟨h1, h2, h3⟩ | ⟨h1, h2, h3, h4⟩
  · rw [if_neg h1, if_neg h1, if_neg h1]
    dsimp only
    exact ⟨rfl, fun c hc => up2_ne hc, fun j h9 hj => u6 hj, by rw [u6 (by decide)]; exact h2.symm, by rw [u6s]; exact h3.symm⟩
  · rw [if_pos h1, if_neg h2]
    dsimp only
    exact ⟨rfl, fun c hc => (up2_ne hc).trans (up2_ne hc), fun j hj h9 => (u6 h9).trans (u6 hj), by rw [u6 (by decide), u6s]; exact h3.symm, by rw [u6s]; exact h4.symm⟩
theorem rdE_ok {zf : fr_V} (h1 : zf 600 14 = 0) (h2 : zf 600 5 = 0) : f_rdE zf = (zf 600 4, up2 zf 600 15 (-1)) := by
  unfold f_rdE
  rw [if_pos h1, if_pos h2, if_pos h1, if_pos h1]
/-- the frame of the class's reader from its start -/
theorem go_fr {z : fr_V} {ac E : Nat} (hac : ac = 10 ∨ ac = 20) (hE : E ≤ 500) (hd : dyn z) (hgo : rdF ac E E (zp z ac E) = go ac E (zp z ac E)) : gI ac E (zp z ac E) (go ac E (zp z ac E)) ∧ ∀ c, c ≠ 600 → c ≠ ac → c ≠ ac + 3 → (∀ i, i < 24 → c ≠ lnB ac + i) → go ac E (zp z ac E) c = z c := by
  have hz := zp_is (z := z) (E := E) hac
  have hL := ln_far hac
  have hq := (sc_le (isBl (z 601)) E (E - 0) (by omega)).2
  have g0 : gI ac E (zp z ac E) (zp z ac E) := by
    refine ⟨⟨_, hq, hz.2.2.1⟩, hz.2.2.2.2.2, fun _ _ _ _ _ => rfl, rfl, ?_, fun i hi => ?_⟩
    · rw [hz.2.1.2.2.2.2.2]
      exact hd 600 13 (Or.inr (Or.inl ⟨rfl, by omega⟩))
    · rw [hz.1 (lnB ac + i) (by omega) (by omega) (by omega)]
      exact hd (lnB ac + i) 0 (Or.inr (Or.inr ⟨by omega, rfl⟩))
  have g1 := rdF_g hac hE E _ g0
  rw [hgo] at g1
  exact ⟨g1, fun c a1 a2 a3 a4 => (g1.2.2.1 c a1 a2 a3 a4).trans (hz.1 c a1 a2 a3)⟩
section PNS
variable {I : List Nat} {ac m N n nr NS w t ar : Nat} {z y : fr_V}
theorem dyn_6 {zf z' : fr_V} {ac' E : Nat} {z0 : fr_V} (hac : ac' = 10 ∨ ac' = 20) (hd : dyn z) (g : gI ac' E z0 zf) (gc : ∀ c, c ≠ 600 → c ≠ ac' → c ≠ ac' + 3 → (∀ i, i < 24 → c ≠ lnB ac' + i) → zf c = z c) (e1 : ∀ c, c ≠ 600 → c ≠ 1000 → c ≠ 300 → z' c = zf c) (e6 : ∀ j, (j = 3 ∨ j = 6 ∨ j = 7 ∨ j = 13) → z' 600 j = zf 600 j) (e7 : (z' 1000 1 < 2000 ∨ 3000 ≤ z' 1000 1) ∧ (z' 1000 2 < 2000 ∨ 3000 ≤ z' 1000 2)) : dyn z' := by
  intro k j hk
  have hL := ln_far hac
  obtain ⟨-, ⟨r3, -, -, ⟨rl, hrl, r7⟩, ow, how, r6⟩, -, -, g13, gl⟩ := g
  rcases hk with ⟨rfl, hj⟩ | ⟨rfl, hj⟩ | ⟨hk, rfl⟩
  · rcases hj with rfl | rfl
    · exact e7.1
    · exact e7.2
  · rw [e6 j hj]
    rcases hj with rfl | rfl | rfl | rfl
    · rw [r3]; exact Or.inl (nI_lt (b := 2000) (by omega) (by decide))
    · rw [r6]; exact Or.inr (nI_le (a := 3000) (by omega) (by omega))
    · rw [r7]; exact Or.inl (nI_lt (b := 2000) (by omega) (by decide))
    · exact g13
  · rw [e1 k (by omega) (by omega) (by omega)]
    by_cases c : ∃ i, i < 24 ∧ k = lnB ac' + i
    · obtain ⟨i, hi, rfl⟩ := c
      exact gl i hi
    · rw [gc k (by omega) (by omega) (by omega) (fun i hi q => c ⟨i, hi, q⟩)]
      exact hd k 0 (Or.inr (Or.inr ⟨hk, rfl⟩))
theorem s_acts (h : RLp I ac m N n nr NS w t ar z y) (x1 : Int32) : (f_acts10 z ac x1).1 = (f_acts11 y x1).1 ∧ ∃ ac' m' t' ar', RLp I ac' m' N n nr NS w t' ar' (f_acts10 z ac x1).2 (f_acts11 y x1).2 := by
  have hT := h.2.2.2.2.2.1
  obtain ⟨ht5, t1, t2, tW⟩ := hT
  have hA := h.2.2.2.2.1
  have hac := hA.1
  have hP := h.2.2.2.2.2.2.2.2.1
  have hd := h.2.2.2.2.2.2.2.2.2.1
  have hno : RLp I ac m N n nr NS w t ar z (up2 y 1100 2 0) := h.y ⟨fun c h1 _ _ _ _ _ _ _ _ _ _ => up2_ne (by omega), fun j hj _ _ _ => u6 hj⟩
  unfold f_acts10 f_acts11
  by_cases c1 : x1 < 0
  · rw [if_pos c1, if_pos c1]; exact ⟨rfl, ac, m, t, ar, hno⟩
  rw [if_neg c1, if_neg c1, t1, t2]
  by_cases c2 : x1 ≤ nI t
  rotate_left
  · rw [if_neg c2, if_neg c2]; exact ⟨rfl, ac, m, t, ar, hno⟩
  rw [if_pos c2, if_pos c2]
  obtain ⟨E, hEt, hx⟩ := leN11 rfl ht5 c1 c2
  rw [hx, nI_clamp (show E < 2 ^ 31 by omega)]
  have hs : 30 - ac = 10 ∨ 30 - ac = 20 := by omega
  have hE : E ≤ 500 := by omega
  obtain ⟨q, hq, hRA, hgo⟩ := RA.start (ac := 30 - ac) (z := z) (y := y) hs hE (fun i hi => tW i (by omega))
  have er : f_read z (30 - ac) E = f_rdE (go (30 - ac) E (zp z (30 - ac) E)) := congrArg f_rdE hgo
  rw [er]
  obtain ⟨g, gc⟩ := go_fr hs hE hd hgo
  have hz := zp_is (z := z) (E := E) hs
  have hy := yp_is (y := y) (E := E)
  have hL := ln_far hac
  have hL' := ln_far hs
  have hll : ∀ i i', i < 24 → i' < 24 → lnB ac + i ≠ lnB (30 - ac) + i' := fun i i' hi hi' => by
    rcases hac with rfl | rfl
    · show 400 + i ≠ 430 + i'; omega
    · show 430 + i ≠ 400 + i'; omega
  have far : ∀ c, c ≠ 600 → (c < 10 ∨ 23 < c) → (c < 400 ∨ 454 ≤ c) → go (30 - ac) E (zp z (30 - ac) E) c = z c := fun c a1 a2 a3 => gc c a1 (by omega) (by omega) (fun i hi => by omega)
  have alR := al_R (B := 600) (E + 2) q 0 0 _ _ hRA (by omega) (by omega)
  have yfr : fy (ac0 y E) (f_al E (E + 2) (ac0 y E) 0).2 := al_fy
  have tf : (∀ c, c ≠ 1100 → ac0 y E c = yp y E c) ∧ ∀ j, j < 26 ∨ 29 < j → ac0 y E 1100 j = yp y E 1100 j := tk_f
  have ya : yaE y (f_al E (E + 2) (ac0 y E) 0).2 := by
    refine ⟨fun c k1 k2 => ?_, fun j hj => ?_⟩
    · rw [yfr.1 c k1 k2, tf.1 c k2, hy.1 c (by omega) (by omega) k2]
    · simp only [List.mem_cons, List.mem_nil_iff, or_false] at hj
      rw [yfr.2 j (by omega), tf.2 j (by omega)]
      exact hy.2.1 j (by simp only [List.mem_cons, List.mem_nil_iff, or_false]; omega)
  have y1 : (f_al E (E + 2) (ac0 y E) 0).2 1100 1 = 0 := by rw [yfr.2 1 (by omega), tf.2 1 (by omega)]; exact hy.2.2.1.1
  have hmi := g.2.2.2.1
  rw [hz.2.1.1] at hmi
  rcases alR with ⟨s1, s2⟩ | ⟨m', k', vf, hk', s1, s2⟩
  · have z9 := al_f1 (by omega) s1
    have hE9 := rdE_err s2
    generalize f_al E (E + 2) (ac0 y E) 0 = Y at s1 s2 z9 hE9 ya y1 yfr ⊢
    generalize go (30 - ac) E (zp z (30 - ac) E) = zf at s2 g gc far hmi hE9 ⊢
    obtain ⟨r1, r2, r3, r4, r5⟩ := hE9
    rw [if_pos r1, s1]
    refine ⟨rfl, ac, m, 0, ar, h.ac ⟨fun c a1 a2 a3 a4 a5 => ?_, ?_, ?_, ?_⟩ ya r4 r5 ?_ y1 (hA.zy (fun c hc => ?_) ?_ (fun c i k1 k2 k3 => ?_) (fun i hi => ?_)) ?_ (dyn_6 hs hd g gc (fun c a1 _ _ => r2 c a1) (fun j hj => r3 j (by omega) (by omega)) ?_)⟩
    · exact (r2 c a1).trans (far c a1 a4 a5)
    · show (f_rdE zf).2 1000 3 = _
      rw [r2 1000 (by decide), far 1000 (by decide) (by decide) (by decide)]
    · show (f_rdE zf).2 300 2 = _
      rw [r2 300 (by decide), far 300 (by decide) (by decide) (by decide)]
    · show (f_rdE zf).2 300 8 = _
      rw [r2 300 (by decide), far 300 (by decide) (by decide) (by decide)]
    · show (f_rdE zf).2 600 1 = _
      rw [r3 1 (by decide) (by decide)]; exact hmi
    · show (f_rdE zf).2 c = _
      rw [r2 c (by rcases hc with hc | hc | hc | ⟨i, hi, hc⟩ <;> omega)]
      refine gc c ?_ ?_ ?_ (fun i' hi' e => ?_)
      · rcases hc with hc | hc | hc | ⟨i, hi, hc⟩ <;> omega
      · rcases hc with hc | hc | hc | ⟨i, hi, hc⟩ <;> omega
      · rcases hc with hc | hc | hc | ⟨i, hi, hc⟩ <;> omega
      · rcases hc with hc | hc | hc | ⟨i, hi, hc⟩
        · omega
        · omega
        · omega
        · exact hll i i' hi hi' (hc.symm.trans e)
    · rw [z9.2.1 38 (by omega), tf.2 38 (by omega)]
      exact hy.2.1 38 (by decide)
    · rw [z9.2.2.1 c i k1 k2 k3, tf.1 c (by omega), hy.1 c (by omega) (by omega) (by omega)]
    · rw [z9.2.2.2 i hi, tf.1 1141 (by omega)]
      exact hy.2.2.2.1 i hi
    · obtain ⟨k0, p1, p2, p3⟩ := hP
      have e300 : (f_rdE zf).2 300 = z 300 := by rw [r2 300 (by decide), far 300 (by decide) (by decide) (by decide)]
      refine ⟨k0, p1, by rw [e300]; exact p2, fun r h9 hr hh => ?_⟩
      rw [prF_x (z := Y.2) (w := y) (n := n) ⟨⟨by rw [ya.1 1109 (by decide) (by decide)], by rw [ya.1 1111 (by decide) (by decide)], by rw [ya.1 1112 (by decide) (by decide)]⟩, fun i hi => ⟨by rw [ya.1 1118 (by decide) (by decide)], by rw [ya.1 1119 (by decide) (by decide)], by rw [ya.1 1120 (by decide) (by decide)], by rw [ya.1 1121 (by decide) (by decide)]⟩, by rw [z9.2.2.2 1 (by decide), tf.1 1141 (by decide)]; exact hy.2.2.2.1 1 (by decide), fun l hl => by rw [ya.1 1106 (by decide) (by decide)]⟩ (h.pw hr)]
      rw [show (f_rdE zf).2 (2007 + 10 * r) = z (2007 + 10 * r) by rw [r2 _ (by omega), far _ (by omega) (by omega) (by omega)]]
      exact p3 r h9 hr hh
    · have e0 : (f_rdE zf).2 1000 = z 1000 := by rw [r2 1000 (by decide), far 1000 (by decide) (by decide) (by decide)]
      rw [e0]
      exact ⟨hd 1000 1 (Or.inl ⟨rfl, Or.inl rfl⟩), hd 1000 2 (Or.inl ⟨rfl, Or.inr rfl⟩)⟩
  · obtain ⟨pb, v5, v4, vm, v39, hm', hln, hst⟩ := s2
    have hk9 := keep_is (v := vf) hm'
    have e9 := (al_e2 (E := E) (E + 2) (ac0 y E) 0).resolve_left (by rw [s1]; exact nI_m1 (by omega))
    rw [s1] at yfr ya y1 e9 ⊢
    dsimp only at yfr ya y1 e9 ⊢
    generalize go (30 - ac) E (zp z (30 - ac) E) = zf at pb v5 v4 vm hln hst g gc far hmi ⊢
    have v14 := pb.2.2.2.1
    rw [rdE_ok v14 v5, v4]
    dsimp only
    rw [if_neg (show ¬ nI k' = (-1) from nI_m1 (by omega))]
    unfold f_X3_reopen
    have u9 : ∀ c, c ≠ 600 → c ≠ 1000 → c ≠ 300 → up2 (up2 (up2 (up2 zf 600 15 (-1)) 1000 1 (nI (30 - ac))) 1000 2 (nI ac)) 300 10 0 c = zf c := fun c a1 a2 a3 => by rw [up2_ne a3, up2_ne a2, up2_ne a2, up2_ne a1]
    have u6' : ∀ j, j ≠ 15 → up2 (up2 (up2 (up2 zf 600 15 (-1)) 1000 1 (nI (30 - ac))) 1000 2 (nI ac)) 300 10 0 600 j = zf 600 j := fun j hj => by rw [up2_ne (by decide), up2_ne (by decide), up2_ne (by decide), u6 hj]
    have u15 : up2 (up2 (up2 (up2 zf 600 15 (-1)) 1000 1 (nI (30 - ac))) 1000 2 (nI ac)) 300 10 0 600 15 = (-1) := by rw [up2_ne (by decide), up2_ne (by decide), up2_ne (by decide), u6s]
    have u1 : up2 (up2 (up2 (up2 zf 600 15 (-1)) 1000 1 (nI (30 - ac))) 1000 2 (nI ac)) 300 10 0 1000 1 = nI (30 - ac) := by rw [up2_ne (by decide), u6 (by decide), u6s]
    have u2 : up2 (up2 (up2 (up2 zf 600 15 (-1)) 1000 1 (nI (30 - ac))) 1000 2 (nI ac)) 300 10 0 1000 2 = nI ac := by rw [up2_ne (by decide), u6s]
    have u3 : up2 (up2 (up2 (up2 zf 600 15 (-1)) 1000 1 (nI (30 - ac))) 1000 2 (nI ac)) 300 10 0 1000 3 = z 1000 3 := by rw [up2_ne (by decide), u6 (by decide), u6 (by decide), up2_ne (by decide), far 1000 (by decide) (by decide) (by decide)]
    have u30 : ∀ j, j ≠ 10 → up2 (up2 (up2 (up2 zf 600 15 (-1)) 1000 1 (nI (30 - ac))) 1000 2 (nI ac)) 300 10 0 300 j = z 300 j := fun j hj => by rw [u6 hj, up2_ne (by decide), up2_ne (by decide), up2_ne (by decide), far 300 (by decide) (by decide) (by decide)]
    have u31 : up2 (up2 (up2 (up2 zf 600 15 (-1)) 1000 1 (nI (30 - ac))) 1000 2 (nI ac)) 300 10 0 300 10 = 0 := u6s
    generalize up2 (up2 (up2 (up2 zf 600 15 (-1)) 1000 1 (nI (30 - ac))) 1000 2 (nI ac)) 300 10 0 = Z at u9 u6' u15 u1 u2 u3 u30 u31 ⊢
    show nI k' = nI k' ∧ ∃ ac' m9 t' ar', RLp I ac' m9 N n nr NS w t' ar' Z (f_keep vf m')
    have yk : ∀ c i, 1131 ≤ c → c ≤ 1138 → i < m' → f_keep vf m' c i = vf c (24 + i) := hk9.1
    have f0 : ∀ j, j < 4 → (f_set Z (30 - ac) j = fr_us j ∧ f_keep vf m' 1141 j = fr_us j) ∨ ∃ n9, nlo j ≤ n9 ∧ n9 ≤ nhi j ∧ f_set Z (30 - ac) j = nI n9 ∧ f_keep vf m' 1141 j = nI n9 := fun j hj => by
      unfold f_set
      rw [u9 (30 - ac + 3) (by omega) (by omega) (by omega), hk9.2.1 j hj]
      rcases hst j hj with ⟨o1, -, o2⟩ | ⟨n9, o1, o2, o3, -, o4⟩
      · rw [if_pos o1]; exact Or.inl ⟨rfl, o2⟩
      · have := (nk_is j hj).2.2.2.1
        rw [if_neg (show ¬ zf (30 - ac + 3) j = (-1) by rw [o3]; exact nI_m1 (by omega))]
        exact Or.inr ⟨n9, o1, o2, o3, o4⟩
    have fb : ∀ j, j < 4 → ∃ n9, nlo j ≤ n9 ∧ n9 ≤ nhi j ∧ f_set Z (30 - ac) j = nI n9 ∧ f_keep vf m' 1141 j = nI n9 := fun j hj => by
      rcases f0 j hj with ⟨a1, a2⟩ | a1
      · rcases (show j = 0 ∨ j = 1 ∨ j = 2 ∨ j = 3 by omega) with rfl | rfl | rfl | rfl
        · exact ⟨4, by decide, by decide, a1, a2⟩
        · exact ⟨0, by decide, by decide, a1, a2⟩
        · exact ⟨20, by decide, by decide, a1, a2⟩
        · exact ⟨3, by decide, by decide, a1, a2⟩
      · exact a1
    obtain ⟨ar', -, b2, b3, b4⟩ := fb 0 (by decide)
    have hlw : ∀ i, i < m' → ∃ w9, w9 < 4 ∧ Z (lnB (30 - ac) + i) 0 = nI (3000 + w9) ∧ lwf Z (30 - ac) i = w9 ∧ vf 1131 (24 + i) = nI w9 := fun i hi => by
      obtain ⟨-, w9, o1, o2, o3⟩ := hln i hi
      have e : Z (lnB (30 - ac) + i) 0 = nI (3000 + w9) := by rw [u9 _ (by omega) (by omega) (by omega)]; exact o2
      exact ⟨w9, o1, e, by unfold lwf; rw [e, nI_clamp (by omega)]; omega, o3⟩
    refine ⟨rfl, 30 - ac, m', 0, ar', h.ac ⟨fun c a1 a2 a3 a4 a5 => ?_, u3, u30 2 (by decide), u30 8 (by decide)⟩ ya ?_ ?_ ?_ y1 ⟨hs, u1, ?_, ⟨hm', ?_, fun i hi => ?_⟩, ⟨hm', fun i hi => ?_⟩, ?_, ⟨b3, b4, b2⟩, ?_, ?_, ?_⟩ ?_ (dyn_6 hs hd g gc u9 (fun j hj => u6' j (by omega)) ?_)⟩
    · exact (u9 c a1 a2 a3).trans (far c a1 a4 a5)
    · rw [u6' 14 (by decide), v14, e9.1, tf.2 23 (by omega)]; exact hy.2.2.1.2.1.symm
    · rw [u15, e9.2, tf.2 24 (by omega)]; exact hy.2.2.1.2.2.1.symm
    · rw [u6' 1 (by decide)]; exact hmi
    · rw [u2, show 30 - (30 - ac) = ac by omega]
    · rw [u9 _ (by omega) (by omega) (by omega)]; exact vm
    · obtain ⟨w9, o1, o2, o3, -⟩ := hlw i hi
      rw [o3]; exact ⟨by omega, o2⟩
    · obtain ⟨w9, o1, o2, o3, o4⟩ := hlw i hi
      refine ⟨?_, by rw [o3]; exact o1, by rw [o3, yk 1131 i (by omega) (by omega) hi]; exact o4⟩
      have q1 := (hln i hi).1
      unfold lnR at q1 ⊢
      rw [u9 (lnB (30 - ac) + i) (by omega) (by omega) (by omega), yk 1132 i (by omega) (by omega) hi, yk 1133 i (by omega) (by omega) hi, yk 1134 i (by omega) (by omega) hi, yk 1135 i (by omega) (by omega) hi, yk 1136 i (by omega) (by omega) hi, yk 1137 i (by omega) (by omega) hi, yk 1138 i (by omega) (by omega) hi]
      exact q1
    · rw [hk9.2.2.1]; exact v39
    · obtain ⟨n9, -, o2, o3, o4⟩ := fb 1 (by decide); exact ⟨n9, o2, o3, o4⟩
    · obtain ⟨n9, o1, o2, o3, o4⟩ := fb 2 (by decide); exact ⟨n9, o1, o2, o3, o4⟩
    · obtain ⟨n9, o1, o2, o3, o4⟩ := fb 3 (by decide); exact ⟨n9, o1, o2, o3, o4⟩
    · refine ⟨0, by omega, u31, fun r h9 hr hh => ?_⟩
      obtain ⟨k0, -, -, p3⟩ := hP
      have p4 := (p3 r h9 hr hh).1
      rw [show Z (2007 + 10 * r) = z (2007 + 10 * r) by rw [u9 _ (by omega) (by omega) (by omega), far _ (by omega) (by omega) (by omega)]]
      refine ⟨p4, ?_⟩
      show _ = (-1 : Int32)
      rcases p4 with p4 | ⟨k9, hk9, p4⟩
      · rw [p4]; exact ite_self _
      · rw [p4, if_neg (nI_nlt (by omega) (by omega))]
    · rw [u1, u2]
      exact ⟨Or.inl (nI_lt (b := 2000) (by omega) (by decide)), Or.inl (nI_lt (b := 2000) (by omega) (by decide))⟩
end PNS
