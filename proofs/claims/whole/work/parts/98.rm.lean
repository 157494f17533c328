theorem nt2.mono {z y : fr_V} {N n w n' w' : Nat} (h : nt2 z y N n w) (hn : n ≤ n') (hw : w ≤ w') : nt2 z y N n' w' := by
  refine ⟨h.1, h.2.1, h.2.2.1, fun j hj => ?_⟩
  obtain ⟨a, b, c, ⟨t, ht, et⟩, d⟩ := h.2.2.2 j hj
  refine ⟨a, b, c, ⟨t, by omega, et⟩, ?_⟩
  rcases d with d | ⟨d1, d2, ⟨l, hl, el⟩, k, hk, ek⟩
  · exact Or.inl d
  · exact Or.inr ⟨d1, d2, ⟨l, by omega, el⟩, k, by omega, ek⟩
theorem li2.mono {z y : fr_V} {n w w' : Nat} (h : li2 z y n w) (hw : w ≤ w') : li2 z y n w' := by
  refine ⟨h.1, h.2.1, h.2.2.1, fun i hi => ?_⟩
  obtain ⟨a, b, c, d, e⟩ := h.2.2.2 i hi
  exact ⟨a, b, c, d, by omega⟩
theorem rn2.mono {I : List Nat} {z y : fr_V} {nr n w n' w' : Nat} (h : rn2 I z y nr n w) (hn : n ≤ n') (hw : w ≤ w') : rn2 I z y nr n' w' := by
  refine ⟨h.1, h.2.1, h.2.2.1, fun r hr => ?_⟩
  obtain ⟨a, b, c, ⟨l, hl, el⟩, d, e, q, hq, eq⟩ := h.2.2.2 r hr
  refine ⟨a, b, c, ⟨l, by omega, el⟩, ?_, e, q, by omega, eq⟩
  rcases d with d | ⟨l, hl, el⟩
  · exact Or.inl d
  · exact Or.inr ⟨l, by omega, el⟩
theorem rn2.c {I : List Nat} {z z' y y' : fr_V} {nr n w : Nat} (h : rn2 I z y nr n w) (e2 : z' 300 2 = z 300 2) (e3 : z' 302 = z 302) (er : ∀ r, z' (2000 + 10 * r) = z (2000 + 10 * r)) (f : y' 1100 7 = y 1100 7) (f9 : ∀ c, c ∈ [1109, 1110, 1111, 1112, 1113, 1114] → y' c = y c) : rn2 I z' y' nr n w := by
  refine ⟨h.1, by rw [e2]; exact h.2.1, by rw [f]; exact h.2.2.1, fun r hr => ?_⟩
  rw [er r, e3, f9 1109 (by decide), f9 1110 (by decide), f9 1111 (by decide), f9 1112 (by decide), f9 1113 (by decide), f9 1114 (by decide)]
  exact h.2.2.2 r hr
theorem hd2.c {z z' : fr_V} {NS nr : Nat} (h : hd2 z NS nr) (er : ∀ r, z' (2000 + 10 * r) = z (2000 + 10 * r)) (e : ∀ c, c ∈ [304, 305, 306, 307, 308] → z' c = z c) : hd2 z' NS nr := by
  refine ⟨by rw [e 304 (by decide)]; exact h.1, fun r hr x => ?_⟩
  have e9 : hdC z' NS r x = hdC z NS r x := by unfold hdC; rw [er r, e 304 (by decide), e 305 (by decide), e 306 (by decide), e 307 (by decide), e 308 (by decide)]
  rw [e9]; exact h.2 r hr x
theorem pdR.c {z z' y y' : fr_V} {N n nr ar w : Nat} (h : pdR z y N nr ar w) (er : ∀ r, z' (2007 + 10 * r) = z (2007 + 10 * r)) (e : z' 300 10 = z 300 10) (hE : ∀ r, r < nr → prE y' y N n r) (hW : ∀ r, r < nr → prW y N n r) : pdR z' y' N nr ar w := by
  obtain ⟨k0, h1, h2, h3⟩ := h
  refine ⟨k0, h1, by rw [e]; exact h2, fun r h9 hr hh => ?_⟩
  rw [er r, prF_x (hE r hr) (hW r hr)]
  exact h3 r h9 hr hh
theorem pdR.mono {z y : fr_V} {N nr ar w w' : Nat} (h : pdR z y N nr ar w) (hw : w ≤ w') : pdR z y N nr ar w' := by
  obtain ⟨k0, h1, h2⟩ := h
  exact ⟨k0, by omega, h2⟩
theorem sl2.mono {z y : fr_V} {NS w w' : Nat} (h : sl2 z y NS w) (hw : w ≤ w') : sl2 z y NS w' := ⟨h.1, h.2.1, h.2.2.1, fun j hj => by
  obtain ⟨t, ht, e⟩ := h.2.2.2 j hj
  exact ⟨t, by omega, e⟩⟩
theorem ac2.y {z y y' : fr_V} {ac m ar : Nat} (f : ac2 z y ac m ar) (p38 : y' 1100 38 = y 1100 38) (p : ∀ c, c ∈ [1131, 1132, 1133, 1134, 1135, 1136, 1137, 1138, 1141] → y' c = y c) : ac2 z y' ac m ar := by
  unfold ac2 acR lnR at f ⊢
  rw [p38, p 1131 (by decide), p 1132 (by decide), p 1133 (by decide), p 1134 (by decide), p 1135 (by decide), p 1136 (by decide), p 1137 (by decide), p 1138 (by decide), p 1141 (by decide)]; exact f
theorem dyn.c {z z' : fr_V} (h : dyn z) (e : ∀ k j, dynF k j → z' k j = z k j) : dyn z' := fun k j h9 => by rw [e k j h9]; exact h k j h9
section STP
variable {I : List Nat} {ac m N n nr NS w t ar : Nat} {z y : fr_V}
theorem RLp.later (h : RLp I ac m N n nr NS w t ar z y) {w' : Nat} (hw : w ≤ w') (h8 : w' < 80) : RLp I ac m N n nr NS w' t ar (up2 z 1000 3 (nI w')) (up2 y 1100 3 (nI w')) := by
  have hW : ∀ r, r < nr → prW y N n r := fun r hr => h.pw hr
  obtain ⟨⟨a1, a2, a3, a4⟩, b, c, d, f, g, k1, hc, hp, l, o⟩ := id h
  have rz : ∀ r, up2 z 1000 3 (nI w') (2000 + 10 * r) = z (2000 + 10 * r) := fun r => up2_ne (by omega)
  have rp : ∀ r, up2 z 1000 3 (nI w') (2007 + 10 * r) = z (2007 + 10 * r) := fun r => up2_ne (by omega)
  refine ⟨⟨a1.mono (Nat.le_refl _) hw, h8, a3.mono hw, (a4.mono (Nat.le_refl _) hw).c rfl rfl rz rfl (fun c hc => by simp only [List.mem_cons, List.mem_nil_iff, or_false] at hc; exact up2_ne (by omega))⟩, ⟨rfl, rfl⟩, c.mono hw, d.c rz (fun c hc => by simp only [List.mem_cons, List.mem_nil_iff, or_false] at hc; exact up2_ne (by omega)), ?_, g, ⟨fun c9 g9 q1 q2 => by rw [up2_ne (by omega)]; exact k1.1 c9 g9 q1 q2, k1.2⟩, hc, (hp.mono hw).c rp rfl (fun r hr => ⟨⟨rfl, rfl, rfl⟩, fun i _ => ⟨rfl, rfl, rfl, rfl⟩, rfl, fun l _ => rfl⟩) hW, ?_, o⟩
  · have f' : ac2 (up2 z 1000 3 (nI w')) y ac m ar := by
      obtain ⟨f1, f2, f3, f4, f5, f6⟩ := f
      refine ⟨f1, f2, f3, ⟨f4.1, ?_, fun i hi => ?_⟩, ⟨f5.1, fun i hi => ?_⟩, f6.1, ?_⟩
      · rw [up2_ne (by omega)]; exact f4.2.1
      · have := f4.1
        have hb := ln_lt f1 (show i < 24 by omega)
        unfold lwf
        rw [up2_ne (by omega)]; exact f4.2.2 i hi
      · have := f5.1
        have hb := ln_lt f1 (show i < 24 by omega)
        unfold lwf lnR
        rw [up2_ne (by omega)]; exact f5.2 i hi
      · unfold f_set
        rw [up2_ne (by omega)]; exact f6.2
    exact f'.y rfl (fun c hc => by simp only [List.mem_cons, List.mem_nil_iff, or_false] at hc; exact up2_ne (by omega))
  · refine l.c (fun k j h9 => ?_)
    unfold dynF at h9
    by_cases e : k = 1000
    · subst e; rw [up2_self]; unfold upd; rw [if_neg (by omega)]
    · rw [up2_ne e]
theorem s_halves (h : RLp I ac m N n nr NS w t ar z y) (x : Int32) : (f_X10_halves z x).1 = (f_X11_halves y x).1 ∧ ∃ w', RLp I ac m N n nr NS w' t ar (f_X10_halves z x).2 (f_X11_halves y x).2 := by
  have h0 := h.th 0
  obtain ⟨⟨a1, a2, a3, a4⟩, b, -⟩ := id h
  have e : f_X10_halves z x = if cI (vp_in x 80) = 0 then ((-1), z) else if ((z 1000 3) + x) < 80 then ((z 1000 3) + x, up2 z 1000 3 ((z 1000 3) + x)) else ((-1), z) := by
    unfold f_X10_halves
    rw [← rngA (x := x) (n := 80) (by decide), show nI 80 = (80 : Int32) from rfl]
    by_cases c1 : x < 0
    · rw [if_pos c1, if_pos c1, if_pos z00]
    · rw [if_neg c1, if_neg c1]
      by_cases c2 : 80 ≤ x
      · rw [if_pos c2, if_pos c2, if_pos z00]
      · rw [if_neg c2, if_neg c2, if_neg n10]
  rw [e]
  unfold f_X11_halves
  rw [show f_X11_isIn (up2 y 1100 2 0) x 0 79 = cI (vp_in x 80) from r11i 79 (by decide), b.1, b.2]
  by_cases v9 : vp_in x 80
  · simp only [cI_pos v9, if_neg n10]
    obtain ⟨q, hq, rfl⟩ := vp_in_of v9 (by omega)
    rw [nI_add]
    by_cases c : w + q < 80
    · rw [if_pos (show nI (w + q) < (80 : Int32) from nI_lt (b := 80) c (by decide)), if_pos (show nI (w + q) ≤ (79 : Int32) from nI_le (b := 79) (by omega) (by decide))]
      exact ⟨rfl, w + q, h0.later (by omega) c⟩
    · rw [if_neg (show ¬ nI (w + q) < (80 : Int32) from nI_nlt (b := 80) (by omega) (by omega)), if_neg (show ¬ nI (w + q) ≤ (79 : Int32) from nI_ge (a := 79) (by omega) (by omega))]
      exact ⟨rfl, w, h0⟩
  · simp only [cI_neg v9, if_pos z00]; exact ⟨rfl, w, h0⟩
theorem gd_B {S O H C D B B' : Nat → Int32} {i : Nat} (h : S i = 0 → B (O i).toNatClampNeg = B' (O i).toNatClampNeg) : gdV S O H C D B i = gdV S O H C D B' i := by
  unfold gdV lvV
  by_cases c : S i = 0
  · rw [h c]
  · rw [if_neg c, if_neg c]
theorem RLp.born (h : RLp I ac m N n nr NS w t ar z y) (hn : n < 12) {x1 x2 : Int32} (h1 : -160 ≤ x1.toInt) (h2 : x1.toInt ≤ w) (h3 : vp_in x2 4) : RLp I ac m N (n + 1) nr NS w t ar (up2 (up2 (up2 z 501 n x1) 502 n x2) 500 2 (nI n + 1)) (up2 (up2 (up2 y 1106 n x1) 1107 n x2) 1100 4 (nI n + 1)) := by
  have hW : ∀ r, r < nr → prW y N n r := fun r hr => h.pw hr
  obtain ⟨⟨a1, a2, a3, a4⟩, b, c, d, f, g, k1, hc, hp, l, o⟩ := id h
  generalize hz : up2 (up2 (up2 z 501 n x1) 502 n x2) 500 2 (nI n + 1) = z'
  generalize hy : up2 (up2 (up2 y 1106 n x1) 1107 n x2) 1100 4 (nI n + 1) = y'
  have ez : ∀ c, c ≠ 500 → c ≠ 501 → c ≠ 502 → z' c = z c := fun c q1 q2 q3 => by rw [← hz, up2_ne q1, up2_ne q3, up2_ne q2]
  have ey : ∀ c, c ≠ 1100 → c ≠ 1106 → c ≠ 1107 → y' c = y c := fun c q1 q2 q3 => by rw [← hy, up2_ne q1, up2_ne q3, up2_ne q2]
  have ey0 : ∀ j, j ≠ 4 → y' 1100 j = y 1100 j := fun j hj => by rw [← hy, up2_self]; unfold upd; rw [if_neg hj]; rfl
  have e501 : z' 501 = upd (z 501) n x1 := by rw [← hz]; rfl
  have e502 : z' 502 = upd (z 502) n x2 := by rw [← hz]; rfl
  have e1106 : y' 1106 = upd (y 1106) n x1 := by rw [← hy]; rfl
  have e1107 : y' 1107 = upd (y 1107) n x2 := by rw [← hy]; rfl
  have z1 : ∀ r, z' (2000 + 10 * r) = z (2000 + 10 * r) := fun r => ez _ (by omega) (by omega) (by omega)
  have z2 : ∀ r, z' (2007 + 10 * r) = z (2007 + 10 * r) := fun r => ez _ (by omega) (by omega) (by omega)
  refine ⟨⟨?_, a2, ?_, ?_⟩, ⟨by rw [ez 1000 (by decide) (by decide) (by decide)]; exact b.1, by rw [ey0 3 (by decide)]; exact b.2⟩, ?_, d.c z1 (fun c hc => by simp only [List.mem_cons, List.mem_nil_iff, or_false] at hc; exact ez c (by omega) (by omega) (by omega)), (f.z (fun c hc => ez c (by omega) (by omega) (by omega))).y (ey0 38 (by decide)) (fun c hc => by simp only [List.mem_cons, List.mem_nil_iff, or_false] at hc; exact ey c (by omega) (by omega) (by omega)), ?_, ?_, ?_, ?_, l.c (fun k j h9 => by unfold dynF at h9; rw [ez k (by omega) (by omega) (by omega)]), by rw [ez 302 (by decide) (by decide) (by decide)]; exact o⟩
  · have q := a1.mono (n' := n + 1) (w' := w) (by omega) (Nat.le_refl _)
    unfold nt2 at q ⊢
    rw [ez 100 (by decide) (by decide) (by decide), ez 102 (by decide) (by decide) (by decide), ez 103 (by decide) (by decide) (by decide), ez 104 (by decide) (by decide) (by decide), ez 105 (by decide) (by decide) (by decide), ey0 16 (by decide), ey 1118 (by decide) (by decide) (by decide), ey 1119 (by decide) (by decide) (by decide), ey 1120 (by decide) (by decide) (by decide), ey 1121 (by decide) (by decide) (by decide)]
    exact q
  · refine ⟨by omega, by rw [← hz]; exact nI_1 n, by rw [← hy]; exact nI_1 n, fun i hi => ?_⟩
    rw [e501, e502, e1106, e1107]
    unfold upd
    by_cases e : i = n
    · simp only [if_pos e]
      obtain ⟨k, hk, ek⟩ := vp_in_of h3 (by decide)
      exact ⟨trivial, trivial, ⟨k, hk, ek⟩, h1, h2⟩
    · simp only [if_neg e]
      exact a3.2.2.2 i (by omega)
  · exact (a4.mono (n' := n + 1) (w' := w) (by omega) (Nat.le_refl _)).c (by rw [ez 300 (by decide) (by decide) (by decide)]) (ez 302 (by decide) (by decide) (by decide)) z1 (ey0 7 (by decide)) (fun c hc => by simp only [List.mem_cons, List.mem_nil_iff, or_false] at hc; exact ey c (by omega) (by omega) (by omega))
  · unfold sl2 slR at c ⊢
    rw [ez 300 (by decide) (by decide) (by decide), ez 304 (by decide) (by decide) (by decide), ez 305 (by decide) (by decide) (by decide), ez 306 (by decide) (by decide) (by decide), ez 307 (by decide) (by decide) (by decide), ez 308 (by decide) (by decide) (by decide), ey0 14 (by decide), ey 1116 (by decide) (by decide) (by decide)]
    exact c
  · unfold tp2 at g ⊢
    rw [ez 600 (by decide) (by decide) (by decide), ez 601 (by decide) (by decide) (by decide), ey0 1 (by decide), ey 1101 (by decide) (by decide) (by decide)]
    exact g
  · unfold mi2 tbR at k1 ⊢
    rw [ez 600 (by decide) (by decide) (by decide), ez 200 (by decide) (by decide) (by decide), ez 210 (by decide) (by decide) (by decide), ey0 23 (by decide), ey0 24 (by decide), ey0 52 (by decide), ey 1122 (by decide) (by decide) (by decide), ey 1154 (by decide) (by decide) (by decide), ey 1123 (by decide) (by decide) (by decide)]
    exact ⟨fun c9 g9 q1 q2 => by rw [ez (910 + c9) (by omega) (by omega) (by omega)]; exact k1.1 c9 g9 q1 q2, k1.2⟩
  · intro k hk e
    have q := hc k hk (by rw [ez 100 (by decide) (by decide) (by decide)] at e; exact e)
    unfold knC dedC cntC at q ⊢
    rw [ez 102 (by decide) (by decide) (by decide), ez 103 (by decide) (by decide) (by decide), ez 104 (by decide) (by decide) (by decide), ez 105 (by decide) (by decide) (by decide), ez 108 (by decide) (by decide) (by decide), ez 109 (by decide) (by decide) (by decide), ez 110 (by decide) (by decide) (by decide), e501]
    refine ⟨q.1, q.2.1, fun i hi => ?_⟩
    rw [q.2.2 i hi]
    refine gd_B (fun c0 => ?_)
    obtain ⟨-, ⟨l9, hl9, e9⟩, -⟩ := a1.half hi (by rw [c0]; decide)
    rw [e9, nI_clamp (by omega)]
    unfold upd
    rw [if_neg (by omega)]
  · refine hp.c (n := n) z2 (by rw [ez 300 (by decide) (by decide) (by decide)]) (fun r hr => ⟨⟨by rw [ey 1109 (by decide) (by decide) (by decide)], by rw [ey 1111 (by decide) (by decide) (by decide)], by rw [ey 1112 (by decide) (by decide) (by decide)]⟩, fun i hi => ⟨by rw [ey 1118 (by decide) (by decide) (by decide)], by rw [ey 1119 (by decide) (by decide) (by decide)], by rw [ey 1120 (by decide) (by decide) (by decide)], by rw [ey 1121 (by decide) (by decide) (by decide)]⟩, by rw [ey 1141 (by decide) (by decide) (by decide)], fun l hl => ?_⟩) hW
    rw [e1106]; unfold upd; rw [if_neg (by omega)]
theorem s_life (h : RLp I ac m N n nr NS w t ar z y) (x1 x2 : Int32) : (f_life10 z x1 x2).1 = (f_X11_life y x1 x2).1 ∧ ∃ n', RLp I ac m N n' nr NS w t ar (f_life10 z x1 x2).2 (f_X11_life y x1 x2).2 := by
  have h0 := h.th 0
  obtain ⟨⟨a1, a2, a3, a4⟩, b, -⟩ := id h
  have hn := a3.1
  unfold f_life10 f_X11_life f_X5_enter
  rw [r10c, show f_X11_isIn (up2 y 1100 2 0) x2 0 3 = cI (vp_in x2 4) from r11i 3 (by decide), b.1, b.2, a3.2.1, a3.2.2.1]
  unfold f_X11_isIn
  by_cases c1 : x1 < (-160)
  · simp only [if_pos c1, if_pos z00]
    refine ⟨?_, n, ?_⟩
    · show (-1 : Int32) = (if nI n = 12 then ((-1 : Int32), up2 y 1100 2 0) else ((-1), up2 y 1100 2 0)).1
      rw [ite_self]
    · show RLp I ac m N n nr NS w t ar z (if nI n = 12 then ((-1 : Int32), up2 y 1100 2 0) else ((-1), up2 y 1100 2 0)).2
      rw [ite_self]; exact h0
  · by_cases c2 : nI w < x1
    · simp only [if_neg c1, if_pos c2, if_pos z00]
      refine ⟨?_, n, ?_⟩
      · show (-1 : Int32) = (if nI n = 12 then ((-1 : Int32), up2 y 1100 2 0) else ((-1), up2 y 1100 2 0)).1
        rw [ite_self]
      · show RLp I ac m N n nr NS w t ar z (if nI n = 12 then ((-1 : Int32), up2 y 1100 2 0) else ((-1), up2 y 1100 2 0)).2
        rw [ite_self]; exact h0
    · by_cases v9 : vp_in x2 4
      · simp only [if_neg c1, if_neg c2, cI_pos v9, if_neg n10]
        by_cases c3 : n = 12
        · subst c3
          exact ⟨rfl, 12, h0⟩
        · rw [if_pos (show nI n < (12 : Int32) from nI_lt (b := 12) (by omega) (by decide)), if_neg (show ¬ nI n = (12 : Int32) from fun e => c3 ((nI_eq (b := 12) (by omega) (by decide)).mp e)), nI_clamp (by omega)]
          have b1 : -160 ≤ x1.toInt := by
            rw [Int32.lt_iff_toInt_lt, show ((-160 : Int32)).toInt = -160 from by decide] at c1; omega
          have b2 : x1.toInt ≤ w := by
            rw [Int32.lt_iff_toInt_lt, nI_toInt (by omega)] at c2; omega
          exact ⟨rfl, n + 1, h0.born (by omega) b1 b2 v9⟩
      · simp only [if_neg c1, if_neg c2, cI_neg v9, if_pos z00, if_neg n10]
        refine ⟨?_, n, ?_⟩
        · show (-1 : Int32) = (if nI n = 12 then ((-1 : Int32), up2 y 1100 2 0) else ((-1), up2 y 1100 2 0)).1
          rw [ite_self]
        · show RLp I ac m N n nr NS w t ar z (if nI n = 12 then ((-1 : Int32), up2 y 1100 2 0) else ((-1), up2 y 1100 2 0)).2
          rw [ite_self]; exact h0
end STP
