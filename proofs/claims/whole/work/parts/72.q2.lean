theorem alive_eq {z y : fr_V} {o h : Int32} (hD : ∀ l, l < 12 → z 110 l = y 1146 l) (ho : vp_in o 12) : f_X1_isAliveIn z o h = f_X11_lives y o h := by
  have hm := vp_m1 ho
  obtain ⟨a, ha, rfl⟩ := vp_in_of ho (by omega)
  unfold f_X1_isAliveIn f_X11_lives
  rw [if_neg hm, nI_clamp (show a < 2 ^ 31 by omega), hD a ha]
/-- what is due -/
theorem due_eq {z y : fr_V} {r : Nat} {h : Int32} (hr : r < 16) (hD : ∀ l, l < 12 → z 110 l = y 1146 l) (hb : z (2000 + 10 * r) 4 = y 1109 r) (h1 : z (2000 + 10 * r) 1 = y 1111 r) (h2 : z (2000 + 10 * r) 2 = y 1112 r) (hv1 : vp_in (y 1111 r) 12) (hv2 : ¬ y 1112 r = (-1) → vp_in (y 1112 r) 12) : f_isDue3 z r h = f_X11_isDue y (nI r) h := by
  unfold f_isDue3 f_X11_isDue
  rw [nI_clamp (show r < 2 ^ 31 by omega), hb, h1, h2, alive_eq hD hv1]
  by_cases c : y 1109 r < h
  · rw [if_pos c, if_neg (Int32.not_le.mpr c)]
    by_cases c1 : f_X11_lives y (y 1111 r) h = 0
    · rw [if_pos c1, if_pos c1]
      by_cases c2 : y 1112 r = (-1)
      · rw [if_pos c2, if_pos (by unfold f_X11_lives; rw [if_pos c2])]
      · rw [if_neg c2, alive_eq hD (hv2 c2)]
    · rw [if_neg c1, if_neg c1]
  · rw [if_neg c, if_pos (Int32.not_lt.mp c)]
theorem false_eq {y : fr_V} {D B : Nat → Int32} {i : Nat} (hi : i < 60) (ho : vp_in (y 1119 i) 12) (hD : ∀ l, l < 12 → D l = y 1146 l) (hB : B (y 1119 i).toNatClampNeg = y 1106 (y 1119 i).toNatClampNeg) : lvV D B (y 1119 i) (y 1120 i) = 0 ↔ ¬ f_X11_isFalse y (nI i) = 0 := by
  unfold lvV f_X11_isFalse
  rw [nI_clamp (show i < 2 ^ 31 by omega), hB]
  have hd : D (y 1119 i).toNatClampNeg = y 1146 (y 1119 i).toNatClampNeg := by
    obtain ⟨a, ha, e⟩ := vp_in_of ho (by omega)
    rw [e, nI_clamp (show a < 2 ^ 31 by omega)]
    exact hD a ha
  rw [hd]
  by_cases c1 : y 1120 i < y 1106 (y 1119 i).toNatClampNeg
  · rw [if_pos c1, if_pos c1]
    constructor
    · intro _; decide
    · intro _; simp
  · rw [if_neg c1, if_neg c1]
    by_cases c2 : y 1146 (y 1119 i).toNatClampNeg = (-1)
    · rw [if_pos c2, if_pos c2, if_neg (by decide)]
      exact ⟨fun e => absurd e (by decide), fun e => absurd rfl e⟩
    · rw [if_neg c2, if_neg c2]
      by_cases c3 : y 1146 (y 1119 i).toNatClampNeg < y 1120 i
      · rw [if_pos c3, if_pos rfl, if_neg (Int32.not_le.mpr c3)]
        exact ⟨fun _ => by decide, fun _ => rfl⟩
      · rw [if_neg c3, if_neg (by decide), if_pos (Int32.not_lt.mp c3)]
        exact ⟨fun e => absurd e (by decide), fun e => absurd rfl e⟩
/-- what the two know alike, of class state z and reference state y, with N notes -/
def knR (z y : fr_V) (N : Nat) : Prop := N ≤ 60 ∧ (∀ l, l < 12 → z 110 l = y 1146 l) ∧ ∀ i, i < N → z 102 i = y 1118 i ∧ z 103 i = y 1119 i ∧ (¬ z 102 i = 2 → z 104 i = y 1120 i ∧ vp_in (y 1119 i) 12 ∧ ¬ 79 < y 1120 i) ∧ z 108 i = y 1145 i ∧ (z 109 i = 0 ↔ ¬ (y 1118 i = 0 ∧ ¬ y 1145 i = 0 ∧ f_X11_isFalse y (nI i) = 0))
theorem min_eq {H h w : Int32} (hH : ¬ 79 < H) : (¬ (if h + w < 79 then h + w else 79) < H) ↔ ¬ h + w < H := by
  by_cases c : h + w < 79
  · rw [if_pos c]
  · rw [if_neg c]
    constructor
    · intro _ e
      exact hH (Int32.lt_of_le_of_lt (Int32.not_lt.mp c) e)
    · intro _; exact hH
theorem hp_eq {z y : fr_V} {N : Nat} (k : knR z y N) {o h w : Int32} (ho : vp_in o 12) {i : Nat} (hi : i < N) : hpP z o h (if h + w < 79 then h + w else 79) i ↔ (y 1118 i = 0 ∧ ¬ y 1145 i = 0 ∧ y 1119 i = o ∧ ¬ f_X11_isIn y (y 1120 i) h (h + w) = 0 ∧ f_X11_isFalse y (nI i) = 0) := by
  obtain ⟨a1, a2, a3, a4, a5⟩ := k.2.2 i hi
  unfold hpP
  constructor
  · rintro ⟨b1, b2, b3, b4⟩
    have g : y 1118 i = 0 ∧ ¬ y 1145 i = 0 ∧ f_X11_isFalse y (nI i) = 0 := Classical.byContradiction (fun q => b3 (a5.mpr q))
    obtain ⟨e1, e2, e3⟩ := a3 (by rw [a1, g.1]; decide)
    refine ⟨g.1, g.2.1, by rw [← a2]; exact b4, ?_, g.2.2⟩
    unfold f_X11_isIn
    rw [e1] at b1 b2
    rw [if_neg b1, if_neg ((min_eq e3).mp b2)]
    decide
  · rintro ⟨b1, b2, b3, b4, b5⟩
    obtain ⟨e1, e2, e3⟩ := a3 (by rw [a1, b1]; decide)
    unfold f_X11_isIn at b4
    by_cases c1 : y 1120 i < h
    · rw [if_pos c1] at b4; exact absurd rfl b4
    · rw [if_neg c1] at b4
      by_cases c2 : h + w < y 1120 i
      · rw [if_pos c2] at b4; exact absurd rfl b4
      · refine ⟨by rw [e1]; exact c1, by rw [e1]; exact (min_eq e3).mpr c2, fun e => (a5.mp e) ⟨b1, b2, b5⟩, by rw [a2]; exact b3⟩
/-- what is proved -/
theorem proved_eq {z y : fr_V} {N r : Nat} {h w : Int32} (k : knR z y N) (h1 : z (2000 + 10 * r) 1 = y 1111 r) (h2 : z (2000 + 10 * r) 2 = y 1112 r) (hw : y 1141 1 = w) (hv1 : vp_in (y 1111 r) 12) (hv2 : ¬ y 1112 r = (-1) → vp_in (y 1112 r) 12) : f_isProved3 z N r h w = f_isProved y N r h := by
  have key : (∃ i, i < N ∧ pvP y r h i) ↔ (∃ i, i < N ∧ hpP z (y 1111 r) h (if h + w < 79 then h + w else 79) i) ∨ (¬ y 1112 r = (-1) ∧ ∃ i, i < N ∧ hpP z (y 1112 r) h (if h + w < 79 then h + w else 79) i) := by
    constructor
    · rintro ⟨i, hi, b1, b2, b3, b4, b5⟩
      rw [hw] at b4
      rcases b3 with b3 | b3
      · exact Or.inl ⟨i, hi, (hp_eq k hv1 hi).mpr ⟨b1, b2, b3, b4, b5⟩⟩
      · have hn : ¬ y 1112 r = (-1) := by
          obtain ⟨a1, -, a3, -, -⟩ := k.2.2 i hi
          have := (a3 (by rw [a1, b1]; decide)).2.1
          rw [← b3]
          exact vp_m1 this
        exact Or.inr ⟨hn, i, hi, (hp_eq k (hv2 hn) hi).mpr ⟨b1, b2, b3, b4, b5⟩⟩
    · rintro (⟨i, hi, q⟩ | ⟨hn, i, hi, q⟩)
      · obtain ⟨b1, b2, b3, b4, b5⟩ := (hp_eq k hv1 hi).mp q
        exact ⟨i, hi, b1, b2, Or.inl b3, by rw [hw]; exact b4, b5⟩
      · obtain ⟨b1, b2, b3, b4, b5⟩ := (hp_eq k (hv2 hn) hi).mp q
        exact ⟨i, hi, b1, b2, Or.inr b3, by rw [hw]; exact b4, b5⟩
  unfold f_isProved3 f_isProved f_hasProof
  rw [h1, h2, cI_congr key]
  by_cases p1 : ∃ i, i < N ∧ hpP z (y 1111 r) h (if h + w < 79 then h + w else 79) i
  · rw [if_neg (cI_ne.mpr p1), cI_pos (Or.inl p1)]
  · rw [if_pos (cI_eq.mpr p1)]
    by_cases p2 : y 1112 r = (-1)
    · rw [if_pos p2, cI_neg (fun q => q.elim p1 (fun g => g.1 p2))]
    · rw [if_neg p2]
      by_cases p3 : ∃ i, i < N ∧ hpP z (y 1112 r) h (if h + w < 79 then h + w else 79) i
      · rw [if_neg (cI_ne.mpr p3), cI_pos (Or.inr ⟨p2, p3⟩)]
      · rw [if_pos (cI_eq.mpr p3), cI_neg (fun q => q.elim p1 (fun g => p3 g.2))]
