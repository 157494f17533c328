theorem rngA {x : Int32} {n : Nat} (hn : n < 2 ^ 31) : (if x < 0 then (0 : Int32) else if nI n ≤ x then 0 else 1) = cI (vp_in x n) := by
  by_cases h0 : x < 0
  · rw [if_pos h0, cI_neg (fun h => h (Or.inl h0))]
  · obtain ⟨j, hj, rfl⟩ := nI_of h0
    rw [if_neg h0]
    by_cases h : j < n
    · rw [if_neg (fun e => by rw [nI_leI hn hj] at e; omega), cI_pos (vp_in_nI h hn)]
    · rw [if_pos (nI_le (by omega) hj), cI_neg (fun e => by
        obtain ⟨i, hi, e2⟩ := vp_in_of e hn
        rw [nI_eq hj (by omega)] at e2
        omega)]
theorem rngB {x : Int32} {n : Nat} (hn : n + 1 < 2 ^ 31) : (if x < 0 then (0 : Int32) else if nI n < x then 0 else 1) = cI (vp_in x (n + 1)) := by
  rw [← rngA hn]
  by_cases h0 : x < 0
  · rw [if_pos h0, if_pos h0]
  · obtain ⟨j, hj, rfl⟩ := nI_of h0
    rw [if_neg h0, if_neg h0]
    by_cases h : n < j
    · rw [if_pos (nI_lt h hj), if_pos (nI_le (by omega) hj)]
    · rw [if_neg (fun e => by rw [nI_ltI (by omega) hj] at e; omega), if_neg (fun e => by rw [nI_leI hn hj] at e; omega)]
section RNG
variable {z y : fr_V} {x : Int32} {n : Nat}
theorem r5h (e : z 500 2 = nI n) (hn : n ≤ 12) : f_X5_has z x = cI (vp_in x n) := by unfold f_X5_has; rw [e]; exact rngA (by omega)
theorem r11l (e : y 1100 4 = nI n) (hn : n ≤ 12) : f_X11_isLife y x = cI (vp_in x n) := by unfold f_X11_isLife; rw [e]; exact rngA (by omega)
theorem r3h (e : z 300 2 = nI n) (hn : n ≤ 16) : f_X3_has z x = cI (vp_in x n) := by unfold f_X3_has; rw [e]; exact rngA (by omega)
theorem r11r (e : y 1100 7 = nI n) (hn : n ≤ 16) : f_X11_isRent y x = cI (vp_in x n) := by unfold f_X11_isRent; rw [e]; exact rngA (by omega)
theorem r1h (e : z 100 5 = nI n) (hn : n ≤ 60) : f_X1_has z x = cI (vp_in x n) := by unfold f_X1_has; rw [e]; exact rngA (by omega)
theorem r10f : f_X10_isHalf z x = cI (vp_in x 80) := rngA (n := 80) (by decide)
theorem r10c : f_X10_isClass z x = cI (vp_in x 4) := rngA (n := 4) (by decide)
theorem r10g : f_X10_isGroup z x = cI (vp_in x 10) := rngA (n := 10) (by decide)
theorem r10h : f_X10_isHolder z x = cI (vp_in x 8) := rngA (n := 8) (by decide)
theorem r11h : f_X11_isHolder y x = cI (vp_in x 8) := rngA (n := 8) (by decide)
theorem r11f : f_X11_isHalf y x = cI (vp_in x 80) := rngB (n := 79) (by decide)
theorem r10b (e : z 1000 3 = nI n) (hn : n < 80) : f_X10_hasBegun z x = cI (vp_in x (n + 1)) := by unfold f_X10_hasBegun; rw [e]; exact rngB (by omega)
theorem r11n (e : y 1100 3 = nI n) (hn : n < 80) {v : fr_V} : f_X11_isIn v x 0 (y 1100 3) = cI (vp_in x (n + 1)) := by unfold f_X11_isIn; rw [e]; exact rngB (by omega)
theorem r11i {v : fr_V} (n : Nat) (hn : n < 1000) : f_X11_isIn v x 0 (nI n) = cI (vp_in x (n + 1)) := rngB (by omega)
end RNG
theorem RLp.th {I : List Nat} {ac m N n nr NS w t ar : Nat} {z y : fr_V} (h : RLp I ac m N n nr NS w t ar z y) (x : Int32) : RLp I ac m N n nr NS w t ar z (up2 y 1100 2 x) :=
  h.y ⟨fun c h1 _ _ _ _ _ _ _ _ _ _ => up2_ne (by omega), fun j hj _ _ _ => by rw [up2_self]; unfold upd; rw [if_neg hj]⟩
theorem RLp.kn {I : List Nat} {ac m N n nr NS w t ar : Nat} {z y : fr_V} (h : RLp I ac m N n nr NS w t ar z y) (x : Int32) : RLp I ac m N n nr NS w t ar z (f_know y N x) :=
  h.y ⟨fun c h1 h2 h3 h4 _ _ _ _ _ _ _ => know_o h3 h4, fun j _ _ _ _ => by rw [know_o (by decide) (by decide)]⟩
theorem pdR.row {z z' y : fr_V} {N nr ar w : Nat} (h : pdR z y N nr ar w) (h10 : z' 300 10 = z 300 10) (hr : ∀ r, z' (2007 + 10 * r) = z (2007 + 10 * r)) : pdR z' y N nr ar w := by
  obtain ⟨k0, h1, h2, h3⟩ := h
  exact ⟨k0, h1, by rw [h10]; exact h2, fun r h9 hr9 hh => by rw [hr r]; exact h3 r h9 hr9 hh⟩
theorem RLp.kw {I : List Nat} {ac m N n nr NS w t ar k : Nat} {z y : fr_V} (h : RLp I ac m N n nr NS w t ar z y) (hk : k < 80) : RLp I ac m N n nr NS w t ar (f_kw z N (nI k)) y := by
  have s := sm3.kw (v := z) (N := N) (x := nI k)
  obtain ⟨⟨a1, a2, a3, a4⟩, b, c, d, f, g, k1, hc, hp, l, o⟩ := id h
  refine h.z ⟨fun c h1 h2 h3 h4 h5 _ _ _ _ _ _ _ _ _ _ => s.1 c h1 h2 h3 h4 h5, s.2.1 5 (by decide), ⟨by rw [s.1 300 (by decide) (by decide) (by decide) (by decide) (by decide)], by rw [s.1 300 (by decide) (by decide) (by decide) (by decide) (by decide)]⟩, by rw [s.1 200 (by decide) (by decide) (by decide) (by decide) (by decide)], s.2.2⟩ (hc.kw (a1.okz a3.1) hk).2 (hp.row (by rw [s.1 300 (by decide) (by decide) (by decide) (by decide) (by decide)]) (fun r => kw_row))
theorem RLp.kC {I : List Nat} {ac m N n nr NS w t ar k : Nat} {z y : fr_V} (h : RLp I ac m N n nr NS w t ar z y) (hk : k < 80) : knC (f_kw z N (nI k)) N (nI k) := by
  obtain ⟨⟨a1, a2, a3, a4⟩, b, c, d, f, g, k1, hc, hp, l, o⟩ := h
  exact (hc.kw (a1.okz a3.1) hk).1
theorem RLp.kR {I : List Nat} {ac m N n nr NS w t ar k : Nat} {z y : fr_V} (h : RLp I ac m N n nr NS w t ar z y) (hk : k < 80) : knR (f_kw z N (nI k)) (f_know y N (nI k)) N :=
  knR_of sm3.kw (h.kC hk) h.1.1 h.1.2.1 h.1.2.2.1
theorem n10 : ¬ (1 : Int32) = 0 := by decide
theorem z00 : (0 : Int32) = 0 := rfl
section STP
variable {I : List Nat} {ac m N n nr NS w t ar : Nat} {z y : fr_V}
theorem s_fault (h : RLp I ac m N n nr NS w t ar z y) (x : Int32) : f_X10_fault z x = (f_X11_fault y x).1 ∧ RLp I ac m N n nr NS w t ar z (f_X11_fault y x).2 := by
  obtain ⟨-, ⟨e1, e2⟩, -⟩ := h.2.2.2.2.2.2.1
  unfold f_X10_fault f_X11_fault
  by_cases c : x = 0
  · rw [if_pos c, if_pos c]; exact ⟨e1, h.th 0⟩
  · rw [if_neg c, if_neg c]
    by_cases c2 : x = 1
    · rw [if_pos c2, if_pos c2]; exact ⟨e2, h.th 0⟩
    · rw [if_neg c2, if_neg c2]; exact ⟨rfl, h.th 0⟩
theorem s_named (h : RLp I ac m N n nr NS w t ar z y) (x : Int32) : f_named10 z x = (f_X11_named y x).1 ∧ RLp I ac m N n nr NS w t ar z (f_X11_named y x).2 := by
  obtain ⟨⟨a1, a2, a3, a4⟩, b, c, d, f, g, k1, hc, hp, l, o⟩ := id h
  obtain ⟨e1, e2⟩ := k1.2.2.1
  unfold f_named10 f_X11_named
  rw [r5h a3.2.1 a3.1, r11l (y := up2 y 1100 2 0) (n := n) a3.2.2.1 a3.1]
  by_cases q : z 200 10 = 0
  · rw [if_pos q, if_pos (e1.mp q)]
    exact ⟨by split <;> rfl, h.th 0⟩
  · rw [if_neg q, if_neg (fun e => q (e1.mpr e))]
    by_cases v9 : vp_in x n
    · simp only [cI_pos v9, if_neg n10]
      obtain ⟨i, hi, rfl⟩ := vp_in_of v9 (by have := a3.1; omega)
      have := a3.1
      rw [nI_clamp (by omega)]
      exact ⟨e2 i (by omega), h.th 0⟩
    · simp only [cI_neg v9, if_pos z00]; exact ⟨rfl, h.th 0⟩
theorem s_count (h : RLp I ac m N n nr NS w t ar z y) (x : Int32) : f_count10 z ac x = f_count y x ∧ RLp I ac m N n nr NS w t ar z (up2 y 1100 2 0) := by
  obtain ⟨⟨a1, a2, a3, a4⟩, b, c, d, ⟨f1, f2, f3, f4, f5, f6, f7, ⟨q1, -, f8, f9⟩, ⟨q2, -, -, g1, g2⟩, q3, -, -, g3, g4⟩, g, k1, hc, hp, l, o⟩ := id h
  refine ⟨?_, h.th 0⟩
  unfold f_count10 f_count
  rw [b.1, b.2, a3.2.1, a3.2.2.1, a4.2.1, a4.2.2.1, a1.2.1, a1.2.2.1, f7.1, f7.2.1, f8, f9, g1, g2, g3, g4, f4.2.1, f6]
theorem s_dead (h : RLp I ac m N n nr NS w t ar z y) (x1 x2 : Int32) : (f_dead10 z N x1 x2).1 = (f_X11_dead y N x1 x2).1 ∧ RLp I ac m N n nr NS w t ar (f_dead10 z N x1 x2).2 (f_X11_dead y N x1 x2).2 := by
  obtain ⟨⟨a1, a2, a3, a4⟩, b, c, d, f, g, k1, hc, hp, l, o⟩ := id h
  unfold f_dead10 f_X11_dead
  rw [r5h a3.2.1 a3.1, r11l (y := up2 y 1100 2 0) (n := n) a3.2.2.1 a3.1, r10f, r11f]
  have hn := a3.1
  by_cases v9 : vp_in x1 n
  · simp only [cI_pos v9, if_neg n10]
    by_cases v8 : vp_in x2 80
    · simp only [cI_pos v8, if_neg n10]
      obtain ⟨k, hk, rfl⟩ := vp_in_of v8 (by decide)
      obtain ⟨i, hi, rfl⟩ := vp_in_of v9 (by omega)
      rw [nI_clamp (show i < 2 ^ 31 by omega)]
      exact ⟨((h.th 0).kR hk).2.1 i (by omega), ((h.kw hk).th 0).kn _⟩
    · simp only [cI_neg v8, if_pos z00]; exact ⟨rfl, h.th 0⟩
  · simp only [cI_neg v9, if_pos z00]; exact ⟨rfl, h.th 0⟩
theorem s_holds (h : RLp I ac m N n nr NS w t ar z y) (x1 x2 : Int32) : (f_holds10 z N x1 x2).1 = (f_X11_holds y N x1 x2).1 ∧ RLp I ac m N n nr NS w t ar (f_holds10 z N x1 x2).2 (f_X11_holds y N x1 x2).2 := by
  obtain ⟨⟨a1, a2, a3, a4⟩, b, c, d, f, g, k1, hc, hp, l, o⟩ := id h
  have hN := a1.1
  have e9 : f_X11_holds y N x1 x2 = if cI (vp_in x1 N) = 0 then ((-1), up2 y 1100 2 0) else if (f_X11_isHalf (up2 y 1100 2 0)  x2) = 0 then ((-1), up2 y 1100 2 0) else if ((f_know (up2 y 1100 2 0) N x2) 1145 x1.toNatClampNeg) = 0 then (0, (f_know (up2 y 1100 2 0) N x2)) else if ((f_know (up2 y 1100 2 0) N x2) 1118 x1.toNatClampNeg) = 0 then (if (f_X11_isFalse (f_know (up2 y 1100 2 0) N x2)  x1) = 0 then (1, (f_know (up2 y 1100 2 0) N x2)) else (2, (f_know (up2 y 1100 2 0) N x2))) else (1, (f_know (up2 y 1100 2 0) N x2)) := by
    unfold f_X11_holds
    rw [← rngA (x := x1) (n := N) (by omega), a1.2.2.1]
    by_cases c1 : x1 < 0
    · rw [if_pos c1, if_pos c1, if_pos z00]
    · rw [if_neg c1, if_neg c1]
      by_cases c2 : nI N ≤ x1
      · rw [if_pos c2, if_pos c2, if_pos z00]
      · rw [if_neg c2, if_neg c2, if_neg n10]
  rw [e9]
  unfold f_holds10
  rw [r1h a1.2.1 hN, r10f, r11f]
  by_cases v9 : vp_in x1 N
  · simp only [cI_pos v9, if_neg n10]
    by_cases v8 : vp_in x2 80
    · simp only [cI_pos v8, if_neg n10]
      obtain ⟨k, hk, rfl⟩ := vp_in_of v8 (by decide)
      obtain ⟨i, hi, rfl⟩ := vp_in_of v9 (by omega)
      have q := (h.th 0).kR hk
      obtain ⟨q1, q2, q3, q4, q5⟩ := q.2.2 i hi
      have R := ((h.kw hk).th 0).kn (nI k)
      unfold f_X1_isFalse
      rw [nI_clamp (show i < 2 ^ 31 by omega), q4]
      by_cases c1 : f_know (up2 y 1100 2 0) N (nI k) 1145 i = 0
      · rw [if_pos c1, if_pos c1]; exact ⟨rfl, R⟩
      · rw [if_neg c1, if_neg c1, if_neg c1, q1]
        by_cases c2 : f_know (up2 y 1100 2 0) N (nI k) 1118 i = 0
        · rw [if_pos c2, if_pos c2]
          by_cases c3 : f_kw z N (nI k) 109 i = 0
          · rw [if_pos c3, if_neg (show ¬ (1 : Int32) = 0 by decide), if_neg (fun e => (q5.mp c3) ⟨c2, c1, e⟩)]; exact ⟨rfl, R⟩
          · rw [if_neg c3, if_pos rfl, if_pos (Classical.byContradiction (fun e => c3 (q5.mpr (fun e2 => e e2.2.2))))]; exact ⟨rfl, R⟩
        · rw [if_neg c2, if_neg c2, if_pos rfl]; exact ⟨rfl, R⟩
    · simp only [cI_neg v8, if_pos z00]; exact ⟨rfl, h.th 0⟩
  · simp only [cI_neg v9, if_pos z00]; exact ⟨rfl, h.th 0⟩
end STP
