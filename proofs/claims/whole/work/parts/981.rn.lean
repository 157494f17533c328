section STP
variable {I : List Nat} {ac m N n nr NS w t ar : Nat} {z y : fr_V}
theorem RLp.app (h : RLp I ac m N n nr NS w t ar z y) (hN : N < 60) {s x hz hy : Int32} (hs : (s = 2 ∧ ∃ q, q < N ∧ x = nI q) ∨ ((s = 0 ∨ s = 1) ∧ hz = hy ∧ (∃ l, l < n ∧ x = nI l) ∧ ∃ q, q ≤ w ∧ hz = nI q)) : RLp I ac m (N + 1) n nr NS w t ar (up2 (up2 (up2 (up2 (up2 (up2 z 102 N s) 103 N x) 104 N hz) 105 N (nI w)) 100 5 (nI N + 1)) 100 6 (-1)) (up2 (up2 (up2 (up2 (up2 y 1118 N s) 1119 N x) 1120 N hy) 1121 N (nI w)) 1100 16 (nI N + 1)) := by
  have hW : ∀ r, r < nr → prW y N n r := fun r hr => h.pw hr
  obtain ⟨⟨a1, a2, a3, a4⟩, b, c, d, f, g, k1, hc, hp, l, o⟩ := id h
  generalize hz9 : up2 (up2 (up2 (up2 (up2 (up2 z 102 N s) 103 N x) 104 N hz) 105 N (nI w)) 100 5 (nI N + 1)) 100 6 (-1) = z'
  generalize hy9 : up2 (up2 (up2 (up2 (up2 y 1118 N s) 1119 N x) 1120 N hy) 1121 N (nI w)) 1100 16 (nI N + 1) = y'
  have ez : ∀ c, c ≠ 100 → c ≠ 102 → c ≠ 103 → c ≠ 104 → c ≠ 105 → z' c = z c := fun c q1 q2 q3 q4 q5 => by rw [← hz9, up2_ne q1, up2_ne q1, up2_ne q5, up2_ne q4, up2_ne q3, up2_ne q2]
  have ey : ∀ c, c ≠ 1100 → c ≠ 1118 → c ≠ 1119 → c ≠ 1120 → c ≠ 1121 → y' c = y c := fun c q1 q2 q3 q4 q5 => by rw [← hy9, up2_ne q1, up2_ne q5, up2_ne q4, up2_ne q3, up2_ne q2]
  have ey0 : ∀ j, j ≠ 16 → y' 1100 j = y 1100 j := fun j hj => by rw [← hy9, up2_self]; unfold upd; rw [if_neg hj]; rfl
  have e102 : z' 102 = upd (z 102) N s := by rw [← hz9]; rfl
  have e103 : z' 103 = upd (z 103) N x := by rw [← hz9]; rfl
  have e104 : z' 104 = upd (z 104) N hz := by rw [← hz9]; rfl
  have e105 : z' 105 = upd (z 105) N (nI w) := by rw [← hz9]; rfl
  have f18 : y' 1118 = upd (y 1118) N s := by rw [← hy9]; rfl
  have f19 : y' 1119 = upd (y 1119) N x := by rw [← hy9]; rfl
  have f20 : y' 1120 = upd (y 1120) N hy := by rw [← hy9]; rfl
  have f21 : y' 1121 = upd (y 1121) N (nI w) := by rw [← hy9]; rfl
  have z1 : ∀ r, z' (2000 + 10 * r) = z (2000 + 10 * r) := fun r => ez _ (by omega) (by omega) (by omega) (by omega) (by omega)
  have z2 : ∀ r, z' (2007 + 10 * r) = z (2007 + 10 * r) := fun r => ez _ (by omega) (by omega) (by omega) (by omega) (by omega)
  have up : ∀ (F : Nat → Int32) (v9 : Int32) (i : Nat), i < N → upd F N v9 i = F i := fun F v9 i hi => by unfold upd; rw [if_neg (by omega)]
  have us : ∀ (F : Nat → Int32) (v9 : Int32), upd F N v9 N = v9 := fun F v9 => by unfold upd; rw [if_pos rfl]
  refine ⟨⟨⟨by omega, by rw [← hz9]; exact nI_1 N, by rw [← hy9]; exact nI_1 N, fun j hj => ?_⟩, a2, ?_, ?_⟩, ⟨by rw [ez 1000 (by decide) (by decide) (by decide) (by decide) (by decide)]; exact b.1, by rw [ey0 3 (by decide)]; exact b.2⟩, ?_, d.c z1 (fun c hc => by simp only [List.mem_cons, List.mem_nil_iff, or_false] at hc; exact ez c (by omega) (by omega) (by omega) (by omega) (by omega)), (f.z (fun c hc => ez c (by omega) (by omega) (by omega) (by omega) (by omega))).y (ey0 38 (by decide)) (fun c hc => by simp only [List.mem_cons, List.mem_nil_iff, or_false] at hc; exact ey c (by omega) (by omega) (by omega) (by omega) (by omega)), ?_, ?_, ?_, ?_, l.c (fun k j h9 => by unfold dynF at h9; rw [ez k (by omega) (by omega) (by omega) (by omega) (by omega)]), by rw [ez 302 (by decide) (by decide) (by decide) (by decide) (by decide)]; exact o⟩
  · rw [e102, e103, e104, e105, f18, f19, f20, f21]
    by_cases e : j = N
    · subst e
      rw [us, us, us, us, us, us, us, us]
      refine ⟨rfl, rfl, rfl, ⟨w, Nat.le_refl _, rfl⟩, ?_⟩
      rcases hs with hs | hs
      · exact Or.inl hs
      · exact Or.inr hs
    · rw [up _ _ j (by omega), up _ _ j (by omega), up _ _ j (by omega), up _ _ j (by omega), up _ _ j (by omega), up _ _ j (by omega), up _ _ j (by omega), up _ _ j (by omega)]
      exact a1.2.2.2 j (by omega)
  · unfold li2 at a3 ⊢
    rw [ez 500 (by decide) (by decide) (by decide) (by decide) (by decide), ez 501 (by decide) (by decide) (by decide) (by decide) (by decide), ez 502 (by decide) (by decide) (by decide) (by decide) (by decide), ey0 4 (by decide), ey 1106 (by decide) (by decide) (by decide) (by decide) (by decide), ey 1107 (by decide) (by decide) (by decide) (by decide) (by decide)]
    exact a3
  · exact a4.c (by rw [ez 300 (by decide) (by decide) (by decide) (by decide) (by decide)]) (ez 302 (by decide) (by decide) (by decide) (by decide) (by decide)) z1 (ey0 7 (by decide)) (fun c hc => by simp only [List.mem_cons, List.mem_nil_iff, or_false] at hc; exact ey c (by omega) (by omega) (by omega) (by omega) (by omega))
  · unfold sl2 slR at c ⊢
    rw [ez 300 (by decide) (by decide) (by decide) (by decide) (by decide), ez 304 (by decide) (by decide) (by decide) (by decide) (by decide), ez 305 (by decide) (by decide) (by decide) (by decide) (by decide), ez 306 (by decide) (by decide) (by decide) (by decide) (by decide), ez 307 (by decide) (by decide) (by decide) (by decide) (by decide), ez 308 (by decide) (by decide) (by decide) (by decide) (by decide), ey0 14 (by decide), ey 1116 (by decide) (by decide) (by decide) (by decide) (by decide)]
    exact c
  · unfold tp2 at g ⊢
    rw [ez 600 (by decide) (by decide) (by decide) (by decide) (by decide), ez 601 (by decide) (by decide) (by decide) (by decide) (by decide), ey0 1 (by decide), ey 1101 (by decide) (by decide) (by decide) (by decide) (by decide)]
    exact g
  · unfold mi2 tbR at k1 ⊢
    rw [ez 600 (by decide) (by decide) (by decide) (by decide) (by decide), ez 200 (by decide) (by decide) (by decide) (by decide) (by decide), ez 210 (by decide) (by decide) (by decide) (by decide) (by decide), ey0 23 (by decide), ey0 24 (by decide), ey0 52 (by decide), ey 1122 (by decide) (by decide) (by decide) (by decide) (by decide), ey 1154 (by decide) (by decide) (by decide) (by decide) (by decide), ey 1123 (by decide) (by decide) (by decide) (by decide) (by decide)]
    exact ⟨fun c9 g9 q1 q2 => by rw [ez (910 + c9) (by omega) (by omega) (by omega) (by omega) (by omega)]; exact k1.1 c9 g9 q1 q2, k1.2⟩
  · intro k hk e
    have : z' 100 6 = (-1) := by rw [← hz9]; rfl
    exact absurd (e.symm.trans this) (nI_m1 (by omega))
  · obtain ⟨k0, h1, h2, h3⟩ := hp
    refine ⟨k0, h1, by rw [ez 300 (by decide) (by decide) (by decide) (by decide) (by decide)]; exact h2, fun r h9 hr hh => ?_⟩
    rw [z2 r, prF_app (z := y') (w := y) (n := n) (W := w) ⟨⟨by rw [ey 1109 (by decide) (by decide) (by decide) (by decide) (by decide)], by rw [ey 1111 (by decide) (by decide) (by decide) (by decide) (by decide)], by rw [ey 1112 (by decide) (by decide) (by decide) (by decide) (by decide)]⟩, fun i hi => ⟨by rw [f18]; exact up _ _ i hi, by rw [f19]; exact up _ _ i hi, by rw [f20]; exact up _ _ i hi, by rw [f21]; exact up _ _ i hi⟩, by rw [ey 1141 (by decide) (by decide) (by decide) (by decide) (by decide)], fun l hl => by rw [ey 1106 (by decide) (by decide) (by decide) (by decide) (by decide)]⟩ (hW r hr) a2 (by rw [f21]; exact us _ _) k0 h1]
    exact h3 r h9 hr hh
theorem wr_eq (h : RLp I ac m N n nr NS w t ar z y) (s x hz hy : Int32) : f_X1_write z s x hz (nI w) = (if nI N < 60 then (nI N + 1 - 1, up2 (up2 (up2 (up2 (up2 (up2 z 102 N s) 103 N x) 104 N hz) 105 N (nI w)) 100 5 (nI N + 1)) 100 6 (-1)) else ((-1), z)) ∧ f_X11_told (up2 y 1100 2 0) s x hy = (nI N + 1 - 1, up2 (up2 (up2 (up2 (up2 (up2 y 1100 2 0) 1118 N s) 1119 N x) 1120 N hy) 1121 N (nI w)) 1100 16 (nI N + 1)) := by
  obtain ⟨⟨a1, a2, a3, a4⟩, b, -⟩ := id h
  have hN := a1.1
  have g : (up2 y 1100 2 0) 1100 16 = nI N := a1.2.2.1
  have g3 : (up2 y 1100 2 0) 1100 3 = nI w := b.2
  unfold f_X1_write f_X11_told
  rw [a1.2.1, g, g3, nI_clamp (by omega)]
  exact ⟨rfl, rfl⟩
theorem s_note (h : RLp I ac m N n nr NS w t ar z y) (x1 x2 x3 : Int32) : (f_note10 z x1 x2 x3).1 = (f_X11_note y x1 x2 x3).1 ∧ ∃ N', RLp I ac m N' n nr NS w t ar (f_note10 z x1 x2 x3).2 (f_X11_note y x1 x2 x3).2 := by
  have h0 := h.th 0
  obtain ⟨⟨a1, a2, a3, a4⟩, b, -⟩ := id h
  have hN := a1.1
  have hn := a3.1
  have e : f_note10 z x1 x2 x3 = if cI (vp_in x1 n) = 0 then ((-1), z) else if cI (vp_in x2 (w + 1)) = 0 then ((-1), z) else (if x3 = 0 then ((f_X1_write z 0 x1 x2 (nI w)).1, (f_X1_write z 0 x1 x2 (nI w)).2) else ((f_X1_write z 1 x1 x2 (nI w)).1, (f_X1_write z 1 x1 x2 (nI w)).2)) := by
    unfold f_note10
    rw [r5h a3.2.1 a3.1, b.1, ← rngB (x := x2) (n := w) (by omega)]
    by_cases c1 : x2 < 0
    · simp only [if_pos c1, if_pos z00, ite_true]
    · by_cases c2 : nI w < x2
      · simp only [if_neg c1, if_pos c2, if_neg (Int32.not_le.mpr c2), if_pos z00, ite_true]
      · simp only [if_neg c1, if_neg c2, if_pos (Int32.not_lt.mp c2), if_neg n10]
  rw [e]
  unfold f_X11_note
  rw [r11l (y := up2 y 1100 2 0) (n := n) a3.2.2.1 a3.1, r11n b.2 a2, a1.2.2.1]
  by_cases v9 : vp_in x1 n
  · by_cases v8 : vp_in x2 (w + 1)
    · simp only [cI_pos v9, cI_pos v8, if_neg n10]
      obtain ⟨i, hi, rfl⟩ := vp_in_of v9 (by omega)
      obtain ⟨k, hk, rfl⟩ := vp_in_of v8 (by omega)
      rw [(wr_eq h 0 (nI i) (nI k) (nI k)).1, (wr_eq h 0 (nI i) (nI k) (nI k)).2, (wr_eq h 1 (nI i) (nI k) (nI k)).1, (wr_eq h 1 (nI i) (nI k) (nI k)).2]
      by_cases c : N = 60
      · subst c
        rw [if_neg (show ¬ nI 60 < (60 : Int32) by decide), if_pos (show nI 60 = (60 : Int32) from rfl)]
        refine ⟨?_, 60, ?_⟩
        · show (if x3 = 0 then ((-1 : Int32), z) else ((-1), z)).1 = _
          rw [ite_self]
        · show RLp I ac m 60 n nr NS w t ar (if x3 = 0 then ((-1 : Int32), z) else ((-1), z)).2 _
          rw [ite_self]; exact h0
      · simp only [if_pos (show nI N < (60 : Int32) from nI_lt (b := 60) (by omega) (by decide)), if_neg (show ¬ nI N = (60 : Int32) from fun e => c ((nI_eq (b := 60) (by omega) (by decide)).mp e))]
        by_cases c3 : x3 = 0
        · rw [if_pos c3, if_pos c3]
          exact ⟨rfl, N + 1, h0.app (by omega) (Or.inr ⟨Or.inl rfl, rfl, ⟨i, hi, rfl⟩, k, by omega, rfl⟩)⟩
        · rw [if_neg c3, if_neg c3]
          exact ⟨rfl, N + 1, h0.app (by omega) (Or.inr ⟨Or.inr rfl, rfl, ⟨i, hi, rfl⟩, k, by omega, rfl⟩)⟩
    · simp only [cI_pos v9, cI_neg v8, if_neg n10, if_pos z00]
      refine ⟨?_, N, ?_⟩
      · show (-1 : Int32) = (if nI N = 60 then ((-1 : Int32), up2 y 1100 2 0) else ((-1), up2 y 1100 2 0)).1
        rw [ite_self]
      · show RLp I ac m N n nr NS w t ar z (if nI N = 60 then ((-1 : Int32), up2 y 1100 2 0) else ((-1), up2 y 1100 2 0)).2
        rw [ite_self]; exact h0
  · simp only [cI_neg v9, if_pos z00]
    refine ⟨?_, N, ?_⟩
    · show (-1 : Int32) = (if nI N = 60 then ((-1 : Int32), up2 y 1100 2 0) else ((-1), up2 y 1100 2 0)).1
      rw [ite_self]
    · show RLp I ac m N n nr NS w t ar z (if nI N = 60 then ((-1 : Int32), up2 y 1100 2 0) else ((-1), up2 y 1100 2 0)).2
      rw [ite_self]; exact h0
theorem s_strike (h : RLp I ac m N n nr NS w t ar z y) (x1 : Int32) : (f_strike10 z x1).1 = (f_X11_strike y x1).1 ∧ ∃ N', RLp I ac m N' n nr NS w t ar (f_strike10 z x1).2 (f_X11_strike y x1).2 := by
  have h0 := h.th 0
  obtain ⟨⟨a1, a2, a3, a4⟩, b, -⟩ := id h
  have hN := a1.1
  have e : f_X11_strike y x1 = if (nI N) = 60 then ((-1), up2 y 1100 2 0) else if cI (vp_in x1 N) = 0 then ((-1), up2 y 1100 2 0) else ((f_X11_told (up2 y 1100 2 0)  2 x1 0).1, (f_X11_told (up2 y 1100 2 0)  2 x1 0).2) := by
    unfold f_X11_strike
    rw [a1.2.2.1, ← rngA (x := x1) (n := N) (by omega)]
    by_cases c1 : x1 < 0
    · simp only [if_pos c1, if_pos z00, ite_true]
    · by_cases c2 : nI N ≤ x1
      · simp only [if_neg c1, if_pos c2, if_neg (Int32.not_lt.mpr c2), if_pos z00, ite_true]
      · simp only [if_neg c1, if_neg c2, if_pos (Int32.not_le.mp c2), if_neg n10]
  rw [e]
  unfold f_strike10
  rw [r1h a1.2.1 hN, b.1]
  by_cases v9 : vp_in x1 N
  · simp only [cI_pos v9, if_neg n10]
    obtain ⟨i, hi, rfl⟩ := vp_in_of v9 (by omega)
    rw [(wr_eq h 2 (nI i) (nI w) 0).1, (wr_eq h 2 (nI i) (nI w) 0).2]
    by_cases c : N = 60
    · subst c
      rw [if_neg (show ¬ nI 60 < (60 : Int32) by decide), if_pos (show nI 60 = (60 : Int32) from rfl)]
      exact ⟨rfl, 60, h0⟩
    · rw [if_pos (show nI N < (60 : Int32) from nI_lt (b := 60) (by omega) (by decide)), if_neg (show ¬ nI N = (60 : Int32) from fun e => c ((nI_eq (b := 60) (by omega) (by decide)).mp e))]
      exact ⟨rfl, N + 1, h0.app (by omega) (Or.inl ⟨rfl, i, hi, rfl⟩)⟩
  · simp only [cI_neg v9, if_pos z00]
    refine ⟨?_, N, ?_⟩
    · show (-1 : Int32) = (if nI N = 60 then ((-1 : Int32), up2 y 1100 2 0) else ((-1), up2 y 1100 2 0)).1
      rw [ite_self]
    · show RLp I ac m N n nr NS w t ar z (if nI N = 60 then ((-1 : Int32), up2 y 1100 2 0) else ((-1), up2 y 1100 2 0)).2
      rw [ite_self]; exact h0
theorem RLp.tab (h : RLp I ac m N n nr NS w t ar z y) {c g : Nat} (hc : c < 4) (hg : g < 10) (x : Int32) : RLp I ac m N n nr NS w t ar (up2 z (910 + c) g x) (up2 y 1122 (10 * c + g) x) := by
  have hW : ∀ r, r < nr → prW y N n r := fun r hr => h.pw hr
  obtain ⟨⟨a1, a2, a3, a4⟩, b, c1, d, f, g1, k1, hc1, hp, l, o⟩ := id h
  have ez : ∀ c9, c9 < 910 ∨ 913 < c9 → up2 z (910 + c) g x c9 = z c9 := fun c9 h9 => up2_ne (by omega)
  have z1 : ∀ r, up2 z (910 + c) g x (2000 + 10 * r) = z (2000 + 10 * r) := fun r => ez _ (by omega)
  have z2 : ∀ r, up2 z (910 + c) g x (2007 + 10 * r) = z (2007 + 10 * r) := fun r => ez _ (by omega)
  refine ⟨⟨?_, a2, ?_, a4.c (by rw [ez 300 (by omega)]) (ez 302 (by omega)) z1 rfl (fun c hc => by simp only [List.mem_cons, List.mem_nil_iff, or_false] at hc; exact up2_ne (by omega))⟩, ⟨by rw [ez 1000 (by omega)]; exact b.1, b.2⟩, ?_, d.c z1 (fun c hc => by simp only [List.mem_cons, List.mem_nil_iff, or_false] at hc; exact ez c (by omega)), (f.z (fun c hc => ez c (by omega))).y rfl (fun c hc => by simp only [List.mem_cons, List.mem_nil_iff, or_false] at hc; exact up2_ne (by omega)), ?_, ?_, ?_, hp.c (n := n) z2 (by rw [ez 300 (by omega)]) (fun r hr => ⟨⟨rfl, rfl, rfl⟩, fun i _ => ⟨rfl, rfl, rfl, rfl⟩, rfl, fun l _ => rfl⟩) hW, l.c (fun k j h9 => by unfold dynF at h9; rw [ez k (by omega)]), by rw [ez 302 (by omega)]; exact o⟩
  · unfold nt2 at a1 ⊢
    rw [ez 100 (by omega), ez 102 (by omega), ez 103 (by omega), ez 104 (by omega), ez 105 (by omega)]
    exact a1
  · unfold li2 at a3 ⊢
    rw [ez 500 (by omega), ez 501 (by omega), ez 502 (by omega)]
    exact a3
  · unfold sl2 slR at c1 ⊢
    rw [ez 300 (by omega), ez 304 (by omega), ez 305 (by omega), ez 306 (by omega), ez 307 (by omega), ez 308 (by omega)]
    exact c1
  · unfold tp2 at g1 ⊢
    rw [ez 600 (by omega), ez 601 (by omega)]
    exact g1
  · unfold mi2 tbR at k1 ⊢
    rw [ez 600 (by omega), ez 200 (by omega), ez 210 (by omega)]
    refine ⟨fun c9 g9 q1 q2 => ?_, k1.2⟩
    have e1 : up2 y 1122 (10 * c + g) x 1122 (10 * c9 + g9) = if 10 * c9 + g9 = 10 * c + g then x else y 1122 (10 * c9 + g9) := by rw [up2_self]; rfl
    rw [e1]
    by_cases e : c9 = c
    · subst e
      rw [up2_self]
      unfold upd
      by_cases e2 : g9 = g
      · rw [if_pos e2, if_pos (by omega)]
      · rw [if_neg e2, if_neg (by omega)]; exact k1.1 c9 g9 q1 q2
    · rw [up2_ne (by omega), if_neg (by omega)]; exact k1.1 c9 g9 q1 q2
  · intro k hk e
    have q := hc1 k hk (by rw [ez 100 (by omega)] at e; exact e)
    unfold knC dedC cntC at q ⊢
    rw [ez 102 (by omega), ez 103 (by omega), ez 104 (by omega), ez 105 (by omega), ez 108 (by omega), ez 109 (by omega), ez 110 (by omega), ez 501 (by omega)]
    exact q
theorem c1000 : nI 1000 = (1000 : Int32) := by decide +kernel
theorem i1001 {v : fr_V} {x : Int32} : f_X11_isIn v x 0 1000 = cI (vp_in x 1001) := by
  unfold f_X11_isIn
  rw [← c1000]
  exact rngB (n := 1000) (by omega)
theorem sold_e (z : fr_V) (x1 x2 x3 : Int32) : f_sold10 z x1 x2 x3 = if cI (vp_in x1 4) = 0 then (0, z) else if cI (vp_in x2 10) = 0 then (0, z) else if cI (vp_in x3 1001) = 0 then (0, z) else (1, up2 z (910 + x1.toNatClampNeg) x2.toNatClampNeg x3) := by
  unfold f_sold10
  rw [r10c, r10g, ← i1001 (v := z)]
  unfold f_X11_isIn
  by_cases c1 : x3 < 0
  · simp only [if_pos c1, if_pos z00, ite_true]
  · by_cases c2 : 1000 < x3
    · simp only [if_neg c1, if_pos c2, if_neg (Int32.not_le.mpr c2), if_pos z00, ite_true]
    · simp only [if_neg c1, if_neg c2, if_pos (Int32.not_lt.mp c2), if_neg n10]
theorem t_sold (h : RLp I ac m N n nr NS w t ar z y) (x1 x2 x3 : Int32) : (f_sold10 z x1 x2 x3).1 = (f_X11_sold y x1 x2 x3).1 ∧ RLp I ac m N n nr NS w t ar (f_sold10 z x1 x2 x3).2 (f_X11_sold y x1 x2 x3).2 := by
  have h0 := h.th 0
  rw [sold_e]
  unfold f_X11_sold
  rw [show f_X11_isIn (up2 y 1100 2 0) x1 0 3 = cI (vp_in x1 4) from r11i 3 (by decide), show f_X11_isIn (up2 y 1100 2 0) x2 0 9 = cI (vp_in x2 10) from r11i 9 (by decide), i1001]
  by_cases v9 : vp_in x1 4
  · by_cases v8 : vp_in x2 10
    · by_cases v7 : vp_in x3 1001
      · simp only [cI_pos v9, cI_pos v8, cI_pos v7, if_neg n10]
        obtain ⟨c, hc, rfl⟩ := vp_in_of v9 (by omega)
        obtain ⟨g, hg, rfl⟩ := vp_in_of v8 (by omega)
        rw [show (10 : Int32) = nI 10 from rfl, show nI 10 * nI c = nI (10 * c) from (Int32.ofNat_mul 10 c).symm, nI_add, nI_clamp (by omega), nI_clamp (by omega), nI_clamp (by omega)]
        exact ⟨trivial, h0.tab hc hg x3⟩
      · simp only [cI_pos v9, cI_pos v8, cI_neg v7, if_neg n10, if_pos z00, ite_true]; exact ⟨trivial, h0⟩
    · simp only [cI_pos v9, cI_neg v8, if_neg n10, if_pos z00, ite_true]; exact ⟨trivial, h0⟩
  · simp only [cI_neg v9, if_pos z00, ite_true]; exact ⟨trivial, h0⟩
end STP
