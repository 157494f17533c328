theorem dv2 : ∀ d, d < 240 → nI d / 2 = nI (d / 2) := by decide +kernel
theorem age_nat {w : Nat} {b : Int32} (hw : w < 80) (h1 : -160 ≤ b.toInt) (h2 : b.toInt ≤ w) : ∃ p, p < 120 ∧ (nI w - b) / 2 = nI p := by
  obtain ⟨d, hd⟩ : ∃ d : Nat, (d : Int) = w - b.toInt := ⟨(w - b.toInt).toNat, by omega⟩
  have e : nI w - b = nI d := by
    refine Int32.toInt_inj.mp ?_
    have hw2 : (nI w).toInt = w := nI_toInt (by omega)
    rw [Int32.toInt_sub, hw2, nI_toInt (by omega), Int.bmod_eq_of_le (by omega) (by omega)]
    omega
  exact ⟨d / 2, by omega, by rw [e]; exact dv2 d (by omega)⟩
theorem i02 {v : fr_V} {x : Int32} : f_X11_isIn v x 0 2 = cI (vp_in x 3) := r11i 2 (by decide)
theorem in3 {x : Int32} (h : vp_in x 3) : x = 0 ∨ x = 1 ∨ x = 2 := by
  obtain ⟨j, hj, rfl⟩ := vp_in_of h (by decide)
  rcases (show j = 0 ∨ j = 1 ∨ j = 2 by omega) with rfl | rfl | rfl
  · exact Or.inl rfl
  · exact Or.inr (Or.inl rfl)
  · exact Or.inr (Or.inr rfl)
theorem out3 {x : Int32} (h : ¬ vp_in x 3) : ¬ x = 0 ∧ ¬ x = 1 ∧ ¬ x = 2 := by
  refine ⟨fun e => h ?_, fun e => h ?_, fun e => h ?_⟩ <;> rw [e] <;> unfold vp_in <;> decide
section STP
variable {I : List Nat} {ac m N n nr NS w t ar : Nat} {z y : fr_V}
theorem RLp.age (h : RLp I ac m N n nr NS w t ar z y) {i : Nat} (hi : i < n) : ∃ p, p < 120 ∧ f_X11_ageIn y (nI i) (nI w) = nI p := by
  obtain ⟨e1, e2, e3, e4, e5⟩ := h.1.2.2.1.2.2.2 i hi
  have := h.1.2.2.1.1
  unfold f_X11_ageIn
  rw [nI_clamp (by omega), ← e1]
  exact age_nat h.1.2.1 e4 e5
theorem RLp.lif (h : RLp I ac m N n nr NS w t ar z y) {i : Nat} (hi : i < n) : lifR z y (nI i) := by
  obtain ⟨e1, e2, ⟨c, hc, e3⟩, e4, e5⟩ := h.1.2.2.1.2.2.2 i hi
  obtain ⟨p, hp, e6⟩ := h.age hi
  have := h.1.2.2.1.1
  unfold lifR
  rw [nI_clamp (show i < 2 ^ 31 by omega), h.2.1.2]
  exact ⟨e1, e2, ⟨c, hc, by rw [← e2]; exact e3⟩, p, by omega, e6⟩
theorem RLp.may (h : RLp I ac m N n nr NS w t ar z y) {x1 x2 : Int32} (h1 : vp_in x1 n) (h2 : ¬ x2 = (-1) → vp_in x2 n) : f_may z ac m x1 x2 = f_X11_mayBe y m x1 x2 ∧ f_price z ac m x1 x2 = f_X11_priceOf y m x1 x2 ∧ f_lump z ac m x1 x2 = f_X11_lumpOf y m x1 x2 := by
  have hn := h.1.2.2.1.1
  have l1 : lifR z y x1 := by
    obtain ⟨i, hi, rfl⟩ := vp_in_of h1 (by omega)
    exact h.lif hi
  have l2 : ¬ x2 = (-1) → lifR z y x2 := fun c => by
    obtain ⟨i, hi, rfl⟩ := vp_in_of (h2 c) (by omega)
    exact h.lif hi
  obtain ⟨-, -, -, -, f5, -⟩ := h.2.2.2.2.1
  exact ⟨may_eq f5 h.2.1.1 h.2.1.2 h.1.2.1 l1 l2, price_eq f5 h.2.1.1 h.2.1.2 h.1.2.1 l1 l2, lump_eq f5 h.2.1.1 h.2.1.2 h.1.2.1 l1 l2⟩
theorem s_asks (h : RLp I ac m N n nr NS w t ar z y) (x1 x2 : Int32) : f_asks10 z ac m x1 x2 = (f_X11_asks y m x1 x2).1 ∧ RLp I ac m N n nr NS w t ar z (f_X11_asks y m x1 x2).2 := by
  have h0 := h.th 0
  obtain ⟨⟨a1, a2, a3, a4⟩, -⟩ := id h
  unfold f_asks10 f_X11_asks
  rw [r5h a3.2.1 a3.1, r11l (y := up2 y 1100 2 0) (n := n) a3.2.2.1 a3.1, i02]
  by_cases v9 : vp_in x1 n
  · simp only [cI_pos v9, if_neg n10]
    have q := h0.may (x2 := (-1)) v9 (fun c => absurd rfl c)
    rw [q.1, q.2.1, q.2.2]
    by_cases v8 : vp_in x2 3
    · simp only [cI_pos v8, if_neg n10]
      rcases in3 v8 with rfl | rfl | rfl
      · rw [if_pos z00, if_pos z00]
        by_cases c : f_X11_mayBe (up2 y 1100 2 0) m x1 (-1) = 0
        · rw [if_pos c, if_pos c]; exact ⟨rfl, h0⟩
        · rw [if_neg c, if_neg c]; exact ⟨rfl, h0⟩
      · exact ⟨rfl, h0⟩
      · exact ⟨rfl, h0⟩
    · obtain ⟨c0, c1, c2⟩ := out3 v8
      simp only [cI_neg v8, if_pos z00, if_neg c0, if_neg c1, if_neg c2]; exact ⟨rfl, h0⟩
  · simp only [cI_neg v9, if_pos z00]; exact ⟨rfl, h0⟩
/-- a state in which only the row of the holders has changed -/
theorem RLp.held (h : RLp I ac m N n nr NS w t ar z y) (G : Nat → Int32) : RLp I ac m N n nr NS w t ar (upA z 310 G) y := by
  obtain ⟨⟨a1, a2, a3, a4⟩, b, c, d, f, g, k1, hc, hp, l, o⟩ := id h
  refine h.z ⟨fun c _ _ _ _ _ _ h9 _ _ _ _ _ _ _ _ => upA_ne h9, by rw [upA_ne (by decide)], ⟨by rw [upA_ne (by decide)], by rw [upA_ne (by decide)]⟩, by rw [upA_ne (by decide)], fun r => upA_ne (by omega)⟩ (fun k hk e => ?_) (hp.row (by rw [upA_ne (by decide)]) (fun r => upA_ne (by omega)))
  have q := hc k hk (by rw [upA_ne (by decide)] at e; exact e)
  unfold knC dedC cntC at q ⊢
  rw [upA_ne (show (102 : Nat) ≠ 310 by decide), upA_ne (show (103 : Nat) ≠ 310 by decide), upA_ne (show (104 : Nat) ≠ 310 by decide), upA_ne (show (105 : Nat) ≠ 310 by decide), upA_ne (show (108 : Nat) ≠ 310 by decide), upA_ne (show (109 : Nat) ≠ 310 by decide), upA_ne (show (110 : Nat) ≠ 310 by decide), upA_ne (show (501 : Nat) ≠ 310 by decide)]
  exact q
theorem RLp.parts (h : RLp I ac m N n nr NS w t ar z y) {r i : Nat} {x : Int32} (hr : r < nr) (hi : i < 8) : hdR z NS r x i = f_parts y NS (nI r) (nI i) x ∧ hdC z NS r x i = f_parts y NS (nI r) (nI i) x := by
  obtain ⟨⟨a1, a2, a3, a4⟩, b, c, -⟩ := id h
  obtain ⟨-, ⟨e0, e1, e2, e3, e4, e5⟩, hh, -⟩ := a4.2.2.2 r hr
  have hnr := a4.1
  have q : hdC z NS r x i = f_parts y NS (nI r) (nI i) x := parts_eq (by omega) hi c.2.2.1 e4 e0 (by rw [← e0]; exact hh)
  have q2 := hd_C (v := z) (NS := NS) (r := r) (x := x) (fun j hj => (c.2.2.1.2 j hj).2.2.2.2.2) hi
  exact ⟨q2.trans q, q⟩
theorem RLp.pN (h : RLp I ac m N n nr NS w t ar z y) : ptN y NS nr := by
  intro r hr k hk j hj
  rw [← (h.parts hr hj).2]
  obtain ⟨P, hP, hs⟩ := h.2.2.2.1.2 r hr (nI k)
  rw [hP j hj]
  have : P j ≤ 60 := by
    rcases (show j = 0 ∨ j = 1 ∨ j = 2 ∨ j = 3 ∨ j = 4 ∨ j = 5 ∨ j = 6 ∨ j = 7 by omega) with rfl | rfl | rfl | rfl | rfl | rfl | rfl | rfl <;> omega
  exact nI_pos' (by omega)
theorem s_parts (h : RLp I ac m N n nr NS w t ar z y) (x1 x2 x3 : Int32) : (f_parts10 z NS x1 x2 x3).1 = (f_X11_parts y NS x1 x2 x3).1 ∧ RLp I ac m N n nr NS w t ar (f_parts10 z NS x1 x2 x3).2 (f_X11_parts y NS x1 x2 x3).2 := by
  have h0 := h.th 0
  obtain ⟨⟨a1, a2, a3, a4⟩, -⟩ := id h
  unfold f_parts10 f_X11_parts
  rw [r3h a4.2.1 a4.1, r11r (y := up2 y 1100 2 0) (n := nr) a4.2.2.1 a4.1, r10h, r11h, r10f, r11f]
  have hnr := a4.1
  by_cases v9 : vp_in x1 nr
  · by_cases v8 : vp_in x2 8
    · by_cases v7 : vp_in x3 80
      · simp only [cI_pos v9, cI_pos v8, cI_pos v7, if_neg n10]
        obtain ⟨r, hr, rfl⟩ := vp_in_of v9 (by omega)
        obtain ⟨i, hi, rfl⟩ := vp_in_of v8 (by omega)
        rw [nI_clamp (show r < 2 ^ 31 by omega), nI_clamp (show i < 2 ^ 31 by omega)]
        exact ⟨(h0.parts hr hi).1, h0.held _⟩
      · simp only [cI_pos v9, cI_pos v8, cI_neg v7, if_neg n10, if_pos z00]; exact ⟨rfl, h0⟩
    · simp only [cI_pos v9, cI_neg v8, if_neg n10, if_pos z00]; exact ⟨rfl, h0⟩
  · simp only [cI_neg v9, if_pos z00]; exact ⟨rfl, h0⟩
/-- behind settling -/
theorem RLp.st (h : RLp I ac m N n nr NS w t ar z y) : RLp I ac m N n nr NS w t ar (f_st z ac N nr w) y ∧ (∀ r h, r < nr → h < 80 → f_st z ac N nr w (2007 + 10 * r) h = prF y N ar r h (w + 1)) := by
  obtain ⟨A, b, c, d, ⟨f1, f2, f3, f4, f5, f6, f7, ⟨q1, -, f8, f9⟩, -⟩, g, k1, hc, hp, l, o⟩ := id h
  obtain ⟨s1, s2, s3, s4⟩ := settle_is A (by rw [f8, f9]) f7.1 f7.2.2 hc hp
  refine ⟨h.z ⟨fun c h1 h2 h3 h4 h5 h6 _ _ _ _ _ _ _ _ _ => s1.1 c h1 h2 h3 h4 h5 h6, s1.2.1 5 (by decide), ⟨s1.2.2.1 2 (by decide), s1.2.2.1 8 (by decide)⟩, by rw [s1.1 200 (by decide) (by decide) (by decide) (by decide) (by decide) (by decide)], s1.2.2.2⟩ s2 (pdR_st A.2.1 s3 s4), s4⟩
theorem RLp.pays (h : RLp I ac m N n nr NS w t ar z y) {E : Nat} (hE : E < 80) : RLp I ac m N n nr NS w t ar z (f_pays y nr N NS ar E) := by
  obtain ⟨a, b, c⟩ := pays_is (ar := ar) (E := E) (h.1.2.2.2.pyW h.1.1 h.1.2.2.1.1) h.pN hE
  exact h.y ⟨fun c h1 _ h3 h4 h5 h6 _ _ _ _ _ => a.1 c h3 h4 h5 h6 (by omega), fun j _ h48 _ _ => a.2.1 j h48⟩
theorem s_paid (h : RLp I ac m N n nr NS w t ar z y) (x1 x2 x3 : Int32) : (f_paid10 z ac N nr w x1 x2 x3).1 = (f_X11_paid y nr N NS ar x1 x2 x3).1 ∧ RLp I ac m N n nr NS w t ar (f_paid10 z ac N nr w x1 x2 x3).2 (f_X11_paid y nr N NS ar x1 x2 x3).2 := by
  have h0 := h.th 0
  obtain ⟨⟨a1, a2, a3, a4⟩, b, -⟩ := id h
  obtain ⟨f1, f2, f3, f4, f5, f6, f7, ⟨q1, -, f8, f9⟩, -⟩ := h0.2.2.2.2.1
  unfold f_paid10 f_X11_paid
  rw [r3h a4.2.1 a4.1, r11r (y := up2 y 1100 2 0) (n := nr) a4.2.2.1 a4.1, r10f, r11f, i02, b.2]
  have hnr := a4.1
  by_cases v9 : vp_in x1 nr
  · by_cases v8 : vp_in x2 80
    · obtain ⟨r, hr, rfl⟩ := vp_in_of v9 (by omega)
      obtain ⟨k, hk, rfl⟩ := vp_in_of v8 (by omega)
      rw [nI_clamp (show r < 2 ^ 31 by omega), nI_clamp (show k < 2 ^ 31 by omega), nI_clamp (show w < 2 ^ 31 by omega)]
      have P := pays_is (ar := ar) (E := w) (h0.1.2.2.2.pyW h0.1.1 h0.1.2.2.1.1) h0.pN a2
      have KW := (h.kw a2).th 0
      by_cases v7 : vp_in x3 3
      · simp only [cI_pos v9, cI_pos v8, cI_pos v7, if_neg n10]
        rcases in3 v7 with rfl | rfl | rfl
        · simp only [if_pos z00]
          have e80 : (80 * nI r + nI k).toNatClampNeg = 80 * r + k := by
            rw [show (80 : Int32) = nI 80 from rfl, show nI 80 * nI r = nI (80 * r) from (Int32.ofNat_mul 80 r).symm, nI_add, nI_clamp (by omega)]
          rw [e80]
          exact ⟨(h0.st.2 r k hr hk).trans (P.2.2 r k hr hk).symm, (h0.st.1).pays a2⟩
        · simp only [if_neg n10, if_pos (rfl : (1 : Int32) = 1)]
          have e1 : f_isDue3 (f_kw z N (nI w)) r (nI k) = f_X11_isDue (f_pays (up2 y 1100 2 0) nr N NS ar w) (nI r) (nI k) := by
            have hW := h0.1.2.2.2.pyW h0.1.1 h0.1.2.2.1.1
            rw [dueV (h := nI k) sm3.kw (h0.kC a2) h0.1.1 a2 h0.1.2.2.1 h0.1.2.2.2 hr, due_c (h := nI k) P.2.1 (by omega) (by rw [know_o (by decide) (by decide)]; exact (hW.2.2 r hr).1) (by rw [know_o (by decide) (by decide)]; exact (hW.2.2 r hr).2)]
          rw [e1]
          by_cases c : f_X11_isDue (f_pays (up2 y 1100 2 0) nr N NS ar w) (nI r) (nI k) = 0
          · rw [if_pos c, if_pos c]; exact ⟨rfl, KW.pays a2⟩
          · rw [if_neg c, if_neg c]; exact ⟨rfl, KW.pays a2⟩
        · simp only [if_neg (show ¬ (2 : Int32) = 0 by decide), if_neg (show ¬ (2 : Int32) = 1 by decide), if_pos (rfl : (2 : Int32) = 2)]
          have e1 : f_isProved3 (f_kw z N (nI w)) N r (nI k) (f_set (f_kw z N (nI w)) ac 1) = f_isProved (f_pays (up2 y 1100 2 0) nr N NS ar w) N r (nI k) := by
            rw [provV (h := nI k) sm3.kw (h0.kC a2) h0.1.1 a2 h0.1.2.2.1 h0.1.2.2.2 hr (by rw [sm3.kw.set f1 1, f8, f9]), proved_c (h := nI k) P.2.1 (by rw [know_o (by decide) (by decide), know_o (by decide) (by decide)]; exact h0.1.1.oky h0.1.2.2.1.1)]
          rw [e1]
          by_cases c : f_isProved (f_pays (up2 y 1100 2 0) nr N NS ar w) N r (nI k) = 0
          · rw [if_pos c, if_pos c]; exact ⟨rfl, KW.pays a2⟩
          · rw [if_neg c, if_neg c]; exact ⟨rfl, KW.pays a2⟩
      · obtain ⟨c0, c1, c2⟩ := out3 v7
        simp only [cI_pos v9, cI_pos v8, cI_neg v7, if_neg n10, if_pos z00, if_neg c0, if_neg c1, if_neg c2]; exact ⟨rfl, KW⟩
    · simp only [cI_pos v9, cI_neg v8, if_neg n10, if_pos z00]; exact ⟨rfl, h0⟩
  · simp only [cI_neg v9, if_pos z00]; exact ⟨rfl, h0⟩
theorem s_got (h : RLp I ac m N n nr NS w t ar z y) (x1 x2 : Int32) : f_got10 z ac N nr w NS x1 x2 = (f_X11_got y nr N NS ar x1 x2).1 ∧ ∀ b, (b = z ∨ ∃ G, b = upA (f_st z ac N nr w) 310 G) → RLp I ac m N n nr NS w t ar b (f_X11_got y nr N NS ar x1 x2).2 := by
  have h0 := h.th 0
  obtain ⟨⟨a1, a2, a3, a4⟩, b, -⟩ := id h
  have hb : ∀ {y9 : fr_V} (b : fr_V), (b = z ∨ ∃ G, b = upA (f_st z ac N nr w) 310 G) → RLp I ac m N n nr NS w t ar z y9 → RLp I ac m N n nr NS w t ar b y9 := by
    intro y9 b hb h9
    rcases hb with rfl | ⟨G, rfl⟩
    · exact h9
    · exact h9.st.1.held G
  unfold f_got10 f_X11_got
  rw [r10h, r11h, r10b b.1 a2, r11n b.2 a2]
  by_cases v9 : vp_in x1 8
  · by_cases v8 : vp_in x2 (w + 1)
    · simp only [cI_pos v9, cI_pos v8, if_neg n10]
      obtain ⟨i, hi, rfl⟩ := vp_in_of v9 (by omega)
      obtain ⟨k, hk, rfl⟩ := vp_in_of v8 (by omega)
      rw [nI_clamp (show i < 2 ^ 31 by omega), nI_clamp (show k < 2 ^ 31 by omega)]
      exact ⟨got_eq h0.st.1.1 h0.st.1.2.2.1 h0.pN (by omega) h0.st.2 hi, fun b hb9 => hb b hb9 (h0.pays (by omega))⟩
    · simp only [cI_pos v9, cI_neg v8, if_neg n10, if_pos z00]; exact ⟨rfl, fun b hb9 => hb b hb9 h0⟩
  · simp only [cI_neg v9, if_pos z00]; exact ⟨rfl, fun b hb9 => hb b hb9 h0⟩
theorem s_owed (h : RLp I ac m N n nr NS w t ar z y) (x1 x2 : Int32) : (f_owed10 z ac N nr w x1 x2).1 = (f_X11_owed y nr N NS ar x1 x2).1 ∧ RLp I ac m N n nr NS w t ar (f_owed10 z ac N nr w x1 x2).2 (f_X11_owed y nr N NS ar x1 x2).2 := by
  have h0 := h.th 0
  obtain ⟨⟨a1, a2, a3, a4⟩, b, -⟩ := id h
  have hnr := a4.1
  unfold f_owed10 f_X11_owed
  rw [r3h a4.2.1 a4.1, r11r (y := up2 y 1100 2 0) (n := nr) a4.2.2.1 a4.1, r10b b.1 a2, r11n b.2 a2]
  by_cases v9 : vp_in x1 nr
  · by_cases v8 : vp_in x2 (w + 1)
    · simp only [cI_pos v9, cI_pos v8, if_neg n10]
      obtain ⟨r, hr, rfl⟩ := vp_in_of v9 (by omega)
      obtain ⟨k, hk, rfl⟩ := vp_in_of v8 (by omega)
      rw [nI_clamp (show r < 2 ^ 31 by omega), nI_clamp (show k < 2 ^ 31 by omega)]
      exact ⟨owed_eq h0.st.1.1 h0.pN (by omega) h0.st.2 sm3.kw (h0.st.1.kC (by omega)) (fun q => kw_row) hr, (h0.st.1.kw (by omega)).pays (by omega)⟩
    · simp only [cI_pos v9, cI_neg v8, if_neg n10, if_pos z00]; exact ⟨rfl, h0⟩
  · simp only [cI_neg v9, if_pos z00]; exact ⟨rfl, h0⟩
theorem RLp.dw (h : RLp I ac m N n nr NS w t ar z y) {k : Nat} (hk : k < 80) : ∀ r, RLp I ac m N n nr NS w t ar (dsW z N (nI k) r) y := by
  intro r
  induction r with
  | zero => exact h
  | succ r ih => rw [dsW_s]; exact ih.kw hk
theorem s_state (h : RLp I ac m N n nr NS w t ar z y) (x1 x2 : Int32) : (f_state10 z ac N nr w x1 x2).1 = (f_state y nr N NS ar x1 x2).1 ∧ RLp I ac m N n nr NS w t ar (f_state10 z ac N nr w x1 x2).2 (f_state y nr N NS ar x1 x2).2 := by
  have h0 := h.th 0
  obtain ⟨⟨a1, a2, a3, a4⟩, b, -⟩ := id h
  unfold f_state10 f_state
  rw [r10b b.1 a2, r11n b.2 a2, i02]
  by_cases v9 : vp_in x1 (w + 1)
  · obtain ⟨k, hk, rfl⟩ := vp_in_of v9 (by omega)
    rw [nI_clamp (show k < 2 ^ 31 by omega)]
    by_cases v8 : vp_in x2 3
    · simp only [cI_pos v9, cI_pos v8, if_neg n10]
      rcases in3 v8 with rfl | rfl | rfl
      · simp only [if_pos z00, if_neg (show ¬ (0 : Int32) = 1 by decide)]
        exact ⟨takings_eq h0.1 h0.pN (by omega), h0.pays (by omega)⟩
      · simp only [if_neg n10, if_pos (rfl : (1 : Int32) = 1)]
        exact ⟨paidAll_eq h0.st.1.1 h0.pN (by omega) h0.st.2, h0.st.1.pays (by omega)⟩
      · simp only [if_neg (show ¬ (2 : Int32) = 0 by decide), if_neg (show ¬ (2 : Int32) = 1 by decide), if_pos (rfl : (2 : Int32) = 2)]
        exact ⟨debts_eq h0.st.1.1 h0.pN (by omega) h0.st.1.2.2.2.2.2.2.2.1 h0.st.2, (h0.st.1.dw (by omega) nr).pays (by omega)⟩
    · obtain ⟨c0, c1, c2⟩ := out3 v8
      simp only [cI_pos v9, cI_neg v8, if_neg n10, if_pos z00, if_neg c0, if_neg c1, if_neg c2]; exact ⟨rfl, h0⟩
  · simp only [cI_neg v9, if_pos z00]; exact ⟨rfl, h0⟩
end STP
