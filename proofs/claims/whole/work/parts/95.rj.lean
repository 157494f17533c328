theorem g10_p : ∀ p, p < 120 → g10 (nI p) = min 9 (p / 10) := by decide +kernel
theorem g11_p {v : fr_V} : ∀ p, p < 120 → f_X11_groupOf v (nI p) = nI (min 9 (p / 10)) := by
  have h : ∀ p, p < 120 → f_X11_groupOf (fun _ _ => 0) (nI p) = nI (min 9 (p / 10)) := by decide +kernel
  exact h
section STP
variable {I : List Nat} {ac m N n nr NS w t ar : Nat} {z y : fr_V}
/-- class cells that tell nothing of the office -/
theorem RLp.sc {z' : fr_V} (h : RLp I ac m N n nr NS w t ar z y) (e : ∀ c, c ≠ 310 → c ≠ 200 → c ≠ 201 → c ≠ 202 → c ≠ 203 → c ≠ 205 → c ≠ 900 → c ≠ 906 → c ≠ 907 → z' c = z c) (e10 : z' 200 10 = z 200 10) : RLp I ac m N n nr NS w t ar z' y := by
  obtain ⟨⟨a1, a2, a3, a4⟩, b, c, d, f, g, k1, hc, hp, l, o⟩ := id h
  have p : ∀ c, c ∈ [100, 102, 103, 104, 105, 108, 109, 110, 300, 501] → z' c = z c := fun c hc => by
    simp only [List.mem_cons, List.mem_nil_iff, or_false] at hc
    exact e c (by omega) (by omega) (by omega) (by omega) (by omega) (by omega) (by omega) (by omega) (by omega)
  refine h.z ⟨fun c _ _ _ _ _ _ h1 h2 h3 h4 h5 h6 h7 h8 h9 => e c h1 h2 h3 h4 h5 h6 h7 h8 h9, by rw [p 100 (by decide)], by rw [p 300 (by decide)]; exact ⟨rfl, rfl⟩, e10, fun r => e _ (by omega) (by omega) (by omega) (by omega) (by omega) (by omega) (by omega) (by omega) (by omega)⟩ (fun k hk e9 => ?_) (hp.row (by rw [p 300 (by decide)]) (fun r => e _ (by omega) (by omega) (by omega) (by omega) (by omega) (by omega) (by omega) (by omega) (by omega)))
  have q := hc k hk (by rw [p 100 (by decide)] at e9; exact e9)
  unfold knC dedC cntC at q ⊢
  rw [p 102 (by decide), p 103 (by decide), p 104 (by decide), p 105 (by decide), p 108 (by decide), p 109 (by decide), p 110 (by decide), p 501 (by decide)]
  exact q
theorem RLp.fw2 {z' : fr_V} (h : RLp I ac m N n nr NS w t ar z y) (e : fw2 z z') : RLp I ac m N n nr NS w t ar z' y := h.sc (fun c _ _ _ _ _ _ h1 h2 h3 => e c h1 h2 h3) (by rw [e 200 (by decide) (by decide) (by decide)])
theorem RLp.yl {y' : fr_V} (h : RLp I ac m N n nr NS w t ar z y) (e : ∀ k j, ly_off k j → y' k j = y k j) : RLp I ac m N n nr NS w t ar z y' :=
  h.y ⟨fun c h1 h2 h3 h4 _ _ h7 _ _ _ _ => funext (fun j => e c j ⟨by omega, h3, h4, h7⟩), fun j _ _ h49 h50 => e 1100 j ⟨by omega, by decide, by decide, by decide⟩⟩
theorem RLp.lay (h : RLp I ac m N n nr NS w t ar z y) (x : Int32) : RLp I ac m N n nr NS w t ar z (f_lay y n N x) := h.yl (fun k j hk => f_lay_m hk)
theorem RLp.years (h : RLp I ac m N n nr NS w t ar z y) (g : Nat) (x1 x3 : Int32) : RLp I ac m N n nr NS w t ar z (f_years y n g x1 x3) := h.yl (fun k j hk => by
  show yr_o x1 x3 g (up2 (up2 y 1100 49 0) 1100 50 0) n k j = y k j
  rw [yo_m hk.1]
  by_cases c : k = 1100
  · subst c
    rw [up2_self]; unfold upd; rw [if_neg (fun e => hk.1 ⟨rfl, Or.inr e⟩), up2_self]; unfold upd; rw [if_neg (fun e => hk.1 ⟨rfl, Or.inl e⟩)]
  · rw [up2_ne c, up2_ne c])
/-- the lives as the tables see them -/
theorem RLp.lfR (h : RLp I ac m N n nr NS w t ar z y) (hD : ∀ l, l < 12 → z 110 l = y 1146 l) : lfR z y n := by
  have hw := h.1.2.1
  have hn := h.1.2.2.1.1
  refine ⟨hn, fun i hi => ?_⟩
  obtain ⟨e1, e2, e3, e4, e5⟩ := h.1.2.2.1.2.2.2 i hi
  exact ⟨hD i (by omega), e1, e2, e4, by omega⟩
theorem s_own (h : RLp I ac m N n nr NS w t ar z y) (x1 x2 x3 x4 : Int32) : (f_own10 z N n x1 x2 x3 x4).1 = (f_X11_own y N n x1 x2 x3 x4).1 ∧ RLp I ac m N n nr NS w t ar (f_own10 z N n x1 x2 x3 x4).2 (f_X11_own y N n x1 x2 x3 x4).2 := by
  have h0 := h.th 0
  unfold f_own10 f_X11_own
  rw [r10c, r10g, r10f, r11f, show f_X11_isIn (up2 y 1100 2 0) x1 0 3 = cI (vp_in x1 4) from r11i 3 (by decide), show f_X11_isIn (up2 y 1100 2 0) x2 0 9 = cI (vp_in x2 10) from r11i 9 (by decide), show f_X11_isIn (up2 y 1100 2 0) x4 0 4 = cI (vp_in x4 5) from r11i 4 (by decide)]
  by_cases v9 : vp_in x1 4
  · by_cases v8 : vp_in x2 10
    · by_cases v7 : vp_in x3 80
      · obtain ⟨c, hc, rfl⟩ := vp_in_of v9 (by omega)
        obtain ⟨g, hg, rfl⟩ := vp_in_of v8 (by omega)
        obtain ⟨k, hk, rfl⟩ := vp_in_of v7 (by omega)
        have H := (h0.kw hk).kn (nI k)
        have L := H.lfR (h0.kR hk).2.1
        have Y := years_eq (g := g) (x1 := nI c) (x3 := nI k) (by omega) L
        have T := H.2.2.2.2.2.2.1.1
        have G := H.years g (nI c) (nI k)
        rw [nI_clamp (show c < 2 ^ 31 by omega), nI_clamp (show g < 2 ^ 31 by omega)]
        have W : ∀ q : Int32 × Int32, RLp I ac m N n nr NS w t ar (w_cy (f_kw z N (nI k)) q) (f_years (f_know (up2 y 1100 2 0) N (nI k)) n g (nI c) (nI k)) := fun q => G.sc (fun c _ _ _ _ _ _ h9 _ _ => by unfold w_cy; rw [up2_ne h9, up2_ne h9]) rfl
        by_cases v6 : vp_in x4 5
        · simp only [cI_pos v9, cI_pos v8, cI_pos v7, cI_pos v6, if_neg n10]
          obtain ⟨j, hj, rfl⟩ := vp_in_of v6 (by omega)
          rcases (show j = 0 ∨ j = 1 ∨ j = 2 ∨ j = 3 ∨ j = 4 by omega) with rfl | rfl | rfl | rfl | rfl
          · exact ⟨(congrArg Prod.fst Y).symm, W _⟩
          · exact ⟨(congrArg Prod.snd Y).symm, W _⟩
          · exact ⟨live_eq (t := 1) hc hg L T (by decide), W _⟩
          · exact ⟨live_eq (t := 2) hc hg L T (by decide), W _⟩
          · exact ⟨live_eq (t := 3) hc hg L T (by decide), W _⟩
        · have q : ¬ x4 = 0 ∧ ¬ x4 = 1 ∧ ¬ x4 = 2 ∧ ¬ x4 = 3 ∧ ¬ x4 = 4 := by
            refine ⟨fun e => v6 ?_, fun e => v6 ?_, fun e => v6 ?_, fun e => v6 ?_, fun e => v6 ?_⟩ <;> rw [e] <;> unfold vp_in <;> decide
          simp only [cI_pos v9, cI_pos v8, cI_pos v7, cI_neg v6, if_neg n10, if_neg q.1, if_neg q.2.1, if_neg q.2.2.1, if_neg q.2.2.2.1, if_neg q.2.2.2.2, if_pos z00]
          exact ⟨rfl, h0.kw hk⟩
      · simp only [cI_pos v9, cI_pos v8, cI_neg v7, if_neg n10, if_pos z00]; exact ⟨rfl, h0⟩
    · simp only [cI_pos v9, cI_neg v8, if_neg n10, if_pos z00]; exact ⟨rfl, h0⟩
  · simp only [cI_neg v9, if_pos z00]; exact ⟨rfl, h0⟩
theorem w8_110 {Z : fr_V} {f : Nat → Int32} {c1 c2 p q : Nat} {x2 rate : Int32} : f_w8 (upA Z 110 f) n c1 c2 w x2 0 rate p q = f_w8 Z n c1 c2 w x2 0 rate p q := by
  have e : ∀ c g x3, f_live (upA Z 110 f) n c g x3 0 = f_live Z n c g x3 0 := fun c g x3 => by
    unfold f_live; rw [if_pos z00, if_pos z00, upA_ne (by omega)]
  unfold f_w8 wo8 bo8
  simp only [e]
/-- the worth of a rent; both know NOW (by the own table) -/
theorem RLp.worth (h : RLp I ac m N n nr NS w t ar z y) {tb x1 x2 : Int32} {p q : Nat} (ht : tb = 0 ∨ tb = 1 ∨ tb = 2 ∨ tb = 3) (h1 : vp_in x1 n) (hp : f_X11_ageIn y x1 (nI w) = nI p) (hp9 : p ≤ 99) (h2 : ¬ x2 = (-1) → vp_in x2 n ∧ f_X11_ageIn y x2 (nI w) = nI q ∧ q ≤ 99) : f_wn z ac N n w x1 x2 tb = f_X11_worthOn (f_lay y n N tb) p q x1 x2 := by
  have hw := h.1.2.1
  have hn := h.1.2.2.1.1
  obtain ⟨f1, f2, f3, f4, f5, f6, f7, -, ⟨q2, r1, r2, g1, g2⟩, -⟩ := h.2.2.2.2.1
  obtain ⟨i, hi, rfl⟩ := vp_in_of h1 (by omega)
  obtain ⟨e1, e2, ⟨c1, hc1, e3⟩, e4, e5⟩ := h.1.2.2.1.2.2.2 i hi
  have eA : ∀ j, j < n → agOf z (nI j) (nI w) = (f_X11_ageIn y (nI j) (nI w)).toNatClampNeg := fun j hj => by
    unfold agOf f_X5_ageIn f_X11_ageIn
    rw [nI_clamp (by omega), (h.1.2.2.1.2.2.2 j hj).1]
  have key : ∀ (Z : fr_V), lyF Z (if tb ≤ 0 then y else f_know y N (y 1100 3)) n w → f_w8 Z n c1 (clOf z x2) w x2 tb (nI q2) p q = f_X11_worthOn (f_lay y n N tb) p q (nI i) x2 := fun Z hZ => by
    refine (w8_eq ht hZ (nI_m1 (by omega)) hc1 (by rw [nI_clamp (by omega), ← e2]; exact e3) (by rw [h.2.1.2]; exact hp) hp9 (fun c => ?_) g2 (nI_pos (by omega))).symm
    obtain ⟨k1, k2, k3⟩ := h2 c
    obtain ⟨j, hj, rfl⟩ := vp_in_of k1 (by omega)
    obtain ⟨u1, u2, ⟨c2, hc2, u3⟩, u4, u5⟩ := h.1.2.2.1.2.2.2 j hj
    have ec : clOf z (nI j) = c2 := by unfold clOf; rw [nI_clamp (by omega), u3, nI_clamp (by omega)]
    rw [ec]
    exact ⟨hc2, by rw [nI_clamp (by omega), ← u2]; exact u3, by rw [h.2.1.2]; exact k2, k3⟩
  have ew : f_wn z ac N n w (nI i) x2 tb = f_w8 (f_kw z N (nI w)) n c1 (clOf z x2) w x2 tb (nI q2) p q := by
    unfold f_wn
    have ec : clOf z (nI i) = c1 := by unfold clOf; rw [nI_clamp (by omega), e3, nI_clamp (by omega)]
    rw [ec, eA i hi, hp, nI_clamp (by omega), g1]
    by_cases c : x2 = (-1)
    · unfold f_w8; rw [if_pos c, if_pos c]
    · obtain ⟨k1, k2, k3⟩ := h2 c
      obtain ⟨j, hj, rfl⟩ := vp_in_of k1 (by omega)
      rw [if_neg c, eA j hj, k2, nI_clamp (by omega)]
  rw [ew]
  rcases ht with rfl | ht
  · rw [← w8_110 (f := y 1146)]
    refine key _ ?_
    rw [if_pos (by decide)]
    refine ⟨⟨hn, fun j hj => ?_⟩, fun c g hc hg => ?_, h.2.1.2⟩
    · obtain ⟨u1, u2, -, u4, u5⟩ := (h.kw hw).1.2.2.1.2.2.2 j hj
      rw [upA_self, upA_ne (by decide), upA_ne (by decide)]
      exact ⟨rfl, u1, u2, u4, by omega⟩
    · rw [upA_ne (by omega)]; exact (h.kw hw).2.2.2.2.2.2.1.1 c g hc hg
  · have hle : ¬ tb ≤ 0 := by rcases ht with rfl | rfl | rfl <;> decide
    refine key _ ?_
    rw [if_neg hle, h.2.1.2]
    have H := (h.kw hw).kn (nI w)
    exact ⟨H.lfR (h.kR hw).2.1, H.2.2.2.2.2.2.1.1, H.2.1.2⟩
theorem s_worth (h : RLp I ac m N n nr NS w t ar z y) (x1 x2 x3 : Int32) : f_worth10 z ac N n w x1 x2 x3 = (f_X11_worth y N n (f_X11_ageIn y x1 (y 1100 3)).toNatClampNeg (f_X11_ageIn y x2 (y 1100 3)).toNatClampNeg x1 x2 x3).1 ∧ ∀ b, (b = z ∨ fw2 (f_kw z N (nI w)) b) → RLp I ac m N n nr NS w t ar b (f_X11_worth y N n (f_X11_ageIn y x1 (y 1100 3)).toNatClampNeg (f_X11_ageIn y x2 (y 1100 3)).toNatClampNeg x1 x2 x3).2 := by
  have h0 := h.th 0
  obtain ⟨⟨a1, a2, a3, a4⟩, b, -⟩ := id h
  have hn := a3.1
  have hb : ∀ {y9 : fr_V} (b : fr_V), (b = z ∨ fw2 (f_kw z N (nI w)) b) → RLp I ac m N n nr NS w t ar z y9 → RLp I ac m N n nr NS w t ar b y9 := by
    intro y9 b hb h9
    rcases hb with rfl | hb
    · exact h9
    · exact (h9.kw a2).fw2 hb
  have yl : ∀ x, vp_in x n → ∃ p, p < 120 ∧ f_X11_ageIn y x (nI w) = nI p ∧ f_yl z x = if 99 < nI p then 0 else 1 := fun x hx => by
    obtain ⟨i, hi, rfl⟩ := vp_in_of hx (by omega)
    obtain ⟨p, hp, e⟩ := h.age hi
    refine ⟨p, hp, e, ?_⟩
    unfold f_yl
    rw [r5h a3.2.1 a3.1, cI_pos hx, if_neg n10, b.1]
    have e5 : f_X5_ageIn z (nI i) (nI w) = nI p := by rw [← e]; unfold f_X5_ageIn f_X11_ageIn; rw [nI_clamp (by omega), (a3.2.2.2 i hi).1]
    rw [e5]
    by_cases c : 99 < p
    · rw [if_pos (show (100 : Int32) ≤ nI p from nI_le (a := 100) (by omega) (by omega)), if_pos (show (99 : Int32) < nI p from nI_lt (a := 99) c (by omega))]
    · rw [if_neg (show ¬ (100 : Int32) ≤ nI p from nI_ge (b := 100) (by omega) (by omega)), if_neg (show ¬ (99 : Int32) < nI p from nI_nlt (a := 99) (by omega) (by omega))]
  have yn : ∀ x, ¬ vp_in x n → f_yl z x = 0 := fun x hx => by unfold f_yl; rw [r5h a3.2.1 a3.1, cI_neg hx, if_pos z00]
  have i3 : f_X11_isIn (up2 y 1100 2 0) x3 0 3 = cI (vp_in x3 4) := r11i 3 (by decide)
  have e3 : ∀ {A B : Int32}, (if x3 < 0 then A else if x3 ≤ 3 then B else A) = if cI (vp_in x3 4) = 0 then A else B := fun {A B} => by
    by_cases v : vp_in x3 4
    · obtain ⟨j, hj, rfl⟩ := vp_in_of v (by omega)
      rw [if_neg (nI_pos (by omega)), if_pos (show nI j ≤ (3 : Int32) from nI_le (b := 3) (by omega) (by decide)), cI_pos v, if_neg n10]
    · rw [cI_neg v, if_pos z00]
      by_cases c : x3 < 0
      · rw [if_pos c]
      · obtain ⟨j, hj, rfl⟩ := nI_of c
        have : ¬ j < 4 := fun e => v (vp_in_nI e (by decide))
        rw [if_neg c, if_neg (show ¬ nI j ≤ (3 : Int32) from nI_ge (a := 3) (by omega) hj)]
  have E9 : f_worth10 z ac N n w x1 x2 x3 = if f_yl z x1 = 0 then (-1) else if cI (vp_in x3 4) = 0 then (-1) else (if x2 = (-1) then f_wn z ac N n w x1 x2 x3 else if x2 = x1 then (-1) else if f_yl z x2 = 0 then (-1) else f_wn z ac N n w x1 x2 x3) := by
    unfold f_worth10; rw [e3]
  have t3 : vp_in x3 4 → x3 = 0 ∨ x3 = 1 ∨ x3 = 2 ∨ x3 = 3 := fun v => by
    obtain ⟨j, hj, rfl⟩ := vp_in_of v (by omega)
    rcases (show j = 0 ∨ j = 1 ∨ j = 2 ∨ j = 3 by omega) with rfl | rfl | rfl | rfl
    · exact Or.inl rfl
    · exact Or.inr (Or.inl rfl)
    · exact Or.inr (Or.inr (Or.inl rfl))
    · exact Or.inr (Or.inr (Or.inr rfl))
  rw [E9]
  unfold f_X11_worth
  rw [r11l (y := up2 y 1100 2 0) (n := n) (x := x1) a3.2.2.1 a3.1, r11l (y := up2 y 1100 2 0) (n := n) (x := x2) a3.2.2.1 a3.1, i3, b.2, show f_X11_ageIn (up2 y 1100 2 0) x1 (nI w) = f_X11_ageIn y x1 (nI w) from rfl, show f_X11_ageIn (up2 y 1100 2 0) x2 (nI w) = f_X11_ageIn y x2 (nI w) from rfl]
  by_cases v9 : vp_in x1 n
  · obtain ⟨p, hp, ep, ey⟩ := yl x1 v9
    rw [ey, ep]
    by_cases c2 : x2 = (-1)
    · simp only [cI_pos v9, if_neg n10, if_pos c2]
      by_cases v7 : vp_in x3 4
      · simp only [cI_pos v7, if_neg n10]
        by_cases cp : (99 : Int32) < nI p
        · simp only [if_pos cp, if_pos z00]; exact ⟨rfl, fun b hb9 => hb b hb9 h0⟩
        · simp only [if_neg cp, if_neg n10]
          have hp9 : p ≤ 99 := Nat.le_of_not_lt (fun e => cp (nI_lt (a := 99) e (by omega)))
          rw [nI_clamp (by omega)]
          exact ⟨h0.worth (t3 v7) v9 ep hp9 (fun c => absurd c2 c), fun b hb9 => hb b hb9 (h0.lay _)⟩
      · simp only [cI_neg v7, if_pos z00]
        refine ⟨?_, fun b hb9 => hb b hb9 h0⟩
        show (if (if (99 : Int32) < nI p then (0 : Int32) else 1) = 0 then (-1 : Int32) else -1) = -1
        exact ite_self _
    · simp only [cI_pos v9, if_neg n10, if_neg c2]
      by_cases v8 : vp_in x2 n
      · obtain ⟨p2, hp2, ep2, ey2⟩ := yl x2 v8
        rw [ey2, ep2]
        simp only [cI_pos v8, if_neg n10]
        by_cases c1 : x1 = x2
        · simp only [if_pos c1, if_pos c1.symm]
          refine ⟨?_, fun b hb9 => hb b hb9 h0⟩
          repeat' split
          all_goals rfl
        · simp only [if_neg c1, if_neg (fun e : x2 = x1 => c1 e.symm)]
          by_cases v7 : vp_in x3 4
          · simp only [cI_pos v7, if_neg n10]
            by_cases cp : (99 : Int32) < nI p
            · simp only [if_pos cp, if_pos z00]; exact ⟨rfl, fun b hb9 => hb b hb9 h0⟩
            · have hp9 : p ≤ 99 := Nat.le_of_not_lt (fun e => cp (nI_lt (a := 99) e (by omega)))
              by_cases cq : (99 : Int32) < nI p2
              · simp only [if_neg cp, if_neg n10, if_pos cq, if_pos z00, if_neg (show ¬ nI p2 ≤ 99 from fun e => Int32.lt_irrefl (Int32.lt_of_lt_of_le cq e))]; exact ⟨rfl, fun b hb9 => hb b hb9 h0⟩
              · have hq9 : p2 ≤ 99 := Nat.le_of_not_lt (fun e => cq (nI_lt (a := 99) e (by omega)))
                simp only [if_neg cp, if_neg n10, if_neg cq, if_pos (show nI p2 ≤ 99 from nI_le (b := 99) hq9 (by decide))]
                rw [nI_clamp (by omega), nI_clamp (by omega)]
                exact ⟨h0.worth (t3 v7) v9 ep hp9 (fun _ => ⟨v8, ep2, hq9⟩), fun b hb9 => hb b hb9 (h0.lay _)⟩
          · simp only [cI_neg v7, if_pos z00]
            refine ⟨?_, fun b hb9 => hb b hb9 h0⟩
            show (if (if (99 : Int32) < nI p then (0 : Int32) else 1) = 0 then (-1 : Int32) else -1) = -1
            exact ite_self _
      · simp only [cI_neg v8, if_pos z00, yn x2 v8]
        refine ⟨?_, fun b hb9 => hb b hb9 h0⟩
        show (if (if (99 : Int32) < nI p then (0 : Int32) else 1) = 0 then (-1 : Int32) else if cI (vp_in x3 4) = 0 then -1 else if x2 = x1 then -1 else -1) = -1
        rw [ite_self, ite_self, ite_self]
  · simp only [cI_neg v9, if_pos z00, yn x1 v9]; exact ⟨rfl, fun b hb9 => hb b hb9 h0⟩
end STP
