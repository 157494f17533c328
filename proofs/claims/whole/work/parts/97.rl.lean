section STP
variable {I : List Nat} {ac m N n nr NS w t ar : Nat} {z y : fr_V}
theorem RLp.fw3 {z' : fr_V} (h : RLp I ac m N n nr NS w t ar z y) (e : fw3 z z') (e10 : z' 200 = z 200) : RLp I ac m N n nr NS w t ar z' y := h.sc (fun c _ h0 h1 h2 h3 _ h4 h5 h6 => e c h4 h5 h6 h0 h1 h2 h3) (by rw [e10])
theorem liv_eq {x : Int32} (hx : y 1100 3 = nI w) (h : ¬ x = (-1) → y 1146 x.toNatClampNeg = (-1)) : f_X11_living y x = livX y w x := by
  unfold f_X11_living livX
  rw [hx]
  by_cases c : x = (-1)
  · rw [if_pos c, if_pos c]
  · rw [if_neg c, if_neg c, if_pos (h c)]
    by_cases c2 : f_X11_ageIn y x (nI w) ≤ 99
    · rw [if_pos c2, if_neg (fun e => Int32.lt_irrefl (Int32.lt_of_lt_of_le e c2))]
    · rw [if_neg c2, if_pos (Int32.not_le.mp c2)]
theorem cv_eq {a b a' b' : Int32} {c : Int32} (ha : a = a') (hb : b = b') {l l' : Int32} (hl : l = l') : (if lg_cmp (l.toInt64 * (2 * c.toInt64) * a.toInt64 / 100) (2 * c.toInt64 * b.toInt64) ≤ 0 then (0 : Int32) else 1) = if lg_cmp (l'.toInt64 * (2 * c.toInt64) * a'.toInt64 / 100) (2 * c.toInt64 * b'.toInt64) ≤ 0 then 0 else 1 := by rw [ha, hb, hl]
theorem cv_0 {c l : Int32} : (if lg_cmp (l.toInt64 * (2 * c.toInt64) * (0 : Int32).toInt64 / 100) (2 * c.toInt64 * (0 : Int32).toInt64) ≤ 0 then (0 : Int32) else 1) = 0 := by
  rw [show (0 : Int32).toInt64 = 0 from rfl, Int64.mul_zero, Int64.mul_zero]
  rfl
theorem s_conv (h : RLp I ac m N n nr NS w t ar z y) (x1 : Int32) : f_conv10 z ac m N n w x1 = (f_conv11 y m N n (fun r => (f_X11_ageIn y (y 1111 r) (nI w)).toNatClampNeg) (fun r => (f_X11_ageIn y (y 1112 r) (nI w)).toNatClampNeg) x1).1 ∧ ∀ b, (b = z ∨ (fw3 (f_kw z N (nI w)) b ∧ b 200 = f_kw z N (nI w) 200)) → RLp I ac m N n nr NS w t ar b (f_conv11 y m N n (fun r => (f_X11_ageIn y (y 1111 r) (nI w)).toNatClampNeg) (fun r => (f_X11_ageIn y (y 1112 r) (nI w)).toNatClampNeg) x1).2 := by
  have h0 := h.th 0
  obtain ⟨⟨a1, a2, a3, a4⟩, b, -⟩ := id h
  have hnr := a4.1
  have hn := a3.1
  have hb : ∀ {y9 : fr_V} (b : fr_V), (b = z ∨ (fw3 (f_kw z N (nI w)) b ∧ b 200 = f_kw z N (nI w) 200)) → RLp I ac m N n nr NS w t ar z y9 → RLp I ac m N n nr NS w t ar b y9 := by
    intro y9 b hb h9
    rcases hb with rfl | hb
    · exact h9
    · exact (h9.kw a2).fw3 hb.1 hb.2
  unfold f_conv10 f_conv11
  rw [r3h a4.2.1 a4.1, r11r (y := up2 y 1100 2 0) (n := nr) a4.2.2.1 a4.1, b.2]
  by_cases v9 : vp_in x1 nr
  · simp only [cI_pos v9, if_neg n10]
    obtain ⟨r, hr, rfl⟩ := vp_in_of v9 (by omega)
    rw [nI_clamp (show r < 2 ^ 31 by omega)]
    obtain ⟨-, ⟨e0, e1, e2, e3, e4, e5⟩, -⟩ := a4.2.2.2 r hr
    have K := h0.kR a2
    have H0 := (h0.kw a2).kn (nI w)
    have H1 := H0.lay 0
    have H2 := H1.lay 1
    refine ⟨?_, fun b hb9 => hb b hb9 (((h0.kn (nI w)).lay 0).lay 1)⟩
    have o1 := (a4.ok hn hr).1
    have o2 := (a4.ok hn hr).2
    obtain ⟨-, -, -, ⟨l1, hl1, g1⟩, g2, -⟩ := a4.2.2.2 r hr
    rw [e1, e2, e3]
    rw [e1] at o1 g1
    rw [e2] at o2 g2
    generalize hF1 : y 1111 r = f1 at o1 g1 ⊢
    generalize hF2 : y 1112 r = f2 at o2 g2 ⊢
    have n1 : ¬ f1 = (-1) := by rw [g1]; exact nI_m1 (by omega)
    have V1 : vp_in f1 n := by rw [g1]; exact vp_in_nI hl1 (by omega)
    have V2 : ¬ f2 = (-1) → vp_in f2 n := fun c => by
      rcases g2 with g2 | ⟨l2, hl2, g2⟩
      · exact absurd g2 c
      · rw [g2]; exact vp_in_nI hl2 (by omega)
    have dd : ∀ x, vp_in x n → (f_X1_isDead (f_kw z N (nI w)) x = 0 ↔ f_know (up2 y 1100 2 0) N (nI w) 1146 x.toNatClampNeg = (-1)) := fun x hx => by
      obtain ⟨i, hi, rfl⟩ := vp_in_of hx (by omega)
      rw [nI_clamp (by omega)]
      exact dead_i (k := K) (by omega)
    have lum : f_lump (f_kw z N (nI w)) ac m f1 f2 = f_X11_lumpOf (f_lay (f_know (up2 y 1100 2 0) N (nI w)) n N 0) m f1 f2 := (H1.may V1 V2).2.2
    have lx : ∀ (L : fr_V) x, livX (f_lay (f_know (up2 y 1100 2 0) N (nI w)) n N 0) w x = livX (f_know (up2 y 1100 2 0) N (nI w)) w x := fun L x => by
      unfold livX f_X11_ageIn
      rw [f_lay_m (k := 1106) ⟨by omega, by decide, by decide, by decide⟩]
    have agp : ∀ x, vp_in x n → ∃ p, p < 120 ∧ f_X11_ageIn y x (nI w) = nI p := fun x hx => by
      obtain ⟨i, hi, rfl⟩ := vp_in_of hx (by omega)
      exact h.age hi
    have ageK : ∀ x, f_X11_ageIn (f_know (up2 y 1100 2 0) N (nI w)) x (nI w) = f_X11_ageIn y x (nI w) := fun x => by
      unfold f_X11_ageIn; rw [know_o (by decide) (by decide)]; rfl
    have ageL : ∀ x, f_X11_ageIn (f_lay (f_know (up2 y 1100 2 0) N (nI w)) n N 0) x (nI w) = f_X11_ageIn y x (nI w) := fun x => by
      rw [← ageK x]; unfold f_X11_ageIn; rw [f_lay_m (k := 1106) ⟨by omega, by decide, by decide, by decide⟩]
    have PQ : ¬ livX (f_know (up2 y 1100 2 0) N (nI w)) w f1 = (-1) → ¬ livX (f_know (up2 y 1100 2 0) N (nI w)) w f2 = (-1) → (f_X11_ageIn y f1 (nI w)).toNatClampNeg < 120 ∧ (f_X11_ageIn y f2 (nI w)).toNatClampNeg < 120 ∧ f_X11_ageIn y f1 (nI w) = nI (f_X11_ageIn y f1 (nI w)).toNatClampNeg ∧ f_X11_ageIn y f2 (nI w) = nI (f_X11_ageIn y f2 (nI w)).toNatClampNeg := fun _ c2 => by
      have n2 : ¬ f2 = (-1) := fun e => c2 (by unfold livX; rw [if_pos e])
      obtain ⟨p, hp, ep⟩ := agp f1 V1
      obtain ⟨q, hq, eq⟩ := agp f2 (V2 n2)
      rw [ep, eq, nI_clamp (by omega), nI_clamp (by omega)]
      exact ⟨hp, hq, rfl, rfl⟩
    have tw : ∀ {tb : Int32} {L y9 : fr_V} {p q : Nat} (a c : Int32), f_wn (f_kw z N (nI w)) ac N n w a c tb = f_X11_worthOn L p q (livX y9 w a) (livX y9 w c) → f_wn (f_kw z N (nI w)) ac N n w a c tb = f_X11_worthOn L p q (livX y9 w a) (livX y9 w c) := fun a c e => e
    have w0 : ∀ a c, vp_in a n → (¬ c = (-1) → vp_in c n) → (∀ p q, (¬ livX (f_know (up2 y 1100 2 0) N (nI w)) w a = (-1) → ¬ livX (f_know (up2 y 1100 2 0) N (nI w)) w c = (-1) → p < 120 ∧ q < 120 ∧ f_X11_ageIn y a (nI w) = nI p ∧ f_X11_ageIn y c (nI w) = nI q) → f_wn (f_kw z N (nI w)) ac N n w a c 0 = f_X11_worthOn (f_lay (f_know (up2 y 1100 2 0) N (nI w)) n N 0) p q (livX (f_know (up2 y 1100 2 0) N (nI w)) w a) (livX (f_know (up2 y 1100 2 0) N (nI w)) w c) ∧ f_wn (f_kw z N (nI w)) ac N n w a c 1 = f_X11_worthOn (f_lay (f_lay (f_know (up2 y 1100 2 0) N (nI w)) n N 0) n N 1) p q (livX (f_know (up2 y 1100 2 0) N (nI w)) w a) (livX (f_know (up2 y 1100 2 0) N (nI w)) w c)) := fun a c va vc p q hpq => by
      refine ⟨H0.wn (Or.inl rfl) va vc (fun c1 c2 => by rw [ageK, ageK]; exact hpq c1 c2), ?_⟩
      have g := H1.wn (tb := 1) (x1 := a) (x2 := c) (p := p) (q := q) (Or.inr (Or.inl rfl)) va vc (fun c1 c2 => by rw [ageL, ageL]; rw [lx y] at c1 c2; exact hpq c1 c2)
      rw [lx y, lx y] at g
      exact g
    unfold cvT cv11
    have hliv : ∀ x, (¬ x = (-1) → f_know (up2 y 1100 2 0) N (nI w) 1146 x.toNatClampNeg = (-1)) → f_X11_living (f_know (up2 y 1100 2 0) N (nI w)) x = livX (f_know (up2 y 1100 2 0) N (nI w)) w x := fun x hx => liv_eq H0.2.1.2 hx
    have hdead : ∀ x, ¬ x = (-1) → ¬ f_know (up2 y 1100 2 0) N (nI w) 1146 x.toNatClampNeg = (-1) → f_X11_living (f_know (up2 y 1100 2 0) N (nI w)) x = (-1) := fun x hx hd => by unfold f_X11_living; rw [if_neg hx, if_neg hd]
    have m1 : livX (f_know (up2 y 1100 2 0) N (nI w)) w (-1) = (-1) := by unfold livX; rw [if_pos rfl]
    have ln1 : f_X11_living (f_know (up2 y 1100 2 0) N (nI w)) (-1) = (-1) := by unfold f_X11_living; rw [if_pos rfl]
    have on0 : ∀ (L : fr_V) (a b : Nat), f_X11_worthOn L a b (-1) (-1) = 0 := fun L a b => by unfold f_X11_worthOn; rw [if_pos rfl, if_pos rfl]
    have osw : ∀ (L : fr_V) (a b : Nat) (x : Int32), f_X11_worthOn L a b x (-1) = f_X11_worthOn L a b (-1) x := fun L a b x => by
      unfold f_X11_worthOn
      by_cases c : x = (-1)
      · rw [c]
      · rw [if_neg c, if_pos rfl, if_pos rfl, if_neg c]
    by_cases d1 : f_X1_isDead (f_kw z N (nI w)) f1 = 0
    · rw [if_pos d1]
      have k1 := (dd f1 V1).mp d1
      rw [hliv f1 (fun _ => k1)]
      by_cases c2 : f2 = (-1)
      · rw [if_pos c2]
        unfold cvV
        have g := w0 f1 (-1) V1 (fun e => absurd rfl e) (f_X11_ageIn y f1 (nI w)).toNatClampNeg (f_X11_ageIn y f2 (nI w)).toNatClampNeg (fun _ e => absurd m1 e)
        rw [m1] at g
        rw [c2] at g lum ⊢
        rw [ln1]
        exact cv_eq g.1 g.2 lum
      · rw [if_neg c2]
        by_cases d2 : f_X1_isDead (f_kw z N (nI w)) f2 = 0
        · rw [if_pos d2, hliv f2 (fun _ => (dd f2 (V2 c2)).mp d2)]
          unfold cvV
          have g := w0 f1 f2 V1 V2 (f_X11_ageIn y f1 (nI w)).toNatClampNeg (f_X11_ageIn y f2 (nI w)).toNatClampNeg PQ
          exact cv_eq g.1 g.2 lum
        · rw [if_neg d2, hdead f2 c2 (fun e => d2 ((dd f2 (V2 c2)).mpr e))]
          unfold cvV
          have g := w0 f1 (-1) V1 (fun e => absurd rfl e) (f_X11_ageIn y f1 (nI w)).toNatClampNeg (f_X11_ageIn y f2 (nI w)).toNatClampNeg (fun _ e => absurd m1 e)
          rw [m1] at g
          exact cv_eq g.1 g.2 lum
    · rw [if_neg d1, hdead f1 n1 (fun e => d1 ((dd f1 V1).mpr e))]
      by_cases c2 : f2 = (-1)
      · rw [if_pos c2, c2, ln1, on0, on0]
        exact cv_0.symm
      · rw [if_neg c2]
        by_cases d2 : f_X1_isDead (f_kw z N (nI w)) f2 = 0
        · rw [if_pos d2, hliv f2 (fun _ => (dd f2 (V2 c2)).mp d2), ← osw, ← osw]
          unfold cvV
          have g := w0 f2 (-1) (V2 c2) (fun e => absurd rfl e) (f_X11_ageIn y f1 (nI w)).toNatClampNeg (f_X11_ageIn y f2 (nI w)).toNatClampNeg (fun _ e => absurd m1 e)
          rw [m1] at g
          exact cv_eq g.1 g.2 lum
        · rw [if_neg d2, hdead f2 c2 (fun e => d2 ((dd f2 (V2 c2)).mpr e)), on0, on0]
          exact cv_0.symm
  · simp only [cI_neg v9, if_pos z00]; exact ⟨rfl, fun b hb9 => hb b hb9 h0⟩
end STP
