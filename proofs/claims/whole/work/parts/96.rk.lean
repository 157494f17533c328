theorem raF_N {R : Nat → Int64} {Dd : Nat → Int32} {i : Nat} : ∀ j, ∃ c, c ≤ j ∧ raF R Dd i j = nI c := by
  intro j
  induction j with
  | zero => exact ⟨0, by omega, rfl⟩
  | succ j ih =>
    obtain ⟨c, hc, e⟩ := ih
    rw [raF_s, e]
    repeat' split
    all_goals first | exact ⟨c, by omega, rfl⟩ | exact ⟨c + 1, by omega, nI_1 c⟩
section STP
variable {I : List Nat} {ac m N n nr NS w t ar : Nat} {z y : fr_V}
theorem rn2.rnR {z y : fr_V} (h : rn2 I z y nr n w) : rnR z y nr := ⟨h.1, fun r hr => (h.2.2.2 r hr).2.1⟩
/-- the risk of a life: z and y as known in NOW -/
theorem RLp.rk (h : RLp I ac m N n nr NS w t ar z y) (k : knR z y N) {i : Nat} (hi : i < n) : f_rk z N nr w (nI i) = f_riskOf y nr N (nI i) := by
  have hn := h.1.2.2.1.1
  have hnr := h.1.2.2.2.1
  have R := rn2.rnR h.1.2.2.2
  have al : ∀ r, r < nr → (fa_hit z (nI i) r ↔ hit11 y (nI i) r) := fun r hr => by
    unfold fa_hit hit11
    rw [alone_eq R hr]
    exact ⟨fun e => Classical.byContradiction e, fun e e2 => e2 e⟩
  have F : fa_post z nr (nI i) (f_fa z nr (nI i)) := fa_G nr (Nat.le_refl _) (fun q hq => by omega)
  obtain ⟨s, es, hs, h0⟩ := rkc_N (y := y) (x := nI i) hnr (fun r hr => by
    obtain ⟨-, ⟨-, -, -, e3, -⟩, -, -, -, ⟨c, c1, c2, e⟩, -⟩ := h.1.2.2.2.2.2.2 r hr
    exact ⟨c, c1, c2, by rw [← e3]; exact e⟩) nr (Nat.le_refl _)
  unfold f_rk f_riskOf
  rw [es]
  rcases F with ⟨r, hr, h1, h2, e⟩ | ⟨h1, e⟩
  · have hh := (al r hr).mp h1
    have s0 : ¬ s = 0 := fun e9 => (h0.mp e9) r hr hh
    rw [e, if_neg (nI_m1 (by omega)), if_neg (nI_ne0 (by omega) (by omega)), nI_clamp (by omega)]
    obtain ⟨-, ⟨-, -, -, -, e4, -⟩, -, -, -, -, ⟨b, hb, eb⟩⟩ := h.1.2.2.2.2.2.2 r hr
    have hw := h.1.2.1
    have erks : rks (y 1111) (y 1112) (y 1109) (nI i) nr = y 1109 r := rks_some hh (fun q hq hq2 => h2 q hq ((al q (by omega)).mpr hq2)) (by rw [← e4, eb]; exact nI_m1 (by omega)) nr hr
    have elat : rk_lat y N (nI i) = lpF (z 104) (z 109) (z 103) (nI i) N := (lp_eq k N (Nat.le_refl _)).symm
    obtain ⟨c1, c2, ⟨c, hc, c3⟩, c4, c5⟩ := h.1.2.2.1.2.2.2 i hi
    obtain ⟨p, hp, ep⟩ := h.age hi
    have e5 : f_X5_ageIn z (nI i) (nI w) = nI p := by rw [← ep]; unfold f_X5_ageIn f_X11_ageIn; rw [nI_clamp (by omega), c1]
    have ecl : clOf z (nI i) = c := by unfold clOf; rw [nI_clamp (by omega), c3, nI_clamp (by omega)]
    have key : ∀ since, rkEnd z N nr w (nI i) since = (nI s).toInt64 * (1000 - y 1122 (10 * y 1107 (nI i).toNatClampNeg + f_X11_groupOf y (f_X11_ageIn y (nI i) (y 1100 3))).toNatClampNeg).toInt64 * (y 1100 3 - since).toInt64 := fun since => by
      unfold rkEnd
      rw [coins_eq R nr (Nat.le_refl _), es, ecl, e5, g10_p p hp, h.2.1.2, ep, g11_p p hp, nI_clamp (show i < 2 ^ 31 by omega), ← c2, c3]
      have eix : (10 * nI c + nI (min 9 (p / 10))).toNatClampNeg = 10 * c + min 9 (p / 10) := by
        rw [show (10 : Int32) = nI 10 from rfl, show nI 10 * nI c = nI (10 * c) from (Int32.ofNat_mul 10 c).symm, nI_add, nI_clamp (by omega)]
      rw [eix, h.2.2.2.2.2.2.1.1 c (min 9 (p / 10)) hc (by omega)]
    unfold rk_end
    rw [elat, erks, ← e4]
    by_cases cl : lpF (z 104) (z 109) (z 103) (nI i) N = (-1)
    · rw [if_pos cl, if_pos cl]; exact key _
    · rw [if_neg cl, if_neg cl]; exact key _
  · have s0 : s = 0 := h0.mpr (fun q hq hq2 => h1 q hq ((al q hq).mpr hq2))
    subst s0
    rw [e, if_pos rfl, if_pos nI_0]
theorem dead_i {k : knR z y N} {q : Nat} (hq : q < 12) : f_X1_isDead z (nI q) = 0 ↔ y 1146 q = (-1) := by
  unfold f_X1_isDead
  rw [nI_clamp (by omega), k.2.1 q hq]
  by_cases c : y 1146 q = (-1)
  · rw [if_pos c]; exact ⟨fun _ => c, fun _ => rfl⟩
  · rw [if_neg c]; exact ⟨fun e => absurd e n10, fun e => absurd e c⟩
theorem RLp.ra (h : RLp I ac m N n nr NS w t ar z y) (k : knR z y N) {i : Nat} (hi : i < n) (hd : y 1146 i = (-1)) : ∀ j, j ≤ n → raF (rkR z N nr w) (fun q => f_X1_isDead z (nI q)) i j = la (fun i => f_riskOf y nr N (nI i)) (y 1146) i j := by
  have hn := h.1.2.2.1.1
  have al : ∀ q, q < n → y 1146 q = (-1) → rkR z N nr w q = f_riskOf y nr N (nI q) := fun q hq e => by
    unfold rkR; rw [if_pos ((dead_i (k := k) (by omega)).mpr e)]; exact h.rk k hq
  intro j
  induction j with
  | zero => intro _; rfl
  | succ j ih =>
    intro hj
    rw [raF_s, la_s, ih (by omega), al i hi hd]
    by_cases e : j = i
    · subst e
      rw [al j hi hd, if_neg (fun c => by rw [lg_cmp_gt] at c; exact Int64.lt_irrefl c), if_pos ((lg_cmp_eq _ _).mpr rfl), if_pos (nI_le (Nat.le_refl _) (by omega)), if_pos rfl]
    · rw [if_neg (show ¬ nI j = nI i from fun c => e ((nI_eq (by omega) (by omega)).mp c))]
      by_cases dj : y 1146 j = (-1)
      · have dj0 := (dead_i (k := k) (q := j) (by omega)).mpr dj
        rw [if_pos dj, al j (by omega) dj]
        simp only [if_pos dj0]
        repeat' split
        all_goals first | rfl | (rw [Int32.add_zero])
      · have dj0 : ¬ f_X1_isDead z (nI j) = 0 := fun c => dj ((dead_i (k := k) (by omega)).mp c)
        rw [if_neg dj]
        simp only [if_neg dj0]
        repeat' split
        all_goals rfl
theorem s_look (h : RLp I ac m N n nr NS w t ar z y) (x a a' : Int32) (b : fr_V) (h1 : lkP (f_kw z N (nI w)) N nr w n x a) (h2 : if 0 ≤ x then (lk_post (fun i => f_riskOf (f_know (up2 y 1100 2 0) N (y 1100 3)) nr N (nI i)) ((f_know (up2 y 1100 2 0) N (y 1100 3)) 1146) n x a' ∧ b = (f_know (up2 y 1100 2 0) N (y 1100 3))) else (a' = (-1) ∧ b = up2 y 1100 2 0)) : a = a' ∧ RLp I ac m N n nr NS w t ar (f_kw z N (nI w)) b := by
  have h0 := h.th 0
  have hw := h.1.2.1
  have hn := h.1.2.2.1.1
  have H := (h0.kw hw).kn (nI w)
  have K := h0.kR hw
  rw [h.2.1.2] at h2
  by_cases c : 0 ≤ x
  · rw [if_pos c] at h2
    obtain ⟨h2, rfl⟩ := h2
    refine ⟨?_, H⟩
    have hit : ∀ i, i < n → (lkH (f_kw z N (nI w)) N nr w n x i ↔ lk_hit (fun i => f_riskOf (f_know (up2 y 1100 2 0) N (nI w)) nr N (nI i)) ((f_know (up2 y 1100 2 0) N (nI w)) 1146) n x i) := fun i hi => by
      unfold lkH lk_hit
      rw [dead_i (k := K) (by omega)]
      refine and_congr_right (fun hd => ?_)
      rw [H.ra K hi hd n (Nat.le_refl _)]
    rcases h1 with ⟨i, hi, g1, g2, rfl⟩ | ⟨g1, rfl⟩
    · rcases h2 with ⟨j, hj, k1, k2, rfl⟩ | ⟨k1, rfl⟩
      · have : i = j := by
          rcases Nat.lt_trichotomy i j with q | q | q
          · exact absurd ((hit i hi).mp g1) (k2 i q)
          · exact q
          · exact absurd ((hit j hj).mpr k1) (g2 j q)
        rw [this]
      · exact absurd ((hit i hi).mp g1) (k1 i hi)
    · rcases h2 with ⟨j, hj, k1, k2, rfl⟩ | ⟨k1, rfl⟩
      · exact absurd ((hit j hj).mpr k1) (g1 j hj)
      · rfl
  · rw [if_neg c] at h2
    obtain ⟨rfl, rfl⟩ := h2
    refine ⟨?_, h0.kw hw⟩
    rcases h1 with ⟨i, hi, g1, g2, rfl⟩ | ⟨g1, rfl⟩
    · obtain ⟨q, hq, e⟩ := raF_N (R := rkR (f_kw z N (nI w)) N nr w) (Dd := fun q => f_X1_isDead (f_kw z N (nI w)) (nI q)) (i := i) n
      exact absurd (by rw [← g1.2, e]; exact nI_pos' (by omega)) c
    · rfl
/-- one who is a hundred or more is worth nothing -/
theorem wo_old {Z : fr_V} {c p : Nat} {tb rate : Int32} (hp : 100 ≤ p) (hp2 : p < 120) : wo8 Z n c w tb rate p = 0 := by
  unfold wo8
  show (if nI 99 < nI p then (0 : Int32) else _) = 0
  rw [if_pos (nI_lt (by omega) (by omega))]
theorem bo_old {Z : fr_V} {c1 c2 p q : Nat} {tb rate : Int32} (h : 100 ≤ p ∨ 100 ≤ q) : bo8 Z n c1 c2 w tb rate p q = 0 := by
  unfold bo8
  rw [show 100 - max p q = 0 by omega]
  rfl
def livX (y : fr_V) (w : Nat) (x : Int32) : Int32 := if x = (-1) then (-1) else if 99 < f_X11_ageIn y x (nI w) then (-1) else x
theorem RLp.wn (h : RLp I ac m N n nr NS w t ar z y) {tb x1 x2 : Int32} {p q : Nat} (ht : tb = 0 ∨ tb = 1 ∨ tb = 2 ∨ tb = 3) (h1 : vp_in x1 n) (h2 : ¬ x2 = (-1) → vp_in x2 n) (hP : ¬ livX y w x1 = (-1) → ¬ livX y w x2 = (-1) → p < 120 ∧ q < 120 ∧ f_X11_ageIn y x1 (nI w) = nI p ∧ f_X11_ageIn y x2 (nI w) = nI q) : f_wn z ac N n w x1 x2 tb = f_X11_worthOn (f_lay y n N tb) p q (livX y w x1) (livX y w x2) := by
  have hn := h.1.2.2.1.1
  have agn : ∀ x, vp_in x n → ∃ p, p < 120 ∧ f_X11_ageIn y x (nI w) = nI p ∧ agOf z x (nI w) = p := fun x hx => by
    obtain ⟨i, hi, rfl⟩ := vp_in_of hx (by omega)
    obtain ⟨p, hp, e⟩ := h.age hi
    refine ⟨p, hp, e, ?_⟩
    have e5 : f_X5_ageIn z (nI i) (nI w) = nI p := by rw [← e]; unfold f_X5_ageIn f_X11_ageIn; rw [nI_clamp (by omega), (h.1.2.2.1.2.2.2 i hi).1]
    unfold agOf; rw [e5, nI_clamp (by omega)]
  have ne : ∀ x, vp_in x n → ¬ x = (-1) := fun x hx e => by
    obtain ⟨i, hi, e2⟩ := vp_in_of hx (by omega)
    exact nI_m1 (k := i) (by omega) (by rw [← e2]; exact e)
  have on1 : ∀ (L : fr_V) (a b : Nat) (x : Int32), ¬ x = (-1) → f_X11_worthOn L a b x (-1) = f_worthOf L x ∧ f_X11_worthOn L a b (-1) x = f_worthOf L x := fun L a b x hx => by
    unfold f_X11_worthOn
    rw [if_neg hx, if_pos rfl, if_pos rfl, if_neg hx]; exact ⟨rfl, rfl⟩
  obtain ⟨p1, hp1, e1, g1⟩ := agn x1 h1
  have n1 := ne x1 h1
  have sg : ∀ x, vp_in x n → ∀ p, f_X11_ageIn y x (nI w) = nI p → p ≤ 99 → f_wn z ac N n w x (-1) tb = f_worthOf (f_lay y n N tb) x := fun x hx p ep hp => by
    rw [h.worth (q := 0) ht hx ep hp (fun c => absurd rfl c), (on1 _ _ _ x (ne x hx)).1]
  by_cases c1 : p1 ≤ 99
  · have l1 : livX y w x1 = x1 := by unfold livX; rw [if_neg n1, e1, if_neg (show ¬ (99 : Int32) < nI p1 from nI_nlt (a := 99) c1 (by decide))]
    rw [l1]
    by_cases c2 : x2 = (-1)
    · have l2 : livX y w x2 = (-1) := by unfold livX; rw [if_pos c2]
      rw [l2, (on1 _ _ _ x1 n1).1, c2]
      exact sg x1 h1 p1 e1 c1
    · have v2 := h2 c2
      obtain ⟨p2, hp2, e2, g2⟩ := agn x2 v2
      by_cases c3 : p2 ≤ 99
      · have l2 : livX y w x2 = x2 := by unfold livX; rw [if_neg c2, e2, if_neg (show ¬ (99 : Int32) < nI p2 from nI_nlt (a := 99) c3 (by decide))]
        obtain ⟨b1, b2, u1, u2⟩ := hP (by rw [l1]; exact n1) (by rw [l2]; exact c2)
        rw [l2]
        rw [e1, nI_eq (by omega) (by omega)] at u1
        rw [e2, nI_eq (by omega) (by omega)] at u2
        subst u1; subst u2
        exact h.worth ht h1 e1 c1 (fun _ => ⟨v2, e2, c3⟩)
      · have l2 : livX y w x2 = (-1) := by unfold livX; rw [if_neg c2, e2, if_pos (show (99 : Int32) < nI p2 from nI_lt (a := 99) (by omega) (by omega))]
        rw [l2, (on1 _ _ _ x1 n1).1, ← sg x1 h1 p1 e1 c1]
        unfold f_wn f_w8
        rw [if_neg c2, if_neg c2, if_pos rfl, g2, wo_old (p := p2) (by omega) hp2, bo_old (Or.inr (by omega)), Int32.add_zero, Int32.sub_zero]
  · have l1 : livX y w x1 = (-1) := by unfold livX; rw [if_neg n1, e1, if_pos (show (99 : Int32) < nI p1 from nI_lt (a := 99) (by omega) (by omega))]
    rw [l1]
    by_cases c2 : x2 = (-1)
    · have l2 : livX y w x2 = (-1) := by unfold livX; rw [if_pos c2]
      rw [l2]
      unfold f_wn f_w8 f_X11_worthOn
      rw [if_pos c2, g1, wo_old (by omega) hp1, if_pos rfl, if_pos rfl]
    · have v2 := h2 c2
      obtain ⟨p2, hp2, e2, g2⟩ := agn x2 v2
      by_cases c3 : p2 ≤ 99
      · have l2 : livX y w x2 = x2 := by unfold livX; rw [if_neg c2, e2, if_neg (show ¬ (99 : Int32) < nI p2 from nI_nlt (a := 99) c3 (by decide))]
        rw [l2, (on1 _ _ _ x2 c2).2, ← sg x2 v2 p2 e2 c3]
        unfold f_wn f_w8
        rw [if_neg c2, if_neg c2, if_pos rfl, g1, g2, wo_old (p := p1) (by omega) hp1, bo_old (Or.inl (by omega)), Int32.zero_add, Int32.sub_zero]
      · have l2 : livX y w x2 = (-1) := by unfold livX; rw [if_neg c2, e2, if_pos (show (99 : Int32) < nI p2 from nI_lt (a := 99) (by omega) (by omega))]
        rw [l2]
        unfold f_wn f_w8 f_X11_worthOn
        rw [if_neg c2, if_neg c2, g1, g2, wo_old (p := p1) (by omega) hp1, wo_old (p := p2) (by omega) hp2, bo_old (Or.inl (by omega)), if_pos rfl, if_pos rfl]
        rfl
end STP
