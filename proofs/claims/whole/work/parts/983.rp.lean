theorem hdF_c {SR SL TK SP SH SR' SL' TK' SP' SH' : Nat → Int32} {r x : Int32} {f0 : Nat → Int32} : ∀ n, (∀ j, j < n → SR j = SR' j ∧ SL j = SL' j ∧ TK j = TK' j ∧ SP j = SP' j ∧ SH j = SH' j) → hdF SR SL TK SP SH r x f0 n = hdF SR' SL' TK' SP' SH' r x f0 n := by
  intro n
  induction n with
  | zero => intro _; rfl
  | succ n ih =>
    intro h
    obtain ⟨a, b, c, d, e⟩ := h n (by omega)
    rw [hdF_s, hdF_s, ih (fun j hj => h j (by omega)), a, b, c, d, e]
theorem hdF_x {SR SL TK SP SH : Nat → Int32} {r x x' : Int32} {f0 : Nat → Int32} : ∀ n, (∀ j, j < n → ¬ x < SH j ∧ ¬ x' < SH j) → hdF SR SL TK SP SH r x f0 n = hdF SR SL TK SP SH r x' f0 n := by
  intro n
  induction n with
  | zero => intro _; rfl
  | succ n ih =>
    intro h
    obtain ⟨a, b⟩ := h n (by omega)
    rw [hdF_s, hdF_s, ih (fun j hj => h j (by omega)), if_neg a, if_neg b]
theorem nI_sub {a b : Nat} (h : b ≤ a) : nI a - nI b = nI (a - b) := by
  obtain ⟨d, rfl⟩ : ∃ d, a = b + d := ⟨a - b, by omega⟩
  rw [show b + d - b = d by omega, ← nI_add, Int32.add_comm, Int32.add_sub_cancel]
theorem mv_sum (P : Nat → Nat) {a b k : Nat} (ha : a < 8) (hb : b < 8) (hab : a ≠ b) (hk : k ≤ P a) : ∃ Q : Nat → Nat, (∀ i, Q i = if i = b then P b + k else if i = a then P a - k else P i) ∧ Q 0 + Q 1 + Q 2 + Q 3 + Q 4 + Q 5 + Q 6 + Q 7 = P 0 + P 1 + P 2 + P 3 + P 4 + P 5 + P 6 + P 7 := by
  refine ⟨fun i => if i = b then P b + k else if i = a then P a - k else P i, fun i => rfl, ?_⟩
  rcases (show a = 0 ∨ a = 1 ∨ a = 2 ∨ a = 3 ∨ a = 4 ∨ a = 5 ∨ a = 6 ∨ a = 7 by omega) with rfl | rfl | rfl | rfl | rfl | rfl | rfl | rfl <;>
    rcases (show b = 0 ∨ b = 1 ∨ b = 2 ∨ b = 3 ∨ b = 4 ∨ b = 5 ∨ b = 6 ∨ b = 7 by omega) with rfl | rfl | rfl | rfl | rfl | rfl | rfl | rfl <;>
    first
      | exact absurd rfl hab
      | (simp; omega)
section STP
variable {I : List Nat} {ac m N n nr NS w t ar : Nat} {z y : fr_V}
theorem RLp.sale (h : RLp I ac m N n nr NS w t ar z y) (hS : NS < 40) {r a b k : Nat} (hr : r < nr) (ha : a < 8) (hb : b < 8) (hab : a ≠ b) (hk : nI k ≤ hdC z NS r (nI w) a) (hk6 : k < 2 ^ 31) : RLp I ac m N n nr (NS + 1) w t ar (up2 (up2 (up2 (up2 (up2 (up2 z 304 NS (nI r)) 305 NS (nI a)) 306 NS (nI b)) 307 NS (nI k)) 308 NS (nI w)) 300 8 (nI NS + 1)) (up2 (up2 (up2 (up2 (up2 (up2 y 1116 (5 * NS) (nI r)) 1116 (5 * NS + 1) (nI a)) 1116 (5 * NS + 2) (nI b)) 1116 (5 * NS + 3) (nI k)) 1116 (5 * NS + 4) (nI w)) 1100 14 (nI NS + 1)) := by
  have hW : ∀ r, r < nr → prW y N n r := fun r hr => h.pw hr
  obtain ⟨⟨a1, a2, a3, a4⟩, b9, c, d, f, g, k1, hc, hp, l, o⟩ := id h
  generalize hz9 : up2 (up2 (up2 (up2 (up2 (up2 z 304 NS (nI r)) 305 NS (nI a)) 306 NS (nI b)) 307 NS (nI k)) 308 NS (nI w)) 300 8 (nI NS + 1) = z'
  generalize hy9 : up2 (up2 (up2 (up2 (up2 (up2 y 1116 (5 * NS) (nI r)) 1116 (5 * NS + 1) (nI a)) 1116 (5 * NS + 2) (nI b)) 1116 (5 * NS + 3) (nI k)) 1116 (5 * NS + 4) (nI w)) 1100 14 (nI NS + 1) = y'
  have ez : ∀ c, c < 300 ∨ 308 < c ∨ c = 302 → z' c = z c := fun c q => by rw [← hz9, up2_ne (by omega), up2_ne (by omega), up2_ne (by omega), up2_ne (by omega), up2_ne (by omega), up2_ne (by omega)]
  have e300 : ∀ j, j ≠ 8 → z' 300 j = z 300 j := fun j hj => by rw [← hz9, up2_self]; unfold upd; rw [if_neg hj]; rfl
  have ey : ∀ c, c ≠ 1100 → c ≠ 1116 → y' c = y c := fun c q1 q2 => by rw [← hy9, up2_ne q1, up2_ne q2, up2_ne q2, up2_ne q2, up2_ne q2, up2_ne q2]
  have ey0 : ∀ j, j ≠ 14 → y' 1100 j = y 1100 j := fun j hj => by rw [← hy9, up2_self]; unfold upd; rw [if_neg hj]; rfl
  have e304 : z' 304 = upd (z 304) NS (nI r) := by rw [← hz9]; rfl
  have e305 : z' 305 = upd (z 305) NS (nI a) := by rw [← hz9]; rfl
  have e306 : z' 306 = upd (z 306) NS (nI b) := by rw [← hz9]; rfl
  have e307 : z' 307 = upd (z 307) NS (nI k) := by rw [← hz9]; rfl
  have e308 : z' 308 = upd (z 308) NS (nI w) := by rw [← hz9]; rfl
  have eW : y' 1116 = upd (upd (upd (upd (upd (y 1116) (5 * NS) (nI r)) (5 * NS + 1) (nI a)) (5 * NS + 2) (nI b)) (5 * NS + 3) (nI k)) (5 * NS + 4) (nI w) := by rw [← hy9]; rfl
  have z1 : ∀ r, z' (2000 + 10 * r) = z (2000 + 10 * r) := fun r => ez _ (by omega)
  have z2 : ∀ r, z' (2007 + 10 * r) = z (2007 + 10 * r) := fun r => ez _ (by omega)
  have up : ∀ (F : Nat → Int32) (v9 : Int32) (i : Nat), i < NS → upd F NS v9 i = F i := fun F v9 i hi => by unfold upd; rw [if_neg (by omega)]
  have us : ∀ (F : Nat → Int32) (v9 : Int32), upd F NS v9 NS = v9 := fun F v9 => by unfold upd; rw [if_pos rfl]
  refine ⟨⟨?_, a2, ?_, a4.c (e300 2 (by decide)) (ez 302 (by omega)) z1 (ey0 7 (by decide)) (fun c hc => by simp only [List.mem_cons, List.mem_nil_iff, or_false] at hc; exact ey c (by omega) (by omega))⟩, ⟨by rw [ez 1000 (by omega)]; exact b9.1, by rw [ey0 3 (by decide)]; exact b9.2⟩, ⟨by rw [← hz9]; exact nI_1 NS, by rw [← hy9]; exact nI_1 NS, ⟨by omega, fun j hj => ?_⟩, fun j hj => ?_⟩, ⟨fun j hj => ?_, fun r' hr' x => ?_⟩, (f.z (fun c hc => ez c (by omega))).y (ey0 38 (by decide)) (fun c hc => by simp only [List.mem_cons, List.mem_nil_iff, or_false] at hc; exact ey c (by omega) (by omega)), ?_, ?_, ?_, hp.c (n := n) z2 (e300 10 (by decide)) (fun r hr => ⟨⟨by rw [ey 1109 (by decide) (by decide)], by rw [ey 1111 (by decide) (by decide)], by rw [ey 1112 (by decide) (by decide)]⟩, fun i _ => ⟨by rw [ey 1118 (by decide) (by decide)], by rw [ey 1119 (by decide) (by decide)], by rw [ey 1120 (by decide) (by decide)], by rw [ey 1121 (by decide) (by decide)]⟩, by rw [ey 1141 (by decide) (by decide)], fun l _ => by rw [ey 1106 (by decide) (by decide)]⟩) hW, l.c (fun k j h9 => by unfold dynF at h9; rw [ez k (by omega)]), by rw [ez 302 (by omega)]; exact o⟩
  · unfold nt2 at a1 ⊢
    rw [ez 100 (by omega), ez 102 (by omega), ez 103 (by omega), ez 104 (by omega), ez 105 (by omega), ey0 16 (by decide), ey 1118 (by decide) (by decide), ey 1119 (by decide) (by decide), ey 1120 (by decide) (by decide), ey 1121 (by decide) (by decide)]
    exact a1
  · unfold li2 at a3 ⊢
    rw [ez 500 (by omega), ez 501 (by omega), ez 502 (by omega), ey0 4 (by decide), ey 1106 (by decide) (by decide), ey 1107 (by decide) (by decide)]
    exact a3
  · rw [e304, e305, e306, e307, e308, eW]
    by_cases e : j = NS
    · subst e
      rw [us, us, us, us, us]
      refine ⟨?_, ?_, ?_, ?_, ?_, vp_in_nI ha (by decide), vp_in_nI hb (by decide)⟩
      · unfold upd; rw [if_neg (by omega), if_neg (by omega), if_neg (by omega), if_neg (by omega), if_pos rfl]
      · unfold upd; rw [if_neg (by omega), if_neg (by omega), if_neg (by omega), if_pos rfl]
      · unfold upd; rw [if_neg (by omega), if_neg (by omega), if_pos rfl]
      · unfold upd; rw [if_neg (by omega), if_pos rfl]
      · unfold upd; rw [if_pos rfl]
    · rw [up _ _ j (by omega), up _ _ j (by omega), up _ _ j (by omega), up _ _ j (by omega), up _ _ j (by omega)]
      have q := c.2.2.1.2 j (by omega)
      have W : ∀ i, i < 5 * NS → upd (upd (upd (upd (upd (y 1116) (5 * NS) (nI r)) (5 * NS + 1) (nI a)) (5 * NS + 2) (nI b)) (5 * NS + 3) (nI k)) (5 * NS + 4) (nI w) i = y 1116 i := fun i hi => by
        unfold upd; rw [if_neg (by omega), if_neg (by omega), if_neg (by omega), if_neg (by omega), if_neg (by omega)]
      rw [W _ (by omega), W _ (by omega), W _ (by omega), W _ (by omega), W _ (by omega)]
      exact q
  · rw [e308]
    by_cases e : j = NS
    · subst e; rw [us]; exact ⟨w, Nat.le_refl _, rfl⟩
    · rw [up _ _ j (by omega)]; exact c.2.2.2 j (by omega)
  · rw [e304]
    by_cases e : j = NS
    · subst e; rw [us]; exact ⟨r, hr, rfl⟩
    · rw [up _ _ j (by omega)]; exact d.1 j (by omega)
  · obtain ⟨P, hP, hs⟩ := d.2 r' hr' x
    have old : hdF (z' 304) (z' 305) (z' 306) (z' 307) (z' 308) (nI r') x (upd (fun _ => 0) (z (2000 + 10 * r') 0).toNatClampNeg 60) NS = hdF (z 304) (z 305) (z 306) (z 307) (z 308) (nI r') x (upd (fun _ => 0) (z (2000 + 10 * r') 0).toNatClampNeg 60) NS := hdF_c NS (fun j hj => by rw [e304, e305, e306, e307, e308]; exact ⟨up _ _ j hj, up _ _ j hj, up _ _ j hj, up _ _ j hj, up _ _ j hj⟩)
    have new : hdC z' (NS + 1) r' x = if z (2000 + 10 * r') 4 ≤ x then (if nI r = nI r' then (if x < nI w then hdC z NS r' x else upd (upd (hdC z NS r' x) a (hdC z NS r' x a - nI k)) b (upd (hdC z NS r' x) a (hdC z NS r' x a - nI k) b + nI k)) else hdC z NS r' x) else fun _ => 0 := by
      unfold hdC
      rw [z1 r']
      by_cases q : z (2000 + 10 * r') 4 ≤ x
      · simp only [if_pos q]
        rw [hdF_s, old, e304, e305, e306, e307, e308, us, us, us, us, us, nI_clamp (show a < 2 ^ 31 by omega), nI_clamp (show b < 2 ^ 31 by omega)]
      · simp only [if_neg q]
    by_cases q : z (2000 + 10 * r') 4 ≤ x
    · rw [new, if_pos q]
      by_cases e : nI r = nI r'
      · rw [if_pos e]
        by_cases lt : x < nI w
        · rw [if_pos lt]; exact ⟨P, hP, hs⟩
        · rw [if_neg lt]
          have er : r = r' := (nI_eq (by have := a4.1; omega) (by have := a4.1; omega)).mp e
          subst er
          have hnow : hdC z NS r (nI w) a = nI (P a) := by
            rw [← hP a ha]
            unfold hdC
            obtain ⟨-, -, -, -, -, -, bo, hbo, ebo⟩ := a4.2.2.2 r hr
            rw [if_pos q, ebo, if_pos (nI_le hbo (by omega))]
            exact congrFun (hdF_x NS (fun j hj => by
              obtain ⟨tj, htj, etj⟩ := c.2.2.2 j hj
              rw [etj]
              refine ⟨nI_nlt htj (by omega), fun e9 => lt (Int32.lt_of_lt_of_le e9 (nI_le htj (by omega)))⟩)) a
          rw [hnow] at hk
          have hPa : P a ≤ 60 := by
            rcases (show a = 0 ∨ a = 1 ∨ a = 2 ∨ a = 3 ∨ a = 4 ∨ a = 5 ∨ a = 6 ∨ a = 7 by omega) with rfl | rfl | rfl | rfl | rfl | rfl | rfl | rfl <;> omega
          have hk2 : k ≤ P a := (nI_leI hk6 (by omega)).mp hk
          obtain ⟨Q, hQ, hsum⟩ := mv_sum P ha hb hab hk2
          refine ⟨Q, fun i hi => ?_, by rw [hsum]; exact hs⟩
          rw [hQ i]
          unfold upd
          by_cases eb : i = b
          · rw [if_pos eb, if_pos eb, if_neg (fun e9 => hab e9.symm), hP b hb, nI_add]
          · rw [if_neg eb, if_neg eb]
            by_cases ea : i = a
            · rw [if_pos ea, if_pos ea, hP a ha, nI_sub hk2]
            · rw [if_neg ea, if_neg ea, hP i hi]
      · rw [if_neg e]; exact ⟨P, hP, hs⟩
    · rw [new, if_neg q]; exact ⟨fun _ => 0, fun i _ => rfl, by show 0 + 0 + 0 + 0 + 0 + 0 + 0 + 0 ≤ 60; decide⟩
  · unfold tp2 at g ⊢
    rw [ez 600 (by omega), ez 601 (by omega), ey0 1 (by decide), ey 1101 (by decide) (by decide)]
    exact g
  · unfold mi2 tbR at k1 ⊢
    rw [ez 600 (by omega), ez 200 (by omega), ez 210 (by omega), ey0 23 (by decide), ey0 24 (by decide), ey0 52 (by decide), ey 1122 (by decide) (by decide), ey 1154 (by decide) (by decide), ey 1123 (by decide) (by decide)]
    exact ⟨fun c9 g9 q1 q2 => by rw [ez (910 + c9) (by omega)]; exact k1.1 c9 g9 q1 q2, k1.2⟩
  · intro k hk e
    have q := hc k hk (by rw [ez 100 (by omega)] at e; exact e)
    unfold knC dedC cntC at q ⊢
    rw [ez 102 (by omega), ez 103 (by omega), ez 104 (by omega), ez 105 (by omega), ez 108 (by omega), ez 109 (by omega), ez 110 (by omega), ez 501 (by omega)]
    exact q
theorem s_sell (h : RLp I ac m N n nr NS w t ar z y) (x1 x2 x3 x4 : Int32) : (f_sell10 z NS x1 x2 x3 x4).1 = (f_X11_sell y NS x1 x2 x3 x4).1 ∧ ∃ NS', RLp I ac m N n nr NS' w t ar (f_sell10 z NS x1 x2 x3 x4).2 (f_X11_sell y NS x1 x2 x3 x4).2 := by
  have h0 := h.th 0
  obtain ⟨⟨a1, a2, a3, a4⟩, b9, c9, -⟩ := id h
  have hnr := a4.1
  have hNS := c9.2.2.1.1
  unfold f_sell10 f_X11_sell
  rw [r3h a4.2.1 a4.1, r11r (y := up2 y 1100 2 0) (n := nr) a4.2.2.1 a4.1, r10h, r10h, r11h, r11h, b9.1, b9.2]
  by_cases v9 : vp_in x1 nr
  · by_cases v8 : vp_in x2 8
    · by_cases v7 : vp_in x3 8
      · simp only [cI_pos v9, cI_pos v8, cI_pos v7, if_neg n10]
        obtain ⟨r, hr, rfl⟩ := vp_in_of v9 (by omega)
        obtain ⟨a, ha, rfl⟩ := vp_in_of v8 (by omega)
        obtain ⟨b, hb, rfl⟩ := vp_in_of v7 (by omega)
        by_cases e : nI a = nI b
        · rw [if_pos e, if_pos e]; exact ⟨rfl, NS, h0⟩
        · rw [if_neg e, if_neg e]
          by_cases c1 : x4 < 1
          · rw [if_pos c1, if_pos c1]; exact ⟨rfl, NS, h0⟩
          · rw [if_neg c1, if_neg c1, nI_clamp (show r < 2 ^ 31 by omega), nI_clamp (show a < 2 ^ 31 by omega), (h0.parts hr ha).1]
            by_cases c2 : f_parts (up2 y 1100 2 0) NS (nI r) (nI a) (nI w) < x4
            · rw [if_pos c2, if_neg (Int32.not_le.mpr c2)]; exact ⟨rfl, NS, h0.held _⟩
            · rw [if_neg c2, if_pos (Int32.not_lt.mp c2)]
              have x0 : ¬ x4 < 0 := fun q => c1 (Int32.lt_trans q (by decide))
              obtain ⟨k, hk, rfl⟩ := nI_of x0
              have e300 : upA z 310 (hdR z NS r (nI w)) 300 8 = nI NS := c9.1
              unfold f_X3_passOn
              rw [e300, nI_clamp (show NS < 2 ^ 31 by omega)]
              by_cases c3 : NS = 40
              · subst c3
                rw [if_neg (show ¬ nI 40 < (40 : Int32) by decide), if_pos (show nI 40 = (40 : Int32) from rfl)]
                exact ⟨rfl, 40, h0.held _⟩
              · rw [if_pos (show nI NS < (40 : Int32) from nI_lt (b := 40) (by omega) (by decide)), if_neg (show ¬ nI NS = (40 : Int32) from fun q => c3 ((nI_eq (b := 40) (by omega) (by decide)).mp q))]
                have H := h0.held (hdR z NS r (nI w))
                refine ⟨rfl, NS + 1, H.sale (by omega) hr ha hb (fun q => e (by rw [q])) ?_ hk⟩
                rw [(H.parts hr ha).2]
                exact Int32.not_lt.mp c2
      · simp only [cI_pos v9, cI_pos v8, cI_neg v7, if_neg n10, if_pos z00, ite_true]; exact ⟨trivial, NS, h0⟩
    · simp only [cI_pos v9, cI_neg v8, if_neg n10, if_pos z00, ite_true]; exact ⟨trivial, NS, h0⟩
  · simp only [cI_neg v9, if_pos z00, ite_true]; exact ⟨trivial, NS, h0⟩
end STP
