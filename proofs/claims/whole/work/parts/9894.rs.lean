theorem hdF_no {SR SL TK SP SH : Nat → Int32} {r x : Int32} {f0 : Nat → Int32} : ∀ n, (∀ j, j < n → ¬ SR j = r) → hdF SR SL TK SP SH r x f0 n = f0 := by
  intro n
  induction n with
  | zero => intro _; rfl
  | succ n ih => intro h; rw [hdF_s, if_neg (h n (by omega))]; exact ih (fun j hj => h j (by omega))
theorem one_sum {a : Nat} (ha : a < 8) : ∃ P : Nat → Nat, (∀ i, upd (fun _ => 0) a (60 : Int32) i = nI (P i)) ∧ P 0 + P 1 + P 2 + P 3 + P 4 + P 5 + P 6 + P 7 ≤ 60 := by
  refine ⟨fun i => if i = a then 60 else 0, fun i => ?_, ?_⟩
  · unfold upd
    by_cases e : i = a
    · rw [if_pos e]; show (60 : Int32) = nI (if i = a then 60 else 0); rw [if_pos e]; rfl
    · rw [if_neg e]; show (0 : Int32) = nI (if i = a then 60 else 0); rw [if_neg e]; rfl
  · rcases (show a = 0 ∨ a = 1 ∨ a = 2 ∨ a = 3 ∨ a = 4 ∨ a = 5 ∨ a = 6 ∨ a = 7 by omega) with rfl | rfl | rfl | rfl | rfl | rfl | rfl | rfl <;> decide
noncomputable def rentY (y : fr_V) (r : Nat) (x0 x1 x2 x3 x4 q : Int32) : fr_V := up2 (up2 (up2 (up2 (up2 (up2 (up2 y 1109 r x0) 1110 r x1) 1111 r x2) 1112 r x3) 1113 r x4) 1114 r q) 1100 7 (nI (r + 1))
section STR
variable {I : List Nat} {ac m N n nr NS w t ar : Nat} {z y : fr_V}
theorem RLp.rent (h : RLp I ac m N n nr NS w t ar z y) (hr : nr < 16) {I9 : List Nat} (hI : ∀ k ∈ I, k ∈ I9) (i1 : 2000 + 10 * nr ∈ I9) (i2 : 2007 + 10 * nr ∈ I9) {x1 x2 x3 x4 q : Int32} (v1 : vp_in x1 8) (v2 : ∃ l, l < n ∧ x2 = nI l) (v3 : x3 = (-1) ∨ ∃ l, l < n ∧ x3 = nI l) (v4 : ∃ c, 1 ≤ c ∧ c ≤ 99 ∧ x4 = nI c) : RLp I9 ac m N n (nr + 1) NS w t ar (rentV z nr x1 x2 x3 x4 q) (rentY y nr (nI w) x1 x2 x3 x4 (x4 * q)) := by
  have hW : ∀ r, r < nr → prW y N n r := fun r hr => h.pw hr
  obtain ⟨⟨a1, a2, a3, a4⟩, b9, c, d, f, g, k1, hc, hp, l, o⟩ := id h
  have hw0 : z 1000 3 = nI w := b9.1
  generalize hz9 : rentV z nr x1 x2 x3 x4 q = z'
  generalize hy9 : rentY y nr (nI w) x1 x2 x3 x4 (x4 * q) = y'
  have ez : ∀ c, c ≠ 300 → c ≠ 302 → c ≠ 2000 + 10 * nr → c ≠ 2007 + 10 * nr → z' c = z c := fun c q1 q2 q3 q4 => by rw [← hz9]; unfold rentV; rw [up2_ne q1, up2_ne q2, rnV_o q3 q4]
  have e300 : ∀ j, j ≠ 2 → z' 300 j = z 300 j := fun j hj => by rw [← hz9]; unfold rentV; rw [up2_self]; unfold upd; rw [if_neg hj, up2_ne (by decide), rnV_o (by omega) (by omega)]
  have e302 : z' 302 = upd (z 302) nr (nI (2000 + 10 * nr)) := by rw [← hz9]; unfold rentV; rw [up2_ne (by decide), up2_self, rnV_o (by omega) (by omega)]
  have eO : z' (2000 + 10 * nr) = upd (upd (upd (upd (upd (upd (z (2000 + 10 * nr)) 0 x1) 1 x2) 2 x3) 3 x4) 4 (nI w)) 5 (x4 * q) := by
    rw [← hz9]; unfold rentV; rw [up2_ne (by omega), up2_ne (by omega)]; unfold rnV; rw [upA_ne (paid_ne nr), up2_self, up2_self, up2_self, up2_self, up2_self, up2_self, hw0]
  have eP : ∀ j, j < 80 → z' (2007 + 10 * nr) j = (-1) := fun j hj => by
    rw [← hz9]; unfold rentV; rw [up2_ne (by omega), up2_ne (by omega)]; unfold rnV; rw [upA_self, fl_eq, if_pos hj]
  have ey : ∀ c, c ≠ 1100 → c ≠ 1109 → c ≠ 1110 → c ≠ 1111 → c ≠ 1112 → c ≠ 1113 → c ≠ 1114 → y' c = y c := fun c q0 q1 q2 q3 q4 q5 q6 => by rw [← hy9]; unfold rentY; rw [up2_ne q0, up2_ne q6, up2_ne q5, up2_ne q4, up2_ne q3, up2_ne q2, up2_ne q1]
  have ey0 : ∀ j, j ≠ 7 → y' 1100 j = y 1100 j := fun j hj => by rw [← hy9]; unfold rentY; rw [up2_self]; unfold upd; rw [if_neg hj]; rfl
  have f0 : y' 1109 = upd (y 1109) nr (nI w) := by rw [← hy9]; rfl
  have f1 : y' 1110 = upd (y 1110) nr x1 := by rw [← hy9]; rfl
  have f2 : y' 1111 = upd (y 1111) nr x2 := by rw [← hy9]; rfl
  have f3 : y' 1112 = upd (y 1112) nr x3 := by rw [← hy9]; rfl
  have f4 : y' 1113 = upd (y 1113) nr x4 := by rw [← hy9]; rfl
  have f5 : y' 1114 = upd (y 1114) nr (x4 * q) := by rw [← hy9]; rfl
  have up : ∀ (F : Nat → Int32) (v9 : Int32) (i : Nat), i < nr → upd F nr v9 i = F i := fun F v9 i hi => by unfold upd; rw [if_neg (by omega)]
  have us : ∀ (F : Nat → Int32) (v9 : Int32), upd F nr v9 nr = v9 := fun F v9 => by unfold upd; rw [if_pos rfl]
  have z1 : ∀ r, r < nr → z' (2000 + 10 * r) = z (2000 + 10 * r) := fun r hr => ez _ (by omega) (by omega) (by omega) (by omega)
  have z2 : ∀ r, r < nr → z' (2007 + 10 * r) = z (2007 + 10 * r) := fun r hr => ez _ (by omega) (by omega) (by omega) (by omega)
  have zc : ∀ c, c < 2000 → c ≠ 300 → c ≠ 302 → z' c = z c := fun c q0 q1 q2 => ez c q1 q2 (by omega) (by omega)
  have yc : ∀ c, (1100 < c ∧ c < 1109) ∨ 1114 < c → y' c = y c := fun c q0 => ey c (by omega) (by omega) (by omega) (by omega) (by omega) (by omega) (by omega)
  have o0 : z' (2000 + 10 * nr) 0 = x1 := by rw [eO]; rfl
  have o1 : z' (2000 + 10 * nr) 1 = x2 := by rw [eO]; rfl
  have o2 : z' (2000 + 10 * nr) 2 = x3 := by rw [eO]; rfl
  have o3 : z' (2000 + 10 * nr) 3 = x4 := by rw [eO]; rfl
  have o4 : z' (2000 + 10 * nr) 4 = nI w := by rw [eO]; rfl
  have o5 : z' (2000 + 10 * nr) 5 = x4 * q := by rw [eO]; rfl
  refine ⟨⟨?_, a2, ?_, ⟨by omega, ?_, ?_, fun r h9 => ?_⟩⟩, ⟨by rw [zc 1000 (by decide) (by decide) (by decide)]; exact b9.1, by rw [ey0 3 (by decide)]; exact b9.2⟩, ?_, ⟨fun j hj => ?_, fun r' hr' x => ?_⟩, (f.z (fun c hc => zc c (by omega) (by omega) (by omega))).y (ey0 38 (by decide)) (fun c hc => by simp only [List.mem_cons, List.mem_nil_iff, or_false] at hc; exact yc c (by omega)), ?_, ?_, ?_, ?_, l.c (fun k j h9 => by unfold dynF at h9; rw [zc k (by omega) (by omega) (by omega)]), fun r h9 => ?_⟩
  · unfold nt2 at a1 ⊢
    rw [zc 100 (by decide) (by decide) (by decide), zc 102 (by decide) (by decide) (by decide), zc 103 (by decide) (by decide) (by decide), zc 104 (by decide) (by decide) (by decide), zc 105 (by decide) (by decide) (by decide), ey0 16 (by decide), yc 1118 (by omega), yc 1119 (by omega), yc 1120 (by omega), yc 1121 (by omega)]
    exact a1
  · unfold li2 at a3 ⊢
    rw [zc 500 (by decide) (by decide) (by decide), zc 501 (by decide) (by decide) (by decide), zc 502 (by decide) (by decide) (by decide), ey0 4 (by decide), yc 1106 (by omega), yc 1107 (by omega)]
    exact a3
  · rw [← hz9]; unfold rentV; rw [up2_self]; rfl
  · rw [← hy9]; unfold rentY; rw [up2_self]; rfl
  · by_cases e : r = nr
    · subst e
      refine ⟨⟨i1, i2, by rw [e302, us]⟩, ⟨by rw [o0, f1, us], by rw [o1, f2, us], by rw [o2, f3, us], by rw [o3, f4, us], by rw [o4, f0, us], by rw [o5, f5, us]⟩, by rw [o0]; exact v1, by rw [o1]; exact v2, by rw [o2]; exact v3, by rw [o3]; exact v4, by rw [o4]; exact ⟨w, Nat.le_refl _, rfl⟩⟩
    · have hr2 : r < nr := by omega
      obtain ⟨⟨p1, p2, p3⟩, p4⟩ := a4.2.2.2 r hr2
      rw [z1 r hr2, e302, f0, f1, f2, f3, f4, f5, up _ _ r hr2, up _ _ r hr2, up _ _ r hr2, up _ _ r hr2, up _ _ r hr2, up _ _ r hr2, up _ _ r hr2]
      exact ⟨⟨hI _ p1, hI _ p2, p3⟩, p4⟩
  · unfold sl2 slR at c ⊢
    rw [e300 8 (by decide), ey0 14 (by decide), zc 304 (by decide) (by decide) (by decide), zc 305 (by decide) (by decide) (by decide), zc 306 (by decide) (by decide) (by decide), zc 307 (by decide) (by decide) (by decide), zc 308 (by decide) (by decide) (by decide), yc 1116 (by omega)]
    exact c
  · rw [zc 304 (by decide) (by decide) (by decide)]
    obtain ⟨q9, h8, h7⟩ := d.1 j hj
    exact ⟨q9, by omega, h7⟩
  · by_cases e : r' = nr
    · subst e
      unfold hdC
      rw [o4, o0, zc 304 (by decide) (by decide) (by decide), zc 305 (by decide) (by decide) (by decide), zc 306 (by decide) (by decide) (by decide), zc 307 (by decide) (by decide) (by decide), zc 308 (by decide) (by decide) (by decide)]
      by_cases le : nI w ≤ x
      · simp only [if_pos le]
        rw [hdF_no NS (fun j hj e9 => by
          obtain ⟨q9, h8, h7⟩ := d.1 j hj
          rw [h7] at e9
          have := (nI_eq (by omega) (by omega)).mp e9
          omega)]
        obtain ⟨a, ha, rfl⟩ := vp_in_of v1 (by omega)
        rw [nI_clamp (show a < 2 ^ 31 by omega)]
        obtain ⟨P, hP, hs⟩ := one_sum ha
        exact ⟨P, fun i _ => hP i, hs⟩
      · simp only [if_neg le]
        exact ⟨fun _ => 0, fun i _ => rfl, by show 0 + 0 + 0 + 0 + 0 + 0 + 0 + 0 ≤ 60; decide⟩
    · have hr2 : r' < nr := by omega
      have e9 : hdC z' NS r' x = hdC z NS r' x := by unfold hdC; rw [z1 r' hr2, zc 304 (by decide) (by decide) (by decide), zc 305 (by decide) (by decide) (by decide), zc 306 (by decide) (by decide) (by decide), zc 307 (by decide) (by decide) (by decide), zc 308 (by decide) (by decide) (by decide)]
      rw [e9]; exact d.2 r' hr2 x
  · unfold tp2 at g ⊢
    rw [zc 600 (by decide) (by decide) (by decide), zc 601 (by decide) (by decide) (by decide), ey0 1 (by decide), yc 1101 (by omega)]
    exact g
  · unfold mi2 tbR at k1 ⊢
    rw [zc 600 (by decide) (by decide) (by decide), zc 200 (by decide) (by decide) (by decide), zc 210 (by decide) (by decide) (by decide), ey0 23 (by decide), ey0 24 (by decide), ey0 52 (by decide), yc 1122 (by omega), yc 1154 (by omega), yc 1123 (by omega)]
    exact ⟨fun c9 g9 q1 q2 => by rw [zc (910 + c9) (by omega) (by omega) (by omega)]; exact k1.1 c9 g9 q1 q2, k1.2⟩
  · intro k hk e
    have q9 := hc k hk (by rw [zc 100 (by decide) (by decide) (by decide)] at e; exact e)
    unfold knC dedC cntC at q9 ⊢
    rw [zc 102 (by decide) (by decide) (by decide), zc 103 (by decide) (by decide) (by decide), zc 104 (by decide) (by decide) (by decide), zc 105 (by decide) (by decide) (by decide), zc 108 (by decide) (by decide) (by decide), zc 109 (by decide) (by decide) (by decide), zc 110 (by decide) (by decide) (by decide), zc 501 (by decide) (by decide) (by decide)]
    exact q9
  · obtain ⟨k0, g1, g2, g3⟩ := hp
    refine ⟨k0, g1, by rw [e300 10 (by decide)]; exact g2, fun r h8 hr9 hh => ?_⟩
    by_cases e : r = nr
    · subst e
      rw [eP h8 hh]
      refine ⟨Or.inl rfl, ?_⟩
      rw [prF_new (y := y') (W := w) a2 hr (by rw [f0, us]) k0 g1]
      exact ite_self _
    · have hr2 : r < nr := by omega
      rw [z2 r hr2, prF_x (n := n) (w := y) ⟨⟨by rw [f0, up _ _ r hr2], by rw [f2, up _ _ r hr2], by rw [f3, up _ _ r hr2]⟩, fun i _ => ⟨by rw [yc 1118 (by omega)], by rw [yc 1119 (by omega)], by rw [yc 1120 (by omega)], by rw [yc 1121 (by omega)]⟩, by rw [yc 1141 (by omega)], fun l _ => by rw [yc 1106 (by omega)]⟩ (hW r hr2) k0]
      exact g3 r h8 hr2 hh
  · rw [e302]
    unfold upd
    rw [if_neg (by omega)]
    exact o r (by omega)
theorem in99 {x : Int32} (h1 : ¬ x < 1) (h2 : ¬ 99 < x) : ∃ c, 1 ≤ c ∧ c ≤ 99 ∧ x = nI c := by
  obtain ⟨c, hc, rfl⟩ := nI_of2 (M := 99) (n := 99) rfl (fun q => h1 (Int32.lt_trans q (by decide))) (Int32.not_lt.mp h2)
  refine ⟨c, ?_, hc, rfl⟩
  rcases Nat.lt_or_ge c 1 with q | q
  · exact absurd (nI_lt (b := 1) q (by decide)) h1
  · exact q
theorem s_rent (h : RLp I ac m N n nr NS w t ar z y) (x1 x2 x3 x4 : Int32) : (¬ rentOK z ac m x1 x2 x3 x4 → (f_X11_rent y nr m x1 x2 x3 x4).1 = (-1) ∧ RLp I ac m N n nr NS w t ar z (f_X11_rent y nr m x1 x2 x3 x4).2) ∧ (rentOK z ac m x1 x2 x3 x4 → nr < 16 ∧ vp_in x2 12 ∧ (¬ x3 = (-1) → vp_in x3 12) ∧ (f_X11_rent y nr m x1 x2 x3 x4).1 = nI nr ∧ ∀ I9 : List Nat, (∀ k ∈ I, k ∈ I9) → 2000 + 10 * nr ∈ I9 → 2007 + 10 * nr ∈ I9 → RLp I9 ac m N n (nr + 1) NS w t ar (rentV z nr x1 x2 x3 x4 (f_price z ac m x2 x3)) (f_X11_rent y nr m x1 x2 x3 x4).2) := by
  have h0 := h.th 0
  obtain ⟨⟨a1, a2, a3, a4⟩, b9, -⟩ := id h
  have hnr := a4.1
  have hn := a3.1
  have full : f_X3_isFull z = 0 ↔ ¬ nr = 16 := by
    unfold f_X3_isFull
    rw [a4.2.1]
    by_cases e : nr = 16
    · subst e; rw [if_neg (by decide)]; exact ⟨fun q => absurd q (by decide), fun q => absurd rfl q⟩
    · rw [if_pos (show nI nr < (16 : Int32) from nI_lt (b := 16) (by omega) (by decide))]; exact ⟨fun _ => e, fun _ => rfl⟩
  have full2 : nI nr = (16 : Int32) ↔ nr = 16 := nI_eq (b := 16) (by omega) (by decide)
  have e11 : f_X11_isHolder (up2 y 1100 2 0) x1 = cI (vp_in x1 8) := r11h
  have e12 : ∀ x, f_X11_isLife (up2 y 1100 2 0) x = cI (vp_in x n) := fun x => r11l (y := up2 y 1100 2 0) (n := n) a3.2.2.1 a3.1
  have e13 : f_X11_isIn (up2 y 1100 2 0) x4 1 99 = 0 ↔ (x4 < 1 ∨ 99 < x4) := by
    unfold f_X11_isIn
    by_cases c1 : x4 < 1
    · rw [if_pos c1]; exact ⟨fun _ => Or.inl c1, fun _ => rfl⟩
    · rw [if_neg c1]
      by_cases c2 : 99 < x4
      · rw [if_pos c2]; exact ⟨fun _ => Or.inr c2, fun _ => rfl⟩
      · rw [if_neg c2]; exact ⟨fun q => absurd q (by decide), fun q => q.elim (fun q => absurd q c1) (fun q => absurd q c2)⟩
  have c0 : ∀ p : Prop, cI p = 0 ↔ ¬ p := fun p => ⟨fun q hp => by rw [cI_pos hp] at q; exact absurd q (by decide), fun q => cI_neg q⟩
  have big : vp_in x2 n → vp_in x2 12 := fun q => by
    obtain ⟨l, hl, rfl⟩ := vp_in_of q (by omega)
    exact vp_in_nI (by omega) (by decide)
  have big3 : vp_in x3 n → vp_in x3 12 := fun q => by
    obtain ⟨l, hl, rfl⟩ := vp_in_of q (by omega)
    exact vp_in_nI (by omega) (by decide)
  have fin : ¬ nr = 16 → vp_in x1 8 → vp_in x2 n → (x3 = (-1) ∨ vp_in x3 n) → ¬ x4 < 1 → ¬ 99 < x4 → ∀ I9 : List Nat, (∀ k ∈ I, k ∈ I9) → 2000 + 10 * nr ∈ I9 → 2007 + 10 * nr ∈ I9 → RLp I9 ac m N n (nr + 1) NS w t ar (rentV z nr x1 x2 x3 x4 (f_price z ac m x2 x3)) (up2 (up2 (up2 (up2 (up2 (up2 (up2 (up2 y 1100 2 0) 1109 nr (y 1100 3)) 1110 nr x1) 1111 nr x2) 1112 nr x3) 1113 nr x4) 1114 nr (x4 * (f_X11_priceOf (up2 (up2 (up2 (up2 (up2 (up2 y 1100 2 0) 1109 nr (y 1100 3)) 1110 nr x1) 1111 nr x2) 1112 nr x3) 1113 nr x4) m x2 x3))) 1100 7 ((nI nr) + 1)) := by
    intro g1 g2 g3 g4 g5 g6 I9 hI i1 i2
    have l1 : lifR z (up2 (up2 (up2 (up2 (up2 (up2 y 1100 2 0) 1109 nr (y 1100 3)) 1110 nr x1) 1111 nr x2) 1112 nr x3) 1113 nr x4) x2 := by
      obtain ⟨i, hi, rfl⟩ := vp_in_of g3 (by omega)
      exact h.lif hi
    have l2 : ¬ x3 = (-1) → lifR z (up2 (up2 (up2 (up2 (up2 (up2 y 1100 2 0) 1109 nr (y 1100 3)) 1110 nr x1) 1111 nr x2) 1112 nr x3) 1113 nr x4) x3 := by
      intro ne
      obtain ⟨i, hi, rfl⟩ := vp_in_of (g4.resolve_left ne) (by omega)
      exact h.lif hi
    have hac : ac2 z (up2 (up2 (up2 (up2 (up2 (up2 y 1100 2 0) 1109 nr (y 1100 3)) 1110 nr x1) 1111 nr x2) 1112 nr x3) 1113 nr x4) ac m ar := h.2.2.2.2.1.y rfl (fun c hc => by simp only [List.mem_cons, List.mem_nil_iff, or_false] at hc; rw [up2_ne (by omega), up2_ne (by omega), up2_ne (by omega), up2_ne (by omega), up2_ne (by omega), up2_ne (by omega)])
    have pr := price_eq (ww := w) hac.2.2.2.2.1 b9.1 (show (up2 (up2 (up2 (up2 (up2 (up2 y 1100 2 0) 1109 nr (y 1100 3)) 1110 nr x1) 1111 nr x2) 1112 nr x3) 1113 nr x4) 1100 3 = nI w from b9.2) a2 l1 l2
    rw [← pr, b9.2, nI_1]
    obtain ⟨q2, hq2, rfl⟩ := vp_in_of g3 (by omega)
    exact h0.rent (by omega) hI i1 i2 g2 ⟨q2, hq2, rfl⟩ (g4.elim Or.inl (fun q => Or.inr (vp_in_of q (by omega)))) (in99 g5 g6)
  have mayE : vp_in x2 n → (x3 = (-1) ∨ vp_in x3 n) → f_may z ac m x2 x3 = f_X11_mayBe (up2 y 1100 2 0) m x2 x3 := fun g1 g2 => (h0.may g1 (fun ne => g2.resolve_left ne)).1
  unfold rentOK f_X11_rent
  rw [r10h, r5h a3.2.1 a3.1, r5h a3.2.1 a3.1, e11, e12, e12]
  by_cases g1 : nr = 16
  · rw [if_pos (full2.mpr g1)]
    exact ⟨fun _ => ⟨rfl, h0⟩, fun q => absurd g1 (full.mp q.2.2.2.2.2.1)⟩
  rw [if_neg (fun q => g1 (full2.mp q))]
  by_cases g2 : vp_in x1 8
  rotate_left
  · rw [if_pos ((c0 _).mpr g2)]
    exact ⟨fun _ => ⟨rfl, h0⟩, fun q => absurd ((c0 _).mpr g2) q.1⟩
  rw [if_neg (fun q => (c0 _).mp q g2)]
  by_cases g3 : vp_in x2 n
  rotate_left
  · rw [if_pos ((c0 _).mpr g3)]
    exact ⟨fun _ => ⟨rfl, h0⟩, fun q => absurd ((c0 _).mpr g3) q.2.1⟩
  rw [if_neg (fun q => (c0 _).mp q g3)]
  by_cases g4 : x3 = (-1)
  · rw [if_pos g4]
    by_cases g5 : f_X11_isIn (up2 y 1100 2 0) x4 1 99 = 0
    · rw [if_pos g5]
      refine ⟨fun _ => ⟨rfl, h0⟩, fun q => ?_⟩
      exact ((e13.mp g5).elim (fun e => q.2.2.1 e) (fun e => Int32.not_le.mpr e q.2.2.2.1)).elim
    rw [if_neg g5, ← mayE g3 (Or.inl g4)]
    have g6 : ¬ x4 < 1 := fun e => g5 (e13.mpr (Or.inl e))
    have g7 : ¬ 99 < x4 := fun e => g5 (e13.mpr (Or.inr e))
    by_cases g8 : f_may z ac m x2 x3 = 0
    · rw [if_pos g8]
      exact ⟨fun _ => ⟨rfl, h0⟩, fun q => absurd g8 q.2.2.2.2.2.2⟩
    rw [if_neg g8]
    refine ⟨fun q => absurd ⟨fun e => (c0 _).mp e g2, fun e => (c0 _).mp e g3, g6, Int32.not_lt.mp g7, Or.inl g4, full.mpr g1, g8⟩ q, fun _ => ⟨by omega, big g3, fun e => absurd g4 e, Int32.add_sub_cancel _ _, fin g1 g2 g3 (Or.inl g4) g6 g7⟩⟩
  rw [if_neg g4]
  by_cases g9 : vp_in x3 n
  rotate_left
  · rw [if_pos ((c0 _).mpr g9)]
    refine ⟨fun _ => ⟨rfl, h0⟩, fun q => ?_⟩
    exact (q.2.2.2.2.1.elim (fun e => g4 e) (fun e => e.2 ((c0 _).mpr g9))).elim
  rw [if_neg (fun q => (c0 _).mp q g9)]
  by_cases g10 : x2 = x3
  · rw [if_pos g10]
    refine ⟨fun _ => ⟨rfl, h0⟩, fun q => ?_⟩
    exact (q.2.2.2.2.1.elim (fun e => g4 e) (fun e => e.1 g10.symm)).elim
  rw [if_neg g10]
  by_cases g5 : f_X11_isIn (up2 y 1100 2 0) x4 1 99 = 0
  · rw [if_pos g5]
    refine ⟨fun _ => ⟨rfl, h0⟩, fun q => ?_⟩
    exact ((e13.mp g5).elim (fun e => q.2.2.1 e) (fun e => Int32.not_le.mpr e q.2.2.2.1)).elim
  rw [if_neg g5, ← mayE g3 (Or.inr g9)]
  have g6 : ¬ x4 < 1 := fun e => g5 (e13.mpr (Or.inl e))
  have g7 : ¬ 99 < x4 := fun e => g5 (e13.mpr (Or.inr e))
  by_cases g8 : f_may z ac m x2 x3 = 0
  · rw [if_pos g8]
    exact ⟨fun _ => ⟨rfl, h0⟩, fun q => absurd g8 q.2.2.2.2.2.2⟩
  rw [if_neg g8]
  exact ⟨fun q => absurd ⟨fun e => (c0 _).mp e g2, fun e => (c0 _).mp e g3, g6, Int32.not_lt.mp g7, Or.inr ⟨fun e => g10 e.symm, fun e => (c0 _).mp e g9⟩, full.mpr g1, g8⟩ q, fun _ => ⟨by omega, big g3, fun _ => big3 g9, Int32.add_sub_cancel _ _, fin g1 g2 g3 (Or.inr g9) g6 g7⟩⟩
end STR
