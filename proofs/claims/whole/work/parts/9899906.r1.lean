theorem RLp.zg {I : List Nat} {ac m N n nr NS w t ar : Nat} {z z' y : fr_V} (h : RLp I ac m N n nr NS w t ar z y) (p : ∀ c, c < 1100 → z' c = z c) (er : ∀ r, r < nr → z' (2000 + 10 * r) = z (2000 + 10 * r) ∧ z' (2007 + 10 * r) = z (2007 + 10 * r)) : RLp I ac m N n nr NS w t ar z' y := by
  obtain ⟨⟨a1, a2, a3, a4⟩, b, c, d, f, g, k, kc, hp, l, o⟩ := h
  have hac := f.1
  have p304 := p 304 (by decide)
  have p305 := p 305 (by decide)
  have p306 := p 306 (by decide)
  have p307 := p 307 (by decide)
  have p308 := p 308 (by decide)
  refine ⟨⟨?_, a2, ?_, ?_⟩, by rw [p 1000 (by decide)]; exact b, ?_, ?_, f.z (fun c hc => p c (by omega)), ?_, ?_, ?_, ?_, ?_, by rw [p 302 (by decide)]; exact o⟩
  · unfold nt2 at a1 ⊢
    rw [p 100 (by decide), p 102 (by decide), p 103 (by decide), p 104 (by decide), p 105 (by decide)]; exact a1
  · unfold li2 at a3 ⊢
    rw [p 500 (by decide), p 501 (by decide), p 502 (by decide)]; exact a3
  · refine ⟨a4.1, by rw [p 300 (by decide)]; exact a4.2.1, a4.2.2.1, fun r hr => ?_⟩
    rw [(er r hr).1, p 302 (by decide)]; exact a4.2.2.2 r hr
  · unfold sl2 slR at c ⊢
    rw [p 300 (by decide), p304, p305, p306, p307, p308]; exact c
  · refine ⟨by rw [p304]; exact d.1, fun r hr x => ?_⟩
    have e9 : hdC z' NS r x = hdC z NS r x := by unfold hdC; rw [(er r hr).1, p304, p305, p306, p307, p308]
    rw [e9]; exact d.2 r hr x
  · unfold tp2 at g ⊢
    rw [p 600 (by decide), p 601 (by decide)]; exact g
  · unfold mi2 at k ⊢
    rw [p 600 (by decide), p 210 (by decide), p 200 (by decide)]
    refine ⟨fun c9 g9 h1 h2 => ?_, k.2⟩
    rw [p (910 + c9) (by omega)]
    exact k.1 c9 g9 h1 h2
  · intro j hj ej
    rw [p 100 (by decide)] at ej
    have k9 := kc j hj ej
    unfold knC dedC cntC at k9 ⊢
    rw [p 102 (by decide), p 103 (by decide), p 104 (by decide), p 105 (by decide), p 108 (by decide), p 109 (by decide), p 110 (by decide), p 501 (by decide)]
    exact k9
  · obtain ⟨k0, h1, h2, h3⟩ := hp
    refine ⟨k0, h1, by rw [p 300 (by decide)]; exact h2, fun r h9 hr hh => ?_⟩
    rw [(er r hr).2]
    exact h3 r h9 hr hh
  · intro k9 j9 h9
    have e9 : z' k9 = z k9 := by
      unfold dynF at h9
      exact p k9 (by omega)
    rw [e9]; exact l k9 j9 h9
def dynB (k j : Nat) : Bool := (k == 1000 && (j == 1 || j == 2)) || (k == 600 && (j == 3 || j == 6 || j == 7 || j == 13)) || (((decide (400 ≤ k) && decide (k < 424)) || (decide (430 ≤ k) && decide (k < 454))) && j == 0)
theorem dynB_ok {k j : Nat} (h : dynB k j = true) : dynF k j := by
  simp only [dynB, Bool.or_eq_true, Bool.and_eq_true, beq_iff_eq, decide_eq_true_eq] at h
  unfold dynF
  omega
def stB9 (k : Nat) : Bool := decide (k < 2000) && (if (sh k).1 < 20 then (List.range (nfd (sh k).1)).all (fun j => decide (sref k j < 2000) && (fk (sh k).1 j != 2 || dynB k j)) else if (sh k).1 = 23 then decide (shb k + (sh k).2 ≤ 2000) else if (sh k).1 = 25 then decide (shb k + (sh k).2 ≤ 2000) else if (sh k).1 = 24 then k == 302 && (sh k).2 == 16 else ((sh k).1 == 20 || (sh k).1 == 21 || (sh k).1 == 22))
theorem st_ok9 : fr_st.all stB9 = true := by decide +kernel
theorem arrV_c {cI : ClassId} {n : Nat} {f g : Nat → Value} (h : ∀ i, i < n → f i = g i) : arrV cI n f = arrV cI n g := by
  unfold arrV
  congr 2
  funext j
  exact h j.1 j.2
theorem dyn_n {x : Int32} {a : Nat} (h : x < 2000 ∨ 3000 ≤ x) (h0 : ¬ x < 0) (ha : 2000 ≤ a) (ha3 : a < 3000) : x.toNatClampNeg ≠ a := by
  intro e
  have e2 : x = nI a := by
    rcases rng_of (m := 2147483647) (by decide) h0 (fun q => by
      have h9 := Int32.toInt_lt x
      rw [Int32.lt_iff_toInt_lt] at q
      have : (nI 2147483647).toInt = 2147483647 := by decide
      omega) with ⟨j, hj, ej⟩
    rw [ej, nI_clamp (by omega)] at e
    rw [ej, e]
  rw [e2] at h
  rcases h with h | h
  · exact absurd h (nI_nlt (b := 2000) ha (by omega))
  · exact absurd h (nI_ge (b := 3000) ha3 (by omega))
section R1
variable {L L' : Nat → Nat} {cA : Nat → ClassId} {D : va_G} {b : Nat → Bool} {v : fr_V} {u : fr_U} {H : Heap} {k r : Nat}
theorem rq_L (hx : ∀ q, q ≠ 2000 + 10 * r → q ≠ 2007 + 10 * r → L' q = L q) {x : Int32} (h : ¬ x < 0 → x.toNatClampNeg ≠ 2000 + 10 * r ∧ x.toNatClampNeg ≠ 2007 + 10 * r) : rq L' x = rq L x := by
  unfold rq
  by_cases c : x < 0
  · rw [if_pos c, if_pos c]
  · rw [if_neg c, if_neg c, hx _ (h c).1 (h c).2]
theorem fvK_L (hx : ∀ q, q ≠ 2000 + 10 * r → q ≠ 2007 + 10 * r → L' q = L q) {bb : Bool} {ci j : Nat} {x : Int32} (h1 : fk ci j = 1 → sref k j ≠ 2000 + 10 * r ∧ sref k j ≠ 2007 + 10 * r) (h2 : fk ci j = 2 → ¬ x < 0 → x.toNatClampNeg ≠ 2000 + 10 * r ∧ x.toNatClampNeg ≠ 2007 + 10 * r) : fvK L' bb k ci j x = fvK L bb k ci j x := by
  unfold fvK
  by_cases c1 : fk ci j = 1
  · rw [if_pos c1, if_pos c1, hx _ (h1 c1).1 (h1 c1).2]
  · rw [if_neg c1, if_neg c1]
    unfold fv
    by_cases c0 : fk ci j = 0
    · rw [if_pos c0, if_pos c0]
    · rw [if_neg c0, if_neg c0, if_neg c1, if_neg c1, rq_L hx (h2 (fk_three c0 c1))]
theorem at_L (hx : ∀ q, q ≠ 2000 + 10 * r → q ≠ 2007 + 10 * r → L' q = L q) (hr : r < 16) (hk : k ∈ fr_st ∨ ∃ r', r' < r ∧ (k = 2000 + 10 * r' ∨ k = 2007 + 10 * r')) (hd : dyn v) (h302 : ∀ i, i < 16 → v 302 i = (-1) ∨ ∃ r', r' < r ∧ v 302 i = nI (2000 + 10 * r')) (h : va_at D fr_cls (L k, entK L cA b k (v k) (u k)) H) : va_at D fr_cls (L' k, entK L' cA b k (v k) (u k)) H := by
  rcases hk with hk | ⟨r', hr', hk⟩
  · have s := List.all_eq_true.mp st_ok9 k hk
    unfold stB9 at s
    rw [Bool.and_eq_true, decide_eq_true_eq] at s
    obtain ⟨s1, s2⟩ := s
    rw [hx k (by omega) (by omega)]
    by_cases c1 : (sh k).1 < 20
    · rw [if_pos c1] at s2
      have e : entK L' cA b k (v k) (u k) = entK L cA b k (v k) (u k) := by
        rw [entK_o rfl c1, entK_o rfl c1]
        congr 2
        unfold fslK
        refine List.map_congr_left (fun j hj => ?_)
        have s3 := List.all_eq_true.mp s2 j hj
        rw [Bool.and_eq_true, decide_eq_true_eq] at s3
        refine fvK_L hx (fun _ => ⟨by omega, by omega⟩) (fun c2 h0 => ?_)
        have s4 := s3.2
        rw [c2] at s4
        have s5 : dynB k j = true := by simpa using s4
        have s6 := hd k j (dynB_ok s5)
        exact ⟨dyn_n s6 h0 (by omega) (by omega), dyn_n s6 h0 (by omega) (by omega)⟩
      rw [e]; exact h
    · rw [if_neg c1] at s2
      by_cases c3 : (sh k).1 = 23
      · rw [if_pos c3, decide_eq_true_eq] at s2
        rw [entK_L (n := (sh k).2) (by rw [← c3])] at h ⊢
        refine Eq.trans h (congrArg some ?_)
        rw [vp_cell_q, vp_cell_q]
        refine arrV_c (fun i hi => ?_)
        rw [hx (shb k + i) (by omega) (by omega)]
      · rw [if_neg c3] at s2
        by_cases c5 : (sh k).1 = 25
        · rw [if_pos c5, decide_eq_true_eq] at s2
          rw [entK_T (n := (sh k).2) (by rw [← c5])] at h ⊢
          refine Eq.trans h (congrArg some ?_)
          rw [vp_cell_q, vp_cell_q]
          refine arrV_c (fun i hi => ?_)
          rw [hx (shb k + i) (by omega) (by omega)]
        · rw [if_neg c5] at s2
          by_cases c4 : (sh k).1 = 24
          · rw [if_pos c4, Bool.and_eq_true, beq_iff_eq, beq_iff_eq] at s2
            obtain ⟨s3, s4⟩ := s2
            subst s3
            rw [entK_R (n := 16) rfl] at h ⊢
            refine Eq.trans h (congrArg some ?_)
            rw [vp_cell_q, vp_cell_q]
            refine arrV_c (fun i hi => ?_)
            rw [rq_L hx (fun h0 => ?_)]
            rcases h302 i hi with e | ⟨r2, hr2, e⟩
            · exact absurd (by rw [e]; decide) h0
            · rw [e, nI_clamp (by omega)]; exact ⟨by omega, by omega⟩
          · have e : entK L' cA b k (v k) (u k) = entK L cA b k (v k) (u k) := by
              unfold entK
              rw [if_neg c1, if_neg c1, if_neg c3, if_neg c3]
              unfold ent
              rw [if_neg c3, if_neg c3, if_neg c4, if_neg c4, if_neg c5, if_neg c5]
              by_cases c6 : (sh k).1 = 20
              · rw [if_pos c6, if_pos c6]
              · rw [if_neg c6, if_neg c6]
                by_cases c7 : (sh k).1 = 21
                · rw [if_pos c7, if_pos c7]
                · rw [if_neg c7, if_neg c7]
                  by_cases c8 : (sh k).1 = 22
                  · rw [if_pos c8, if_pos c8]
                  · rw [if_neg c4, Bool.or_eq_true, Bool.or_eq_true, beq_iff_eq, beq_iff_eq, beq_iff_eq] at s2
                    exact absurd s2 (by omega)
            rw [e]; exact h
  · rw [hx k (by omega) (by omega)]
    rcases hk with hk | hk
    · have e1 : (sh k).1 = 7 := by unfold sh; rw [if_pos (by omega), if_pos (by omega)]
      have e : entK L' cA b k (v k) (u k) = entK L cA b k (v k) (u k) := by
        rw [entK_o e1 (by decide), entK_o e1 (by decide)]
        congr 2
        unfold fslK
        refine List.map_congr_left (fun j hj => ?_)
        have hj9 : j < 7 := by
          have := List.mem_range.mp hj
          exact this
        refine fvK_L hx (fun c2 => ?_) (fun c2 _ => ?_)
        · have h6 : j = 6 := by
            rcases (show j = 0 ∨ j = 1 ∨ j = 2 ∨ j = 3 ∨ j = 4 ∨ j = 5 ∨ j = 6 by omega) with q | q | q | q | q | q | q <;> subst q <;> first | rfl | exact absurd c2 (by decide)
          unfold sref
          rw [if_neg (by omega), if_neg (by omega), if_neg (by omega), if_neg (by omega)]
          omega
        · exfalso
          rcases (show j = 0 ∨ j = 1 ∨ j = 2 ∨ j = 3 ∨ j = 4 ∨ j = 5 ∨ j = 6 by omega) with q | q | q | q | q | q | q <;> subst q <;> exact absurd c2 (by decide)
      rw [e]; exact h
    · have e1 : sh k = (20, 80) := by unfold sh; rw [if_pos (by omega), if_neg (by omega)]
      rw [entK_i e1] at h ⊢
      exact h
end R1
