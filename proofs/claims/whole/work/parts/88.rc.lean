/-- the notes of the two -/
def nt2 (z y : fr_V) (N n w : Nat) : Prop := N ≤ 60 ∧ z 100 5 = nI N ∧ y 1100 16 = nI N ∧ ∀ j, j < N → z 102 j = y 1118 j ∧ z 103 j = y 1119 j ∧ z 105 j = y 1121 j ∧ (∃ t, t ≤ w ∧ z 105 j = nI t) ∧ ((z 102 j = 2 ∧ ∃ q, q < j ∧ z 103 j = nI q) ∨ ((z 102 j = 0 ∨ z 102 j = 1) ∧ z 104 j = y 1120 j ∧ (∃ l, l < n ∧ z 103 j = nI l) ∧ ∃ h, h ≤ w ∧ z 104 j = nI h))
/-- the lives -/
def li2 (z y : fr_V) (n w : Nat) : Prop := n ≤ 12 ∧ z 500 2 = nI n ∧ y 1100 4 = nI n ∧ ∀ i, i < n → z 501 i = y 1106 i ∧ z 502 i = y 1107 i ∧ (∃ c, c < 4 ∧ z 502 i = nI c) ∧ -160 ≤ (z 501 i).toInt ∧ (z 501 i).toInt ≤ w
/-- the rents -/
def rn2 (I : List Nat) (z y : fr_V) (nr n w : Nat) : Prop := nr ≤ 16 ∧ z 300 2 = nI nr ∧ y 1100 7 = nI nr ∧ ∀ r, r < nr → ((2000 + 10 * r) ∈ I ∧ (2007 + 10 * r) ∈ I ∧ z 302 r = nI (2000 + 10 * r)) ∧ (z (2000 + 10 * r) 0 = y 1110 r ∧ z (2000 + 10 * r) 1 = y 1111 r ∧ z (2000 + 10 * r) 2 = y 1112 r ∧ z (2000 + 10 * r) 3 = y 1113 r ∧ z (2000 + 10 * r) 4 = y 1109 r ∧ z (2000 + 10 * r) 5 = y 1114 r) ∧ vp_in (z (2000 + 10 * r) 0) 8 ∧ (∃ l, l < n ∧ z (2000 + 10 * r) 1 = nI l) ∧ (z (2000 + 10 * r) 2 = (-1) ∨ ∃ l, l < n ∧ z (2000 + 10 * r) 2 = nI l) ∧ (∃ c, 1 ≤ c ∧ c ≤ 99 ∧ z (2000 + 10 * r) 3 = nI c) ∧ ∃ b, b ≤ w ∧ z (2000 + 10 * r) 4 = nI b
theorem nt2.okz {z y : fr_V} {N n w : Nat} (h : nt2 z y N n w) (hn : n ≤ 12) : nt_ok (z 102) (z 103) N := by
  refine ⟨h.1, fun j hj => ?_⟩
  have hN := h.1
  obtain ⟨-, -, -, -, a⟩ := h.2.2.2 j hj
  rcases a with ⟨a, q, hq, e⟩ | ⟨a, -, ⟨l, hl, e⟩, -⟩
  · exact ⟨fun _ => by rw [e]; exact vp_in_nI (by omega) (by decide), fun c => absurd a c⟩
  · exact ⟨fun c => by rcases a with a | a <;> rw [a] at c <;> exact absurd c (by decide), fun _ => by rw [e]; exact vp_in_nI (by omega) (by decide)⟩
theorem nt2.oky {z y : fr_V} {N n w : Nat} (h : nt2 z y N n w) (hn : n ≤ 12) : nt_ok (y 1118) (y 1119) N := by
  have k := h.okz hn
  refine ⟨k.1, fun j hj => ?_⟩
  obtain ⟨e1, e2, -⟩ := h.2.2.2 j hj
  have g := k.2 j hj
  rw [e1, e2] at g
  exact g
theorem nt2.half {z y : fr_V} {N n w j : Nat} (h : nt2 z y N n w) (hj : j < N) (hs : ¬ z 102 j = 2) : z 104 j = y 1120 j ∧ (∃ l, l < n ∧ z 103 j = nI l) ∧ ∃ t, t ≤ w ∧ z 104 j = nI t := by
  obtain ⟨-, -, -, -, a⟩ := h.2.2.2 j hj
  rcases a with ⟨a, -⟩ | ⟨-, a⟩
  · exact absurd a hs
  · exact a
theorem know_cn2 {z y : fr_V} {N n w : Nat} {x : Int32} (h : nt2 z y N n w) : ∀ i, i < N → f_know y N x 1145 i = cntC z N x i := by
  intro i hi
  have h := h.2.2.2
  show sp_cn (y 1118) (y 1119) (y 1121) (y 1145) N x i = _
  unfold sp_cn cntC cntF
  exact kn2_e (fun j hj => ((h j hj).1).symm) (fun j hj => ((h j hj).2.1).symm) N _ _ (Nat.le_refl _) (fun q hq => by rw [kn1_lt _ _ _ N q hq, kn1_lt _ _ _ N q hq, (h q hq).2.2.1]) i hi
theorem know_dd2 {z y : fr_V} {N n w : Nat} {x : Int32} (h : nt2 z y N n w) : ∀ l, l < 12 → f_know y N x 1146 l = dedC z N x l := by
  intro l hl
  show sp_dd (y 1118) (y 1119) (y 1120) (sp_cn (y 1118) (y 1119) (y 1121) (y 1145) N x) (y 1146) N l = _
  unfold sp_dd dedC dedF
  refine kn4_e (fun j hj => ((h.2.2.2 j hj).1).symm) (fun j hj => ((h.2.2.2 j hj).2.1).symm) (fun j hj c => ((h.half hj (by rw [(h.2.2.2 j hj).1, c]; decide)).1).symm) (fun j hj => ?_) (fun q hq => kn3_lt _ 12 q hq) N (Nat.le_refl _) l hl
  exact know_cn2 h j hj
theorem knC_c {z z' : fr_V} {N : Nat} {x : Int32} (h : ∀ c, c < 2000 → z' c = z c) (k : knC z N x) : knC z' N x := by
  unfold knC dedC cntC at k ⊢
  rw [h 102 (by decide), h 103 (by decide), h 104 (by decide), h 105 (by decide), h 108 (by decide), h 109 (by decide), h 110 (by decide), h 501 (by decide)]
  exact k
/-- the class's knowledge is the reference's -/
theorem knR_of {z z' y : fr_V} {N n w : Nat} {x : Int32} (hs : sm3 z z') (hk : knC z' N x) (hn : nt2 z y N n w) (hw : w < 80) (hl : li2 z y n w) : knR z' (f_know y N x) N := by
  have e102 := hs.1 102 (by decide) (by decide) (by decide) (by decide) (by decide)
  have e103 := hs.1 103 (by decide) (by decide) (by decide) (by decide) (by decide)
  have e104 := hs.1 104 (by decide) (by decide) (by decide) (by decide) (by decide)
  have e105 := hs.1 105 (by decide) (by decide) (by decide) (by decide) (by decide)
  have e501 := hs.1 501 (by decide) (by decide) (by decide) (by decide) (by decide)
  have ec : cntC z' N x = cntC z N x := by unfold cntC; rw [e102, e103, e105]
  have ed : dedC z' N x = dedC z N x := by unfold dedC; rw [ec, e102, e103, e104]
  have hD : ∀ l, l < 12 → dedC z N x l = f_know y N x 1146 l := fun l hl => (know_dd2 hn l hl).symm
  refine ⟨hn.1, fun l hl => by rw [hk.2.1 l hl, ed]; exact hD l hl, fun i hi => ?_⟩
  have hN := hn.1
  obtain ⟨a1, a2, -, -, -⟩ := hn.2.2.2 i hi
  have hc := know_cn2 (x := x) hn i hi
  rw [know_o (c := 1118) (by decide) (by decide), know_o (c := 1119) (by decide) (by decide), know_o (c := 1120) (by decide) (by decide), e102, e103, e104, hc]
  refine ⟨a1, a2, fun c => ?_, by rw [hk.1 i hi, ec], ?_⟩
  · obtain ⟨g1, ⟨l, hl9, g2⟩, t, ht, g3⟩ := hn.half hi c
    refine ⟨g1, by rw [← a2, g2]; exact vp_in_nI (by have := hl.1; omega) (by decide), ?_⟩
    rw [← g1, g3]
    exact nI_nlt (a := 79) (b := t) (by omega) (by decide)
  · rw [hk.2.2 i hi, ec, ed, e102, e103, e104, e501]
    unfold gdV
    by_cases c1 : cntC z N x i = 0
    · rw [if_pos c1]; exact ⟨fun _ g => g.2.1 c1, fun _ => rfl⟩
    · rw [if_neg c1]
      by_cases c2 : z 102 i = 0
      · have c2' : ¬ z 102 i = 2 := by rw [c2]; decide
        obtain ⟨g1, ⟨l, hl9, g2⟩, -⟩ := hn.half hi c2'
        have hl12 := hl.1
        have g2y : y 1119 i = nI l := by rw [← a2]; exact g2
        have hf := false_eq (y := f_know y N x) (D := dedC z N x) (B := z 501) (i := i) (by omega) (by rw [know_o (by decide) (by decide), g2y]; exact vp_in_nI (by omega) (by decide)) hD (by rw [know_o (c := 1119) (by decide) (by decide), know_o (c := 1106) (by decide) (by decide), g2y, nI_clamp (by omega)]; exact (hl.2.2.2 l hl9).1)
        rw [know_o (c := 1119) (by decide) (by decide), know_o (c := 1120) (by decide) (by decide)] at hf
        rw [if_pos c2, a2, g1]
        by_cases c3 : lvV (dedC z N x) (z 501) (y 1119 i) (y 1120 i) = 0
        · rw [if_pos c3]; exact ⟨fun _ g => hf.mp c3 g.2.2, fun _ => rfl⟩
        · rw [if_neg c3]
          refine ⟨fun e => absurd e (by decide), fun g => absurd ⟨?_, c1, ?_⟩ g⟩
          · rw [← a1]; exact c2
          · exact Classical.byContradiction (fun e => c3 (hf.mpr e))
      · rw [if_neg c2]; exact ⟨fun _ g => c2 (by rw [a1]; exact g.1), fun _ => rfl⟩
theorem rn2.ok {I : List Nat} {z y : fr_V} {nr n w r : Nat} (h : rn2 I z y nr n w) (hn : n ≤ 12) (hr : r < nr) : vp_in (z (2000 + 10 * r) 1) 12 ∧ (¬ z (2000 + 10 * r) 2 = (-1) → vp_in (z (2000 + 10 * r) 2) 12) := by
  obtain ⟨-, -, -, ⟨l, hl, e⟩, g, -⟩ := h.2.2.2 r hr
  refine ⟨by rw [e]; exact vp_in_nI (by omega) (by decide), fun c => ?_⟩
  rcases g with g | ⟨l2, hl2, g⟩
  · exact absurd g c
  · rw [g]; exact vp_in_nI (by omega) (by decide)
theorem rn2.oky {I : List Nat} {z y : fr_V} {nr n w r : Nat} (h : rn2 I z y nr n w) (hn : n ≤ 12) (hr : r < nr) : vp_in (y 1111 r) 12 ∧ (¬ y 1112 r = (-1) → vp_in (y 1112 r) 12) := by
  have g := h.ok hn hr
  obtain ⟨-, ⟨-, e1, e2, -⟩, -⟩ := h.2.2.2 r hr
  rw [e1, e2] at g
  exact g
theorem rn2.pyW {I : List Nat} {z y : fr_V} {N nr n w : Nat} (h : rn2 I z y nr n w) (k : nt2 z y N n w) (hn : n ≤ 12) : pyW y N nr := ⟨h.1, k.oky hn, fun r hr => ⟨fun _ => (h.oky hn hr).1, (h.oky hn hr).2⟩⟩
/-- the class's due and proved are the reference's -/
theorem dueV {I : List Nat} {z z' y : fr_V} {N n nr w r k : Nat} {h : Int32} (hs : sm3 z z') (hk : knC z' N (nI k)) (hn : nt2 z y N n w) (hw : w < 80) (hl : li2 z y n w) (hr2 : rn2 I z y nr n w) (hr : r < nr) : f_isDue3 z' r h = f_X11_isDue (f_know y N (nI k)) (nI r) h := by
  have q := knR_of hs hk hn hw hl
  have g := hr2.oky hl.1 hr
  obtain ⟨-, ⟨-, e1, e2, -, e4, -⟩, -⟩ := hr2.2.2.2 r hr
  have hnr := hr2.1
  refine due_eq (by omega) q.2.1 ?_ ?_ ?_ ?_ ?_
  · rw [hs.2.2 r, know_o (by decide) (by decide)]; exact e4
  · rw [hs.2.2 r, know_o (by decide) (by decide)]; exact e1
  · rw [hs.2.2 r, know_o (by decide) (by decide)]; exact e2
  · rw [know_o (by decide) (by decide)]; exact g.1
  · rw [know_o (by decide) (by decide)]; exact g.2
theorem provV {I : List Nat} {z z' y : fr_V} {N n nr w r k : Nat} {h x4 : Int32} (hs : sm3 z z') (hk : knC z' N (nI k)) (hn : nt2 z y N n w) (hw : w < 80) (hl : li2 z y n w) (hr2 : rn2 I z y nr n w) (hr : r < nr) (hx : y 1141 1 = x4) : f_isProved3 z' N r h x4 = f_isProved (f_know y N (nI k)) N r h := by
  have q := knR_of hs hk hn hw hl
  have g := hr2.oky hl.1 hr
  obtain ⟨-, ⟨-, e1, e2, -, e4, -⟩, -⟩ := hr2.2.2.2 r hr
  refine proved_eq q ?_ ?_ ?_ ?_ ?_
  · rw [hs.2.2 r, know_o (by decide) (by decide)]; exact e1
  · rw [hs.2.2 r, know_o (by decide) (by decide)]; exact e2
  · rw [know_o (by decide) (by decide)]; exact hx
  · rw [know_o (by decide) (by decide)]; exact g.1
  · rw [know_o (by decide) (by decide)]; exact g.2
