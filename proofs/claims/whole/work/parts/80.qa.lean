/-- the acts in force of the two, alike -/
def acR (z y : fr_V) (ac m : Nat) : Prop := m ≤ 24 ∧ ∀ i, i < m → lnR z y (lnB ac + i) i ∧ lwf z ac i < 4 ∧ y 1131 i = nI (lwf z ac i)
def srt (w : Int32) (so ot : Nat) : Prop := (w = 0 ∧ so = 0 ∧ ot = 1) ∨ (w = 2 ∧ so = 2 ∧ ot = 2) ∨ (w = 3 ∧ so = 3 ∧ ot = 3)
theorem srt_eq {w : Int32} {so ot l : Nat} (h : srt w so ot) (hl : l < 4) : (if w = 0 then ¬ 1 < nI l else nI l = w) ↔ (l = so ∨ l = ot) := by
  rcases h with ⟨rfl, rfl, rfl⟩ | ⟨rfl, rfl, rfl⟩ | ⟨rfl, rfl, rfl⟩
  · rw [if_pos rfl]
    have : ∀ l, l < 4 → ((¬ (1 : Int32) < nI l) ↔ (l = 0 ∨ l = 1)) := by decide
    exact this l hl
  · rw [if_neg (by decide)]
    have : ∀ l, l < 4 → ((nI l = (2 : Int32)) ↔ (l = 2 ∨ l = 2)) := by decide
    exact this l hl
  · rw [if_neg (by decide)]
    have : ∀ l, l < 4 → ((nI l = (3 : Int32)) ↔ (l = 3 ∨ l = 3)) := by decide
    exact this l hl
/-- the ruling line: the class finds the one that the reference finds -/
theorem lt_act {z y : fr_V} {ac m so ot k : Nat} {w b h e x ag : Int32} (hR : acR z y ac m) (hs : srt w so ot) (hx : y 1107 x.toNatClampNeg = nI k) (hk : k < 4) (ha : ¬ ag < 0 ∧ ¬ 1000 < ag) (hh : ¬ h < 0 ∧ ¬ 1000 < h) : ∀ t, t ≤ m → acF y w b h e x ag t = (match ltF z ac so ot ag (nI k) h (if b = (-1) then 1 else 2) t with
    | none => e
    | some i => if w = 0 then 1 - y 1131 i else y 1132 i) := by
  intro t
  induction t with
  | zero => intro _; rfl
  | succ t ih =>
    intro ht
    obtain ⟨r1, r2, r3⟩ := hR.2 t (by omega)
    have ih' := ih (by omega)
    have f := fits_eq (b := b) r1 hk ha hh
    have s := srt_eq hs r2
    have hp : acP y w b h x ag t ↔ ((lwf z ac t = so ∨ lwf z ac t = ot) ∧ ¬ f_fits z (lnB ac + t) ag (nI k) h (if b = (-1) then 1 else 2) = 0) := by
      unfold acP
      rw [hx, r3, s, f]
    rw [ltF_s]
    by_cases c : acP y w b h x ag t
    · rw [acF_p c]
      obtain ⟨c1, c2⟩ := hp.mp c
      by_cases d : lwf z ac t = so
      · rw [if_pos d, if_neg c2]
      · rw [if_neg d, if_pos (c1.resolve_left d), if_neg c2]
    · rw [acF_n c, ih']
      by_cases d : lwf z ac t = so
      · rw [if_pos d, if_pos (Classical.byContradiction (fun g => c (hp.mpr ⟨Or.inl d, g⟩)))]
      · rw [if_neg d]
        by_cases d2 : lwf z ac t = ot
        · rw [if_pos d2, if_pos (Classical.byContradiction (fun g => c (hp.mpr ⟨Or.inr d2, g⟩)))]
        · rw [if_neg d2]
/-- the two lives a rent is asked for, alike: births, classes -/
def lifR (z y : fr_V) (x : Int32) : Prop := z 501 x.toNatClampNeg = y 1106 x.toNatClampNeg ∧ z 502 x.toNatClampNeg = y 1107 x.toNatClampNeg ∧ (∃ k, k < 4 ∧ y 1107 x.toNatClampNeg = nI k) ∧ ∃ p, p < 1000 ∧ f_X11_ageIn y x (y 1100 3) = nI p
theorem age_eq {z y : fr_V} {x h : Int32} (k : lifR z y x) : f_X5_ageIn z x h = f_X11_ageIn y x h := by
  unfold f_X5_ageIn f_X11_ageIn
  rw [k.1]
theorem young_eq {z y : fr_V} {x1 x2 h : Int32} (h1 : lifR z y x1) (h2 : ¬ x2 = (-1) → lifR z y x2) : f_X5_younger z x1 x2 h = acZ y x1 x2 h := by
  unfold f_X5_younger acZ
  by_cases c : x2 = (-1)
  · rw [if_pos c, if_pos c]
  · rw [if_neg c, if_neg c, age_eq h1, age_eq (h2 c)]
    by_cases d : f_X11_ageIn y x2 h < f_X11_ageIn y x1 h
    · rw [if_pos d, if_neg (Int32.not_le.mpr d)]
    · rw [if_neg d, if_pos (Int32.not_lt.mp d)]
theorem acZ_R {z y : fr_V} {x1 x2 h : Int32} (h1 : lifR z y x1) (h2 : ¬ x2 = (-1) → lifR z y x2) : lifR z y (acZ y x1 x2 h) := by
  unfold acZ
  split
  · exact h1
  · split
    · exact h2 (by assumption)
    · exact h1
theorem act_eq {z y : fr_V} {ac m so ot ww : Nat} {w e x1 x2 : Int32} (hR : acR z y ac m) (hs : srt w so ot) (hw : z 1000 3 = nI ww) (hw2 : y 1100 3 = nI ww) (hw8 : ww < 80) (h1 : lifR z y x1) (h2 : ¬ x2 = (-1) → lifR z y x2) : f_act y m w x1 x2 (y 1100 3) e = (match f_ruling z ac m so ot x1 x2 with
    | none => e
    | some i => if w = 0 then 1 - y 1131 i else y 1132 i) := by
  have hz := acZ_R (h := y 1100 3) h1 h2
  obtain ⟨k, hk, ek⟩ := hz.2.2.1
  obtain ⟨p, hp, ep⟩ := hz.2.2.2
  unfold f_act f_ruling
  rw [hw, ← hw2, young_eq h1 h2, hz.2.1, age_eq hz, ek]
  refine lt_act hR hs ek hk ?_ ?_ m (Nat.le_refl _)
  · rw [ep]; exact ⟨nI_pos (by omega), nI_nlt (a := 1000) (by omega) (by omega)⟩
  · rw [hw2]; exact ⟨nI_pos (by omega), nI_nlt (a := 1000) (by omega) (by omega)⟩
theorem price_eq {z y : fr_V} {ac m ww : Nat} {x1 x2 : Int32} (hR : acR z y ac m) (hw : z 1000 3 = nI ww) (hw2 : y 1100 3 = nI ww) (hw8 : ww < 80) (h1 : lifR z y x1) (h2 : ¬ x2 = (-1) → lifR z y x2) : f_price z ac m x1 x2 = f_X11_priceOf y m x1 x2 := by
  unfold f_price f_X11_priceOf
  rw [act_eq (so := 2) (ot := 2) hR (Or.inr (Or.inl ⟨rfl, rfl, rfl⟩)) hw hw2 hw8 h1 h2]
  cases hq : f_ruling z ac m 2 2 x1 x2 with
  | none => rfl
  | some i =>
    dsimp only
    rw [if_neg (by decide)]
    exact ((hR.2 i (rul_lt hq)).1.1).symm
theorem lump_eq {z y : fr_V} {ac m ww : Nat} {x1 x2 : Int32} (hR : acR z y ac m) (hw : z 1000 3 = nI ww) (hw2 : y 1100 3 = nI ww) (hw8 : ww < 80) (h1 : lifR z y x1) (h2 : ¬ x2 = (-1) → lifR z y x2) : f_lump z ac m x1 x2 = f_X11_lumpOf y m x1 x2 := by
  unfold f_lump f_X11_lumpOf
  rw [act_eq (so := 3) (ot := 3) hR (Or.inr (Or.inr ⟨rfl, rfl, rfl⟩)) hw hw2 hw8 h1 h2]
  cases hq : f_ruling z ac m 3 3 x1 x2 with
  | none => rfl
  | some i =>
    dsimp only
    rw [if_neg (by decide)]
    exact ((hR.2 i (rul_lt hq)).1.1).symm
