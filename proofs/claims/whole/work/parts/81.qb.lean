theorem ltF_hit {v : fr_V} {ac so ot : Nat} {x3 x4 x5 x6 : Int32} : ∀ m i, ltF v ac so ot x3 x4 x5 x6 m = some i → lwf v ac i = so ∨ lwf v ac i = ot := by
  intro m
  induction m with
  | zero => intro i h; cases h
  | succ m ih =>
    intro i h
    rw [ltF_s] at h
    have k := ih i
    by_cases d : lwf v ac m = so
    · rw [if_pos d] at h
      by_cases f : f_fits v (lnB ac + m) x3 x4 x5 x6 = 0
      · rw [if_pos f] at h; exact k h
      · rw [if_neg f] at h; cases h; exact Or.inl d
    · rw [if_neg d] at h
      by_cases d2 : lwf v ac m = ot
      · rw [if_pos d2] at h
        by_cases f : f_fits v (lnB ac + m) x3 x4 x5 x6 = 0
        · rw [if_pos f] at h; exact k h
        · rw [if_neg f] at h; cases h; exact Or.inr d2
      · rw [if_neg d2] at h; exact k h
theorem may_eq {z y : fr_V} {ac m ww : Nat} {x1 x2 : Int32} (hR : acR z y ac m) (hw : z 1000 3 = nI ww) (hw2 : y 1100 3 = nI ww) (hw8 : ww < 80) (h1 : lifR z y x1) (h2 : ¬ x2 = (-1) → lifR z y x2) : f_may z ac m x1 x2 = f_X11_mayBe y m x1 x2 := by
  unfold f_may f_X11_mayBe
  rw [act_eq (so := 0) (ot := 1) hR (Or.inl ⟨rfl, rfl, rfl⟩) hw hw2 hw8 h1 h2]
  cases hq : f_ruling z ac m 0 1 x1 x2 with
  | none => rfl
  | some i =>
    dsimp only
    obtain ⟨r1, r2, r3⟩ := hR.2 i (rul_lt hq)
    have hh : (if (0 : Int32) = 0 then 1 - y 1131 i else y 1132 i) = 1 - nI (lwf z ac i) := by rw [if_pos rfl, r3]
    have h3 : ∀ (a b : Int32), a = b → (if a = 1 then (1 : Int32) else 0) = if b = 1 then 1 else 0 := fun a b e => by rw [e]
    refine Eq.trans ?_ (h3 _ _ hh).symm
    rcases ltF_hit m i hq with e | e
    · rw [e]; rfl
    · rw [e]; rfl
/-- the rents of the two, alike -/
def rnR (z y : fr_V) (nr : Nat) : Prop := nr ≤ 16 ∧ ∀ r, r < nr → z (2000 + 10 * r) 0 = y 1110 r ∧ z (2000 + 10 * r) 1 = y 1111 r ∧ z (2000 + 10 * r) 2 = y 1112 r ∧ z (2000 + 10 * r) 3 = y 1113 r ∧ z (2000 + 10 * r) 4 = y 1109 r ∧ z (2000 + 10 * r) 5 = y 1114 r
theorem alone_eq {z y : fr_V} {nr r : Nat} {x : Int32} (h : rnR z y nr) (hr : r < nr) : f_X7_isAloneOn z r x = 0 ↔ ¬ (y 1111 r = x ∧ y 1112 r = (-1)) := by
  obtain ⟨-, a1, a2, -, -, -⟩ := h.2 r hr
  unfold f_X7_isAloneOn
  rw [a1, a2]
  by_cases c1 : y 1111 r = x
  · rw [if_pos c1]
    by_cases c2 : y 1112 r = (-1)
    · rw [if_pos c2]; exact ⟨fun e => absurd e (by decide), fun e => absurd ⟨c1, c2⟩ e⟩
    · rw [if_neg c2]; exact ⟨fun _ g => c2 g.2, fun _ => rfl⟩
  · rw [if_neg c1]; exact ⟨fun _ g => c1 g.1, fun _ => rfl⟩
theorem coins_eq {z y : fr_V} {nr : Nat} {x : Int32} (h : rnR z y nr) : ∀ r, r ≤ nr → caF z x r = rkc (y 1111) (y 1112) (y 1113) x r := by
  intro r
  induction r with
  | zero => intro _; rfl
  | succ r ih =>
    intro hr
    have a := alone_eq (x := x) h (show r < nr by omega)
    obtain ⟨-, -, -, a3, -, -⟩ := h.2 r (by omega)
    rw [caF_s, rkc_s, ih (by omega), a3]
    by_cases c1 : y 1111 r = x
    · by_cases c2 : y 1112 r = (-1)
      · rw [if_neg (fun e => (a.mp e) ⟨c1, c2⟩), if_pos c1, if_pos c2]
      · rw [if_pos (a.mpr (fun g => c2 g.2)), if_pos c1, if_neg c2]
    · rw [if_pos (a.mpr (fun g => c1 g.1)), if_neg c1]
