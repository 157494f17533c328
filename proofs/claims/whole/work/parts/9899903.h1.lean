section H1
variable {I : List Nat} {ac m N n nr NS w t ar : Nat} {z y : fr_V}
theorem RLp.tz (h : RLp I ac m N n nr NS w t ar z y) : z 600 1 = nI t := h.2.2.2.2.2.1.2.1
theorem RLp.ty (h : RLp I ac m N n nr NS w t ar z y) : y 1100 1 = nI t := h.2.2.2.2.2.1.2.2.1
theorem RLp.t5 (h : RLp I ac m N n nr NS w t ar z y) : t ≤ 500 := h.2.2.2.2.2.1.1
theorem RLp.nz (h : RLp I ac m N n nr NS w t ar z y) : z 500 2 = nI n := h.1.2.2.1.2.1
theorem RLp.ny (h : RLp I ac m N n nr NS w t ar z y) : y 1100 4 = nI n := h.1.2.2.1.2.2.1
theorem RLp.n12 (h : RLp I ac m N n nr NS w t ar z y) : n ≤ 12 := h.1.2.2.1.1
theorem RLp.Nz (h : RLp I ac m N n nr NS w t ar z y) : z 100 5 = nI N := h.1.1.2.1
theorem RLp.Ny (h : RLp I ac m N n nr NS w t ar z y) : y 1100 16 = nI N := h.1.1.2.2.1
theorem RLp.N60 (h : RLp I ac m N n nr NS w t ar z y) : N ≤ 60 := h.1.1.1
theorem RLp.Wz (h : RLp I ac m N n nr NS w t ar z y) : nt_ok (z 102) (z 103) N := h.1.1.okz h.n12
theorem RLp.Wy (h : RLp I ac m N n nr NS w t ar z y) : nt_ok (y 1118) (y 1119) N := h.1.1.oky h.n12
theorem RLp.hac (h : RLp I ac m N n nr NS w t ar z y) : ac = 10 ∨ ac = 20 := h.2.2.2.2.1.1
theorem RLp.a1 (h : RLp I ac m N n nr NS w t ar z y) : z 1000 1 = nI ac := h.2.2.2.2.1.2.1
theorem RLp.a2 (h : RLp I ac m N n nr NS w t ar z y) : z 1000 2 = nI (30 - ac) := h.2.2.2.2.1.2.2.1
theorem RLp.ln (h : RLp I ac m N n nr NS w t ar z y) : lnOK z ac m := h.2.2.2.2.1.2.2.2.1
theorem RLp.my (h : RLp I ac m N n nr NS w t ar z y) : y 1100 38 = nI m := h.2.2.2.2.1.2.2.2.2.2.1
theorem RLp.m24 (h : RLp I ac m N n nr NS w t ar z y) : m ≤ 24 := h.ln.1
theorem RLp.wz (h : RLp I ac m N n nr NS w t ar z y) : z 1000 3 = nI w := h.2.1.1
theorem RLp.wy (h : RLp I ac m N n nr NS w t ar z y) : y 1100 3 = nI w := h.2.1.2
theorem RLp.w8 (h : RLp I ac m N n nr NS w t ar z y) : w < 80 := h.1.2.1
theorem RLp.w9 (h : RLp I ac m N n nr NS w t ar z y) : w ≤ 79 := Nat.le_of_lt_succ h.1.2.1
theorem RLp.Sz (h : RLp I ac m N n nr NS w t ar z y) : z 300 8 = nI NS := h.2.2.1.1
theorem RLp.Sy (h : RLp I ac m N n nr NS w t ar z y) : y 1100 14 = nI NS := h.2.2.1.2.1
theorem RLp.S40 (h : RLp I ac m N n nr NS w t ar z y) : NS ≤ 40 := h.2.2.1.2.2.1.1
theorem RLp.Ry (h : RLp I ac m N n nr NS w t ar z y) : y 1100 7 = nI nr := h.1.2.2.2.2.2.1
theorem RLp.Rz (h : RLp I ac m N n nr NS w t ar z y) : z 300 2 = nI nr := h.1.2.2.2.2.1
theorem RLp.r16 (h : RLp I ac m N n nr NS w t ar z y) : nr ≤ 16 := h.1.2.2.2.1
theorem RLp.dy (h : RLp I ac m N n nr NS w t ar z y) : dyn z := h.2.2.2.2.2.2.2.2.2.1
theorem RLp.wdy (h : RLp I ac m N n nr NS w t ar z y) : ∀ i, i < 75 → y 1123 i = wd i := h.2.2.2.2.2.2.1.2.2.2
theorem RLp.lvo (h : RLp I ac m N n nr NS w t ar z y) {i : Nat} (hi : i < n) : lvOK z w (nI i) := by
  have k := h.lif hi
  obtain ⟨p, hp, e⟩ := h.age hi
  have hn := h.n12
  obtain ⟨c, hc, ec⟩ := k.2.2.1
  exact ⟨vp_in_nI (by omega) (by decide), ⟨c, hc, k.2.1.trans ec⟩, p, by omega, (age_eq k).trans e⟩
theorem RLp.lva (h : RLp I ac m N n nr NS w t ar z y) : ∀ i, i < n → lvOK z w (nI i) := fun _ hi => h.lvo hi
theorem RLp.lfo (h : RLp I ac m N n nr NS w t ar z y) {i : Nat} (hi : i < n) : lfOK (up2 y 1100 2 0) (nI i) (f_X11_ageIn y (nI i) (y 1100 3)).toNatClampNeg := by
  have k := h.lif hi
  obtain ⟨p, hp, e⟩ := h.age hi
  have hn := h.n12
  obtain ⟨c, hc, ec⟩ := k.2.2.1
  rw [h.wy, e, nI_clamp (by omega)]
  refine ⟨vp_in_nI (by omega) (by decide), ⟨c, by omega, ?_⟩, ?_, by omega⟩
  · rw [up2_ne (by decide)]; exact ec
  · show f_X11_ageIn y (nI i) (up2 y 1100 2 0 1100 3) = nI p
    rw [u6 (by decide), h.wy]; exact e
theorem RLp.lfx (h : RLp I ac m N n nr NS w t ar z y) {x : Int32} (hx : ¬ f_X11_isLife (up2 y 1100 2 0) x = 0) : lfOK (up2 y 1100 2 0) x (f_X11_ageIn y x (y 1100 3)).toNatClampNeg := by
  have h9 := h.th 0
  by_cases v9 : vp_in x n
  · have hn := h.n12
    obtain ⟨i, hi, e⟩ := vp_in_of v9 (by omega)
    rw [e]; exact h.lfo hi
  · exact absurd (by rw [r11l (y := up2 y 1100 2 0) (n := n) h9.ny h9.n12]; exact cI_neg v9) hx
theorem RLp.rnl (h : RLp I ac m N n nr NS w t ar z y) : ∀ r, r < nr → lvOK z w (z (2000 + 10 * r) 1) ∧ (¬ z (2000 + 10 * r) 2 = (-1) → lvOK z w (z (2000 + 10 * r) 2)) := fun r hr => by
  obtain ⟨-, -, -, ⟨l, hl, e1⟩, e2, -⟩ := h.1.2.2.2.2.2.2 r hr
  refine ⟨by rw [e1]; exact h.lvo hl, fun c => ?_⟩
  rcases e2 with e2 | ⟨l, hl, e2⟩
  · exact absurd e2 c
  · rw [e2]; exact h.lvo hl
theorem RLp.rny (h : RLp I ac m N n nr NS w t ar z y) : ∀ r, r < nr → lfOK (up2 y 1100 2 0) (y 1111 r) (f_X11_ageIn y (y 1111 r) (nI w)).toNatClampNeg ∧ (¬ y 1112 r = (-1) → lfOK (up2 y 1100 2 0) (y 1112 r) (f_X11_ageIn y (y 1112 r) (nI w)).toNatClampNeg) := fun r hr => by
  obtain ⟨-, ⟨-, q1, q2, -⟩, -, ⟨l, hl, e1⟩, e2, -⟩ := h.1.2.2.2.2.2.2 r hr
  rw [← q1, ← q2, ← h.wy]
  refine ⟨by rw [e1]; exact h.lfo hl, fun c => ?_⟩
  rcases e2 with e2 | ⟨l, hl, e2⟩
  · exact absurd e2 c
  · rw [e2]; exact h.lfo hl
end H1
/-- the two sides agree in one world, and the rents to come have no cells yet -/
def RI (I : List Nat) (v : fr_V) : Prop := ∃ ac m N n nr NS w t ar, RLp I ac m N n nr NS w t ar v v ∧ ∀ k ∈ I, k ∈ fr_st ∨ ∃ r, r < nr ∧ (k = 2000 + 10 * r ∨ k = 2007 + 10 * r)
