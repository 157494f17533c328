/-- the class's cells alone count for z -/
theorem RLp.zs {I : List Nat} {ac m N n nr NS w t ar : Nat} {z z' y : fr_V} (h : RLp I ac m N n nr NS w t ar z y) (e : gY z z') : RLp I ac m N n nr NS w t ar z' y := by
  obtain ⟨⟨a1, a2, a3, a4⟩, b, c, d, f, g, k, kc, hp, l, o⟩ := h
  have hac := f.1
  have hL := ln_far hac
  have p : ∀ c, c < 1100 → z' c = z c := fun c hc => e c (Or.inl hc)
  have qr : ∀ r, z' (2000 + 10 * r) = z (2000 + 10 * r) := fun r => e _ (Or.inr (by omega))
  have q7 : ∀ r, z' (2007 + 10 * r) = z (2007 + 10 * r) := fun r => e _ (Or.inr (by omega))
  have p304 := p 304 (by decide)
  have p305 := p 305 (by decide)
  have p306 := p 306 (by decide)
  have p307 := p 307 (by decide)
  have p308 := p 308 (by decide)
  refine ⟨⟨?_, a2, ?_, ?_⟩, by rw [p 1000 (by decide)]; exact b, ?_, ?_, f.z (fun c hc => p c (by omega)), ?_, ?_, ?_, ?_, ?_, by rw [p 302 (by decide)]; exact o⟩
  · unfold nt2 at a1 ⊢
    rw [p 100 (by decide), p 102 (by decide), p 103 (by decide), p 104 (by decide), p 105 (by decide)]; exact a1
  · unfold li2 at a3 ⊢
    rw [p 500 (by decide), p 501 (by decide), p 502 (by decide)]; exact a3
  · refine ⟨a4.1, by rw [p 300 (by decide)]; exact a4.2.1, a4.2.2.1, fun r hr => ?_⟩
    rw [qr r, p 302 (by decide)]; exact a4.2.2.2 r hr
  · unfold sl2 slR at c ⊢
    rw [p 300 (by decide), p304, p305, p306, p307, p308]; exact c
  · refine ⟨by rw [p304]; exact d.1, fun r hr x => ?_⟩
    have e9 : hdC z' NS r x = hdC z NS r x := by unfold hdC; rw [qr r, p304, p305, p306, p307, p308]
    rw [e9]; exact d.2 r hr x
  · unfold tp2 at g ⊢
    rw [p 600 (by decide), p 601 (by decide)]; exact g
  · unfold mi2 at k ⊢
    rw [p 600 (by decide), p 210 (by decide), p 200 (by decide)]
    refine ⟨fun c9 g9 h1 h2 => ?_, k.2⟩
    rw [p (910 + c9) (by omega)]
    exact k.1 c9 g9 h1 h2
  · intro j hj ej
    rw [p 100 (by decide)] at ej
    have k9 := kc j hj ej
    unfold knC dedC cntC at k9 ⊢
    rw [p 102 (by decide), p 103 (by decide), p 104 (by decide), p 105 (by decide), p 108 (by decide), p 109 (by decide), p 110 (by decide), p 501 (by decide)]
    exact k9
  · obtain ⟨k0, h1, h2, h3⟩ := hp
    refine ⟨k0, h1, by rw [p 300 (by decide)]; exact h2, fun r h9 hr hh => ?_⟩
    rw [q7 r]
    exact h3 r h9 hr hh
  · intro k9 j9 h9
    have e9 : z' k9 = z k9 := by
      unfold dynF at h9
      exact p k9 (by omega)
    rw [e9]; exact l k9 j9 h9
theorem RLp.ys {I : List Nat} {ac m N n nr NS w t ar : Nat} {z y y' : fr_V} (h : RLp I ac m N n nr NS w t ar z y) (e : gZ y y') : RLp I ac m N n nr NS w t ar z y' := h.y ⟨fun c h1 h2 _ _ _ _ _ _ _ _ _ => e c (by omega) h2, fun j _ _ _ _ => by rw [e 1100 (by decide) (by decide)]⟩
section G2
variable {I : List Nat} {ac m N n nr NS w t ar : Nat} {z y : fr_V}
theorem RLp.rnK (h : RLp I ac m N n nr NS w t ar z y) : rnOK I nr z := ⟨h.1.2.2.2.1, h.1.2.2.2.2.1, fun r hr => (h.1.2.2.2.2.2.2 r hr).1⟩
theorem RLp.p3 (h : RLp I ac m N n nr NS w t ar z y) : p3OK I nr N z := ⟨h.rnK, h.1.1.2.1, h.1.1.okz h.1.2.2.1.1, fun r hr => h.1.2.2.2.ok h.1.2.2.1.1 hr⟩
theorem RLp.lf (h : RLp I ac m N n nr NS w t ar z y) : lf8 n z := by
  have hw := h.1.2.1
  refine ⟨h.1.2.2.1.1, h.1.2.2.1.2.1, fun i hi => ?_⟩
  have q := h.1.2.2.1.2.2.2 i hi
  exact ⟨q.2.2.2.1, by omega⟩
theorem RLp.k0 (h : RLp I ac m N n nr NS w t ar z y) : ∃ k0, k0 ≤ w ∧ z 300 10 = nI k0 := by
  obtain ⟨k0, h1, h2, -⟩ := h.2.2.2.2.2.2.2.2.1
  exact ⟨k0, h1, h2⟩
theorem RLp.ar0 (h : RLp I ac m N n nr NS w t ar z y) : ∃ ar, ar ≤ 40 ∧ f_set z ac 0 = nI ar := ⟨ar, h.2.2.2.2.1.2.2.2.2.2.2.1.2.2, h.2.2.2.2.1.2.2.2.2.2.2.1.1⟩
theorem RLp.st2 (h : RLp I ac m N n nr NS w t ar z y) : ¬ f_set z ac 2 + 1 = 0 ∧ ¬ y 1141 2 + 1 = 0 := by
  obtain ⟨q, h1, h2, h3, h4⟩ := h.2.2.2.2.1.2.2.2.2.2.2.2.2.1
  rw [h3, h4, nI_1]
  have : ¬ nI (q + 1) = 0 := fun e => by
    have := (nI_eq (a := q + 1) (b := 0) (by omega) (by omega)).mp e
    omega
  exact ⟨this, this⟩
theorem RLp.cp (h : RLp I ac m N n nr NS w t ar z y) : ∃ cp, 1 ≤ cp ∧ cp ≤ 3 ∧ f_set z ac 3 = nI cp ∧ y 1141 3 = nI cp := h.2.2.2.2.1.2.2.2.2.2.2.2.2.2
theorem RLp.sq (h : RLp I ac m N n nr NS w t ar z y) : ∀ j, j < NS → vp_in (z 305 j) 8 ∧ vp_in (z 306 j) 8 := fun j hj => (h.2.2.1.2.2.1.2 j hj).2.2.2.2.2
theorem RLp.hh (h : RLp I ac m N n nr NS w t ar z y) : ∀ r, r < nr → vp_in (z (2000 + 10 * r) 0) 8 := fun r hr => (h.1.2.2.2.2.2.2 r hr).2.2.1
theorem RLp.pyk (h : RLp I ac m N n nr NS w t ar z y) : py_ok nr N NS ar y := ⟨h.1.2.2.2.2.2.1, h.1.2.2.2.1, h.1.1.2.2.1, h.1.1.oky h.1.2.2.1.1, h.2.2.1.2.1, h.2.2.1.2.2.1.1, h.2.2.2.2.1.2.2.2.2.2.2.1.2.1, h.2.2.2.2.1.2.2.2.2.2.2.1.2.2, fun r hr => ⟨fun _ => (h.1.2.2.2.oky h.1.2.2.1.1 hr).1, (h.1.2.2.2.oky h.1.2.2.1.1 hr).2⟩⟩
end G2
