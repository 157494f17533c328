theorem ac2.zy {z z' y y' : fr_V} {ac m ar : Nat} (h : ac2 z y ac m ar) (e : ∀ c, (c = 1000 ∨ c = ac ∨ c = ac + 3 ∨ ∃ i, i < 24 ∧ c = lnB ac + i) → z' c = z c) (f1 : y' 1100 38 = y 1100 38) (f2 : ∀ c i, 1131 ≤ c → c ≤ 1138 → i < 24 → y' c i = y c i) (f3 : ∀ i, i < 4 → y' 1141 i = y 1141 i) : ac2 z' y' ac m ar := by
  obtain ⟨hac, h1, h2, h3, h4, h5, h6⟩ := h
  have ln : ∀ i, i < 24 → z' (lnB ac + i) = z (lnB ac + i) := fun i hi => e _ (Or.inr (Or.inr (Or.inr ⟨i, hi, rfl⟩)))
  have hb : ∀ i, i < 24 → lwf z' ac i = lwf z ac i := fun i hi => by unfold lwf; rw [ln i hi]
  refine ⟨hac, by rw [e 1000 (by omega)]; exact h1, by rw [e 1000 (by omega)]; exact h2, ⟨h3.1, by rw [e ac (by omega)]; exact h3.2.1, fun i hi => ?_⟩, ⟨h4.1, fun i hi => ?_⟩, by rw [f1]; exact h5, ?_⟩
  · have := h3.1
    rw [hb i (by omega), ln i (by omega)]; exact h3.2.2 i hi
  · have := h4.1
    have q := h4.2 i hi
    rw [hb i (by omega), f2 1131 i (by omega) (by omega) (by omega)]
    refine ⟨?_, q.2⟩
    have q1 := q.1
    unfold lnR at q1 ⊢
    rw [ln i (by omega), f2 1132 i (by omega) (by omega) (by omega), f2 1133 i (by omega) (by omega) (by omega), f2 1134 i (by omega) (by omega) (by omega), f2 1135 i (by omega) (by omega) (by omega), f2 1136 i (by omega) (by omega) (by omega), f2 1137 i (by omega) (by omega) (by omega), f2 1138 i (by omega) (by omega) (by omega)]
    exact q1
  · have e3 : ∀ j, f_set z' ac j = f_set z ac j := fun j => by unfold f_set; rw [e (ac + 3) (by omega)]
    rw [e3 0, e3 1, e3 2, e3 3, f3 0 (by omega), f3 1 (by omega), f3 2 (by omega), f3 3 (by omega)]
    exact h6
/-- cells that acts() may change on the class's side -/
def zaE (z z' : fr_V) : Prop := (∀ c, c ≠ 600 → c ≠ 1000 → c ≠ 300 → (c < 10 ∨ 23 < c) → (c < 400 ∨ 454 ≤ c) → z' c = z c) ∧ z' 1000 3 = z 1000 3 ∧ z' 300 2 = z 300 2 ∧ z' 300 8 = z 300 8
def yaE (y y' : fr_V) : Prop := (∀ c, (c < 1131 ∨ 1142 < c) → c ≠ 1100 → y' c = y c) ∧ ∀ j, j ∈ [3, 4, 7, 14, 16, 52] → y' 1100 j = y 1100 j
theorem RLp.ac {I : List Nat} {ac m N n nr NS w t ar ac' m' ar' : Nat} {z z' y y' : fr_V} (h : RLp I ac m N n nr NS w t ar z y) (e : zaE z z') (f : yaE y y') (h14 : z' 600 14 = y' 1100 23) (h15 : z' 600 15 = y' 1100 24) (ht : z' 600 1 = 0) (ht' : y' 1100 1 = 0) (ha : ac2 z' y' ac' m' ar') (hp : pdR z' y' N nr ar' w) (hd : dyn z') : RLp I ac' m' N n nr NS w 0 ar' z' y' := by
  obtain ⟨⟨a1, a2, a3, a4⟩, b, c, d, -, -, k, kc, -, -, o⟩ := h
  obtain ⟨q, q3, q2, q8⟩ := e
  obtain ⟨f1, f2⟩ := f
  have p : ∀ c, c ∈ [100, 102, 103, 104, 105, 108, 109, 110, 200, 210, 302, 304, 305, 306, 307, 308, 500, 501, 502] → z' c = z c := fun c hc => by
    simp only [List.mem_cons, List.mem_nil_iff, or_false] at hc
    exact q c (by omega) (by omega) (by omega) (by omega) (by omega)
  have g : ∀ c, c ∈ [1101, 1106, 1107, 1109, 1110, 1111, 1112, 1113, 1114, 1116, 1118, 1119, 1120, 1121, 1122, 1123, 1154] → y' c = y c := fun c hc => by
    simp only [List.mem_cons, List.mem_nil_iff, or_false] at hc
    exact f1 c (by omega) (by omega)
  have qr : ∀ r, z' (2000 + 10 * r) = z (2000 + 10 * r) := fun r => q _ (by omega) (by omega) (by omega) (by omega) (by omega)
  have p304 := p 304 (by decide)
  have p305 := p 305 (by decide)
  have p306 := p 306 (by decide)
  have p307 := p 307 (by decide)
  have p308 := p 308 (by decide)
  refine ⟨⟨?_, a2, ?_, ?_⟩, by rw [q3, f2 3 (by decide)]; exact b, ?_, ?_, ha, ⟨by omega, ht, ht', fun i hi => absurd hi (Nat.not_lt_zero i)⟩, ?_, ?_, hp, hd, by rw [p 302 (by decide)]; exact o⟩
  · unfold nt2 at a1 ⊢
    rw [p 100 (by decide), p 102 (by decide), p 103 (by decide), p 104 (by decide), p 105 (by decide), f2 16 (by decide), g 1118 (by decide), g 1119 (by decide), g 1120 (by decide), g 1121 (by decide)]; exact a1
  · unfold li2 at a3 ⊢
    rw [p 500 (by decide), p 501 (by decide), p 502 (by decide), f2 4 (by decide), g 1106 (by decide), g 1107 (by decide)]; exact a3
  · unfold rn2 at a4 ⊢
    rw [f2 7 (by decide), g 1110 (by decide), g 1111 (by decide), g 1112 (by decide), g 1113 (by decide), g 1109 (by decide), g 1114 (by decide), q2, p 302 (by decide)]
    refine ⟨a4.1, a4.2.1, a4.2.2.1, fun r hr => ?_⟩
    rw [qr r]; exact a4.2.2.2 r hr
  · unfold sl2 slR at c ⊢
    rw [q8, p304, p305, p306, p307, p308, f2 14 (by decide), g 1116 (by decide)]; exact c
  · refine ⟨by rw [p304]; exact d.1, fun r hr x => ?_⟩
    have e9 : hdC z' NS r x = hdC z NS r x := by unfold hdC; rw [qr r, p304, p305, p306, p307, p308]
    rw [e9]; exact d.2 r hr x
  · refine ⟨fun c9 g9 h1 h2 => ?_, ⟨h14, h15⟩, ?_, ?_⟩
    · rw [q (910 + c9) (by omega) (by omega) (by omega) (by omega) (by omega), g 1122 (by decide)]
      exact k.1 c9 g9 h1 h2
    · rw [p 200 (by decide), p 210 (by decide), f2 52 (by decide), g 1154 (by decide)]; exact k.2.2.1
    · rw [g 1123 (by decide)]; exact k.2.2.2
  · intro j hj ej
    rw [p 100 (by decide)] at ej
    have k9 := kc j hj ej
    unfold knC dedC cntC at k9 ⊢
    rw [p 102 (by decide), p 103 (by decide), p 104 (by decide), p 105 (by decide), p 108 (by decide), p 109 (by decide), p 110 (by decide), p 501 (by decide)]
    exact k9
theorem pl4 {v : fr_V} : (∀ c, c ≠ 1142 → pl_a v 4 c = v c) ∧ ∀ j, j < 4 → pl_a v 4 1142 j = 0 := by
  have e : pl_a v 4 = pl_a_t 3 (pl_a_t 2 (pl_a_t 1 (pl_a_t 0 v))) := rfl
  rw [e]
  unfold pl_a_t
  refine ⟨fun c hc => by rw [up2_ne hc, up2_ne hc, up2_ne hc, up2_ne hc], fun j hj => ?_⟩
  rcases (show j = 0 ∨ j = 1 ∨ j = 2 ∨ j = 3 by omega) with rfl | rfl | rfl | rfl
  · rw [u6 (by decide), u6 (by decide), u6 (by decide), u6s]
  · rw [u6 (by decide), u6 (by decide), u6s]
  · rw [u6 (by decide), u6s]
  · rw [u6s]
theorem plain_is {v : fr_V} : (∀ c, c ≠ 1142 → c ≠ 1141 → c ≠ 1100 → f_plain v c = v c) ∧ (∀ j, j ≠ 39 → f_plain v 1100 j = v 1100 j) ∧ f_plain v 1100 39 = 0 ∧ (∀ j, j < 4 → f_plain v 1141 j = v 1141 j) ∧ (∀ j, j < 4 → f_plain v 1141 (4 + j) = fr_us j) ∧ ∀ j, j < 4 → f_plain v 1142 j = 0 := by
  unfold f_plain
  refine ⟨fun c h1 h2 h3 => ?_, fun j hj => ?_, u6s, fun j hj => ?_, fun j hj => ?_, fun j hj => ?_⟩
  · rw [up2_ne h3, pl4.1 c h1, up2_ne h2, up2_ne h2, up2_ne h2, up2_ne h2]
  · rw [u6 hj, pl4.1 1100 (by decide), up2_ne (by decide), up2_ne (by decide), up2_ne (by decide), up2_ne (by decide)]
  · rw [up2_ne (by decide), pl4.1 1141 (by decide), u6 (by omega), u6 (by omega), u6 (by omega), u6 (by omega)]
  · rw [up2_ne (by decide), pl4.1 1141 (by decide)]
    rcases (show j = 0 ∨ j = 1 ∨ j = 2 ∨ j = 3 by omega) with rfl | rfl | rfl | rfl
    · rw [u6 (by decide), u6 (by decide), u6 (by decide), u6s]; rfl
    · rw [u6 (by decide), u6 (by decide), u6s]; rfl
    · rw [u6 (by decide), u6s]; rfl
    · rw [u6s]; rfl
  · rw [up2_ne (by decide)]; exact pl4.2 j hj
/-- the reference before its first token -/
def yp (y : fr_V) (E : Nat) : fr_V := f_plain (up2 (up2 (up2 (up2 (up2 (up2 y 1100 2 0) 1100 25 (nI E)) 1100 1 0) 1100 23 0) 1100 24 (-1)) 1100 26 0)
theorem yp_is {y : fr_V} {E : Nat} : (∀ c, c ≠ 1142 → c ≠ 1141 → c ≠ 1100 → yp y E c = y c) ∧ (∀ j, j ∉ [1, 2, 23, 24, 25, 26, 39] → yp y E 1100 j = y 1100 j) ∧ (yp y E 1100 1 = 0 ∧ yp y E 1100 23 = 0 ∧ yp y E 1100 24 = (-1) ∧ yp y E 1100 26 = 0 ∧ yp y E 1100 39 = 0) ∧ (∀ j, j < 4 → yp y E 1141 j = y 1141 j) ∧ (∀ j, j < 4 → yp y E 1141 (4 + j) = fr_us j) ∧ ∀ j, j < 4 → yp y E 1142 j = 0 := by
  unfold yp
  refine ⟨fun c h1 h2 h3 => ?_, fun j hj => ?_, ⟨?_, ?_, ?_, ?_, plain_is.2.2.1⟩, fun j hj => ?_, fun j hj => plain_is.2.2.2.2.1 j hj, fun j hj => plain_is.2.2.2.2.2 j hj⟩
  · rw [plain_is.1 c h1 h2 h3, up2_ne h3, up2_ne h3, up2_ne h3, up2_ne h3, up2_ne h3, up2_ne h3]
  · simp only [List.mem_cons, List.mem_nil_iff, or_false, not_or] at hj
    rw [plain_is.2.1 j (by omega), u6 (by omega), u6 (by omega), u6 (by omega), u6 (by omega), u6 (by omega), u6 (by omega)]
  · rw [plain_is.2.1 1 (by decide), u6 (by decide), u6 (by decide), u6 (by decide), u6s]
  · rw [plain_is.2.1 23 (by decide), u6 (by decide), u6 (by decide), u6s]
  · rw [plain_is.2.1 24 (by decide), u6 (by decide), u6s]
  · rw [plain_is.2.1 26 (by decide), u6s]
  · rw [plain_is.2.2.2.1 j hj, up2_ne (by decide), up2_ne (by decide), up2_ne (by decide), up2_ne (by decide), up2_ne (by decide), up2_ne (by decide)]
/-- the class before its first token -/
noncomputable def zp (z : fr_V) (ac E : Nat) : fr_V := f_skip (rd0 z ac E) E 0
theorem zp_is {z : fr_V} {ac E : Nat} (hac : ac = 10 ∨ ac = 20) : (∀ c, c ≠ 600 → c ≠ ac → c ≠ ac + 3 → zp z ac E c = z c) ∧ (zp z ac E 600 1 = 0 ∧ zp z ac E 600 4 = 0 ∧ zp z ac E 600 5 = 0 ∧ zp z ac E 600 14 = 0 ∧ zp z ac E 600 15 = (-1) ∧ zp z ac E 600 13 = z 600 13) ∧ zp z ac E 600 9 = nI (sc (isBl (z 601)) E (E - 0)) ∧ zp z ac E ac 1 = 0 ∧ (∀ j, j < 4 → zp z ac E (ac + 3) j = (-1)) ∧ rd6 ac E (zp z ac E) := by
  have e601 : rd0 z ac E 601 = z 601 := by
    unfold rd0 f_clr
    rw [up2_ne (by decide), up2_ne (by decide), up2_ne (by decide), up2_ne (by decide), up2_ne (by decide), up2_ne (by decide), up2_ne (by decide), upA_ne (by omega), up2_ne (by omega), up2_ne (by decide), up2_ne (by decide), up2_ne (by decide)]
  refine ⟨fun c h1 h2 h3 => ?_, ⟨?_, ?_, ?_, ?_, ?_, ?_⟩, ?_, ?_, fun j hj => ?_, ?_⟩
  · unfold zp f_skip rd0 f_clr
    rw [up2_ne h1, up2_ne h1, up2_ne h1, up2_ne h1, up2_ne h1, up2_ne h1, up2_ne h1, up2_ne h1, upA_ne h3, up2_ne h2, up2_ne h1, up2_ne h1, up2_ne h1]
  · unfold zp f_skip rd0
    rw [u6 (by decide), u6 (by decide), u6 (by decide), u6 (by decide), u6 (by decide), u6 (by decide), u6 (by decide), u6 (by decide), clr_6 hac, u6 (by decide), u6s]
  · unfold zp f_skip rd0
    rw [u6 (by decide), u6 (by decide), u6 (by decide), u6 (by decide), u6s]
  · unfold zp f_skip rd0
    rw [u6 (by decide), u6 (by decide), u6 (by decide), u6 (by decide), u6 (by decide), u6s]
  · unfold zp f_skip rd0
    rw [u6 (by decide), u6 (by decide), u6 (by decide), u6s]
  · unfold zp f_skip rd0
    rw [u6 (by decide), u6 (by decide), u6s]
  · unfold zp f_skip rd0
    rw [u6 (by decide), u6 (by decide), u6 (by decide), u6 (by decide), u6 (by decide), u6 (by decide), u6 (by decide), u6 (by decide), clr_6 hac, u6 (by decide), u6 (by decide), u6 (by decide)]
  · unfold zp f_skip
    rw [u6s, e601]
  · unfold zp f_skip rd0 f_clr
    rw [up2_ne (by omega), up2_ne (by omega), up2_ne (by omega), up2_ne (by omega), up2_ne (by omega), up2_ne (by omega), up2_ne (by omega), up2_ne (by omega), upA_ne (by omega), u6s]
  · unfold zp f_skip rd0 f_clr
    rw [up2_ne (by omega), up2_ne (by omega), up2_ne (by omega), up2_ne (by omega), up2_ne (by omega), up2_ne (by omega), up2_ne (by omega), up2_ne (by omega), upA_self, fl_eq, if_pos hj]
  · unfold zp f_skip
    exact (rd0_ok z hac).u hac (by decide)
/-- the start of both parsers -/
theorem RA.start {ac E : Nat} {z y : fr_V} (hac : ac = 10 ∨ ac = 20) (hE : E ≤ 500) (hW : ∀ i, i < E → z 601 i = y 1101 i) : ∃ q, q ≤ E ∧ RA ac E q 0 0 (zp z ac E) (ac0 y E) ∧ rdF ac E E (zp z ac E) = go ac E (zp z ac E) := by
  have hz := zp_is (z := z) (E := E) hac
  have hy := yp_is (y := y) (E := E)
  have hq := (sc_le (isBl (z 601)) E (E - 0) (by omega)).2
  have e01 : zp z ac E 601 = z 601 := hz.1 601 (by decide) (by omega) (by omega)
  have e11 : yp y E 1101 = y 1101 := hy.1 1101 (by decide) (by decide) (by decide)
  have et : ac0 y E = f_tk (yp y E) E (sc (isBl (z 601)) E (E - 0)) := by
    show f_tok E (yp y E) = _
    unfold f_tok f_take
    rw [hy.2.2.1.2.2.2.1, e11, sc_c (P := isBl (y 1101)) (P' := isBl (z 601)) (fun i hi => by unfold isBl; rw [hW i hi]) _ (by omega)]
    rfl
  have pb : PB ac E (sc (isBl (z 601)) E (E - 0)) (zp z ac E) (ac0 y E) := by
    rw [et]
    exact PB.start hac hE hz.2.2.2.2.2 hz.2.1.2.2.2.1 hq hz.2.2.1 (fun i hi => by rw [e01, e11]; exact hW i hi)
  refine ⟨_, hq, ⟨pb, hz.2.1.2.2.1, hz.2.1.2.1, hz.2.2.2.1, ?_, by omega, fun i hi => absurd hi (Nat.not_lt_zero i), fun j hj => Or.inl ⟨hz.2.2.2.2.1 j hj, ?_, ?_⟩⟩, ?_⟩
  · rw [et, tk_f.2 39 (by omega)]; exact hy.2.2.1.2.2.2.2
  · rw [et, tk_f.1 1142 (by decide)]; exact hy.2.2.2.2.2 j hj
  · rw [et, tk_f.1 1141 (by decide)]; exact hy.2.2.2.2.1 j hj
  · unfold go
    rw [hz.2.2.1, nI_clamp (by omega)]
    exact rdF_f hac hE E E _ _ _ hz.2.2.2.2.2 hq hz.2.2.1 (by omega) (by omega) (Nat.le_refl _)
