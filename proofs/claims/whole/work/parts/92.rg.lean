def hd2 (z : fr_V) (NS nr : Nat) : Prop := (∀ j, j < NS → ∃ q, q < nr ∧ z 304 j = nI q) ∧ ∀ r, r < nr → ∀ x : Int32, ∃ P : Nat → Nat, (∀ i, i < 8 → hdC z NS r x i = nI (P i)) ∧ P 0 + P 1 + P 2 + P 3 + P 4 + P 5 + P 6 + P 7 ≤ 60
def ac2 (z y : fr_V) (ac m ar : Nat) : Prop := (ac = 10 ∨ ac = 20) ∧ z 1000 1 = nI ac ∧ z 1000 2 = nI (30 - ac) ∧ lnOK z ac m ∧ acR z y ac m ∧ y 1100 38 = nI m ∧ (f_set z ac 0 = nI ar ∧ y 1141 0 = nI ar ∧ ar ≤ 40) ∧ (∃ q, q ≤ 9 ∧ f_set z ac 1 = nI q ∧ y 1141 1 = nI q) ∧ (∃ q, 2 ≤ q ∧ q ≤ 99 ∧ f_set z ac 2 = nI q ∧ y 1141 2 = nI q) ∧ ∃ q, 1 ≤ q ∧ q ≤ 3 ∧ f_set z ac 3 = nI q ∧ y 1141 3 = nI q
def tp2 (z y : fr_V) (t : Nat) : Prop := t ≤ 500 ∧ z 600 1 = nI t ∧ y 1100 1 = nI t ∧ ∀ i, i < t → z 601 i = y 1101 i
def mi2 (z y : fr_V) : Prop := tbR z y ∧ (z 600 14 = y 1100 23 ∧ z 600 15 = y 1100 24) ∧ ((z 200 10 = 0 ↔ y 1100 52 = 0) ∧ ∀ l, l < 12 → z 210 l = y 1154 l) ∧ ∀ i, i < 75 → y 1123 i = wd i
/-- the fields that name cells and change -/
def dynF (k j : Nat) : Prop := (k = 1000 ∧ (j = 1 ∨ j = 2)) ∨ (k = 600 ∧ (j = 3 ∨ j = 6 ∨ j = 7 ∨ j = 13)) ∨ (((400 ≤ k ∧ k < 424) ∨ (430 ≤ k ∧ k < 454)) ∧ j = 0)
def dyn (z : fr_V) : Prop := ∀ k j, dynF k j → z k j < 2000 ∨ 3000 ≤ z k j
/-- THE RELATION of the class's state and the reference's -/
def RLp (I : List Nat) (ac m N n nr NS w t ar : Nat) (z y : fr_V) : Prop :=
  stI I z y N n nr w ∧ (z 1000 3 = nI w ∧ y 1100 3 = nI w) ∧ sl2 z y NS w ∧ hd2 z NS nr ∧ ac2 z y ac m ar ∧ tp2 z y t ∧ mi2 z y ∧ cok z N ∧ pdR z y N nr ar w ∧ dyn z ∧ ∀ r, nr ≤ r → z 302 r = (-1)
def REL (I : List Nat) (z y : fr_V) : Prop := ∃ ac m N n nr NS w t ar, RLp I ac m N n nr NS w t ar z y
theorem ac2.z {z z' y : fr_V} {ac m ar : Nat} (h : ac2 z y ac m ar) (e : ∀ c, (c = 1000 ∨ (10 ≤ c ∧ c ≤ 23) ∨ (400 ≤ c ∧ c < 454)) → z' c = z c) : ac2 z' y ac m ar := by
  obtain ⟨hac, h1, h2, h3, h4, h5, h6⟩ := h
  have ln : ∀ i, i < 24 → z' (lnB ac + i) = z (lnB ac + i) := fun i hi => by
    rcases hac with rfl | rfl
    · exact e (lnB 10 + i) (Or.inr (Or.inr ⟨by show 400 ≤ 400 + i; omega, by show 400 + i < 454; omega⟩))
    · exact e (lnB 20 + i) (Or.inr (Or.inr ⟨by show 400 ≤ 430 + i; omega, by show 430 + i < 454; omega⟩))
  have hb : ∀ i, i < 24 → lwf z' ac i = lwf z ac i := fun i hi => by unfold lwf; rw [ln i hi]
  refine ⟨hac, by rw [e 1000 (by omega)]; exact h1, by rw [e 1000 (by omega)]; exact h2, ⟨h3.1, by rw [e ac (by omega)]; exact h3.2.1, fun i hi => ?_⟩, ⟨h4.1, fun i hi => ?_⟩, h5, ?_⟩
  · have := h3.1
    rw [hb i (by omega), ln i (by omega)]; exact h3.2.2 i hi
  · have := h4.1
    have q := h4.2 i hi
    rw [hb i (by omega)]
    refine ⟨?_, q.2⟩
    have q1 := q.1
    unfold lnR at q1 ⊢
    rw [ln i (by omega)]
    exact q1
  · have e3 : ∀ j, f_set z' ac j = f_set z ac j := fun j => by unfold f_set; rw [e (ac + 3) (by omega)]
    rw [e3 0, e3 1, e3 2, e3 3]
    exact h6
def zE (z z' : fr_V) : Prop := (∀ c, c < 2000 → c ≠ 100 → c ≠ 108 → c ≠ 109 → c ≠ 110 → c ≠ 300 → c ≠ 310 → c ≠ 200 → c ≠ 201 → c ≠ 202 → c ≠ 203 → c ≠ 205 → c ≠ 900 → c ≠ 906 → c ≠ 907 → z' c = z c) ∧ z' 100 5 = z 100 5 ∧ (z' 300 2 = z 300 2 ∧ z' 300 8 = z 300 8) ∧ z' 200 10 = z 200 10 ∧ ∀ r, z' (2000 + 10 * r) = z (2000 + 10 * r)
theorem RLp.z {I : List Nat} {ac m N n nr NS w t ar : Nat} {z z' y : fr_V} (h : RLp I ac m N n nr NS w t ar z y) (e : zE z z') (hc : cok z' N) (hp : pdR z' y N nr ar w) : RLp I ac m N n nr NS w t ar z' y := by
  obtain ⟨⟨a1, a2, a3, a4⟩, b, c, d, f, g, k, -, -, l, o⟩ := h
  obtain ⟨q, q5, ⟨q2, q8⟩, q10, qr⟩ := e
  have p : ∀ c, c ∈ [102, 103, 104, 105, 302, 304, 305, 306, 307, 308, 500, 501, 502, 1000, 600, 601, 210, 910, 911, 912, 913] → z' c = z c := fun c hc => by
    simp only [List.mem_cons, List.mem_nil_iff, or_false] at hc
    exact q c (by omega) (by omega) (by omega) (by omega) (by omega) (by omega) (by omega) (by omega) (by omega) (by omega) (by omega) (by omega) (by omega) (by omega) (by omega)
  have p304 := p 304 (by decide)
  have p305 := p 305 (by decide)
  have p306 := p 306 (by decide)
  have p307 := p 307 (by decide)
  have p308 := p 308 (by decide)
  refine ⟨⟨?_, a2, ?_, ?_⟩, by rw [p 1000 (by decide)]; exact b, ?_, ?_, f.z (fun c hc => q c (by omega) (by omega) (by omega) (by omega) (by omega) (by omega) (by omega) (by omega) (by omega) (by omega) (by omega) (by omega) (by omega) (by omega) (by omega)), ?_, ?_, hc, hp, ?_, by rw [p 302 (by decide)]; exact o⟩
  · unfold nt2 at a1 ⊢
    rw [q5, p 102 (by decide), p 103 (by decide), p 104 (by decide), p 105 (by decide)]; exact a1
  · unfold li2 at a3 ⊢
    rw [p 500 (by decide), p 501 (by decide), p 502 (by decide)]; exact a3
  · refine ⟨a4.1, by rw [q2]; exact a4.2.1, a4.2.2.1, fun r hr => ?_⟩
    rw [qr r, p 302 (by decide)]; exact a4.2.2.2 r hr
  · unfold sl2 slR at c ⊢
    rw [q8, p304, p305, p306, p307, p308]; exact c
  · refine ⟨by rw [p304]; exact d.1, fun r hr x => ?_⟩
    have e9 : hdC z' NS r x = hdC z NS r x := by unfold hdC; rw [qr r, p304, p305, p306, p307, p308]
    rw [e9]; exact d.2 r hr x
  · unfold tp2 at g ⊢
    rw [p 600 (by decide), p 601 (by decide)]; exact g
  · unfold mi2 at k ⊢
    rw [p 600 (by decide), p 210 (by decide), q10]
    refine ⟨fun c9 g9 h1 h2 => ?_, k.2⟩
    rw [p (910 + c9) (by simp only [List.mem_cons, List.mem_nil_iff, or_false]; omega)]
    exact k.1 c9 g9 h1 h2
  · intro k9 j9 h9
    have e9 : z' k9 = z k9 := by
      unfold dynF at h9
      exact q k9 (by omega) (by omega) (by omega) (by omega) (by omega) (by omega) (by omega) (by omega) (by omega) (by omega) (by omega) (by omega) (by omega) (by omega) (by omega)
    rw [e9]; exact l k9 j9 h9
def yE (y y' : fr_V) : Prop := (∀ c, 1100 < c → c < 2000 → c ≠ 1145 → c ≠ 1146 → c ≠ 1147 → c ≠ 1148 → c ≠ 1152 → c ≠ 1155 → c ≠ 1156 → c ≠ 1157 → c ≠ 1158 → y' c = y c) ∧ ∀ j, j ≠ 2 → j ≠ 48 → j ≠ 49 → j ≠ 50 → y' 1100 j = y 1100 j
theorem RLp.pw {I : List Nat} {ac m N n nr NS w t ar r : Nat} {z y : fr_V} (h : RLp I ac m N n nr NS w t ar z y) (hr : r < nr) : prW y N n r := by
  obtain ⟨⟨a1, a2, a3, a4⟩, -⟩ := h
  have g := a4.oky a3.1 hr
  have := a4.1
  refine ⟨by omega, a1.1, a3.1, fun _ => g.1, g.2, fun i hi c => ?_⟩
  have e := (a1.2.2.2 i hi)
  obtain ⟨-, ⟨l, hl, e2⟩, -⟩ := a1.half hi (by rw [e.1, c]; decide)
  exact ⟨l, hl, by rw [← e.2.1]; exact e2⟩
theorem RLp.y {I : List Nat} {ac m N n nr NS w t ar : Nat} {z y y' : fr_V} (h : RLp I ac m N n nr NS w t ar z y) (e : yE y y') : RLp I ac m N n nr NS w t ar z y' := by
  have hW : ∀ r, r < nr → prW y N n r := fun r hr => h.pw hr
  obtain ⟨⟨a1, a2, a3, a4⟩, b, c, d, f, g, k, hc, hp, l, o⟩ := h
  obtain ⟨q, q0⟩ := e
  have p : ∀ c, c ∈ [1101, 1106, 1107, 1109, 1110, 1111, 1112, 1113, 1114, 1116, 1118, 1119, 1120, 1121, 1122, 1123, 1131, 1132, 1133, 1134, 1135, 1136, 1137, 1138, 1141, 1154] → y' c = y c := fun c hc => by
    simp only [List.mem_cons, List.mem_nil_iff, or_false] at hc
    exact q c (by omega) (by omega) (by omega) (by omega) (by omega) (by omega) (by omega) (by omega) (by omega) (by omega) (by omega)
  have p0 : ∀ j, j ∈ [1, 3, 4, 7, 14, 16, 23, 24, 38, 52] → y' 1100 j = y 1100 j := fun j hj => by
    simp only [List.mem_cons, List.mem_nil_iff, or_false] at hj
    exact q0 j (by omega) (by omega) (by omega) (by omega)
  refine ⟨⟨?_, a2, ?_, ?_⟩, by rw [p0 3 (by decide)]; exact b, ?_, d, ?_, ?_, ?_, hc, ?_, l, o⟩
  · unfold nt2 at a1 ⊢
    rw [p0 16 (by decide), p 1118 (by decide), p 1119 (by decide), p 1120 (by decide), p 1121 (by decide)]; exact a1
  · unfold li2 at a3 ⊢
    rw [p0 4 (by decide), p 1106 (by decide), p 1107 (by decide)]; exact a3
  · unfold rn2 at a4 ⊢
    rw [p0 7 (by decide), p 1110 (by decide), p 1111 (by decide), p 1112 (by decide), p 1113 (by decide), p 1109 (by decide), p 1114 (by decide)]; exact a4
  · unfold sl2 slR at c ⊢
    rw [p0 14 (by decide), p 1116 (by decide)]; exact c
  · unfold ac2 acR lnR at f ⊢
    rw [p0 38 (by decide), p 1131 (by decide), p 1132 (by decide), p 1133 (by decide), p 1134 (by decide), p 1135 (by decide), p 1136 (by decide), p 1137 (by decide), p 1138 (by decide), p 1141 (by decide)]; exact f
  · unfold tp2 at g ⊢
    rw [p0 1 (by decide), p 1101 (by decide)]; exact g
  · unfold mi2 tbR at k ⊢
    rw [p0 23 (by decide), p0 24 (by decide), p0 52 (by decide), p 1122 (by decide), p 1154 (by decide), p 1123 (by decide)]; exact k
  · obtain ⟨k0, h1, h2, h3⟩ := hp
    refine ⟨k0, h1, h2, fun r h9 hr hh => ?_⟩
    rw [prF_x (z := y') (w := y) (n := n) ⟨⟨by rw [p 1109 (by decide)], by rw [p 1111 (by decide)], by rw [p 1112 (by decide)]⟩, fun i hi => ⟨by rw [p 1118 (by decide)], by rw [p 1119 (by decide)], by rw [p 1120 (by decide)], by rw [p 1121 (by decide)]⟩, by rw [p 1141 (by decide)], fun l hl => by rw [p 1106 (by decide)]⟩ (hW r hr)]
    exact h3 r h9 hr hh
