theorem cr_s {c : Int32} : ∀ d a, crF c (d + 1) a = if crF c d a ≤ 5000 then crF c d a * (c + 1) else crF c d a := by
  intro d
  induction d with
  | zero =>
    intro a
    show (if 5000 < a then a else a * (c + 1)) = if a ≤ 5000 then a * (c + 1) else a
    by_cases h : 5000 < a
    · rw [if_pos h, if_neg (Int32.not_le.mpr h)]
    · rw [if_neg h, if_pos (Int32.not_lt.mp h)]
  | succ d ih =>
    intro a
    show (if 5000 < a then a else crF c (d + 1) (a * (c + 1))) = if (if 5000 < a then a else crF c d (a * (c + 1))) ≤ 5000 then (if 5000 < a then a else crF c d (a * (c + 1))) * (c + 1) else (if 5000 < a then a else crF c d (a * (c + 1)))
    by_cases h : 5000 < a
    · simp only [if_pos h, if_neg (Int32.not_le.mpr h)]
    · simp only [if_neg h]; exact ih _
theorem cr_rw {c : Int32} : ∀ k, crF c k 1 = rwF c k := by
  intro k
  induction k with
  | zero => rfl
  | succ k ih => rw [cr_s, ih]; rfl
theorem rw_pow {cp : Nat} (h1 : 1 ≤ cp) (h3 : cp ≤ 3) : ∀ k, rwF (nI cp) k ≤ 5000 → rwF (nI cp) k = nI ((cp + 1) ^ k) ∧ (cp + 1) ^ k ≤ 5000 := by
  intro k
  induction k with
  | zero => intro _; exact ⟨rfl, by show 1 ≤ 5000; omega⟩
  | succ k ih =>
    intro h
    have e : rwF (nI cp) (k + 1) = if rwF (nI cp) k ≤ 5000 then rwF (nI cp) k * (nI cp + 1) else rwF (nI cp) k := rfl
    by_cases c : rwF (nI cp) k ≤ 5000
    · obtain ⟨i1, i2⟩ := ih c
      rw [if_pos c, i1, nI_1, pk_mul] at e
      have hb : (cp + 1) ^ k * (cp + 1) ≤ 5000 * 4 := Nat.mul_le_mul i2 (by omega)
      rw [e] at h
      have h9 : (cp + 1) ^ k * (cp + 1) ≤ 5000 := (nI_leI (b := 5000) (by omega) (by omega)).mp h
      rw [e, Nat.pow_succ]
      exact ⟨rfl, h9⟩
    · rw [if_neg c] at e
      rw [e] at h
      exact absurd h c
theorem pR_at {L : fr_V} {M : Nat} {O f0 : Nat → Int32} : ∀ i j, j < i → pR L M O f0 i j = f_X11_priceOf L M (O j) (-1) := by
  intro i
  induction i with
  | zero => intro j h; omega
  | succ i ih =>
    intro j h
    show upd (pR L M O f0 i) i _ j = _
    unfold upd
    by_cases e : j = i
    · rw [if_pos e, e]
    · rw [if_neg e]; exact ih j (by omega)
theorem gR_at {L : fr_V} {M : Nat} {O f0 : Nat → Int32} : ∀ i j, j < i → gR L M O f0 i j = 2 * f_worthOf L (O j) - 1000 * f_X11_priceOf L M (O j) (-1) := by
  intro i
  induction i with
  | zero => intro j h; omega
  | succ i ih =>
    intro j h
    show upd (gR L M O f0 i) i _ j = _
    unfold upd
    by_cases e : j = i
    · rw [if_pos e, e]
    · rw [if_neg e]; exact ih j (by omega)
theorem of_ex (Z : fr_V) (ac m : Nat) : ∀ i, ∃ fo : Nat → Nat, ∀ j, j < ofK Z ac m i → fo j < i ∧ ∀ X f0, ofX Z ac m X f0 i j = X (fo j) := by
  intro i
  induction i with
  | zero => exact ⟨fun _ => 0, fun j h => absurd h (Nat.not_lt_zero j)⟩
  | succ i ih =>
    obtain ⟨fo, h⟩ := ih
    have old : ofK Z ac m (i + 1) = ofK Z ac m i → (∀ X f0, ofX Z ac m X f0 (i + 1) = ofX Z ac m X f0 i) → ∃ fo : Nat → Nat, ∀ j, j < ofK Z ac m (i + 1) → fo j < i + 1 ∧ ∀ X f0, ofX Z ac m X f0 (i + 1) j = X (fo j) := fun e1 e2 =>
      ⟨fo, fun j hj => ⟨by have := (h j (by omega)).1; omega, fun X f0 => by rw [e2]; exact (h j (by omega)).2 X f0⟩⟩
    by_cases c1 : f_X1_isDead Z (nI i) = 0
    · by_cases c2 : f_may Z ac m (nI i) (-1) = 0
      · exact old (by rw [ofK_s, if_pos c1, if_pos c2]) (fun X f0 => by rw [ofX_s, if_pos c1, if_pos c2])
      · refine ⟨fun j => if j = ofK Z ac m i then i else fo j, fun j hj => ?_⟩
        rw [ofK_s, if_pos c1, if_neg c2] at hj
        dsimp only
        by_cases e : j = ofK Z ac m i
        · rw [if_pos e]
          refine ⟨by omega, fun X f0 => ?_⟩
          rw [ofX_s, if_pos c1, if_neg c2]; unfold upd; rw [if_pos e]
        · rw [if_neg e]
          refine ⟨by have := (h j (by omega)).1; omega, fun X f0 => ?_⟩
          rw [ofX_s, if_pos c1, if_neg c2]; unfold upd; rw [if_neg e]; exact (h j (by omega)).2 X f0
    · exact old (by rw [ofK_s, if_neg c1]) (fun X f0 => by rw [ofX_s, if_neg c1])
theorem ch_base {z1 : fr_V} {O P G T0 N0 : Nat → Int32} {k cp : Nat} {x1 : Int32} (hk : k ≤ 12) (hx : ¬ x1 < 0) : chI z1 O P G k (cp + 1) 0 (ch0 z1) (cdF O G P k (cp + 1) x1 (0, 0, 0, T0, N0) 1) := by
  have e : cdF O G P k (cp + 1) x1 (0, 0, 0, T0, N0) 1 = cdA O k 0 0 (dT (cp + 1) k 0 T0) N0 := by
    show cdT O G P k (cp + 1) x1 0 (0, 0, 0, T0, N0) = _
    unfold cdT
    rw [dS_v, dS_v, vS_0 _ (by omega), vS_0 _ (by omega), Int32.add_zero, if_neg hx, if_pos rfl]
  have row : ∀ l, l < 12 → nS O (dT (cp + 1) k 0 T0) (fl 0 N0 12) k l = 0 := fun l hl => by
    have q : ∀ q, q ≤ k → nS O (dT (cp + 1) k 0 T0) (fl 0 N0 12) q l = 0 := by
      intro q
      induction q with
      | zero => intro _; show fl 0 N0 12 l = 0; rw [fl_eq, if_pos hl]
      | succ q ih =>
        intro hq
        show upd (nS O _ _ q) (O q).toNatClampNeg (dT (cp + 1) k 0 T0 q) l = 0
        unfold upd
        split
        · rw [dT_v, if_pos (by omega), dg_0, nI_0]
        · exact ih (by omega)
    exact q k (Nat.le_refl _)
  have r210 : ∀ l, l < 12 → ch0 z1 210 l = 0 := fun l hl => by
    show fl 0 (z1 210) 12 l = 0
    rw [fl_eq, if_pos hl]
  rw [e]
  refine ⟨fun c q1 q2 q3 => ?_, rfl, fun i hi => ?_, by rw [vS_0 _ (by omega)]; rfl, by rw [vS_0 _ (by omega)]; rfl, by show ¬ (1 : Int32) = 0; decide, rfl, rfl, fun l hl => ?_, fun l hl _ => r210 l hl⟩
  · unfold ch0
    rw [up2_ne q1, up2_ne q1, up2_ne q1, up2_ne q1, up2_ne q1, upA_ne q3, upA_ne q2]
  · show fl 0 (z1 205) 12 i = _
    rw [fl_eq, if_pos (by omega), dg_0, nI_0]
  · rw [r210 l hl]; exact row l hl
theorem ch_all {z1 : fr_V} {O P G T0 N0 : Nat → Int32} {k cp : Nat} {x1 : Int32} (h1 : 1 ≤ cp) (h3 : cp ≤ 3) (hk : k ≤ 12) (hx : ¬ x1 < 0) (hO : ∀ i, i < k → z1 201 i = O i) (hP : ∀ i, i < k → z1 202 i = P i) (hG : ∀ i, i < k → z1 203 i = G i) : ∀ j, j < (cp + 1) ^ k → chI z1 O P G k (cp + 1) j (chF x1 (nI cp) k (ch0 z1) j) (cdF O G P k (cp + 1) x1 (0, 0, 0, T0, N0) (j + 1)) := by
  intro j
  induction j with
  | zero => intro _; exact ch_base hk hx
  | succ j ih => intro hj; exact ch_step h1 h3 hO hP hG hj (ih (by omega))
section STP
variable {I : List Nat} {ac m N n nr NS w t ar : Nat} {z y : fr_V}
theorem RLp.of (h : RLp I ac m N n nr NS w t ar z y) (k : knR z y N) : ∀ i, i ≤ n → oK y m i = ofK z ac m i ∧ ∀ f0, oX y m f0 i = ofX z ac m (fun i => nI i) f0 i := by
  have hn := h.1.2.2.1.1
  intro i
  induction i with
  | zero => intro _; exact ⟨rfl, fun _ => rfl⟩
  | succ i ih =>
    intro hi
    obtain ⟨a, b⟩ := ih (by omega)
    have e1 := dead_i (k := k) (q := i) (by omega)
    have e2 := (h.may (x1 := nI i) (x2 := (-1)) (vp_in_nI (by omega) (by omega)) (fun c => absurd rfl c)).1
    refine ⟨?_, fun f0 => ?_⟩
    · show (if y 1146 i = (-1) then (if f_X11_mayBe y m (nI i) (-1) = 0 then oK y m i else oK y m i + 1) else oK y m i) = _
      rw [ofK_s, a, e2]
      by_cases c : y 1146 i = (-1)
      · rw [if_pos c, if_pos (e1.mpr c)]
      · rw [if_neg c, if_neg (fun q => c (e1.mp q))]
    · show (if y 1146 i = (-1) then (if f_X11_mayBe y m (nI i) (-1) = 0 then oX y m f0 i else upd (oX y m f0 i) (oK y m i) (nI i)) else oX y m f0 i) = _
      rw [ofX_s, a, b f0, e2]
      by_cases c : y 1146 i = (-1)
      · rw [if_pos c, if_pos (e1.mpr c)]
      · rw [if_neg c, if_neg (fun q => c (e1.mp q))]
/-- the worth of one life by the table that was sold, whatever its age -/
theorem RLp.wo1 (h : RLp I ac m N n nr NS w t ar z y) {i : Nat} (hi : i < n) : f_wn z ac N n w (nI i) (-1) 0 = f_worthOf (f_lay y n N 0) (nI i) := by
  have hw := h.1.2.1
  have hn := h.1.2.2.1.1
  obtain ⟨p, hp, ep⟩ := h.age hi
  obtain ⟨f1, f2, f3, f4, f5, f6, f7, -, ⟨q2, r1, r2, g1, g2⟩, -⟩ := h.2.2.2.2.1
  obtain ⟨e1, e2, ⟨c1, hc1, e3⟩, e4, e5⟩ := h.1.2.2.1.2.2.2 i hi
  have Lf : lyF (upA (f_kw z N (nI w)) 110 (y 1146)) (if (0 : Int32) ≤ 0 then y else f_know y N (y 1100 3)) n w := by
    rw [if_pos (by decide)]
    refine ⟨⟨hn, fun j hj => ?_⟩, fun c g hc hg => ?_, h.2.1.2⟩
    · obtain ⟨u1, u2, -, u4, u5⟩ := (h.kw hw).1.2.2.1.2.2.2 j hj
      rw [upA_self, upA_ne (by decide), upA_ne (by decide)]
      exact ⟨rfl, u1, u2, u4, by omega⟩
    · rw [upA_ne (by omega)]; exact (h.kw hw).2.2.2.2.2.2.1.1 c g hc hg
  rw [wo_eq (p := p) (c := c1) (rate := nI q2) (Or.inl rfl) Lf hc1 (by rw [nI_clamp (by omega), ← e2]; exact e3) (by rw [h.2.1.2]; exact ep) g2 (nI_pos (by omega))]
  have ec : clOf z (nI i) = c1 := by unfold clOf; rw [nI_clamp (by omega), e3, nI_clamp (by omega)]
  have ea : agOf z (nI i) (nI w) = p := by
    have e5 : f_X5_ageIn z (nI i) (nI w) = nI p := by rw [← ep]; unfold f_X5_ageIn f_X11_ageIn; rw [nI_clamp (by omega), e1]
    unfold agOf; rw [e5, nI_clamp (by omega)]
  have q := w8_110 (n := n) (w := w) (Z := f_kw z N (nI w)) (f := y 1146) (c1 := c1) (c2 := 0) (p := p) (q := 0) (x2 := (-1)) (rate := nI q2)
  unfold f_w8 at q
  rw [if_pos rfl, if_pos rfl] at q
  unfold f_wn f_w8
  rw [if_pos rfl, ec, ea, g1]
  exact q.symm
/-- what the buyer chose, alike in both -/
theorem RLp.nm {z' y' : fr_V} (h : RLp I ac m N n nr NS w t ar z y) (e : ∀ c, c ≠ 310 → c ≠ 200 → c ≠ 201 → c ≠ 202 → c ≠ 203 → c ≠ 205 → c ≠ 210 → c ≠ 900 → c ≠ 906 → c ≠ 907 → z' c = z c) (ey : ∀ c, 1100 < c → c < 2000 → c ≠ 1145 → c ≠ 1146 → c ≠ 1147 → c ≠ 1148 → c ≠ 1152 → c ≠ 1154 → c ≠ 1155 → c ≠ 1156 → c ≠ 1157 → c ≠ 1158 → y' c = y c) (ey0 : ∀ j, j ≠ 2 → j ≠ 48 → j ≠ 49 → j ≠ 50 → j ≠ 52 → y' 1100 j = y 1100 j) (hm : (z' 200 10 = 0 ↔ y' 1100 52 = 0) ∧ ∀ l, l < 12 → z' 210 l = y' 1154 l) : RLp I ac m N n nr NS w t ar z' y' := by
  have h1 : RLp I ac m N n nr NS w t ar (upA (up2 z' 200 10 (z 200 10)) 210 (z 210)) (upA (up2 y' 1100 52 (y 1100 52)) 1154 (y 1154)) := by
    refine (h.sc (z' := upA (up2 z' 200 10 (z 200 10)) 210 (z 210)) (fun c q1 q2 q3 q4 q5 q6 q7 q8 q9 => ?_) rfl).y ⟨fun c g1 g2 g3 g4 g5 g6 g7 g8 g9 g10 g11 => ?_, fun j g1 g2 g3 g4 => ?_⟩
    · by_cases q : c = 210
      · subst q; rw [upA_self]
      · rw [upA_ne q, up2_ne q2]; exact e c q1 q2 q3 q4 q5 q6 q q7 q8 q9
    · by_cases q : c = 1154
      · subst q; rw [upA_self]
      · rw [upA_ne q, up2_ne (by omega)]; exact ey c g1 g2 g3 g4 g5 g6 g7 q g8 g9 g10 g11
    · show upd (y' 1100) 52 (y 1100 52) j = _
      unfold upd
      by_cases q : j = 52
      · rw [if_pos q, q]
      · rw [if_neg q]; exact ey0 j g1 g2 g3 g4 q
  have hW : ∀ r, r < nr → prW (upA (up2 y' 1100 52 (y 1100 52)) 1154 (y 1154)) N n r := fun r hr => h1.pw hr
  obtain ⟨⟨a1, a2, a3, a4⟩, b, c, d, f, g, k1, hc, hp, l, o⟩ := h1
  have ez : ∀ c, c ≠ 200 → c ≠ 210 → z' c = upA (up2 z' 200 10 (z 200 10)) 210 (z 210) c := fun c q1 q2 => by rw [upA_ne q2, up2_ne q1]
  have eY : ∀ c, c ≠ 1100 → c ≠ 1154 → y' c = upA (up2 y' 1100 52 (y 1100 52)) 1154 (y 1154) c := fun c q1 q2 => by rw [upA_ne q2, up2_ne q1]
  refine ⟨⟨a1, a2, a3, a4.c rfl rfl (fun r => ez _ (by omega) (by omega)) rfl (fun c hc => by simp only [List.mem_cons, List.mem_nil_iff, or_false] at hc; exact eY c (by omega) (by omega))⟩, b, c, d.c (fun r => ez _ (by omega) (by omega)) (fun c hc => by simp only [List.mem_cons, List.mem_nil_iff, or_false] at hc; exact ez c (by omega) (by omega)), (f.z (fun c hc => ez c (by omega) (by omega))).y rfl (fun c hc => by simp only [List.mem_cons, List.mem_nil_iff, or_false] at hc; exact eY c (by omega) (by omega)), g, ⟨fun c9 g9 q1 q2 => ?_, k1.2.1, hm, k1.2.2.2⟩, hc, hp.c (n := n) (fun r => ez _ (by omega) (by omega)) rfl (fun r hr => ⟨⟨rfl, rfl, rfl⟩, fun i _ => ⟨rfl, rfl, rfl, rfl⟩, rfl, fun l _ => rfl⟩) hW, l.c (fun k j h9 => by unfold dynF at h9; rw [ez k (by omega) (by omega)]), o⟩
  rw [ez (910 + c9) (by omega) (by omega)]; exact k1.1 c9 g9 q1 q2
theorem s_names (h : RLp I ac m N n nr NS w t ar z y) {cp : Nat} (hcp : y 1141 3 = nI cp) (h1 : 1 ≤ cp) (h3 : cp ≤ 3) (x1 a : Int32) (b : fr_V) (hq : nmQ z ac m N n w x1 a b) : a = (f_names11 y m n N cp x1).1 ∧ RLp I ac m N n nr NS w t ar b (f_names11 y m n N cp x1).2 := by
  have h0 := h.th 0
  have hw := h.1.2.1
  have hn := h.1.2.2.1.1
  unfold nmQ at hq
  unfold f_names11 f_X11_isIn
  by_cases c1 : x1 < 0
  · rw [if_pos c1] at hq
    obtain ⟨rfl, rfl⟩ := hq
    simp only [if_pos c1, if_pos z00, ite_true]
    exact ⟨trivial, h0⟩
  · rw [if_neg c1] at hq
    by_cases c2 : x1 ≤ 99999
    · rw [if_pos c2] at hq
      simp only [if_neg c1, if_neg (Int32.not_lt.mpr c2), if_neg n10]
      obtain ⟨z1, hz1, ea, eb⟩ := hq
      rw [h.2.1.2]
      have K := h0.kR hw
      have H := (h0.kw hw).kn (nI w)
      generalize hZ : f_kw z N (nI w) = Z at hz1 ea eb H K
      generalize hK : f_know (up2 y 1100 2 0) N (nI w) = Kn at H K ⊢
      have hcpK : Kn 1141 3 = nI cp := by rw [← hK, know_o (by decide) (by decide)]; exact hcp
      have hset : f_set Z ac 3 = nI cp := by
        obtain ⟨-, -, -, -, -, -, -, -, -, q3, -, -, g3, g4⟩ := H.2.2.2.2.1
        rw [hcpK] at g4
        rw [g3, ← g4]
      have kO := (H.of K n (Nat.le_refl _)).1
      have xO := (H.of K n (Nat.le_refl _)).2
      have hkle : ofK Z ac m n ≤ 12 := Nat.le_trans (ofK_le Z ac m n) hn
      have fw : ∀ c, c ≠ 310 → c ≠ 200 → c ≠ 201 → c ≠ 202 → c ≠ 203 → c ≠ 205 → c ≠ 210 → c ≠ 900 → c ≠ 906 → c ≠ 907 → z1 c = Z c := fun c _ q2 q3 q4 q5 _ _ q7 q8 q9 => hz1.1 c q7 q8 q9 q2 q3 q4 q5
      have H1 : RLp I ac m N n nr NS w t ar Z (nm1 Kn m n) := H.y ⟨fun c _ _ _ _ _ _ _ _ g9 _ _ => upA_ne g9, fun j _ _ _ _ => rfl⟩
      unfold nm6
      unfold f_choose at ea eb
      rw [hset, cr_rw] at ea eb
      rw [hcpK, kO]
      by_cases c3 : rwF (nI cp) (ofK Z ac m n) ≤ 5000
      · rw [if_pos c3] at ea eb
        rw [if_pos c3]
        obtain ⟨eR, hR⟩ := rw_pow h1 h3 (ofK Z ac m n) c3
        rw [eR, nI_clamp (by omega)] at ea eb
        rw [eR, nI_clamp (by omega)]
        have hpos : 0 < (cp + 1) ^ ofK Z ac m n := Nat.pow_pos (by omega)
        obtain ⟨fo, hfo⟩ := of_ex Z ac m n
        have L2 : RLp I ac m N n nr NS w t ar Z (nm2 Kn m n N) := H1.lay 0
        have eO : ∀ i, i < ofK Z ac m n → nm2 Kn m n N 1156 i = nI (fo i) := fun i hi => by
          unfold nm2
          rw [f_lay_m ⟨by omega, by decide, by decide, by decide⟩]
          show upA Kn 1156 (oX Kn m (Kn 1156) n) 1156 i = _
          rw [upA_self, xO]
          exact (hfo i hi).2 (fun i => nI i) (Kn 1156)
        generalize hC : nm3 (nm2 Kn m n N) m (ofK Z ac m n) = C
        have eC6 : C 1156 = nm2 Kn m n N 1156 := by rw [← hC]; unfold nm3; rw [upA_ne (by decide), upA_ne (by decide)]
        have eC8 : ∀ i, i < ofK Z ac m n → C 1158 i = prX Z ac m (fo i) := fun i hi => by
          rw [← hC]
          show pR (nm2 Kn m n N) m (nm2 Kn m n N 1156) (nm2 Kn m n N 1158) (ofK Z ac m n) i = _
          rw [pR_at _ _ hi, eO i hi]
          exact ((L2.may (x1 := nI (fo i)) (x2 := (-1)) (vp_in_nI (hfo i hi).1 (by omega)) (fun c => absurd rfl c)).2.1).symm
        have eC7 : ∀ i, i < ofK Z ac m n → C 1157 i = gnX Z ac m N n w (fo i) := fun i hi => by
          rw [← hC]
          show gR (nm2 Kn m n N) m (nm2 Kn m n N 1156) (nm2 Kn m n N 1157) (ofK Z ac m n) i = _
          rw [gR_at _ _ hi, eO i hi]
          unfold gnX prX
          rw [(L2.may (x1 := nI (fo i)) (x2 := (-1)) (vp_in_nI (hfo i hi).1 (by omega)) (fun c => absurd rfl c)).2.1, H1.wo1 (hfo i hi).1]
          rfl
        have A := ch_all (z1 := z1) (O := C 1156) (P := C 1158) (G := C 1157) (T0 := C 1155) (N0 := C 1154) (k := ofK Z ac m n) (x1 := x1) h1 h3 hkle c1 (fun i hi => by rw [hz1.2.2.1, (hfo i hi).2, eC6, eO i hi]) (fun i hi => by rw [hz1.2.2.2.1, (hfo i hi).2, eC8 i hi]) (fun i hi => by rw [hz1.2.2.2.2.1, (hfo i hi).2, eC7 i hi]) ((cp + 1) ^ ofK Z ac m n - 1) (by omega)
        rw [show (cp + 1) ^ ofK Z ac m n - 1 + 1 = (cp + 1) ^ ofK Z ac m n by omega] at A
        unfold nm5 nm4
        obtain ⟨b1, b2, b3, b4, b5, b6, b7, b8, b9, b10⟩ := A
        refine ⟨ea.trans b7.symm, ?_⟩
        rw [eb]
        refine L2.nm (fun c q1 q2 q3 q4 q5 q6 q7 q8 q9 q10 => (b1 c q2 q6 q7).trans (fw c q1 q2 q3 q4 q5 q6 q7 q8 q9 q10)) (fun c g1 g2 g3 g4 g5 g6 g7 g8 g9 g10 g11 g12 => ?_) (fun j g1 g2 g3 g4 g5 => ?_) ⟨?_, fun l hl => ?_⟩
        · show up2 (upA (upA C 1155 _) 1154 _) 1100 52 1 c = _
          rw [up2_ne (by omega), upA_ne g8, upA_ne g9, ← hC]
          unfold nm3
          rw [upA_ne g11, upA_ne g12]
        · show up2 (upA (upA C 1155 _) 1154 _) 1100 52 1 1100 j = _
          rw [up2_self]; unfold upd; rw [if_neg g5, upA_ne (by decide), upA_ne (by decide), ← hC]; unfold nm3; rw [upA_ne (by decide), upA_ne (by decide)]
        · dsimp only
          rw [up2_self]; unfold upd; rw [if_pos rfl, b2]
        · dsimp only
          rw [up2_ne (by decide), upA_self]; exact (b9 l hl).symm
      · rw [if_neg c3] at ea eb
        rw [if_neg c3]
        refine ⟨ea, ?_⟩
        rw [eb]
        have M := H1.2.2.2.2.2.2.1.2.2.1
        refine H1.nm fw (fun c g1 g2 g3 g4 g5 g6 g7 g8 g9 g10 g11 g12 => rfl) (fun j g1 g2 g3 g4 g5 => rfl) ⟨?_, fun l hl => ?_⟩
        · dsimp only; rw [hz1.2.2.2.2.2]; exact M.1
        · dsimp only; rw [hz1.1 210 (by decide) (by decide) (by decide) (by decide) (by decide) (by decide) (by decide)]; exact M.2 l hl
    · rw [if_neg c2] at hq
      obtain ⟨rfl, rfl⟩ := hq
      simp only [if_neg c1, if_pos (Int32.not_le.mp c2), if_pos z00, ite_true]
      exact ⟨trivial, h0⟩
end STP
