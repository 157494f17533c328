theorem sc_c {P P' : Nat → Prop} {E : Nat} (h : ∀ i, i < E → (P i ↔ P' i)) : ∀ d, d ≤ E → sc P E d = sc P' E d := by
  intro d
  induction d with
  | zero => intro _; rfl
  | succ d ih =>
    intro hd
    by_cases c : P (E - (d + 1))
    · rw [sc_p c, sc_p ((h _ (by omega)).mp c), ih (by omega)]
    · rw [sc_n c, sc_n (fun q => c ((h _ (by omega)).mpr q))]
theorem wm_c {W W' : Nat → Int32} {a b k E : Nat} (h : ∀ i, i < E → W i = W' i) (hb : b ≤ E) : wm W a b k ↔ wm W' a b k := by
  unfold wm
  constructor
  · intro ⟨e, q⟩
    exact ⟨e, fun i hi => by rw [← h (a + i) (by omega)]; exact q i hi⟩
  · intro ⟨e, q⟩
    exact ⟨e, fun i hi => by rw [h (a + i) (by omega)]; exact q i hi⟩
theorem wm_u0 : ∀ j, j < 15 → ∀ k, k < 15 → wlen j = wlen k → (∀ i, i < wlen j → wd (wst j + i) = wd (wst k + i)) → j = k := by decide +kernel
theorem wm_u {W : Nat → Int32} {a b j k : Nat} (hj : j < 15) (hk : k < 15) (h1 : wm W a b j) (h2 : wm W a b k) : j = k :=
  wm_u0 j hj k hk (h1.1.trans h2.1.symm) (fun i hi => (h1.2 i hi).trans (h2.2 i (by rw [h2.1, ← h1.1]; exact hi)).symm)
theorem wA_at {W : Nat → Int32} {a b k : Nat} (h : wm W a b k) (hk : k < 15) : ∀ d, d ≤ 15 → 15 - d ≤ k → wA W a b d = nI k := by
  intro d
  induction d with
  | zero => intro _ q; omega
  | succ d ih =>
    intro hd q
    by_cases c : wm W a b (14 - d)
    · rw [wA_p c, wm_u (by omega) hk c h]
    · rw [wA_n c]
      refine ih (by omega) ?_
      by_cases e : k = 14 - d
      · subst e; exact absurd h c
      · omega
theorem wA_no {W : Nat → Int32} {a b : Nat} (h : ∀ k, k < 15 → ¬ wm W a b k) : ∀ d, d ≤ 15 → wA W a b d = (-1) := by
  intro d
  induction d with
  | zero => intro _; rfl
  | succ d ih => intro hd; rw [wA_n (h _ (by omega))]; exact ih (by omega)
theorem kwF_at {W : Nat → Int32} {a b k : Nat} (h : wm W a b k) : ∀ d, d ≤ 15 → k < d → kwF W a b (-1) d = nI (3000 + k) := by
  intro d
  induction d with
  | zero => intro _ q; omega
  | succ d ih =>
    intro hd q
    by_cases c : wm W a b d
    · rw [kwF_p c, wm_u (j := d) (k := k) (by omega) (by omega) c h]
    · rw [kwF_n c]
      refine ih (by omega) ?_
      by_cases e : k = d
      · subst e; exact absurd h c
      · omega
theorem kwF_no {W : Nat → Int32} {a b : Nat} (h : ∀ k, k < 15 → ¬ wm W a b k) : ∀ d, d ≤ 15 → kwF W a b (-1) d = (-1) := by
  intro d
  induction d with
  | zero => intro _; rfl
  | succ d ih => intro hd; rw [kwF_n (h _ (by omega))]; exact ih (by omega)
/-- two numbers read alike: equal, or both too great -/
def numR (a b : Int32) : Prop := (∃ n, n ≤ 9999 ∧ a = nI n ∧ b = nI n) ∨ ∃ n k, 9999 < n ∧ n ≤ 100000 ∧ 9999 < k ∧ k < 100000 ∧ a = nI n ∧ b = nI k
theorem dg_of {W : Nat → Int32} {p : Nat} (h : isDg W p) : ∃ c, c ≤ 9 ∧ W p = nI (48 + c) := by
  obtain ⟨c, hc, e⟩ := nI_of2 (M := 57) (n := 57) (x := W p) rfl (fun q => h.1 (Int32.lt_trans q (by decide))) (Int32.not_lt.mp h.2)
  have : 48 ≤ c := by
    rcases Nat.lt_or_ge c 48 with q | q
    · exact absurd (by rw [e]; exact nI_lt (b := 48) q (by decide)) h.1
    · exact q
  exact ⟨c - 48, by omega, by rw [e]; congr 1; omega⟩
theorem dg_v (n c : Nat) : nI n * 10 + nI (48 + c) - 48 = nI (10 * n + c) := by
  rw [show (10 : Int32) = nI 10 from rfl, show (48 : Int32) = nI 48 from rfl, pk_mul, nI_add, nI_sub (by omega)]
  congr 1
  omega
theorem dg_w (n c : Nat) : 10 * nI n + nI (48 + c) - 48 = nI (10 * n + c) := by
  rw [show (10 : Int32) = nI 10 from rfl, show (48 : Int32) = nI 48 from rfl, pk_mul, nI_add, nI_sub (by omega)]
  congr 1
  omega
theorem num_s {a b x : Int32} {c : Nat} (hc : c ≤ 9) (hx : x = nI (48 + c)) (h : numR a b) : numR (if a * 10 + x - 48 < 100000 then a * 10 + x - 48 else 100000) (if b ≤ 9999 then 10 * b + x - 48 else b) := by
  subst hx
  rcases h with ⟨n, hn, rfl, rfl⟩ | ⟨n, k, h1, h2, h3, h4, rfl, rfl⟩
  · rw [dg_v, dg_w, if_pos (show nI (10 * n + c) < 100000 from nI_lt (b := 100000) (by omega) (by decide)), if_pos (show nI n ≤ 9999 from nI_le (b := 9999) hn (by decide))]
    by_cases e : 10 * n + c ≤ 9999
    · exact Or.inl ⟨10 * n + c, e, rfl, rfl⟩
    · exact Or.inr ⟨10 * n + c, 10 * n + c, by omega, by omega, by omega, by omega, rfl, rfl⟩
  · rw [dg_v, if_neg (show ¬ nI (10 * n + c) < 100000 from nI_nlt (b := 100000) (by omega) (by omega)), if_neg (show ¬ nI k ≤ 9999 from nI_ge (a := 9999) h3 (by omega))]
    exact Or.inr ⟨100000, k, by omega, by omega, h3, h4, rfl, rfl⟩
theorem num_R {W W' : Nat → Int32} {E : Nat} (h : ∀ i, i < E → W i = W' i) : ∀ d a b, d ≤ E → numR a b → numR (dg6 W E d a) (dgF W' E d b) := by
  intro d
  induction d with
  | zero => intro a b _ q; exact q
  | succ d ih =>
    intro a b hd q
    have e := h (E - (d + 1)) (by omega)
    have ei : isDg W (E - (d + 1)) ↔ isDg W' (E - (d + 1)) := by unfold isDg; rw [e]
    by_cases c : isDg W (E - (d + 1))
    · rw [dg6_p c, dgF_p (ei.mp c)]
      obtain ⟨k, hk, hk2⟩ := dg_of c
      refine ih _ _ (by omega) ?_
      rw [← e]
      exact num_s hk hk2 q
    · rw [dg6_n c, dgF_n (fun w => c (ei.mpr w))]; exact q
/-- the same token in the class (y, taken) and in the reference (v, taken) -/
def tkR (y v : fr_V) : Prop := (∃ w, w < 15 ∧ v 1100 27 = 1 ∧ v 1100 28 = nI w ∧ woOf y = some w ∧ y 600 11 = 0) ∨ (v 1100 27 = 2 ∧ woOf y = none ∧ y 600 11 = 1 ∧ numR (y 600 12) (v 1100 28)) ∨ (v 1100 27 = 3 ∧ woOf y = none ∧ y 600 11 = 2) ∨ (v 1100 27 = 4 ∧ woOf y = none ∧ (y 600 11 = 0 ∨ y 600 11 = 3))
theorem wo_some {y : fr_V} {w : Nat} (hw : w < 15) (h : y 600 13 = nI (3000 + w)) : woOf y = some w := by
  unfold woOf
  rw [h, if_neg (nI_pos (by omega)), nI_clamp (by omega), show 3000 + w - 3000 = w by omega]
theorem wo_none {y : fr_V} (h : y 600 13 = (-1)) : woOf y = none := by unfold woOf; rw [h]; rfl
theorem u6 {w : fr_V} {k j i : Nat} {x : Int32} (hi : i ≠ j) : up2 w k j x k i = w k i := by rw [up2_self, pk_un hi]
theorem u6s {w : fr_V} {k j : Nat} {x : Int32} : up2 w k j x k j = x := by rw [up2_self, pk_us]
theorem tk_R {z v : fr_V} {E q : Nat} (hE : E ≤ 500) (hq : q < E) (hW : ∀ i, i < E → z 601 i = v 1101 i) : tkR (f_tt z E q) (f_tk v E q) ∧ (∃ b, q < b ∧ b ≤ E ∧ f_tt z E q 600 10 = nI b ∧ f_tk v E q 1100 26 = nI b) ∧ f_tk v E q 1100 29 = nI q := by
  have eL : ∀ i, i < E → (isLt (z 601) i ↔ isLt (v 1101) i) := fun i hi => by unfold isLt; rw [hW i hi]
  have eD : ∀ i, i < E → (isDg (z 601) i ↔ isDg (v 1101) i) := fun i hi => by unfold isDg; rw [hW i hi]
  have hEq : E - q = (E - (q + 1)) + 1 := by omega
  have hqq : E - ((E - (q + 1)) + 1) = q := by omega
  unfold f_tt f_tk
  rw [if_neg (show ¬ q = E by omega)]
  by_cases c1 : isLt (z 601) q
  · have c2 := (eL q hq).mp c1
    rw [if_pos c1, if_pos c2]
    unfold f_tw
    have es : sc (isLt (v 1101)) E (E - q) = sc (isLt (z 601)) E (E - (q + 1)) := by
      rw [hEq, sc_p (by rw [hqq]; exact c2)]
      exact (sc_c eL _ (by omega)).symm
    rw [es]
    have hs := sc_le (isLt (z 601)) E (E - (q + 1)) (by omega)
    have ew : ∀ k, wm (z 601) q (sc (isLt (z 601)) E (E - (q + 1))) k ↔ wm (v 1101) q (sc (isLt (z 601)) E (E - (q + 1))) k := fun k => wm_c hW hs.2
    have e13 : (up2 (up2 (up2 z 600 10 (nI (q + 1))) 600 13 (-1)) 600 12 0) 600 13 = (-1) := by rw [u6 (by decide), u6s]
    have e601 : (up2 (up2 (up2 z 600 10 (nI (q + 1))) 600 13 (-1)) 600 12 0) 601 = z 601 := rfl
    rw [e13, e601]
    refine ⟨?_, ⟨sc (isLt (z 601)) E (E - (q + 1)), by omega, hs.2, by rw [u6 (by decide), u6s], by rw [u6 (by decide), u6 (by decide), u6s]⟩, by rw [u6 (by decide), u6 (by decide), u6 (by decide), u6s]⟩
    by_cases hx : ∃ k, k < 15 ∧ wm (z 601) q (sc (isLt (z 601)) E (E - (q + 1))) k
    · obtain ⟨k, hk, h9⟩ := hx
      rw [kwF_at h9 15 (by omega) hk, wA_at ((ew k).mp h9) hk 15 (by omega) (by omega)]
      refine Or.inl ⟨k, hk, by rw [u6s, if_pos (nI_pos' (by omega))], by rw [u6 (by decide), u6s], wo_some hk (by rw [u6s]), by rw [u6 (by decide), u6 (by decide), u6s]⟩
    · have hn : ∀ k, k < 15 → ¬ wm (z 601) q (sc (isLt (z 601)) E (E - (q + 1))) k := fun k hk h9 => hx ⟨k, hk, h9⟩
      rw [kwF_no hn 15 (by omega), wA_no (fun k hk h9 => hn k hk ((ew k).mpr h9)) 15 (by omega)]
      exact Or.inr (Or.inr (Or.inr ⟨by rw [u6s]; decide, wo_none (by rw [u6s]), Or.inl (by rw [u6 (by decide), u6 (by decide), u6s])⟩))
  · have c2 : ¬ isLt (v 1101) q := fun h => c1 ((eL q hq).mpr h)
    rw [if_neg c1, if_neg c2]
    by_cases c3 : isDg (z 601) q
    · have c4 := (eD q hq).mp c3
      rw [if_pos c3, if_pos c4]
      unfold f_tn
      have es : sc (isDg (v 1101)) E (E - q) = sc (isDg (z 601)) E (E - (q + 1)) := by
        rw [hEq, sc_p (by rw [hqq]; exact c4)]
        exact (sc_c eD _ (by omega)).symm
      have hs := sc_le (isDg (z 601)) E (E - (q + 1)) (by omega)
      have e601 : (up2 (up2 (up2 z 600 10 (nI (q + 1))) 600 13 (-1)) 600 12 0) 601 = z 601 := rfl
      have ed : dgF (v 1101) E (E - q) 0 = dgF (v 1101) E (E - (q + 1)) (z 601 q - 48) := by
        rw [hEq, dgF_p (by rw [hqq]; exact c4), hqq, if_pos (show (0 : Int32) ≤ 9999 by decide), hW q hq]
        obtain ⟨k, hk, hk2⟩ := dg_of c4
        rw [hk2]
        congr 1
        rw [show (10 : Int32) * 0 = 0 from by decide, Int32.zero_add]
      rw [es, ed, e601]
      refine ⟨Or.inr (Or.inl ⟨by rw [u6 (by decide), u6 (by decide), u6s], wo_none (by rw [u6 (by decide), u6 (by decide), u6 (by decide), u6 (by decide), u6s]), by rw [u6 (by decide), u6 (by decide), u6s], ?_⟩), ⟨sc (isDg (z 601)) E (E - (q + 1)), by omega, hs.2, by rw [u6s], by rw [u6s]⟩, by rw [u6 (by decide), u6 (by decide), u6 (by decide), u6s]⟩
      rw [u6 (by decide), u6s, u6 (by decide), u6s]
      obtain ⟨k, hk, hk2⟩ := dg_of c3
      refine num_R hW _ _ _ (by omega) (Or.inl ⟨k, by omega, ?_, ?_⟩)
      · rw [hk2, show (48 : Int32) = nI 48 from rfl, nI_sub (by omega)]; congr 1; omega
      · rw [hk2, show (48 : Int32) = nI 48 from rfl, nI_sub (by omega)]; congr 1; omega
    · rw [if_neg c3, if_neg (fun h => c3 ((eD q hq).mpr h))]
      refine ⟨?_, ⟨q + 1, by omega, by omega, by rw [u6 (by decide), u6 (by decide), u6 (by decide), u6s], by rw [u6s]; exact nI_1 q⟩, by rw [u6 (by decide), u6 (by decide), u6s]⟩
      have e13 : woOf (up2 (up2 (up2 (up2 z 600 10 (nI (q + 1))) 600 13 (-1)) 600 12 0) 600 11 (if z 601 q = 59 then 2 else 3)) = none := wo_none (by rw [u6 (by decide), u6 (by decide), u6s])
      by_cases c5 : z 601 q = 59
      · rw [if_pos c5] at e13 ⊢
        rw [if_pos (by rw [← hW q hq]; exact c5)]
        exact Or.inr (Or.inr (Or.inl ⟨by rw [u6 (by decide), u6s], e13, by rw [u6s]⟩))
      · rw [if_neg c5] at e13 ⊢
        rw [if_neg (by rw [← hW q hq]; exact c5)]
        exact Or.inr (Or.inr (Or.inr ⟨by rw [u6 (by decide), u6s], e13, Or.inr (by rw [u6s])⟩))
theorem tk_E {v : fr_V} {E : Nat} : f_tk v E E 1100 27 = 0 ∧ f_tk v E E 1100 29 = nI E := by
  unfold f_tk
  rw [if_pos rfl]
  exact ⟨by rw [u6s], by rw [u6 (by decide), u6s]⟩
theorem tk_f {v : fr_V} {E q : Nat} : (∀ c, c ≠ 1100 → f_tk v E q c = v c) ∧ ∀ j, j < 26 ∨ 29 < j → f_tk v E q 1100 j = v 1100 j := by
  unfold f_tk
  by_cases c0 : q = E
  · rw [if_pos c0]
    exact ⟨fun c hc => by rw [up2_ne hc, up2_ne hc, up2_ne hc], fun j hj => by rw [u6 (by omega), u6 (by omega), u6 (by omega)]⟩
  · rw [if_neg c0]
    by_cases c1 : isLt (v 1101) q
    · rw [if_pos c1]
      exact ⟨fun c hc => by rw [up2_ne hc, up2_ne hc, up2_ne hc, up2_ne hc, up2_ne hc], fun j hj => by rw [u6 (by omega), u6 (by omega), u6 (by omega), u6 (by omega), u6 (by omega)]⟩
    · rw [if_neg c1]
      by_cases c2 : isDg (v 1101) q
      · rw [if_pos c2]
        exact ⟨fun c hc => by rw [up2_ne hc, up2_ne hc, up2_ne hc, up2_ne hc, up2_ne hc], fun j hj => by rw [u6 (by omega), u6 (by omega), u6 (by omega), u6 (by omega), u6 (by omega)]⟩
      · rw [if_neg c2]
        exact ⟨fun c hc => by rw [up2_ne hc, up2_ne hc, up2_ne hc, up2_ne hc], fun j hj => by rw [u6 (by omega), u6 (by omega), u6 (by omega), u6 (by omega)]⟩
