/-- digits, the last one least -/
def dgD (b : Nat) : Nat → Nat → Nat → Nat
  | 0, _, _ => 0
  | s + 1, w, i => if i = s then w % b else dgD b s (w / b) i
def vS (b : Nat) (G : Nat → Int32) : Nat → Nat → Int32
  | 0, _ => 0
  | s + 1, w => nI (w % b) * G s + vS b G s (w / b)
theorem dS_v (b : Nat) (G : Nat → Int32) : ∀ k w s, dS b G k w s = s + vS b G k w := by
  intro k
  induction k with
  | zero => intro w s; show s = s + 0; rw [Int32.add_zero]
  | succ k ih => intro w s; show dS b G k (w / b) (s + nI (w % b) * G k) = s + (nI (w % b) * G k + vS b G k (w / b)); rw [ih, Int32.add_assoc]
theorem dT_v (b : Nat) : ∀ k w (f : Nat → Int32) i, dT b k w f i = if i < k then nI (dgD b k w i) else f i := by
  intro k
  induction k with
  | zero => intro w f i; rw [if_neg (by omega)]; rfl
  | succ k ih =>
    intro w f i
    show dT b k (w / b) (upd f k (nI (w % b))) i = _
    rw [ih]
    show _ = if i < k + 1 then nI (if i = k then w % b else dgD b k (w / b) i) else f i
    by_cases e : i = k
    · subst e
      rw [if_neg (by omega), if_pos (by omega), if_pos rfl]
      unfold upd; rw [if_pos rfl]
    · by_cases l : i < k
      · rw [if_pos l, if_pos (by omega), if_neg e]
      · rw [if_neg l, if_neg (by omega)]
        unfold upd; rw [if_neg e]
theorem vS_0 (b : Nat) (hb : 0 < b) (G : Nat → Int32) : ∀ k, vS b G k 0 = 0 := by
  intro k
  induction k with
  | zero => rfl
  | succ k ih => show nI (0 % b) * G k + vS b G k (0 / b) = 0; rw [Nat.zero_mod, Nat.zero_div, ih, nI_0, Int32.zero_mul, Int32.add_zero]
theorem dg_0 (b : Nat) : ∀ k i, dgD b k 0 i = 0 := by
  intro k
  induction k with
  | zero => intro i; rfl
  | succ k ih => intro i; show (if i = k then 0 % b else dgD b k (0 / b) i) = 0; rw [Nat.zero_mod, Nat.zero_div, ih i, ite_self]
theorem vS_e {b : Nat} {G G' : Nat → Int32} : ∀ k w, (∀ i, i < k → G i = G' i) → vS b G k w = vS b G' k w := by
  intro k
  induction k with
  | zero => intro _ _; rfl
  | succ k ih => intro w h; show nI (w % b) * G k + vS b G k (w / b) = nI (w % b) * G' k + vS b G' k (w / b); rw [h k (by omega), ih _ (fun i hi => h i (by omega))]
theorem i_mv (a x y9 : Int32) : a - x - y9 + (0 + (y9 + 0)) = a - x := by
  rw [Int32.add_zero, Int32.zero_add, Int32.sub_add_cancel]
/-- the coins turn like a number that counts up -/
theorem tn_is {cp : Nat} (h1 : 1 ≤ cp) (h3 : cp ≤ 3) : ∀ s w (z : fr_V), w + 1 < (cp + 1) ^ s → (∀ i, i < s → z 205 i = nI (dgD (cp + 1) s w i)) →
    (∀ i, i < s → tnF (nI cp) s z 205 i = nI (dgD (cp + 1) s (w + 1) i)) ∧ (∀ i, s ≤ i → tnF (nI cp) s z 205 i = z 205 i) ∧ tnF (nI cp) s z 200 5 + vS (cp + 1) (z 202) s w = z 200 5 + vS (cp + 1) (z 202) s (w + 1) ∧ tnF (nI cp) s z 200 6 + vS (cp + 1) (z 203) s w = z 200 6 + vS (cp + 1) (z 203) s (w + 1) ∧ (∀ c, c ≠ 200 → c ≠ 205 → tnF (nI cp) s z c = z c) ∧ ∀ j, j ≠ 5 → j ≠ 6 → tnF (nI cp) s z 200 j = z 200 j := by
  intro s
  induction s with
  | zero => intro w z h _; exact absurd h (by show ¬ w + 1 < 1; omega)
  | succ s ih =>
    intro w z hw hz
    have hds : z 205 s = nI (w % (cp + 1)) := by rw [hz s (by omega)]; show nI (if s = s then _ else _) = _; rw [if_pos rfl]
    have hm : w % (cp + 1) < cp + 1 := Nat.mod_lt _ (by omega)
    have hdm : (cp + 1) * (w / (cp + 1)) + w % (cp + 1) = w := Nat.div_add_mod w (cp + 1)
    have hd : ∀ i, i < s → z 205 i = nI (dgD (cp + 1) s (w / (cp + 1)) i) := fun i hi => by rw [hz i (by omega)]; show nI (if i = s then _ else _) = _; rw [if_neg (by omega)]
    show (∀ i, i < s + 1 → tnG (nI cp) (tnF (nI cp) s) s z 205 i = _) ∧ (∀ i, s + 1 ≤ i → tnG (nI cp) (tnF (nI cp) s) s z 205 i = _) ∧ tnG (nI cp) (tnF (nI cp) s) s z 200 5 + (nI (w % (cp + 1)) * z 202 s + vS (cp + 1) (z 202) s (w / (cp + 1))) = z 200 5 + (nI ((w + 1) % (cp + 1)) * z 202 s + vS (cp + 1) (z 202) s ((w + 1) / (cp + 1))) ∧ tnG (nI cp) (tnF (nI cp) s) s z 200 6 + (nI (w % (cp + 1)) * z 203 s + vS (cp + 1) (z 203) s (w / (cp + 1))) = z 200 6 + (nI ((w + 1) % (cp + 1)) * z 203 s + vS (cp + 1) (z 203) s ((w + 1) / (cp + 1))) ∧ (∀ c, c ≠ 200 → c ≠ 205 → tnG (nI cp) (tnF (nI cp) s) s z c = z c) ∧ ∀ j, j ≠ 5 → j ≠ 6 → tnG (nI cp) (tnF (nI cp) s) s z 200 j = z 200 j
    unfold tnG
    by_cases c : nI cp ≤ z 205 s
    · have hc : w % (cp + 1) = cp := by
        rw [hds, nI_leI (by omega) (by omega)] at c; omega
      have e1 : (w + 1) / (cp + 1) = w / (cp + 1) + 1 := by
        have : w + 1 = (cp + 1) * (w / (cp + 1) + 1) := by rw [Nat.mul_add, Nat.mul_one]; omega
        rw [this, Nat.mul_div_cancel_left _ (by omega)]
      have e2 : (w + 1) % (cp + 1) = 0 := by
        have : w + 1 = (cp + 1) * (w / (cp + 1) + 1) := by rw [Nat.mul_add, Nat.mul_one]; omega
        rw [this, Nat.mul_mod_right]
      have hw2 : w / (cp + 1) + 1 < (cp + 1) ^ s := by
        have h9 : (cp + 1) * (w / (cp + 1) + 1) < (cp + 1) * (cp + 1) ^ s := by
          rw [Nat.mul_add, Nat.mul_one, show (cp + 1) * (cp + 1) ^ s = (cp + 1) ^ (s + 1) by rw [Nat.pow_succ, Nat.mul_comm]]; omega
        exact Nat.lt_of_mul_lt_mul_left h9
      rw [if_pos c]
      generalize hz1 : up2 (up2 (up2 z 200 5 (z 200 5 - z 205 s * z 202 s)) 200 6 (z 200 6 - z 205 s * z 203 s)) 205 s 0 = z1
      have f205 : ∀ i, i ≠ s → z1 205 i = z 205 i := fun i hi => by rw [← hz1, up2_self]; unfold upd; rw [if_neg hi]; rfl
      have f205s : z1 205 s = 0 := by rw [← hz1, up2_self]; unfold upd; rw [if_pos rfl]
      have f5 : z1 200 5 = z 200 5 - z 205 s * z 202 s := by rw [← hz1]; rfl
      have f6 : z1 200 6 = z 200 6 - z 205 s * z 203 s := by rw [← hz1]; rfl
      have fo : ∀ c, c ≠ 200 → c ≠ 205 → z1 c = z c := fun c q1 q2 => by rw [← hz1, up2_ne q2, up2_ne q1, up2_ne q1]
      have fj : ∀ j, j ≠ 5 → j ≠ 6 → z1 200 j = z 200 j := fun j q5 q6 => by
        rw [← hz1]
        show upd (upd (z 200) 5 _) 6 _ j = _
        unfold upd; rw [if_neg q6, if_neg q5]
      obtain ⟨a1, a2, a3, a4, a5, a6⟩ := ih (w / (cp + 1)) z1 hw2 (fun i hi => by rw [f205 i (by omega)]; exact hd i hi)
      rw [fo 202 (by decide) (by decide)] at a3
      rw [fo 203 (by decide) (by decide)] at a4
      rw [e1, e2, nI_0, Int32.zero_mul, Int32.zero_mul, Int32.zero_add, Int32.zero_add]
      have fin : ∀ (T A D X V0 V1 : Int32), A = D - X → T + V0 = A + V1 → T + (X + V0) = D + V1 := fun T A D X V0 V1 q1 q2 => by
        rw [Int32.add_comm X, ← Int32.add_assoc, q2, q1, Int32.add_assoc, Int32.add_comm V1, ← Int32.add_assoc, Int32.sub_add_cancel]
      refine ⟨fun i hi => ?_, fun i hi => ?_, fin _ _ _ _ _ _ (by rw [f5, hds]) a3, fin _ _ _ _ _ _ (by rw [f6, hds]) a4, fun c q1 q2 => (a5 c q1 q2).trans (fo c q1 q2), fun j q5 q6 => (a6 j q5 q6).trans (fj j q5 q6)⟩
      · show _ = nI (if i = s then (w + 1) % (cp + 1) else dgD (cp + 1) s ((w + 1) / (cp + 1)) i)
        by_cases e : i = s
        · subst e; rw [if_pos rfl, e2, a2 i (Nat.le_refl _), f205s, nI_0]
        · rw [if_neg e, e1]; exact a1 i (by omega)
      · rw [a2 i (by omega), f205 i (by omega)]
    · have hc : w % (cp + 1) < cp := by
        rw [hds, nI_leI (by omega) (by omega)] at c; omega
      have e0 : w + 1 = (w % (cp + 1) + 1) + (cp + 1) * (w / (cp + 1)) := by omega
      have e1 : (w + 1) / (cp + 1) = w / (cp + 1) := by
        rw [e0, Nat.add_mul_div_left _ _ (by omega), Nat.div_eq_of_lt (by omega), Nat.zero_add]
      have e2 : (w + 1) % (cp + 1) = w % (cp + 1) + 1 := by
        rw [e0, Nat.add_mul_mod_self_left, Nat.mod_eq_of_lt (by omega)]
      rw [if_neg c, e1, e2]
      have fin : ∀ (D X V0 : Int32) (q : Nat), D + X + (nI q * X + V0) = D + (nI (q + 1) * X + V0) := fun D X V0 q => by
        rw [← nI_1, Int32.add_mul, Int32.one_mul, Int32.add_assoc, ← Int32.add_assoc X, Int32.add_comm X]
      refine ⟨fun i hi => ?_, fun i hi => ?_, fin _ _ _ _, fin _ _ _ _, fun c q1 q2 => by rw [up2_ne q1, up2_ne q1, up2_ne q2], fun j q5 q6 => ?_⟩
      · show upd (z 205) s (z 205 s + 1) i = nI (if i = s then (w + 1) % (cp + 1) else dgD (cp + 1) s ((w + 1) / (cp + 1)) i)
        unfold upd
        by_cases e : i = s
        · rw [if_pos e, if_pos e, e2, hds, nI_1]
        · rw [if_neg e, if_neg e, e1]; exact hd i (by omega)
      · show upd (z 205) s (z 205 s + 1) i = _
        unfold upd; rw [if_neg (by omega)]
      · show upd (upd (z 200) 5 _) 6 _ j = _
        unfold upd; rw [if_neg q6, if_neg q5]
theorem i_cancel {a b c : Int32} (h : a + c = b + c) : a = b := by
  have q : a + c - c = b + c - c := by rw [h]
  rw [Int32.add_sub_cancel, Int32.add_sub_cancel] at q
  exact q
theorem nS_e {O O' T T' f f' : Nat → Int32} {l : Nat} : ∀ k, (∀ j, j < k → O j = O' j ∧ T j = T' j) → (f l = f' l ∨ ∃ j, j < k ∧ (O j).toNatClampNeg = l) → nS O T f k l = nS O' T' f' k l := by
  intro k
  induction k with
  | zero =>
    intro _ h
    rcases h with h | ⟨j, hj, -⟩
    · exact h
    · omega
  | succ k ih =>
    intro h h0
    show upd (nS O T f k) (O k).toNatClampNeg (T k) l = upd (nS O' T' f' k) (O' k).toNatClampNeg (T' k) l
    obtain ⟨e1, e2⟩ := h k (by omega)
    rw [← e1, ← e2]
    unfold upd
    by_cases c : l = (O k).toNatClampNeg
    · rw [if_pos c, if_pos c]
    · rw [if_neg c, if_neg c]
      refine ih (fun j hj => h j (by omega)) ?_
      rcases h0 with h0 | ⟨j, hj, e⟩
      · exact Or.inl h0
      · refine Or.inr ⟨j, ?_, e⟩
        by_cases ej : j = k
        · subst ej; exact absurd e.symm c
        · omega
theorem kb_is (w0 : fr_V) : ∀ k, kbF w0 k 210 = nS (w0 201) (w0 205) (w0 210) k ∧ ∀ c, c ≠ 210 → kbF w0 k c = w0 c := by
  intro k
  induction k with
  | zero => exact ⟨rfl, fun _ _ => rfl⟩
  | succ k ih =>
    obtain ⟨a, b⟩ := ih
    refine ⟨?_, fun c hc => ?_⟩
    · show up2 (kbF w0 k) 210 (kbF w0 k 201 k).toNatClampNeg (kbF w0 k 205 k) 210 = _
      rw [up2_self, a, b 201 (by decide), b 205 (by decide)]; rfl
    · show up2 (kbF w0 k) 210 _ _ c = _
      rw [up2_ne hc]; exact b c hc
/-- what choosing has in hand: j rows were turned to -/
def chI (z1 : fr_V) (O P G : Nat → Int32) (k b j : Nat) (z : fr_V) (s : cdS) : Prop :=
  (∀ c, c ≠ 200 → c ≠ 205 → c ≠ 210 → z c = z1 c) ∧ z 200 10 = 1 ∧ (∀ i, i < k → z 205 i = nI (dgD b k j i)) ∧ z 200 5 = vS b P k j ∧ z 200 6 = vS b G k j ∧ ¬ s.1 = 0 ∧ s.2.1 = z 200 8 ∧ s.2.2.1 = z 200 7 ∧ (∀ l, l < 12 → s.2.2.2.2 l = z 210 l) ∧ ∀ l, l < 12 → (∀ i, i < k → ¬ (O i).toNatClampNeg = l) → z 210 l = 0
theorem ch_step {z1 : fr_V} {O P G : Nat → Int32} {k cp j : Nat} {z : fr_V} {s : cdS} {x1 : Int32} (h1 : 1 ≤ cp) (h3 : cp ≤ 3) (hO : ∀ i, i < k → z1 201 i = O i) (hP : ∀ i, i < k → z1 202 i = P i) (hG : ∀ i, i < k → z1 203 i = G i) (hj : j + 1 < (cp + 1) ^ k) (h : chI z1 O P G k (cp + 1) j z s) : chI z1 O P G k (cp + 1) (j + 1) (ch_t x1 (nI cp) k z) (cdT O G P k (cp + 1) x1 (j + 1) s) := by
  obtain ⟨a1, a2, a3, a4, a5, a6, a7, a8, a9, a10⟩ := h
  obtain ⟨t1, t2, t3, t4, t5, t6⟩ := tn_is h1 h3 k j z hj a3
  have g2 : z 202 = z1 202 := a1 202 (by decide) (by decide) (by decide)
  have g3 : z 203 = z1 203 := a1 203 (by decide) (by decide) (by decide)
  have g1 : z 201 = z1 201 := a1 201 (by decide) (by decide) (by decide)
  have c5 : tnF (nI cp) k z 200 5 = vS (cp + 1) P k (j + 1) := by
    rw [g2, vS_e k j hP, vS_e k (j + 1) hP, a4, Int32.add_comm (vS (cp + 1) P k j)] at t3
    exact i_cancel t3
  have c6 : tnF (nI cp) k z 200 6 = vS (cp + 1) G k (j + 1) := by
    rw [g3, vS_e k j hG, vS_e k (j + 1) hG, a5, Int32.add_comm (vS (cp + 1) G k j)] at t4
    exact i_cancel t4
  have T : chI z1 O P G k (cp + 1) (j + 1) (tnF (nI cp) k z) (s.1, s.2.1, s.2.2.1, dT (cp + 1) k (j + 1) s.2.2.2.1, s.2.2.2.2) :=
    ⟨fun c q1 q2 q3 => (t5 c q1 q2).trans (a1 c q1 q2 q3), by rw [t6 10 (by decide) (by decide)]; exact a2, t1, c5, c6, a6, by rw [t6 8 (by decide) (by decide)]; exact a7, by rw [t6 7 (by decide) (by decide)]; exact a8, fun l hl => by rw [t5 210 (by decide) (by decide)]; exact a9 l hl, fun l hl hno => by rw [t5 210 (by decide) (by decide)]; exact a10 l hl hno⟩
  have Kp : chI z1 O P G k (cp + 1) (j + 1) (f_keep2 (tnF (nI cp) k z) k) (cdA O k (vS (cp + 1) G k (j + 1)) (vS (cp + 1) P k (j + 1)) (dT (cp + 1) k (j + 1) s.2.2.2.1) s.2.2.2.2) := by
    obtain ⟨b1, b2⟩ := kb_is (up2 (up2 (tnF (nI cp) k z) 200 7 (tnF (nI cp) k z 200 5)) 200 8 (tnF (nI cp) k z 200 6)) k
    have e201 : ∀ i, i < k → tnF (nI cp) k z 201 i = O i := fun i hi => by rw [t5 201 (by decide) (by decide), g1]; exact hO i hi
    have row : ∀ l, l < 12 → nS O (dT (cp + 1) k (j + 1) s.2.2.2.1) (fl 0 s.2.2.2.2 12) k l = f_keep2 (tnF (nI cp) k z) k 210 l := fun l hl => by
      unfold f_keep2
      rw [b1]
      symm
      refine nS_e k (fun i hi => ⟨e201 i hi, ?_⟩) ?_
      · rw [dT_v, if_pos hi]; exact t1 i hi
      · by_cases q : ∃ i, i < k ∧ (O i).toNatClampNeg = l
        · obtain ⟨i, hi, e⟩ := q
          exact Or.inr ⟨i, hi, by rw [show up2 (up2 (tnF (nI cp) k z) 200 7 (tnF (nI cp) k z 200 5)) 200 8 (tnF (nI cp) k z 200 6) 201 i = tnF (nI cp) k z 201 i from rfl, e201 i hi]; exact e⟩
        · refine Or.inl ?_
          show tnF (nI cp) k z 210 l = fl 0 s.2.2.2.2 12 l
          rw [t5 210 (by decide) (by decide), fl_eq, if_pos hl]
          exact a10 l hl (fun i hi e => q ⟨i, hi, e⟩)
    refine ⟨fun c q1 q2 q3 => ?_, ?_, fun i hi => ?_, ?_, ?_, by show ¬ (1 : Int32) = 0; decide, ?_, ?_, row, fun l hl hno => ?_⟩
    · show kbF _ k c = _
      rw [b2 c q3, up2_ne q1, up2_ne q1]; exact (t5 c q1 q2).trans (a1 c q1 q2 q3)
    · show kbF _ k 200 10 = _
      rw [b2 200 (by decide)]
      show tnF (nI cp) k z 200 10 = 1
      rw [t6 10 (by decide) (by decide)]; exact a2
    · show kbF _ k 205 i = _
      rw [b2 205 (by decide)]; exact t1 i hi
    · show kbF _ k 200 5 = _
      rw [b2 200 (by decide)]; exact c5
    · show kbF _ k 200 6 = _
      rw [b2 200 (by decide)]; exact c6
    · show vS (cp + 1) G k (j + 1) = kbF _ k 200 8
      rw [b2 200 (by decide)]; exact c6.symm
    · show vS (cp + 1) P k (j + 1) = kbF _ k 200 7
      rw [b2 200 (by decide)]; exact c5.symm
    · rw [← row l hl]
      have q : ∀ q, q ≤ k → nS O (dT (cp + 1) k (j + 1) s.2.2.2.1) (fl 0 s.2.2.2.2 12) q l = 0 := by
        intro q
        induction q with
        | zero => intro _; show fl 0 s.2.2.2.2 12 l = 0; rw [fl_eq, if_pos hl]
        | succ q ih =>
          intro hq
          show upd (nS O _ _ q) (O q).toNatClampNeg _ l = 0
          unfold upd
          rw [if_neg (fun e => hno q (by omega) e.symm)]
          exact ih (by omega)
      exact q k (Nat.le_refl _)
  unfold ch_t cdT
  rw [dS_v, dS_v, Int32.zero_add, Int32.zero_add, c5, c6, t6 8 (by decide) (by decide), t6 7 (by decide) (by decide), a7, a8]
  by_cases q1 : x1 < vS (cp + 1) P k (j + 1)
  · rw [if_pos q1, if_pos q1, ← a7, ← a8]; exact T
  · rw [if_neg q1, if_neg q1, if_neg a6]
    by_cases q2 : z 200 8 < vS (cp + 1) G k (j + 1)
    · rw [if_pos q2, if_neg (fun e => Int32.lt_irrefl (Int32.lt_trans e q2)), if_neg (fun e => Int32.lt_irrefl (e ▸ q2))]; exact Kp
    · rw [if_neg q2]
      by_cases q3 : vS (cp + 1) G k (j + 1) = z 200 8
      · have q5 : ¬ vS (cp + 1) G k (j + 1) < z 200 8 := fun e => by rw [q3] at e; exact Int32.lt_irrefl e
        rw [if_pos q3, if_neg q5, if_pos q3]
        by_cases q4 : z 200 7 ≤ vS (cp + 1) P k (j + 1)
        · rw [if_pos q4, if_neg (Int32.not_lt.mpr q4), ← a7, ← a8]; exact T
        · rw [if_neg q4, if_pos (Int32.not_le.mp q4)]; exact Kp
      · rw [if_neg q3, if_pos (by
          rcases Int32.lt_or_eq_of_le (Int32.not_lt.mp q2) with e | e
          · exact e
          · exact absurd e q3), ← a7, ← a8]; exact T
