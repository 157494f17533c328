theorem nI_m1 {k : Nat} (h : k < 2 ^ 31) : ¬ nI k = (-1) := fun e => nI_pos h (by rw [e]; decide)
/-- sums -/
def smN (f : Nat → Int32) : Nat → Int32
  | 0 => 0
  | n + 1 => smN f n + f n
theorem smN_e {f g : Nat → Int32} : ∀ n, (∀ i, i < n → f i = g i) → smN f n = smN g n := by
  intro n
  induction n with
  | zero => intro _; rfl
  | succ n ih => intro h; show smN f n + f n = smN g n + g n; rw [ih (fun i hi => h i (by omega)), h n (by omega)]
theorem smN_0 {f : Nat → Int32} : ∀ n, (∀ i, i < n → f i = 0) → smN f n = 0 := by
  intro n
  induction n with
  | zero => intro _; rfl
  | succ n ih => intro h; show smN f n + f n = 0; rw [ih (fun i hi => h i (by omega)), h n (by omega)]; rfl
theorem smN_at {f g : Nat → Int32} {q : Nat} {d : Int32} (hq : g q = f q + d) (h : ∀ i, i ≠ q → g i = f i) : ∀ n, q < n → smN g n = smN f n + d := by
  intro n
  induction n with
  | zero => intro hn; omega
  | succ n ih =>
    intro hn
    show smN g n + g n = smN f n + f n + d
    by_cases e : q = n
    · subst e
      rw [hq, smN_e q (fun i hi => h i (by omega)), Int32.add_assoc]
    · rw [ih (by omega), h n (fun e2 => e e2.symm), Int32.add_assoc, Int32.add_assoc, Int32.add_comm d]
theorem smN_add (f : Nat → Int32) (a : Nat) : ∀ b, smN f (a + b) = smN f a + smN (fun i => f (a + i)) b := by
  intro b
  induction b with
  | zero => show smN f a = smN f a + 0; rw [Int32.add_zero]
  | succ b ih => show smN f (a + b) + f (a + b) = smN f a + (smN (fun i => f (a + i)) b + f (a + b)); rw [ih, Int32.add_assoc]
theorem smN_cut {f : Nat → Int32} {a b : Nat} (hab : a ≤ b) (h : ∀ i, a ≤ i → i < b → f i = 0) : smN f b = smN f a := by
  obtain ⟨d, rfl⟩ : ∃ d, b = a + d := ⟨b - a, by omega⟩
  rw [smN_add, smN_0 d (fun i hi => h (a + i) (by omega) (by omega)), Int32.add_zero]
/-- due and proved as known in k, of the reference -/
def dY (y : fr_V) (N r h k : Nat) : Prop := ¬ f_X11_isDue (f_know y N (nI k)) (nI r) (nI h) = 0
def vY (y : fr_V) (N r h k : Nat) : Prop := ¬ f_isProved (f_know y N (nI k)) N r (nI h) = 0
/-- in which half the half h of the rent r was paid, behind k halves -/
noncomputable def prF (y : fr_V) (N ar r h : Nat) : Nat → Int32
  | 0 => (-1)
  | k + 1 => @ite Int32 (prF y N ar r h k = (-1) ∧ (k - ar ≤ h ∧ h ≤ k) ∧ dY y N r h k ∧ vY y N r h k) (Classical.propDecidable _) (nI k) (prF y N ar r h k)
theorem prF_pos {y : fr_V} {N ar r h k : Nat} (c : prF y N ar r h k = (-1) ∧ (k - ar ≤ h ∧ h ≤ k) ∧ dY y N r h k ∧ vY y N r h k) : prF y N ar r h (k + 1) = nI k := if_pos c
theorem prF_neg {y : fr_V} {N ar r h k : Nat} (c : ¬ (prF y N ar r h k = (-1) ∧ (k - ar ≤ h ∧ h ≤ k) ∧ dY y N r h k ∧ vY y N r h k)) : prF y N ar r h (k + 1) = prF y N ar r h k := if_neg c
theorem prF_in {y : fr_V} {N ar r h : Nat} : ∀ k, prF y N ar r h k = (-1) ∨ ∃ j, j < k ∧ h ≤ j ∧ prF y N ar r h k = nI j := by
  intro k
  induction k with
  | zero => exact Or.inl rfl
  | succ k ih =>
    by_cases c : prF y N ar r h k = (-1) ∧ (k - ar ≤ h ∧ h ≤ k) ∧ dY y N r h k ∧ vY y N r h k
    · exact Or.inr ⟨k, by omega, c.2.1.2, prF_pos c⟩
    · rw [prF_neg c]
      rcases ih with h1 | ⟨j, h1, h2, h3⟩
      · exact Or.inl h1
      · exact Or.inr ⟨j, by omega, h2, h3⟩
theorem prF_up {y : fr_V} {N ar r h k : Nat} (h0 : ¬ prF y N ar r h k = (-1)) : ∀ d, prF y N ar r h (k + d) = prF y N ar r h k := by
  intro d
  induction d with
  | zero => rfl
  | succ d ih => rw [← Nat.add_assoc, prF_neg (fun c => h0 (by rw [← ih]; exact c.1)), ih]
/-- what was paid by then -/
theorem prF_by {y : fr_V} {N ar r h k K j : Nat} (hK : K < 2 ^ 31) (hk : k ≤ K) (hj : j < k) (e : prF y N ar r h K = nI j) : prF y N ar r h k = nI j := by
  obtain ⟨d, rfl⟩ : ∃ d, K = k + d := ⟨K - k, by omega⟩
  clear hk
  induction d with
  | zero => exact e
  | succ d ih =>
    rw [← Nat.add_assoc] at e
    by_cases c : prF y N ar r h (k + d) = (-1) ∧ (k + d - ar ≤ h ∧ h ≤ k + d) ∧ dY y N r h (k + d) ∧ vY y N r h (k + d)
    · rw [prF_pos c, nI_eq (by omega) (by omega)] at e
      omega
    · rw [prF_neg c] at e
      exact ih (by omega) e
theorem prF_cut {y : fr_V} {N ar r h k K : Nat} (hK : K < 2 ^ 31) (hk : k ≤ K) : (if prF y N ar r h K < nI k then prF y N ar r h K else (-1)) = prF y N ar r h k := by
  rcases prF_in (y := y) (N := N) (ar := ar) (r := r) (h := h) K with e | ⟨j, h1, h2, h3⟩
  · have hn : prF y N ar r h k = (-1) := by
      refine Classical.byContradiction (fun c => ?_)
      obtain ⟨d, rfl⟩ : ∃ d, K = k + d := ⟨K - k, by omega⟩
      exact c (by rw [← prF_up c d]; exact e)
    rw [e, hn]
    split <;> rfl
  · by_cases hj : j < k
    · rw [h3, if_pos (nI_lt hj (by omega)), prF_by hK hk hj h3]
    · rw [h3, if_neg (nI_nlt (by omega) (by omega))]
      symm
      refine Classical.byContradiction (fun c => ?_)
      obtain ⟨d, rfl⟩ : ∃ d, K = k + d := ⟨K - k, by omega⟩
      rcases prF_in (y := y) (N := N) (ar := ar) (r := r) (h := h) k with e | ⟨j2, g1, g2, g3⟩
      · exact c e
      · rw [prF_up c d, g3, nI_eq (by omega) (by omega)] at h3
        omega
/-- the same notes, rents, settings, the same knowledge -/
def kY (z w : fr_V) (N : Nat) : Prop := (∀ c, c ≠ 1145 → c ≠ 1146 → c ≠ 1147 → c ≠ 1148 → c ≠ 1100 → z c = w c) ∧ (∀ i, i < N → z 1145 i = w 1145 i) ∧ ∀ l, l < 12 → z 1146 l = w 1146 l
theorem lives_c {z w : fr_V} {x h : Int32} (hD : ∀ l, l < 12 → z 1146 l = w 1146 l) (hx : ¬ x = (-1) → vp_in x 12) : f_X11_lives z x h = f_X11_lives w x h := by
  unfold f_X11_lives
  by_cases c : x = (-1)
  · rw [if_pos c, if_pos c]
  · obtain ⟨l, hl, rfl⟩ := vp_in_of (hx c) (by decide)
    rw [if_neg c, if_neg c, nI_clamp (by omega), hD l hl]
theorem due_c {z w : fr_V} {N r : Nat} {h : Int32} (k : kY z w N) (hr : r < 16) (h1 : ¬ w 1111 r = (-1) → vp_in (w 1111 r) 12) (h2 : ¬ w 1112 r = (-1) → vp_in (w 1112 r) 12) : f_X11_isDue z (nI r) h = f_X11_isDue w (nI r) h := by
  unfold f_X11_isDue
  rw [nI_clamp (show r < 2 ^ 31 by omega), k.1 1109 (by decide) (by decide) (by decide) (by decide) (by decide), k.1 1111 (by decide) (by decide) (by decide) (by decide) (by decide), k.1 1112 (by decide) (by decide) (by decide) (by decide) (by decide), lives_c k.2.2 h1, lives_c k.2.2 h2]
theorem proved_c {z w : fr_V} {N r : Nat} {h : Int32} (k : kY z w N) (hW : nt_ok (w 1118) (w 1119) N) : f_isProved z N r h = f_isProved w N r h := by
  unfold f_isProved
  refine cI_congr ⟨fun ⟨i, hi, q⟩ => ⟨i, hi, ?_⟩, fun ⟨i, hi, q⟩ => ⟨i, hi, ?_⟩⟩
  all_goals
    have hN := hW.1
    have e0 := k.1 1118 (by decide) (by decide) (by decide) (by decide) (by decide)
    have e1 := k.1 1119 (by decide) (by decide) (by decide) (by decide) (by decide)
    have e2 := k.1 1120 (by decide) (by decide) (by decide) (by decide) (by decide)
    have e3 := k.1 1111 (by decide) (by decide) (by decide) (by decide) (by decide)
    have e4 := k.1 1112 (by decide) (by decide) (by decide) (by decide) (by decide)
    have e5 := k.1 1141 (by decide) (by decide) (by decide) (by decide) (by decide)
    have e6 := k.1 1106 (by decide) (by decide) (by decide) (by decide) (by decide)
    have e7 := k.2.1 i hi
    unfold pvP f_X11_isFalse f_X11_isIn at q ⊢
    rw [nI_clamp (show i < 2 ^ 31 by omega)] at q ⊢
  · rw [e0, e1, e2, e3, e4, e5, e6, e7] at q
    have hs : ¬ w 1118 i = 2 := by rw [q.1]; decide
    obtain ⟨l, hl, el⟩ := vp_in_of ((hW.2 i hi).2 hs) (by decide)
    rw [el, nI_clamp (show l < 2 ^ 31 by omega), k.2.2 l hl] at q
    rw [el, nI_clamp (show l < 2 ^ 31 by omega)]
    exact q
  · rw [e0, e1, e2, e3, e4, e5, e6, e7]
    have hs : ¬ w 1118 i = 2 := by rw [q.1]; decide
    obtain ⟨l, hl, el⟩ := vp_in_of ((hW.2 i hi).2 hs) (by decide)
    rw [el, nI_clamp (show l < 2 ^ 31 by omega), k.2.2 l hl]
    rw [el, nI_clamp (show l < 2 ^ 31 by omega)] at q
    exact q
/-- knowledge depends on the notes alone -/
theorem know_k {z w : fr_V} {N : Nat} {x : Int32} (h : ∀ c, c = 1118 ∨ c = 1119 ∨ c = 1120 ∨ c = 1121 → z c = w c) : (∀ i, i < N → f_know z N x 1145 i = f_know w N x 1145 i) ∧ ∀ l, l < 12 → f_know z N x 1146 l = f_know w N x 1146 l := by
  have e1 := h 1118 (by omega)
  have e2 := h 1119 (by omega)
  have e3 := h 1120 (by omega)
  have e4 := h 1121 (by omega)
  have c : ∀ i, i < N → sp_cn (z 1118) (z 1119) (z 1121) (z 1145) N x i = sp_cn (w 1118) (w 1119) (w 1121) (w 1145) N x i := fun i hi => by
    unfold sp_cn
    rw [e1, e2, e4]
    exact kn2_e (fun _ _ => rfl) (fun _ _ => rfl) N _ _ (Nat.le_refl _) (fun q hq => by rw [kn1_lt _ _ _ N q hq, kn1_lt _ _ _ N q hq]) i hi
  refine ⟨fun i hi => c i hi, fun l hl => ?_⟩
  show sp_dd (z 1118) (z 1119) (z 1120) (sp_cn (z 1118) (z 1119) (z 1121) (z 1145) N x) (z 1146) N l = sp_dd (w 1118) (w 1119) (w 1120) (sp_cn (w 1118) (w 1119) (w 1121) (w 1145) N x) (w 1146) N l
  unfold sp_dd
  exact kn4_e (fun j _ => by rw [e1]) (fun j _ => by rw [e2]) (fun j _ _ => by rw [e3]) c (fun q hq => by rw [kn3_lt _ 12 q hq, kn3_lt _ 12 q hq]) N (Nat.le_refl _) l hl
theorem know_o {z : fr_V} {N c : Nat} {x : Int32} (h1 : c ≠ 1145) (h2 : c ≠ 1146) : f_know z N x c = z c := by
  unfold f_know
  rw [upA_ne h2, upA_ne h1]
