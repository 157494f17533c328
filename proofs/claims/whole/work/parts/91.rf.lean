/-- what due and proved of a rent rest on -/
def kYx (z w : fr_V) (N n r : Nat) : Prop := (z 1109 r = w 1109 r ∧ z 1111 r = w 1111 r ∧ z 1112 r = w 1112 r) ∧ (∀ i, i < N → z 1118 i = w 1118 i ∧ z 1119 i = w 1119 i ∧ z 1120 i = w 1120 i) ∧ z 1141 1 = w 1141 1 ∧ (∀ l, l < n → z 1106 l = w 1106 l) ∧ (∀ i, i < N → z 1145 i = w 1145 i) ∧ ∀ l, l < 12 → z 1146 l = w 1146 l
theorem due_x {z w : fr_V} {N n r : Nat} {h : Int32} (k : kYx z w N n r) (hr : r < 16) (h1 : ¬ w 1111 r = (-1) → vp_in (w 1111 r) 12) (h2 : ¬ w 1112 r = (-1) → vp_in (w 1112 r) 12) : f_X11_isDue z (nI r) h = f_X11_isDue w (nI r) h := by
  unfold f_X11_isDue
  rw [nI_clamp (show r < 2 ^ 31 by omega), k.1.1, k.1.2.1, k.1.2.2, lives_c k.2.2.2.2.2 h1, lives_c k.2.2.2.2.2 h2]
theorem pv_x {z w : fr_V} {N n r i : Nat} {h : Int32} (k : kYx z w N n r) (hN : N ≤ 60) (hn : n ≤ 12) (hO : ∀ i, i < N → w 1118 i = 0 → ∃ l, l < n ∧ w 1119 i = nI l) (hi : i < N) : pvP z r h i ↔ pvP w r h i := by
  obtain ⟨⟨-, e3, e4⟩, g1, e5, g2, g3, g4⟩ := k
  obtain ⟨e0, e1, e2⟩ := g1 i hi
  have e7 := g3 i hi
  unfold pvP f_X11_isFalse f_X11_isIn
  rw [nI_clamp (show i < 2 ^ 31 by omega), e0, e1, e2, e3, e4, e5, e7]
  by_cases hs : w 1118 i = 0
  · obtain ⟨l, hl, el⟩ := hO i hi hs
    rw [el, nI_clamp (show l < 2 ^ 31 by omega), g2 l hl, g4 l (by omega)]
  · exact ⟨fun q => absurd q.1 hs, fun q => absurd q.1 hs⟩
theorem proved_x {z w : fr_V} {N n r : Nat} {h : Int32} (k : kYx z w N n r) (hN : N ≤ 60) (hn : n ≤ 12) (hO : ∀ i, i < N → w 1118 i = 0 → ∃ l, l < n ∧ w 1119 i = nI l) : f_isProved z N r h = f_isProved w N r h := by
  unfold f_isProved
  exact cI_congr ⟨fun ⟨i, hi, q⟩ => ⟨i, hi, (pv_x k hN hn hO hi).mp q⟩, fun ⟨i, hi, q⟩ => ⟨i, hi, (pv_x k hN hn hO hi).mpr q⟩⟩
theorem know_x {z w : fr_V} {N : Nat} {x : Int32} (h : ∀ i, i < N → z 1118 i = w 1118 i ∧ z 1119 i = w 1119 i ∧ z 1120 i = w 1120 i ∧ z 1121 i = w 1121 i) : (∀ i, i < N → f_know z N x 1145 i = f_know w N x 1145 i) ∧ ∀ l, l < 12 → f_know z N x 1146 l = f_know w N x 1146 l := by
  have c : ∀ i, i < N → sp_cn (z 1118) (z 1119) (z 1121) (z 1145) N x i = sp_cn (w 1118) (w 1119) (w 1121) (w 1145) N x i := fun i hi => by
    unfold sp_cn
    exact kn2_e (fun j hj => (h j hj).1) (fun j hj => (h j hj).2.1) N _ _ (Nat.le_refl _) (fun q hq => by rw [kn1_lt _ _ _ N q hq, kn1_lt _ _ _ N q hq, (h q hq).2.2.2]) i hi
  refine ⟨fun i hi => c i hi, fun l hl => ?_⟩
  show sp_dd (z 1118) (z 1119) (z 1120) (sp_cn (z 1118) (z 1119) (z 1121) (z 1145) N x) (z 1146) N l = sp_dd (w 1118) (w 1119) (w 1120) (sp_cn (w 1118) (w 1119) (w 1121) (w 1145) N x) (w 1146) N l
  unfold sp_dd
  exact kn4_e (fun j hj => (h j hj).1) (fun j hj => (h j hj).2.1) (fun j hj _ => (h j hj).2.2.1) c (fun q hq => by rw [kn3_lt _ 12 q hq, kn3_lt _ 12 q hq]) N (Nat.le_refl _) l hl
/-- two states of the reference in which a rent was paid alike -/
def prE (z w : fr_V) (N n r : Nat) : Prop := (z 1109 r = w 1109 r ∧ z 1111 r = w 1111 r ∧ z 1112 r = w 1112 r) ∧ (∀ i, i < N → z 1118 i = w 1118 i ∧ z 1119 i = w 1119 i ∧ z 1120 i = w 1120 i ∧ z 1121 i = w 1121 i) ∧ z 1141 1 = w 1141 1 ∧ ∀ l, l < n → z 1106 l = w 1106 l
/-- what one of them must be -/
def prW (w : fr_V) (N n r : Nat) : Prop := r < 16 ∧ N ≤ 60 ∧ n ≤ 12 ∧ (¬ w 1111 r = (-1) → vp_in (w 1111 r) 12) ∧ (¬ w 1112 r = (-1) → vp_in (w 1112 r) 12) ∧ ∀ i, i < N → w 1118 i = 0 → ∃ l, l < n ∧ w 1119 i = nI l
theorem prE.kn {z w : fr_V} {N n r : Nat} {x : Int32} (h : prE z w N n r) : kYx (f_know z N x) (f_know w N x) N n r := by
  have q := know_x (x := x) h.2.1
  unfold kYx
  rw [know_o (z := z) (c := 1109) (by decide) (by decide), know_o (z := w) (c := 1109) (by decide) (by decide), know_o (z := z) (c := 1111) (by decide) (by decide), know_o (z := w) (c := 1111) (by decide) (by decide), know_o (z := z) (c := 1112) (by decide) (by decide), know_o (z := w) (c := 1112) (by decide) (by decide), know_o (z := z) (c := 1118) (by decide) (by decide), know_o (z := w) (c := 1118) (by decide) (by decide), know_o (z := z) (c := 1119) (by decide) (by decide), know_o (z := w) (c := 1119) (by decide) (by decide), know_o (z := z) (c := 1120) (by decide) (by decide), know_o (z := w) (c := 1120) (by decide) (by decide), know_o (z := z) (c := 1141) (by decide) (by decide), know_o (z := w) (c := 1141) (by decide) (by decide), know_o (z := z) (c := 1106) (by decide) (by decide), know_o (z := w) (c := 1106) (by decide) (by decide)]
  exact ⟨h.1, fun i hi => ⟨(h.2.1 i hi).1, (h.2.1 i hi).2.1, (h.2.1 i hi).2.2.1⟩, h.2.2.1, h.2.2.2, q.1, q.2⟩
theorem prW.kn {w : fr_V} {N n r : Nat} {x : Int32} (h : prW w N n r) : prW (f_know w N x) N n r := by
  unfold prW at h ⊢
  rw [know_o (c := 1111) (by decide) (by decide), know_o (c := 1112) (by decide) (by decide), know_o (c := 1118) (by decide) (by decide), know_o (c := 1119) (by decide) (by decide)]
  exact h
theorem prF_x {z w : fr_V} {N n r ar h : Nat} (e : prE z w N n r) (g : prW w N n r) : ∀ k, prF z N ar r h k = prF w N ar r h k := by
  intro k
  induction k with
  | zero => rfl
  | succ k ih =>
    have k9 : kYx (f_know z N (nI k)) (f_know w N (nI k)) N n r := e.kn
    have g9 : prW (f_know w N (nI k)) N n r := g.kn
    have ed : dY z N r h k ↔ dY w N r h k := by unfold dY; rw [due_x k9 g9.1 g9.2.2.2.1 g9.2.2.2.2.1]
    have ev : vY z N r h k ↔ vY w N r h k := by unfold vY; rw [proved_x k9 g9.2.1 g9.2.2.1 g9.2.2.2.2.2]
    by_cases c : prF w N ar r h k = (-1) ∧ (k - ar ≤ h ∧ h ≤ k) ∧ dY w N r h k ∧ vY w N r h k
    · rw [prF_pos c, prF_pos ⟨by rw [ih]; exact c.1, c.2.1, ed.mpr c.2.2.1, ev.mpr c.2.2.2⟩]
    · rw [prF_neg c, prF_neg (fun c2 => c ⟨by rw [← ih]; exact c2.1, c2.2.1, ed.mp c2.2.2.1, ev.mp c2.2.2.2⟩), ih]
/-- a note that is told later counts for nothing -/
theorem know_app {z w : fr_V} {N : Nat} {x : Int32} (h : ∀ i, i < N → z 1118 i = w 1118 i ∧ z 1119 i = w 1119 i ∧ z 1120 i = w 1120 i ∧ z 1121 i = w 1121 i) (ht : x < z 1121 N) : (∀ i, i < N → f_know z (N + 1) x 1145 i = f_know w N x 1145 i) ∧ f_know z (N + 1) x 1145 N = 0 ∧ ∀ l, l < 12 → f_know z (N + 1) x 1146 l = f_know w N x 1146 l := by
  have hu : kn1 (z 1121) x (z 1145) (N + 1) = upd (kn1 (z 1121) x (z 1145) N) N 0 := by rw [kn1_s, if_pos ht]
  have hb : sp_cn (z 1118) (z 1119) (z 1121) (z 1145) (N + 1) x = kn2 (z 1118) (z 1119) N (upd (kn1 (z 1121) x (z 1145) N) N 0) := by
    unfold sp_cn
    rw [hu, kn2_s]
    have e0 : upd (kn1 (z 1121) x (z 1145) N) N 0 N = 0 := by unfold upd; rw [if_pos rfl]
    rw [if_pos e0]
    split <;> rfl
  have c : ∀ i, i < N → sp_cn (z 1118) (z 1119) (z 1121) (z 1145) (N + 1) x i = sp_cn (w 1118) (w 1119) (w 1121) (w 1145) N x i := fun i hi => by
    rw [hb]
    unfold sp_cn
    exact kn2_e (fun j hj => (h j hj).1) (fun j hj => (h j hj).2.1) N _ _ (Nat.le_refl _) (fun q hq => by unfold upd; rw [if_neg (by omega), kn1_lt _ _ _ N q hq, kn1_lt _ _ _ N q hq, (h q hq).2.2.2]) i hi
  have d : sp_cn (z 1118) (z 1119) (z 1121) (z 1145) (N + 1) x N = 0 := by
    rw [hb]
    have g : ∀ t (f : Nat → Int32), f N = 0 → kn2 (z 1118) (z 1119) t f N = 0 := by
      intro t
      induction t with
      | zero => intro f hf; exact hf
      | succ t ih =>
        intro f hf
        rw [kn2_s]
        refine ih _ ?_
        split
        · split
          · exact hf
          · unfold upd; split
            · rfl
            · exact hf
        · exact hf
    exact g N _ (by unfold upd; rw [if_pos rfl])
  refine ⟨fun i hi => c i hi, d, fun l hl => ?_⟩
  show sp_dd (z 1118) (z 1119) (z 1120) (sp_cn (z 1118) (z 1119) (z 1121) (z 1145) (N + 1) x) (z 1146) (N + 1) l = sp_dd (w 1118) (w 1119) (w 1120) (sp_cn (w 1118) (w 1119) (w 1121) (w 1145) N x) (w 1146) N l
  unfold sp_dd
  rw [kn4_s, d, if_pos rfl]
  have q := kn4_e (S := z 1118) (S' := w 1118) (O := z 1119) (O' := w 1119) (H := z 1120) (H' := w 1120) (g := kn3 (z 1146) 12) (g' := kn3 (w 1146) 12) (fun j hj => (h j hj).1) (fun j hj => (h j hj).2.1) (fun j hj _ => (h j hj).2.2.1) c (fun q hq => by rw [kn3_lt _ 12 q hq, kn3_lt _ 12 q hq]) N (Nat.le_refl _) l hl
  split <;> exact q
theorem prF_app {z w : fr_V} {N n r ar h W : Nat} (e : prE z w N n r) (g : prW w N n r) (hW : W < 80) (ht : z 1121 N = nI W) : ∀ k, k ≤ W → prF z (N + 1) ar r h k = prF w N ar r h k := by
  intro k
  induction k with
  | zero => intro _; rfl
  | succ k ih =>
    intro hk
    have ih := ih (by omega)
    have q := know_app (x := nI k) e.2.1 (by rw [ht]; exact nI_lt (by omega) (by omega))
    have k9 : kYx (f_know z (N + 1) (nI k)) (f_know w N (nI k)) N n r := by
      unfold kYx
      rw [know_o (z := z) (c := 1109) (by decide) (by decide), know_o (z := w) (c := 1109) (by decide) (by decide), know_o (z := z) (c := 1111) (by decide) (by decide), know_o (z := w) (c := 1111) (by decide) (by decide), know_o (z := z) (c := 1112) (by decide) (by decide), know_o (z := w) (c := 1112) (by decide) (by decide), know_o (z := z) (c := 1118) (by decide) (by decide), know_o (z := w) (c := 1118) (by decide) (by decide), know_o (z := z) (c := 1119) (by decide) (by decide), know_o (z := w) (c := 1119) (by decide) (by decide), know_o (z := z) (c := 1120) (by decide) (by decide), know_o (z := w) (c := 1120) (by decide) (by decide), know_o (z := z) (c := 1141) (by decide) (by decide), know_o (z := w) (c := 1141) (by decide) (by decide), know_o (z := z) (c := 1106) (by decide) (by decide), know_o (z := w) (c := 1106) (by decide) (by decide)]
      exact ⟨e.1, fun i hi => ⟨(e.2.1 i hi).1, (e.2.1 i hi).2.1, (e.2.1 i hi).2.2.1⟩, e.2.2.1, e.2.2.2, q.1, q.2.2⟩
    have g9 : prW (f_know w N (nI k)) N n r := g.kn
    have ed : dY z (N + 1) r h k ↔ dY w N r h k := by unfold dY; rw [due_x k9 g9.1 g9.2.2.2.1 g9.2.2.2.2.1]
    have ev : vY z (N + 1) r h k ↔ vY w N r h k := by
      unfold vY f_isProved
      rw [cI_ne, cI_ne]
      refine ⟨fun ⟨i, hi, p⟩ => ?_, fun ⟨i, hi, p⟩ => ⟨i, by omega, (pv_x k9 g9.2.1 g9.2.2.1 g9.2.2.2.2.2 hi).mpr p⟩⟩
      by_cases hiN : i = N
      · subst hiN; exact absurd q.2.1 p.2.1
      · exact ⟨i, by omega, (pv_x k9 g9.2.1 g9.2.2.1 g9.2.2.2.2.2 (by omega)).mp p⟩
    by_cases c : prF w N ar r h k = (-1) ∧ (k - ar ≤ h ∧ h ≤ k) ∧ dY w N r h k ∧ vY w N r h k
    · rw [prF_pos c, prF_pos ⟨by rw [ih]; exact c.1, c.2.1, ed.mpr c.2.2.1, ev.mpr c.2.2.2⟩]
    · rw [prF_neg c, prF_neg (fun c2 => c ⟨by rw [← ih]; exact c2.1, c2.2.1, ed.mp c2.2.2.1, ev.mp c2.2.2.2⟩), ih]
/-- a rent bought later isn't paid -/
theorem prF_new {y : fr_V} {N ar r h W : Nat} (hW : W < 80) (hr : r < 16) (hb : y 1109 r = nI W) : ∀ k, k ≤ W → prF y N ar r h k = (-1) := by
  intro k
  induction k with
  | zero => intro _; rfl
  | succ k ih =>
    intro hk
    rw [prF_neg (fun c => c.2.2.1 ?_), ih (by omega)]
    have hh := c.2.1.2
    unfold f_X11_isDue
    rw [know_o (c := 1109) (by decide) (by decide), nI_clamp (by omega), hb, if_pos (nI_le (by omega) (by omega))]
