/-- what a holder gets of a half that was paid in x -/
def ctr (y : fr_V) (NS r i : Nat) (x : Int32) : Int32 := if x = (-1) then 0 else shV (y 1113 r) (fun j => f_parts y NS (nI r) (nI j) x) (nI i)
def pyI (y : fr_V) (NS nr : Nat) (z : fr_V) : Prop :=
  (∀ c, c ≠ 1145 → c ≠ 1146 → c ≠ 1147 → c ≠ 1148 → c ≠ 1100 → z c = y c) ∧ (∀ j, j ≠ 48 → z 1100 j = y 1100 j) ∧ (∀ i, i < 8 → z 1148 i = smN (fun q => ctr y NS (q / 80) i (z 1147 q)) (80 * nr)) ∧ z 1100 48 = smN (fun q => if z 1147 q = (-1) then 0 else y 1113 (q / 80)) (80 * nr)
/-- nobody holds less than nothing -/
def ptN (y : fr_V) (NS nr : Nat) : Prop := ∀ r, r < nr → ∀ k, k < 80 → ∀ j, j < 8 → 0 ≤ f_parts y NS (nI r) (nI j) (nI k)
theorem pyI_pay {y z : fr_V} {NS nr r h k : Nat} (I : pyI y NS nr z) (hp : ptN y NS nr) (hr : r < nr) (hh : h < 80) (hk : k < 80) (h0 : z 1147 (80 * r + h) = (-1)) : pyI y NS nr (f_shares (up2 z 1147 (80 * r + h) (nI k)) NS r (nI k)) := by
  have hq : (80 * r + h) / 80 = r := by omega
  have hlt : 80 * r + h < 80 * nr := by omega
  have e13 : z 1113 = y 1113 := I.1 1113 (by decide) (by decide) (by decide) (by decide) (by decide)
  have ePt : ∀ j, f_parts (up2 z 1147 (80 * r + h) (nI k)) NS (nI r) (nI j) (nI k) = f_parts y NS (nI r) (nI j) (nI k) := fun j => by
    unfold f_parts
    rw [up2_ne (show (1116 : Nat) ≠ 1147 by decide), up2_ne (show (1109 : Nat) ≠ 1147 by decide), up2_ne (show (1110 : Nat) ≠ 1147 by decide), I.1 1116 (by decide) (by decide) (by decide) (by decide) (by decide), I.1 1109 (by decide) (by decide) (by decide) (by decide) (by decide), I.1 1110 (by decide) (by decide) (by decide) (by decide) (by decide)]
  have eRow : ∀ q, f_shares (up2 z 1147 (80 * r + h) (nI k)) NS r (nI k) 1147 q = upd (z 1147) (80 * r + h) (nI k) q := fun q => rfl
  refine ⟨fun c h1 h2 h3 h4 h5 => ?_, fun j hj => ?_, fun i hi => ?_, ?_⟩
  · show up2 (upA (up2 z 1147 (80 * r + h) (nI k)) 1148 _) 1100 48 _ c = y c
    rw [up2_ne h5, upA_ne h4, up2_ne h3]; exact I.1 c h1 h2 h3 h4 h5
  · show up2 (upA (up2 z 1147 (80 * r + h) (nI k)) 1148 _) 1100 48 _ 1100 j = y 1100 j
    rw [up2_self]; unfold upd; rw [if_neg hj]; exact I.2.1 j hj
  · show sh_row (fun j => f_parts (up2 z 1147 (80 * r + h) (nI k)) NS (nI r) (nI j) (nI k)) (z 1113 r) (z 1148) i = _
    rw [funext ePt, e13, row_eq (fun j hj => hp r hr k hk j hj) hi, I.2.2.1 i hi]
    refine (smN_at (q := 80 * r + h) ?_ (fun q hne => ?_) (80 * nr) hlt).symm
    · show ctr y NS ((80 * r + h) / 80) i (upd (z 1147) (80 * r + h) (nI k) (80 * r + h)) = ctr y NS ((80 * r + h) / 80) i (z 1147 (80 * r + h)) + _
      rw [hq, h0]
      unfold upd ctr
      rw [if_pos rfl, if_pos rfl, if_neg (nI_m1 (by omega)), Int32.zero_add]
    · show ctr y NS (q / 80) i (upd (z 1147) (80 * r + h) (nI k) q) = _
      unfold upd; rw [if_neg hne]
  · show z 1100 48 + z 1113 r = _
    rw [I.2.2.2, e13]
    refine (smN_at (q := 80 * r + h) ?_ (fun q hne => ?_) (80 * nr) hlt).symm
    · show (if upd (z 1147) (80 * r + h) (nI k) (80 * r + h) = (-1) then 0 else y 1113 ((80 * r + h) / 80)) = (if z 1147 (80 * r + h) = (-1) then 0 else y 1113 ((80 * r + h) / 80)) + _
      rw [hq, if_pos h0]
      unfold upd
      rw [if_pos rfl, if_neg (nI_m1 (by omega)), Int32.zero_add]
    · show (if upd (z 1147) (80 * r + h) (nI k) q = (-1) then 0 else y 1113 (q / 80)) = _
      unfold upd; rw [if_neg hne]
/-- what the reference needs of its rents and notes -/
def pyW (y : fr_V) (N nr : Nat) : Prop := nr ≤ 16 ∧ nt_ok (y 1118) (y 1119) N ∧ ∀ r, r < nr → (¬ y 1111 r = (-1) → vp_in (y 1111 r) 12) ∧ (¬ y 1112 r = (-1) → vp_in (y 1112 r) 12)
theorem py_t {y z : fr_V} {N NS nr ar r h k : Nat} (hw : pyW y N nr) (I : pyI y NS nr z) (hp : ptN y NS nr) (hr : r < nr) (hk : k < 80) (h1 : k - ar ≤ h) (h2 : h ≤ k) (hK : kY z (f_know y N (nI k)) N) (h0 : z 1147 (80 * r + h) = prF y N ar r h k) :
    pyI y NS nr (py_h_t N NS r k h z) ∧ kY (py_h_t N NS r k h z) (f_know y N (nI k)) N ∧ py_h_t N NS r k h z 1147 (80 * r + h) = prF y N ar r h (k + 1) ∧ ∀ q, q ≠ 80 * r + h → py_h_t N NS r k h z 1147 q = z 1147 q := by
  have hnr := hw.1
  have ed : f_X11_isDue z (nI r) (nI h) = f_X11_isDue (f_know y N (nI k)) (nI r) (nI h) := due_c hK (by omega) (hw.2.2 r hr).1 (hw.2.2 r hr).2
  have ev : f_isProved z N r (nI h) = f_isProved (f_know y N (nI k)) N r (nI h) := proved_c hK hw.2.1
  unfold py_h_t
  by_cases c : z 1147 (80 * r + h) = (-1)
  · rw [if_pos c]
    by_cases d : f_X11_isDue z (nI r) (nI h) = 0
    · rw [if_pos d]
      refine ⟨I, hK, ?_, fun q _ => rfl⟩
      rw [prF_neg (fun e => e.2.2.1 (by rw [← ed]; exact d)), h0]
    · rw [if_neg d]
      by_cases v9 : f_isProved z N r (nI h) = 0
      · rw [if_pos v9]
        refine ⟨I, hK, ?_, fun q _ => rfl⟩
        rw [prF_neg (fun e => e.2.2.2 (by rw [← ev]; exact v9)), h0]
      · rw [if_neg v9]
        refine ⟨pyI_pay I hp hr (by omega) hk c, ⟨fun c9 g1 g2 g3 g4 g5 => ?_, fun i hi => hK.2.1 i hi, fun l hl => hK.2.2 l hl⟩, ?_, fun q hq => ?_⟩
        · show up2 (upA (up2 z 1147 (80 * r + h) (nI k)) 1148 _) 1100 48 _ c9 = _
          rw [up2_ne g5, upA_ne g4, up2_ne g3]; exact hK.1 c9 g1 g2 g3 g4 g5
        · show upd (z 1147) (80 * r + h) (nI k) (80 * r + h) = _
          rw [prF_pos ⟨by rw [← h0]; exact c, ⟨h1, h2⟩, fun e => d (by rw [ed]; exact e), fun e => v9 (by rw [ev]; exact e)⟩]
          unfold upd; rw [if_pos rfl]
        · show upd (z 1147) (80 * r + h) (nI k) q = _
          unfold upd; rw [if_neg hq]
  · rw [if_neg c]
    refine ⟨I, hK, ?_, fun q _ => rfl⟩
    rw [prF_neg (fun e => c (by rw [h0]; exact e.1)), h0]
theorem py_hL {y z : fr_V} {N NS nr ar r k : Nat} (hw : pyW y N nr) (I : pyI y NS nr z) (hp : ptN y NS nr) (hr : r < nr) (hk : k < 80) (hK : kY z (f_know y N (nI k)) N) (h0 : ∀ h, h < 80 → z 1147 (80 * r + h) = prF y N ar r h k) : ∀ s, s ≤ k + 1 - (k - ar) →
    pyI y NS nr (py_h N NS r k (k - ar) z s) ∧ kY (py_h N NS r k (k - ar) z s) (f_know y N (nI k)) N ∧ (∀ h, h < 80 → py_h N NS r k (k - ar) z s 1147 (80 * r + h) = if k - ar ≤ h ∧ h < k - ar + s then prF y N ar r h (k + 1) else prF y N ar r h k) ∧ ∀ q, (q < 80 * r ∨ 80 * r + 80 ≤ q) → py_h N NS r k (k - ar) z s 1147 q = z 1147 q := by
  intro s
  induction s with
  | zero => intro _; exact ⟨I, hK, fun h hh => by rw [if_neg (by omega)]; exact h0 h hh, fun q _ => rfl⟩
  | succ s ih =>
    intro hs
    obtain ⟨a, b, c, d⟩ := ih (by omega)
    rw [py_h_s]
    obtain ⟨a1, b1, c1, d1⟩ := py_t (ar := ar) (h := k - ar + s) hw a hp hr hk (by omega) (by omega) b (by rw [c _ (by omega), if_neg (by omega)])
    refine ⟨a1, b1, fun h hh => ?_, fun q hq => by rw [d1 q (by omega)]; exact d q hq⟩
    by_cases e : h = k - ar + s
    · subst e; rw [c1, if_pos (by omega)]
    · rw [d1 _ (by omega), c h hh]
      by_cases e2 : k - ar ≤ h ∧ h < k - ar + s
      · rw [if_pos e2, if_pos (by omega)]
      · rw [if_neg e2, if_neg (by omega)]
theorem prF_off {y : fr_V} {N ar r h k : Nat} (c : ¬ (k - ar ≤ h ∧ h ≤ k)) : prF y N ar r h (k + 1) = prF y N ar r h k := prF_neg (fun e => c e.2.1)
theorem py_rL {y z : fr_V} {N NS nr ar k : Nat} (hw : pyW y N nr) (I : pyI y NS nr z) (hp : ptN y NS nr) (hk : k < 80) (hK : kY z (f_know y N (nI k)) N) (h0 : ∀ r h, r < nr → h < 80 → z 1147 (80 * r + h) = prF y N ar r h k) : ∀ R, R ≤ nr →
    pyI y NS nr (py_r N NS ar k z R) ∧ kY (py_r N NS ar k z R) (f_know y N (nI k)) N ∧ (∀ r h, r < nr → h < 80 → py_r N NS ar k z R 1147 (80 * r + h) = if r < R then prF y N ar r h (k + 1) else prF y N ar r h k) := by
  intro R
  induction R with
  | zero => intro _; exact ⟨I, hK, fun r h hr hh => by rw [if_neg (by omega)]; exact h0 r h hr hh⟩
  | succ R ih =>
    intro hR
    obtain ⟨a, b, c⟩ := ih (by omega)
    rw [py_r_s]
    obtain ⟨a1, b1, c1, d1⟩ := py_hL (ar := ar) hw a hp (show R < nr by omega) hk b (fun h hh => by rw [c R h (by omega) hh, if_neg (by omega)]) (k + 1 - (k - ar)) (Nat.le_refl _)
    refine ⟨a1, b1, fun r h hr hh => ?_⟩
    by_cases e : r = R
    · subst e
      rw [c1 h hh, if_pos (show r < r + 1 by omega)]
      by_cases e2 : k - ar ≤ h ∧ h < k - ar + (k + 1 - (k - ar))
      · rw [if_pos e2]
      · rw [if_neg e2, prF_off (by omega)]
    · rw [d1 _ (by omega), c r h hr hh]
      by_cases e2 : r < R
      · rw [if_pos e2, if_pos (by omega)]
      · rw [if_neg e2, if_neg (by omega)]
theorem py_kL {y w0 : fr_V} {N NS nr ar : Nat} (hw : pyW y N nr) (I : pyI y NS nr w0) (hp : ptN y NS nr) (h0 : ∀ r h, r < nr → h < 80 → w0 1147 (80 * r + h) = (-1)) : ∀ k, k ≤ 80 →
    pyI y NS nr (py_k nr N NS ar w0 k) ∧ (0 < k → kY (py_k nr N NS ar w0 k) (f_know y N (nI (k - 1))) N) ∧ (∀ r h, r < nr → h < 80 → py_k nr N NS ar w0 k 1147 (80 * r + h) = prF y N ar r h k) := by
  intro k
  induction k with
  | zero => intro _; exact ⟨I, fun h => by omega, h0⟩
  | succ k ih =>
    intro hk
    obtain ⟨a, b, c⟩ := ih (by omega)
    rw [py_k_s]
    have I2 : pyI y NS nr (f_know (py_k nr N NS ar w0 k) N (nI k)) := by
      refine ⟨fun c h1 h2 h3 h4 h5 => ?_, fun j hj => ?_, fun i hi => ?_, ?_⟩
      · rw [know_o h1 h2]; exact a.1 c h1 h2 h3 h4 h5
      · rw [know_o (by decide) (by decide)]; exact a.2.1 j hj
      · rw [know_o (by decide) (by decide), know_o (by decide) (by decide)]; exact a.2.2.1 i hi
      · rw [know_o (by decide) (by decide), know_o (by decide) (by decide)]; exact a.2.2.2
    have K2 : kY (f_know (py_k nr N NS ar w0 k) N (nI k)) (f_know y N (nI k)) N := by
      have q := know_k (z := py_k nr N NS ar w0 k) (w := y) (N := N) (x := nI k) (fun c hc => a.1 c (by omega) (by omega) (by omega) (by omega) (by omega))
      exact ⟨fun c h1 h2 h3 h4 h5 => by rw [know_o h1 h2, know_o h1 h2]; exact a.1 c h1 h2 h3 h4 h5, q.1, q.2⟩
    obtain ⟨a1, b1, c1⟩ := py_rL (ar := ar) hw I2 hp (show k < 80 by omega) K2 (fun r h hr hh => by rw [know_o (by decide) (by decide)]; exact c r h hr hh) nr (Nat.le_refl _)
    refine ⟨a1, fun _ => b1, fun r h hr hh => by rw [c1 r h hr hh, if_pos hr]⟩
theorem py_a_at (w0 : fr_V) : ∀ n q, py_a w0 n 1147 q = if q < n then (-1) else w0 1147 q := by
  intro n
  induction n with
  | zero => intro q; rw [if_neg (by omega)]; rfl
  | succ n ih =>
    intro q
    rw [py_a_s]
    show upd (py_a w0 n 1147) n (-1) q = _
    unfold upd
    by_cases e : q = n
    · rw [if_pos e, if_pos (by omega)]
    · rw [if_neg e, ih q]
      by_cases e2 : q < n
      · rw [if_pos e2, if_pos (by omega)]
      · rw [if_neg e2, if_neg (by omega)]
theorem py_a_o (w0 : fr_V) {c : Nat} (h : c ≠ 1147) : ∀ n, py_a w0 n c = w0 c := by
  intro n
  induction n with
  | zero => rfl
  | succ n ih => rw [py_a_s]; show up2 (py_a w0 n) 1147 n (-1) c = _; rw [up2_ne h]; exact ih
theorem py_b_at (w0 : fr_V) : ∀ n q, py_b w0 n 1148 q = if q < n then 0 else w0 1148 q := by
  intro n
  induction n with
  | zero => intro q; rw [if_neg (by omega)]; rfl
  | succ n ih =>
    intro q
    rw [py_b_s]
    show upd (py_b w0 n 1148) n 0 q = _
    unfold upd
    by_cases e : q = n
    · rw [if_pos e, if_pos (by omega)]
    · rw [if_neg e, ih q]
      by_cases e2 : q < n
      · rw [if_pos e2, if_pos (by omega)]
      · rw [if_neg e2, if_neg (by omega)]
theorem py_b_o (w0 : fr_V) {c : Nat} (h : c ≠ 1148) : ∀ n, py_b w0 n c = w0 c := by
  intro n
  induction n with
  | zero => rfl
  | succ n ih => rw [py_b_s]; show up2 (py_b w0 n) 1148 n 0 c = _; rw [up2_ne h]; exact ih
/-- what pays makes of the reference's state -/
theorem pays_is {y : fr_V} {N NS nr ar E : Nat} (hw : pyW y N nr) (hp : ptN y NS nr) (hE : E < 80) :
    pyI y NS nr (f_pays y nr N NS ar E) ∧ kY (f_pays y nr N NS ar E) (f_know y N (nI E)) N ∧ (∀ r h, r < nr → h < 80 → f_pays y nr N NS ar E 1147 (80 * r + h) = prF y N ar r h (E + 1)) := by
  have hnr := hw.1
  have I : pyI y NS nr (up2 (py_b (py_a y 1280) 8) 1100 48 0) := by
    have hz : ∀ q, q < 80 * nr → up2 (py_b (py_a y 1280) 8) 1100 48 0 1147 q = (-1) := fun q hq => by
      rw [up2_ne (by decide), py_b_o _ (by decide), py_a_at, if_pos (by omega)]
    refine ⟨fun c h1 h2 h3 h4 h5 => by rw [up2_ne h5, py_b_o _ h4, py_a_o _ h3], fun j hj => ?_, fun i hi => ?_, ?_⟩
    · rw [up2_self]; unfold upd; rw [if_neg hj, py_b_o _ (by decide), py_a_o _ (by decide)]
    · rw [smN_0 _ (fun q hq => by show ctr y NS (q / 80) i (up2 (py_b (py_a y 1280) 8) 1100 48 0 1147 q) = 0; rw [hz q hq]; unfold ctr; rw [if_pos rfl]), up2_ne (by decide), py_b_at, if_pos hi]
    · rw [smN_0 _ (fun q hq => by show (if up2 (py_b (py_a y 1280) 8) 1100 48 0 1147 q = (-1) then 0 else y 1113 (q / 80)) = 0; rw [hz q hq, if_pos rfl]), up2_self]; rfl
  obtain ⟨a, b, c⟩ := py_kL (ar := ar) hw I hp (fun r h hr hh => by rw [up2_ne (by decide), py_b_o _ (by decide), py_a_at, if_pos (by omega)]) (E + 1) (by omega)
  exact ⟨a, b (by omega), c⟩
