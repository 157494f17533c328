def cok (z : fr_V) (N : Nat) : Prop := ∀ k, k < 80 → z 100 6 = nI k → knC z N (nI k)
theorem cok.c {z z' : fr_V} {N : Nat} (h : ∀ c, c < 2000 → z' c = z c) (k : cok z N) : cok z' N := fun j hj e => knC_c h (k j hj (by rw [← h 100 (by decide)]; exact e))
theorem cok.kw {z : fr_V} {N k : Nat} (h : cok z N) (hW : nt_ok (z 102) (z 103) N) (hk : k < 80) : knC (f_kw z N (nI k)) N (nI k) ∧ cok (f_kw z N (nI k)) N := by
  have q : knC (f_kw z N (nI k)) N (nI k) := kw_knC hW (fun e => h k hk e)
  refine ⟨q, fun j hj e => ?_⟩
  rw [kw_6, nI_eq (by omega) (by omega)] at e
  subst e
  exact q
theorem kw_row {z : fr_V} {N r : Nat} {x : Int32} : f_kw z N x (2007 + 10 * r) = z (2007 + 10 * r) := by
  unfold f_kw
  split
  · rfl
  · unfold kw_end f_knowDeaths
    rw [upA_ne (by omega), upA_ne (by omega), upA_ne (by omega), up2_ne (by omega)]
/-- what settling has in hand: the class's state z9 behind some steps, the office as it was z, the reference y -/
def stI (I : List Nat) (z y : fr_V) (N n nr w : Nat) : Prop := nt2 z y N n w ∧ w < 80 ∧ li2 z y n w ∧ rn2 I z y nr n w
theorem p3_tL {I : List Nat} {z z9 y : fr_V} {N n nr w ar r h k : Nat} {x4 : Int32} (hI : stI I z y N n nr w) (hx : y 1141 1 = x4) (hs : sm3 z z9) (hk9 : knC z9 N (nI k)) (hr : r < nr) (hk : k < 80) (h1 : k - ar ≤ h) (h2 : h ≤ k) (h0 : z9 (2007 + 10 * r) h = prF y N ar r h k) :
    (∀ c, c < 2000 → p3_t N r k h x4 z9 c = z9 c) ∧ sm3 z (p3_t N r k h x4 z9) ∧ p3_t N r k h x4 z9 (2007 + 10 * r) h = prF y N ar r h (k + 1) ∧ ∀ r' h', ¬ (r' = r ∧ h' = h) → p3_t N r k h x4 z9 (2007 + 10 * r') h' = z9 (2007 + 10 * r') h' := by
  have ed := dueV (h := nI h) hs hk9 hI.1 hI.2.1 hI.2.2.1 hI.2.2.2 hr
  have ev := provV (h := nI h) hs hk9 hI.1 hI.2.1 hI.2.2.1 hI.2.2.2 hr hx
  unfold p3_t
  by_cases c : z9 (2007 + 10 * r) h = (-1)
  · rw [if_pos c]
    by_cases d : f_isDue3 z9 r (nI h) = 0
    · rw [if_pos d]
      refine ⟨fun _ _ => rfl, hs, ?_, fun _ _ _ => rfl⟩
      rw [prF_neg (fun e => e.2.2.1 (by rw [← ed]; exact d)), h0]
    · rw [if_neg d]
      by_cases v9 : f_isProved3 z9 N r (nI h) x4 = 0
      · rw [if_pos v9]
        refine ⟨fun _ _ => rfl, hs, ?_, fun _ _ _ => rfl⟩
        rw [prF_neg (fun e => e.2.2.2 (by rw [← ev]; exact v9)), h0]
      · rw [if_neg v9]
        refine ⟨fun c9 hc9 => up2_ne (by omega), hs.tr sm3.up, ?_, fun r' h' hne => ?_⟩
        · rw [up2_self, prF_pos ⟨by rw [← h0]; exact c, ⟨h1, h2⟩, fun e => d (by rw [ed]; exact e), fun e => v9 (by rw [ev]; exact e)⟩]
          unfold upd; rw [if_pos rfl]
        · by_cases e : r' = r
          · subst e
            rw [up2_self]; unfold upd; rw [if_neg (fun e2 => hne ⟨rfl, e2⟩)]
          · rw [up2_ne (by omega)]
  · rw [if_neg c]
    refine ⟨fun _ _ => rfl, hs, ?_, fun _ _ _ => rfl⟩
    rw [prF_neg (fun e => c (by rw [h0]; exact e.1)), h0]
theorem p3_M {I : List Nat} {z z9 y : fr_V} {N n nr w ar r k : Nat} {x4 : Int32} (hI : stI I z y N n nr w) (hx : y 1141 1 = x4) (hs : sm3 z z9) (hk9 : knC z9 N (nI k)) (hr : r < nr) (hk : k < 80) (h0 : ∀ h, h < 80 → z9 (2007 + 10 * r) h = prF y N ar r h k) : ∀ s, s ≤ k + 1 - (k - ar) →
    (∀ c, c < 2000 → p3 N r k (k - ar) x4 z9 s c = z9 c) ∧ sm3 z (p3 N r k (k - ar) x4 z9 s) ∧ (∀ h, h < 80 → p3 N r k (k - ar) x4 z9 s (2007 + 10 * r) h = if k - ar ≤ h ∧ h < k - ar + s then prF y N ar r h (k + 1) else prF y N ar r h k) ∧ ∀ r', r' ≠ r → ∀ h', p3 N r k (k - ar) x4 z9 s (2007 + 10 * r') h' = z9 (2007 + 10 * r') h' := by
  intro s
  induction s with
  | zero => intro _; exact ⟨fun _ _ => rfl, hs, fun h hh => by rw [if_neg (by omega)]; exact h0 h hh, fun _ _ _ => rfl⟩
  | succ s ih =>
    intro hs9
    obtain ⟨a, b, c, d⟩ := ih (by omega)
    rw [p3_s]
    obtain ⟨a1, b1, c1, d1⟩ := p3_tL (ar := ar) (h := k - ar + s) hI hx b (knC_c a hk9) hr hk (by omega) (by omega) (by rw [c _ (by omega), if_neg (by omega)])
    refine ⟨fun c9 hc9 => (a1 c9 hc9).trans (a c9 hc9), b1, fun h hh => ?_, fun r' hr' h' => by rw [d1 r' h' (fun e => hr' e.1)]; exact d r' hr' h'⟩
    by_cases e : h = k - ar + s
    · subst e; rw [c1, if_pos (by omega)]
    · rw [d1 r h (fun e2 => e e2.2), c h hh]
      by_cases e2 : k - ar ≤ h ∧ h < k - ar + s
      · rw [if_pos e2, if_pos (by omega)]
      · rw [if_neg e2, if_neg (by omega)]
theorem stC_M {I : List Nat} {z z9 y : fr_V} {N n nr w ar k : Nat} {x4 : Int32} (hI : stI I z y N n nr w) (hx : y 1141 1 = x4) (hs : sm3 z z9) (hk9 : knC z9 N (nI k)) (hk : k < 80) (h0 : ∀ r h, r < nr → h < 80 → z9 (2007 + 10 * r) h = prF y N ar r h k) : ∀ R, R ≤ nr →
    (∀ c, c < 2000 → stC N k ar x4 z9 R c = z9 c) ∧ sm3 z (stC N k ar x4 z9 R) ∧ ∀ r h, r < nr → h < 80 → stC N k ar x4 z9 R (2007 + 10 * r) h = if r < R then prF y N ar r h (k + 1) else prF y N ar r h k := by
  intro R
  induction R with
  | zero => intro _; exact ⟨fun _ _ => rfl, hs, fun r h hr hh => by rw [if_neg (by omega)]; exact h0 r h hr hh⟩
  | succ R ih =>
    intro hR
    obtain ⟨a, b, c⟩ := ih (by omega)
    rw [stC_s]
    obtain ⟨a1, b1, c1, d1⟩ := p3_M (ar := ar) hI hx b (knC_c a hk9) (show R < nr by omega) hk (fun h hh => by rw [c R h (by omega) hh, if_neg (by omega)]) (k + 1 - (k - ar)) (Nat.le_refl _)
    refine ⟨fun c9 hc9 => (a1 c9 hc9).trans (a c9 hc9), b1, fun r h hr hh => ?_⟩
    by_cases e : r = R
    · subst e
      rw [c1 h hh, if_pos (show r < r + 1 by omega)]
      by_cases e2 : k - ar ≤ h ∧ h < k - ar + (k + 1 - (k - ar))
      · rw [if_pos e2]
      · rw [if_neg e2, prF_off (by omega)]
    · rw [d1 r e h, c r h hr hh]
      by_cases e2 : r < R
      · rw [if_pos e2, if_pos (by omega)]
      · rw [if_neg e2, if_neg (by omega)]
theorem stB_M {I : List Nat} {z z9 y : fr_V} {N n nr w ar k0 : Nat} {x4 : Int32} (hI : stI I z y N n nr w) (hx : y 1141 1 = x4) (hs : sm3 z z9) (hc9 : cok z9 N) (h0 : ∀ r h, r < nr → h < 80 → z9 (2007 + 10 * r) h = prF y N ar r h k0) : ∀ s, k0 + s ≤ 80 →
    sm3 z (stB N nr ar k0 x4 z9 s) ∧ cok (stB N nr ar k0 x4 z9 s) N ∧ ∀ r h, r < nr → h < 80 → stB N nr ar k0 x4 z9 s (2007 + 10 * r) h = prF y N ar r h (k0 + s) := by
  intro s
  induction s with
  | zero => intro _; exact ⟨hs, hc9, h0⟩
  | succ s ih =>
    intro hs8
    obtain ⟨a, b, c⟩ := ih (by omega)
    rw [stB_s]
    have hW : nt_ok (stB N nr ar k0 x4 z9 s 102) (stB N nr ar k0 x4 z9 s 103) N := by
      rw [a.1 102 (by decide) (by decide) (by decide) (by decide) (by decide), a.1 103 (by decide) (by decide) (by decide) (by decide) (by decide)]
      exact hI.1.okz hI.2.2.1.1
    obtain ⟨q1, q2⟩ := b.kw hW (show k0 + s < 80 by omega)
    obtain ⟨a1, b1, c1⟩ := stC_M (ar := ar) hI hx (a.tr sm3.kw) q1 (show k0 + s < 80 by omega) (fun r h hr hh => by rw [kw_row]; exact c r h hr hh) nr (Nat.le_refl _)
    exact ⟨b1, q2.c a1, fun r h hr hh => by rw [c1 r h hr hh, if_pos hr]; rfl⟩
theorem fg_at (x : Int32) (f0 : Nat → Int32) : ∀ n q, fgF x f0 n q = if q < n then (if f0 q < x then f0 q else (-1)) else f0 q := by
  intro n
  induction n with
  | zero => intro q; rw [if_neg (by omega)]; rfl
  | succ n ih =>
    intro q
    show (if fgF x f0 n n < x then fgF x f0 n else upd (fgF x f0 n) n (-1)) q = _
    rw [ih n, if_neg (Nat.lt_irrefl n)]
    by_cases c : f0 n < x
    · rw [if_pos c, ih q]
      by_cases e : q < n
      · rw [if_pos e, if_pos (show q < n + 1 by omega)]
      · rw [if_neg e]
        by_cases e2 : q = n
        · subst e2; rw [if_pos (by omega), if_pos c]
        · rw [if_neg (by omega)]
    · rw [if_neg c]
      unfold upd
      by_cases e2 : q = n
      · subst e2; rw [if_pos rfl, if_pos (by omega), if_neg c]
      · rw [if_neg e2, ih q]
        by_cases e : q < n
        · rw [if_pos e, if_pos (show q < n + 1 by omega)]
        · rw [if_neg e, if_neg (by omega)]
theorem fgA_at (x : Int32) (w0 : fr_V) : ∀ n r q, q < 80 → fgA x w0 n (2007 + 10 * r) q = if r < n then (if w0 (2007 + 10 * r) q < x then w0 (2007 + 10 * r) q else (-1)) else w0 (2007 + 10 * r) q := by
  intro n
  induction n with
  | zero => intro r q _; rw [if_neg (by omega)]; rfl
  | succ n ih =>
    intro r q hq
    rw [fgA_s]
    by_cases e : r = n
    · subst e
      rw [upA_self, fg_at, if_pos hq, ih r q hq, if_neg (Nat.lt_irrefl r), if_pos (Nat.lt_succ_self r)]
    · rw [upA_ne (by omega), ih r q hq]
      by_cases e2 : r < n
      · rw [if_pos e2, if_pos (show r < n + 1 by omega)]
      · rw [if_neg e2, if_neg (by omega)]
theorem fgA_lo (x : Int32) (w0 : fr_V) {c : Nat} (hc : c < 2000) : ∀ n, fgA x w0 n c = w0 c := by
  intro n
  induction n with
  | zero => rfl
  | succ n ih => rw [fgA_s, upA_ne (by omega)]; exact ih
/-- the rows of what was paid, behind settling -/
def pdR (z y : fr_V) (N nr ar w : Nat) : Prop := ∃ k0, k0 ≤ w ∧ z 300 10 = nI k0 ∧ ∀ r h, r < nr → h < 80 → (z (2007 + 10 * r) h = (-1) ∨ ∃ k, k < 80 ∧ z (2007 + 10 * r) h = nI k) ∧ (if z (2007 + 10 * r) h < nI k0 then z (2007 + 10 * r) h else (-1)) = prF y N ar r h k0
theorem settle_is {I : List Nat} {z y : fr_V} {N n nr w ar ac : Nat} (hI : stI I z y N n nr w) (hx : y 1141 1 = f_set z ac 1) (ha : f_set z ac 0 = nI ar) (har : ar ≤ 40) (hc : cok z N) (hp : pdR z y N nr ar w) :
    sm4 z (f_st z ac N nr w) ∧ cok (f_st z ac N nr w) N ∧ f_st z ac N nr w 300 10 = nI w ∧ ∀ r h, r < nr → h < 80 → f_st z ac N nr w (2007 + 10 * r) h = prF y N ar r h (w + 1) := by
  obtain ⟨k0, hk0, e0, hrow⟩ := hp
  have hw := hI.2.1
  have e1 : f_st z ac N nr w = up2 (stB N nr ar k0 (f_set z ac 1) (fgA (nI k0) z nr) (w + 1 - k0)) 300 10 (nI w) := by
    unfold f_st f_settle
    rw [ha, e0, nI_clamp (by omega), nI_clamp (by omega)]
  obtain ⟨a, b, c⟩ := stB_M (ar := ar) (k0 := k0) (z9 := fgA (nI k0) z nr) hI hx (sm3.fgA nr) (hc.c (fun c9 h9 => fgA_lo (nI k0) z h9 nr)) (fun r h hr hh => by rw [fgA_at _ _ _ _ _ hh, if_pos hr]; exact (hrow r h hr hh).2) (w + 1 - k0) (by omega)
  refine ⟨st_sm z ac N nr w, ?_, ?_, fun r h hr hh => ?_⟩
  · rw [e1]
    intro j hj e
    have q := b j hj (by rw [up2_ne (by decide)] at e; exact e)
    unfold knC dedC cntC at q ⊢
    rw [up2_ne (show (102 : Nat) ≠ 300 by decide), up2_ne (show (103 : Nat) ≠ 300 by decide), up2_ne (show (104 : Nat) ≠ 300 by decide), up2_ne (show (105 : Nat) ≠ 300 by decide), up2_ne (show (108 : Nat) ≠ 300 by decide), up2_ne (show (109 : Nat) ≠ 300 by decide), up2_ne (show (110 : Nat) ≠ 300 by decide), up2_ne (show (501 : Nat) ≠ 300 by decide)]
    exact q
  · rw [e1, up2_self]; unfold upd; rw [if_pos rfl]
  · rw [e1, up2_ne (by omega), c r h hr hh, show k0 + (w + 1 - k0) = w + 1 by omega]
theorem pdR_st {z y : fr_V} {N nr ar w : Nat} (hw : w < 80) (e0 : z 300 10 = nI w) (h : ∀ r h, r < nr → h < 80 → z (2007 + 10 * r) h = prF y N ar r h (w + 1)) : pdR z y N nr ar w := by
  refine ⟨w, Nat.le_refl _, e0, fun r h9 hr hh => ?_⟩
  rw [h r h9 hr hh]
  refine ⟨?_, prF_cut (by omega) (by omega)⟩
  rcases prF_in (y := y) (N := N) (ar := ar) (r := r) (h := h9) (w + 1) with e | ⟨j, h1, h2, h3⟩
  · exact Or.inl e
  · exact Or.inr ⟨j, by omega, h3⟩
