theorem stI.s4 {I : List Nat} {z zz y : fr_V} {N n nr w : Nat} (h : stI I z y N n nr w) (s : sm4 z zz) : stI I zz y N n nr w := by
  obtain ⟨a, b, c, d⟩ := h
  have q : ∀ c, c < 2000 → c ≠ 100 → c ≠ 108 → c ≠ 109 → c ≠ 110 → c ≠ 300 → zz c = z c := s.1
  refine ⟨?_, b, ?_, ?_⟩
  · unfold nt2 at a ⊢
    rw [s.2.1 5 (by decide), q 102 (by decide) (by decide) (by decide) (by decide) (by decide) (by decide), q 103 (by decide) (by decide) (by decide) (by decide) (by decide) (by decide), q 104 (by decide) (by decide) (by decide) (by decide) (by decide) (by decide), q 105 (by decide) (by decide) (by decide) (by decide) (by decide) (by decide)]
    exact a
  · unfold li2 at c ⊢
    rw [q 500 (by decide) (by decide) (by decide) (by decide) (by decide) (by decide), q 501 (by decide) (by decide) (by decide) (by decide) (by decide) (by decide), q 502 (by decide) (by decide) (by decide) (by decide) (by decide) (by decide)]
    exact c
  · refine ⟨d.1, by rw [s.2.2.1 2 (by decide)]; exact d.2.1, d.2.2.1, fun r hr => ?_⟩
    rw [s.2.2.2 r, q 302 (by decide) (by decide) (by decide) (by decide) (by decide) (by decide)]
    exact d.2.2.2 r hr
theorem paid_by {zz : fr_V} {r h k : Nat} (hh : h < 80) : f_X7_isPaidBy zz r (nI h) (nI k) = if zz (2007 + 10 * r) h = (-1) then 0 else if nI k < zz (2007 + 10 * r) h then 0 else 1 := by
  unfold f_X7_isPaidBy
  rw [nI_clamp (show h < 2 ^ 31 by omega)]
/-- a half that was paid by k -/
theorem by_is {y zz : fr_V} {N ar r h k w : Nat} {A B : Int32} (hk : k ≤ w) (hw : w < 80) (hh : h < 80) (e : zz (2007 + 10 * r) h = prF y N ar r h (w + 1)) : (if f_X7_isPaidBy zz r (nI h) (nI k) = 0 then A else B) = if prF y N ar r h (k + 1) = (-1) then A else B := by
  rw [paid_by hh, e]
  have hc := prF_cut (y := y) (N := N) (ar := ar) (r := r) (h := h) (k := k + 1) (K := w + 1) (by omega) (by omega)
  rcases prF_in (y := y) (N := N) (ar := ar) (r := r) (h := h) (w + 1) with p | ⟨j, h1, h2, h3⟩
  · rw [p] at hc ⊢
    have hc2 : prF y N ar r h (k + 1) = (-1) := by rw [← hc]; split <;> rfl
    rw [hc2, if_pos rfl, if_pos rfl, if_pos rfl]
  · rw [h3] at hc ⊢
    rw [if_neg (nI_m1 (by omega))]
    by_cases hj : j ≤ k
    · rw [if_pos (nI_lt (by omega) (by omega))] at hc
      rw [← hc, if_neg (nI_nlt hj (by omega)), if_neg (by decide), if_neg (nI_m1 (by omega))]
    · rw [if_neg (nI_nlt (by omega) (by omega))] at hc
      rw [← hc, if_pos (nI_lt (by omega) (by omega)), if_pos rfl, if_pos rfl]
theorem by_at {y zz : fr_V} {N ar r h k w : Nat} (hk : k ≤ w) (hw : w < 80) (e : zz (2007 + 10 * r) h = prF y N ar r h (w + 1)) (c : ¬ prF y N ar r h (k + 1) = (-1)) : zz (2007 + 10 * r) h = prF y N ar r h (k + 1) := by
  rw [e]
  obtain ⟨d, rfl⟩ : ∃ d, w = k + d := ⟨w - k, by omega⟩
  rw [show k + d + 1 = k + 1 + d by omega]
  exact prF_up c d
theorem prF_late {y : fr_V} {N ar r h k : Nat} (hh : k < h) : prF y N ar r h (k + 1) = (-1) := by
  rcases prF_in (y := y) (N := N) (ar := ar) (r := r) (h := h) (k + 1) with e | ⟨j, h1, h2, h3⟩
  · exact e
  · omega
theorem smN_r (f : Nat → Nat → Int32) : ∀ nr, smN (fun q => f (q / 80) (q % 80)) (80 * nr) = smN (fun r => smN (f r) 80) nr := by
  intro nr
  induction nr with
  | zero => rfl
  | succ nr ih =>
    rw [show 80 * (nr + 1) = 80 * nr + 80 by omega, smN_add, ih]
    show _ = smN (fun r => smN (f r) 80) nr + smN (f nr) 80
    have e : smN (fun i => f ((80 * nr + i) / 80) ((80 * nr + i) % 80)) 80 = smN (f nr) 80 := smN_e 80 (fun i hi => by
      show f ((80 * nr + i) / 80) ((80 * nr + i) % 80) = f nr i
      rw [show (80 * nr + i) / 80 = nr by omega, show (80 * nr + i) % 80 = i by omega])
    rw [e]
theorem gnI_sm (v : fr_V) (NS r : Nat) (x1 x a0 : Int32) : ∀ n, gnI v NS r x1 x a0 n = a0 + smN (fun h => if f_X7_isPaidBy v r (nI h) x = 0 then 0 else shC v NS r x1 (v (2007 + 10 * r) h)) n := by
  intro n
  induction n with
  | zero => show a0 = a0 + 0; rw [Int32.add_zero]
  | succ n ih =>
    rw [gnI_s, ih]
    show _ = a0 + (smN (fun h => if f_X7_isPaidBy v r (nI h) x = 0 then 0 else shC v NS r x1 (v (2007 + 10 * r) h)) n + if f_X7_isPaidBy v r (nI n) x = 0 then 0 else shC v NS r x1 (v (2007 + 10 * r) n))
    by_cases c : f_X7_isPaidBy v r (nI n) x = 0
    · rw [if_pos c, if_pos c, Int32.add_zero]
    · rw [if_neg c, if_neg c, Int32.add_assoc]
theorem pmI_sm (v : fr_V) (r : Nat) (x a0 : Int32) : ∀ n, pmI v r x a0 n = a0 + smN (fun h => if f_X7_isPaidBy v r (nI h) x = 0 then 0 else v (2000 + 10 * r) 3) n := by
  intro n
  induction n with
  | zero => show a0 = a0 + 0; rw [Int32.add_zero]
  | succ n ih => rw [pmI_s, ih, Int32.add_assoc]; rfl
theorem dbF_sm (v : fr_V) (r : Nat) (x : Int32) : ∀ n, dbF v r x n = smN (fun h => if f_X7_isPaidBy v r (nI h) x = 0 then 0 else if f_isDue3 v r (nI h) = 0 then v (2000 + 10 * r) 3 else 0) n := by
  intro n
  induction n with
  | zero => rfl
  | succ n ih =>
    rw [dbF_s, ih]
    show _ = smN (fun h => if f_X7_isPaidBy v r (nI h) x = 0 then 0 else if f_isDue3 v r (nI h) = 0 then v (2000 + 10 * r) 3 else 0) n + (if f_X7_isPaidBy v r (nI n) x = 0 then 0 else if f_isDue3 v r (nI n) = 0 then v (2000 + 10 * r) 3 else 0)
    by_cases c : f_X7_isPaidBy v r (nI n) x = 0
    · rw [if_pos c, if_pos c, Int32.add_zero]
    · rw [if_neg c, if_neg c]
      by_cases d : f_isDue3 v r (nI n) = 0
      · rw [if_pos d, if_pos d]
      · rw [if_neg d, if_neg d, Int32.add_zero]
theorem ow_sm (P D : Nat → Int32) (c : Int32) : ∀ n, sp_ow P D c n = smN (fun j => if P j = (-1) then 0 else if D j = 0 then c else 0) n := by
  intro n
  induction n with
  | zero => rfl
  | succ n ih => show sp_ow P D c n + _ = _; rw [ih]; rfl
/-- the parts of the two -/
def sl2 (z y : fr_V) (NS w : Nat) : Prop := z 300 8 = nI NS ∧ y 1100 14 = nI NS ∧ slR z y NS ∧ ∀ j, j < NS → ∃ t, t ≤ w ∧ z 308 j = nI t
theorem share_eq {I : List Nat} {z y : fr_V} {nr n w NS r i : Nat} {x : Int32} (hr2 : rn2 I z y nr n w) (hs : sl2 z y NS w) (hr : r < nr) (hi : i < 8) : shC z NS r (nI i) x = shV (y 1113 r) (fun j => f_parts y NS (nI r) (nI j) x) (nI i) := by
  obtain ⟨-, ⟨e0, e1, e2, e3, e4, e5⟩, hh, -⟩ := hr2.2.2.2 r hr
  have hnr := hr2.1
  unfold shC
  rw [e3]
  exact shV_e (fun j hj => parts_eq (by omega) hj hs.2.2.1 e4 e0 (by rw [← e0]; exact hh)) (vp_in_nI hi (by decide))
section PAY
variable {I : List Nat} {zz y : fr_V} {N n nr w ar NS k : Nat}
/-- what a holder got -/
theorem got_eq (hI : stI I zz y N n nr w) (hs : sl2 zz y NS w) (hp : ptN y NS nr) (hk : k ≤ w) (hrow : ∀ r h, r < nr → h < 80 → zz (2007 + 10 * r) h = prF y N ar r h (w + 1)) {i : Nat} (hi : i < 8) : gnO zz NS k (nI i) nr = f_pays y nr N NS ar k 1148 i := by
  have hw := hI.2.1
  obtain ⟨a, b, c⟩ := pays_is (ar := ar) (E := k) (hI.2.2.2.pyW hI.1 hI.2.2.1.1) hp (by omega)
  rw [a.2.2.1 i hi]
  have e : smN (fun q => ctr y NS (q / 80) i (f_pays y nr N NS ar k 1147 q)) (80 * nr) = smN (fun q => ctr y NS (q / 80) i (prF y N ar (q / 80) (q % 80) (k + 1))) (80 * nr) := smN_e _ (fun q hq => by
    have h1 := c (q / 80) (q % 80) (by omega) (by omega)
    rw [show 80 * (q / 80) + q % 80 = q by omega] at h1
    rw [h1])
  rw [e, smN_r (fun r h => ctr y NS r i (prF y N ar r h (k + 1)))]
  have g : ∀ R, R ≤ nr → gnO zz NS k (nI i) R = smN (fun r => smN (fun h => ctr y NS r i (prF y N ar r h (k + 1))) 80) R := by
    intro R
    induction R with
    | zero => intro _; rfl
    | succ R ih =>
      intro hR
      rw [gnO_s, gnI_sm, ih (by omega)]
      show _ = smN (fun r => smN (fun h => ctr y NS r i (prF y N ar r h (k + 1))) 80) R + smN (fun h => ctr y NS R i (prF y N ar R h (k + 1))) 80
      congr 1
      rw [smN_cut (f := fun h => ctr y NS R i (prF y N ar R h (k + 1))) (a := k + 1) (b := 80) (by omega) (fun h h1 h2 => by show ctr y NS R i (prF y N ar R h (k + 1)) = 0; rw [prF_late (by omega)]; unfold ctr; rw [if_pos rfl])]
      refine smN_e _ (fun h hh => ?_)
      have hr9 := hrow R h (by omega) (by omega)
      show (if f_X7_isPaidBy zz R (nI h) (nI k) = 0 then 0 else shC zz NS R (nI i) (zz (2007 + 10 * R) h)) = _
      rw [by_is hk hw (by omega) hr9]
      unfold ctr
      by_cases d : prF y N ar R h (k + 1) = (-1)
      · rw [if_pos d, if_pos d]
      · rw [if_neg d, if_neg d, by_at hk hw hr9 d, share_eq hI.2.2.2 hs (by omega) hi]
  exact g nr (Nat.le_refl _)
theorem paidAll_eq (hI : stI I zz y N n nr w) (hp : ptN y NS nr) (hk : k ≤ w) (hrow : ∀ r h, r < nr → h < 80 → zz (2007 + 10 * r) h = prF y N ar r h (w + 1)) : pmO zz k nr = f_pays y nr N NS ar k 1100 48 := by
  have hw := hI.2.1
  obtain ⟨a, b, c⟩ := pays_is (ar := ar) (E := k) (hI.2.2.2.pyW hI.1 hI.2.2.1.1) hp (by omega)
  rw [a.2.2.2]
  have e : smN (fun q => if f_pays y nr N NS ar k 1147 q = (-1) then 0 else y 1113 (q / 80)) (80 * nr) = smN (fun q => if prF y N ar (q / 80) (q % 80) (k + 1) = (-1) then 0 else y 1113 (q / 80)) (80 * nr) := smN_e _ (fun q hq => by
    have h1 := c (q / 80) (q % 80) (by omega) (by omega)
    rw [show 80 * (q / 80) + q % 80 = q by omega] at h1
    rw [h1])
  rw [e, smN_r (fun r h => if prF y N ar r h (k + 1) = (-1) then 0 else y 1113 r)]
  have g : ∀ R, R ≤ nr → pmO zz k R = smN (fun r => smN (fun h => if prF y N ar r h (k + 1) = (-1) then 0 else y 1113 r) 80) R := by
    intro R
    induction R with
    | zero => intro _; rfl
    | succ R ih =>
      intro hR
      rw [pmO_s, pmI_sm, ih (by omega)]
      show _ = smN (fun r => smN (fun h => if prF y N ar r h (k + 1) = (-1) then 0 else y 1113 r) 80) R + smN (fun h => if prF y N ar R h (k + 1) = (-1) then 0 else y 1113 R) 80
      congr 1
      rw [smN_cut (f := fun h => if prF y N ar R h (k + 1) = (-1) then 0 else y 1113 R) (a := k + 1) (b := 80) (by omega) (fun h h1 h2 => by show (if prF y N ar R h (k + 1) = (-1) then 0 else y 1113 R) = 0; rw [prF_late (by omega), if_pos rfl])]
      refine smN_e _ (fun h hh => ?_)
      obtain ⟨-, ⟨-, -, -, e3, -⟩, -⟩ := hI.2.2.2.2.2.2 R (by omega)
      show (if f_X7_isPaidBy zz R (nI h) (nI k) = 0 then 0 else zz (2000 + 10 * R) 3) = _
      rw [by_is hk hw (by omega) (hrow R h (by omega) (by omega)), e3]
  exact g nr (Nat.le_refl _)
/-- what is owed back of a rent; z9: the settled state as known in k -/
theorem owed_eq {z9 : fr_V} (hI : stI I zz y N n nr w) (hp : ptN y NS nr) (hk : k ≤ w) (hrow : ∀ r h, r < nr → h < 80 → zz (2007 + 10 * r) h = prF y N ar r h (w + 1)) (h9 : sm3 zz z9) (hk9 : knC z9 N (nI k)) (hr9 : ∀ r, z9 (2007 + 10 * r) = zz (2007 + 10 * r)) {r : Nat} (hr : r < nr) : dbF z9 r (nI k) (k + 1) = f_owedOf (f_pays y nr N NS ar k) r := by
  have hw := hI.2.1
  have hnr := hI.2.2.2.1
  obtain ⟨a, b, c⟩ := pays_is (ar := ar) (E := k) (hI.2.2.2.pyW hI.1 hI.2.2.1.1) hp (by omega)
  have hW := hI.2.2.2.pyW hI.1 hI.2.2.1.1
  obtain ⟨-, ⟨-, -, -, e3, -⟩, -⟩ := hI.2.2.2.2.2.2 r hr
  unfold f_owedOf
  rw [dbF_sm, ow_sm, a.1 1113 (by decide) (by decide) (by decide) (by decide) (by decide)]
  rw [smN_cut (a := k + 1) (b := 80) (by omega) (fun h h1 h2 => by show (if f_pays y nr N NS ar k 1147 (80 * r + h) = (-1) then 0 else _) = 0; rw [c r h hr (by omega), prF_late (by omega), if_pos rfl])]
  refine smN_e _ (fun h hh => ?_)
  show (if f_X7_isPaidBy z9 r (nI h) (nI k) = 0 then 0 else if f_isDue3 z9 r (nI h) = 0 then z9 (2000 + 10 * r) 3 else 0) = if f_pays y nr N NS ar k 1147 (80 * r + h) = (-1) then 0 else if f_X11_isDue (f_pays y nr N NS ar k) (nI r) (nI h) = 0 then y 1113 r else 0
  rw [by_is hk hw (by omega) (by rw [hr9 r]; exact hrow r h hr (by omega)), c r h hr (by omega), h9.2.2 r, e3, dueV (h := nI h) h9 hk9 hI.1 hI.2.1 hI.2.2.1 hI.2.2.2 hr, due_c (h := nI h) b (by omega) (by rw [know_o (by decide) (by decide)]; exact (hW.2.2 r hr).1) (by rw [know_o (by decide) (by decide)]; exact (hW.2.2 r hr).2)]
theorem dsW_is (hI : stI I zz y N n nr w) (hk : k ≤ w) (hc : cok zz N) : ∀ r, sm3 zz (dsW zz N (nI k) r) ∧ cok (dsW zz N (nI k) r) N ∧ (0 < r → knC (dsW zz N (nI k) r) N (nI k)) ∧ ∀ q, dsW zz N (nI k) r (2007 + 10 * q) = zz (2007 + 10 * q) := by
  have hw := hI.2.1
  intro r
  induction r with
  | zero => exact ⟨sm3.rfl, hc, fun h => by omega, fun _ => rfl⟩
  | succ r ih =>
    obtain ⟨a, b, -, d⟩ := ih
    rw [dsW_s]
    have hW : nt_ok (dsW zz N (nI k) r 102) (dsW zz N (nI k) r 103) N := by
      rw [a.1 102 (by decide) (by decide) (by decide) (by decide) (by decide), a.1 103 (by decide) (by decide) (by decide) (by decide) (by decide)]
      exact hI.1.okz hI.2.2.1.1
    obtain ⟨q1, q2⟩ := b.kw hW (show k < 80 by omega)
    exact ⟨a.tr sm3.kw, q2, fun _ => q1, fun q => by rw [kw_row]; exact d q⟩
theorem debts_eq (hI : stI I zz y N n nr w) (hp : ptN y NS nr) (hk : k ≤ w) (hc : cok zz N) (hrow : ∀ r h, r < nr → h < 80 → zz (2007 + 10 * r) h = prF y N ar r h (w + 1)) : dsF zz N k nr = st_sum (f_pays y nr N NS ar k) (nI k) 2 0 nr := by
  have g : ∀ R, R ≤ nr → dsF zz N k R = st_sum (f_pays y nr N NS ar k) (nI k) 2 0 R := by
    intro R
    induction R with
    | zero => intro _; rfl
    | succ R ih =>
      intro hR
      obtain ⟨a, b, c, d⟩ := dsW_is hI hk hc (R + 1)
      rw [dsF_s, st_sum_s, ih (by omega), if_pos rfl, owed_eq (NS := NS) (ar := ar) hI hp hk hrow a (c (by omega)) d (by omega)]
  exact g nr (Nat.le_refl _)
theorem takings_eq (hI : stI I zz y N n nr w) (hp : ptN y NS nr) (hk : k ≤ w) {x : Int32} : tkF zz x nr = st_sum (f_pays y nr N NS ar k) x 0 0 nr := by
  have hw := hI.2.1
  obtain ⟨a, b, c⟩ := pays_is (ar := ar) (E := k) (hI.2.2.2.pyW hI.1 hI.2.2.1.1) hp (by omega)
  have g : ∀ R, R ≤ nr → tkF zz x R = st_sum (f_pays y nr N NS ar k) x 0 0 R := by
    intro R
    induction R with
    | zero => intro _; rfl
    | succ R ih =>
      intro hR
      obtain ⟨-, ⟨-, -, -, -, e4, e5⟩, -⟩ := hI.2.2.2.2.2.2 R (by omega)
      show tkF zz x R + (if x < zz (2000 + 10 * R) 4 then 0 else zz (2000 + 10 * R) 5) = _
      rw [st_sum_s, ih (by omega), if_neg (show ¬ (0 : Int32) = 2 by decide), e4, e5, a.1 1109 (by decide) (by decide) (by decide) (by decide) (by decide), a.1 1114 (by decide) (by decide) (by decide) (by decide) (by decide)]
  exact g nr (Nat.le_refl _)
end PAY
