theorem kn1_lt (T : Nat → Int32) (x : Int32) (f0 : Nat → Int32) : ∀ n i, i < n → kn1 T x f0 n i = if x < T i then 0 else 1 := by
  intro n
  induction n with
  | zero => intro i h; exact absurd h (Nat.not_lt_zero i)
  | succ n ih =>
    intro i h
    rw [kn1_s]
    unfold upd
    by_cases e : i = n
    · rw [if_pos e, e]
    · rw [if_neg e]; exact ih i (by omega)
theorem kn2_e {S S' O O' : Nat → Int32} {N : Nat} (hS : ∀ j, j < N → S j = S' j) (hO : ∀ j, j < N → O j = O' j) : ∀ (t : Nat) (f f' : Nat → Int32), t ≤ N → (∀ i, i < N → f i = f' i) → ∀ i, i < N → kn2 S O t f i = kn2 S' O' t f' i := by
  intro t
  induction t with
  | zero => intro f f' _ h i hi; exact h i hi
  | succ t ih =>
    intro f f' ht h i hi
    rw [kn2_s, kn2_s, hS t (by omega), hO t (by omega), h t (by omega)]
    refine ih _ _ (by omega) (fun q hq => ?_) i hi
    by_cases c : S' t = 2
    · rw [if_pos c, if_pos c]
      by_cases c2 : f' t = 0
      · rw [if_pos c2, if_pos c2]; exact h q hq
      · rw [if_neg c2, if_neg c2]
        unfold upd
        rw [h q hq]
    · rw [if_neg c, if_neg c]; exact h q hq
theorem kn4_e {S S' O O' H H' C C' g g' : Nat → Int32} {N : Nat} (hS : ∀ j, j < N → S j = S' j) (hO : ∀ j, j < N → O j = O' j) (hH : ∀ j, j < N → S j = 1 → H j = H' j) (hC : ∀ j, j < N → C j = C' j) (hg : ∀ l, l < 12 → g l = g' l) : ∀ t, t ≤ N → ∀ l, l < 12 → kn4 S O H C g t l = kn4 S' O' H' C' g' t l := by
  intro t
  induction t with
  | zero => intro _ l hl; exact hg l hl
  | succ t ih =>
    intro ht l hl
    have ih' := ih (by omega)
    rw [kn4_s, kn4_s, hO t (by omega), hC t (by omega)]
    by_cases c : S t = 1
    · have c' : S' t = 1 := by rw [← hS t (by omega)]; exact c
      rw [if_pos c, if_pos c', hH t (by omega) c]
      by_cases c2 : C' t = 0
      · rw [if_pos c2, if_pos c2]; exact ih' l hl
      · rw [if_neg c2, if_neg c2]
        unfold upd
        rw [ih' l hl]
    · have c' : ¬ S' t = 1 := by rw [← hS t (by omega)]; exact c
      rw [if_neg c, if_neg c']; exact ih' l hl
theorem gdF_lt (C S Lv f0 : Nat → Int32) : ∀ n i, i < n → gdF C S Lv f0 n i = if C i = 0 then 0 else if S i = 0 then (if Lv i = 0 then 0 else 1) else 0 := by
  intro n
  induction n with
  | zero => intro i h; exact absurd h (Nat.not_lt_zero i)
  | succ n ih =>
    intro i h
    rw [gdF_s]
    unfold upd
    by_cases e : i = n
    · rw [if_pos e, e]
    · rw [if_neg e]; exact ih i (by omega)
theorem kn3_lt (f0 : Nat → Int32) : ∀ n i, i < n → kn3 f0 n i = (-1) := by
  intro n
  induction n with
  | zero => intro i h; exact absurd h (Nat.not_lt_zero i)
  | succ n ih =>
    intro i h
    rw [kn3_s]
    unfold upd
    by_cases e : i = n
    · rw [if_pos e]
    · rw [if_neg e]; exact ih i (by omega)
/-- what counts, who is dead, which proofs are good, as known in x: of the notes' rows alone -/
def cntF (S O T : Nat → Int32) (N : Nat) (x : Int32) : Nat → Int32 := kn2 S O N (kn1 T x (fun _ => 0) N)
def dedF (S O H C : Nat → Int32) (N : Nat) : Nat → Int32 := kn4 S O H C (fun _ => (-1)) N
def lvV (D B : Nat → Int32) (o h : Int32) : Int32 := if (if D o.toNatClampNeg = (-1) then 1 else if D o.toNatClampNeg < h then 0 else 1) = (0 : Int32) then 0 else if h < B o.toNatClampNeg then 0 else 1
def gdV (S O H C D B : Nat → Int32) (i : Nat) : Int32 := if C i = 0 then 0 else if S i = 0 then (if lvV D B (O i) (H i) = 0 then 0 else 1) else 0
def cntC (v : fr_V) (N : Nat) (x : Int32) : Nat → Int32 := cntF (v 102) (v 103) (v 105) N x
def dedC (v : fr_V) (N : Nat) (x : Int32) : Nat → Int32 := dedF (v 102) (v 103) (v 104) (cntC v N x) N
def knC (v : fr_V) (N : Nat) (x : Int32) : Prop := (∀ i, i < N → v 108 i = cntC v N x i) ∧ (∀ l, l < 12 → v 110 l = dedC v N x l) ∧ ∀ i, i < N → v 109 i = gdV (v 102) (v 103) (v 104) (cntC v N x) (dedC v N x) (v 501) i
theorem lvV_e {D D' B : Nat → Int32} {o h : Int32} (ho : vp_in o 12) (hD : ∀ l, l < 12 → D l = D' l) : lvV D B o h = lvV D' B o h := by
  obtain ⟨a, ha, rfl⟩ := vp_in_of ho (by omega)
  unfold lvV
  rw [nI_clamp (show a < 2 ^ 31 by omega), hD a ha]
/-- know of the class: whatever was cached, it is the knowledge of that half -/
theorem kw_knC {v : fr_V} {N : Nat} {x : Int32} (hW : nt_ok (v 102) (v 103) N) (hc : v 100 6 = x → knC v N x) : knC (f_kw v N x) N x := by
  unfold f_kw
  by_cases h : x = v 100 6
  · rw [if_pos h]; exact hc h.symm
  · rw [if_neg h]
    have e1 : ∀ i, i < N → kn2 (v 102) (v 103) N (kn1 (v 105) x (v 108) N) i = cntF (v 102) (v 103) (v 105) N x i := fun i hi => by
      unfold cntF
      exact kn2_e (fun _ _ => rfl) (fun _ _ => rfl) N _ _ (Nat.le_refl _) (fun q hq => by rw [kn1_lt _ _ _ N q hq, kn1_lt _ _ _ N q hq]) i hi
    have e2 : ∀ l, l < 12 → kn4 (v 102) (v 103) (v 104) (kn2 (v 102) (v 103) N (kn1 (v 105) x (v 108) N)) (fl (-1) (v 110) 12) N l = dedF (v 102) (v 103) (v 104) (cntF (v 102) (v 103) (v 105) N x) N l := fun l hl => by
      unfold dedF
      exact kn4_e (fun _ _ => rfl) (fun _ _ => rfl) (fun _ _ _ => rfl) e1 (fun q hq => by rw [fl_eq, if_pos hq]) N (Nat.le_refl _) l hl
    refine ⟨e1, e2, fun i hi => ?_⟩
    show gdF (kn2 (v 102) (v 103) N (kn1 (v 105) x (v 108) N)) (v 102) (fun j => f_X1_livedIn (f_knowDeaths (upA (up2 v 100 6 x) 108 (kn2 (v 102) (v 103) N (kn1 (v 105) x (v 108) N))) N) (v 103 j) (v 104 j)) (v 109) N i = _
    rw [gdF_lt _ _ _ _ N i hi]
    show _ = gdV (v 102) (v 103) (v 104) (cntF (v 102) (v 103) (v 105) N x) (dedF (v 102) (v 103) (v 104) (cntF (v 102) (v 103) (v 105) N x) N) (v 501) i
    unfold gdV
    rw [e1 i hi]
    by_cases c1 : cntF (v 102) (v 103) (v 105) N x i = 0
    · rw [if_pos c1, if_pos c1]
    · rw [if_neg c1, if_neg c1]
      by_cases c2 : v 102 i = 0
      · rw [if_pos c2, if_pos c2]
        have hi12 := (hW.2 i hi).2 (by rw [c2]; decide)
        have e3 : f_X1_livedIn (f_knowDeaths (upA (up2 v 100 6 x) 108 (kn2 (v 102) (v 103) N (kn1 (v 105) x (v 108) N))) N) (v 103 i) (v 104 i) = lvV (kn4 (v 102) (v 103) (v 104) (kn2 (v 102) (v 103) N (kn1 (v 105) x (v 108) N)) (fl (-1) (v 110) 12) N) (v 501) (v 103 i) (v 104 i) := rfl
        rw [e3, lvV_e hi12 e2]
      · rw [if_neg c2, if_neg c2]
/-- the notes of the two are alike -/
def ntR (v : fr_V) (N : Nat) : Prop := ∀ j, j < N → v 102 j = v 1118 j ∧ v 103 j = v 1119 j ∧ v 105 j = v 1121 j ∧ (¬ v 102 j = 2 → v 104 j = v 1120 j)
theorem know_cn {v : fr_V} {N : Nat} {x : Int32} (h : ntR v N) : ∀ i, i < N → f_know v N x 1145 i = cntC v N x i := by
  intro i hi
  show sp_cn (v 1118) (v 1119) (v 1121) (v 1145) N x i = _
  unfold sp_cn cntC cntF
  exact kn2_e (fun j hj => ((h j hj).1).symm) (fun j hj => ((h j hj).2.1).symm) N _ _ (Nat.le_refl _) (fun q hq => by rw [kn1_lt _ _ _ N q hq, kn1_lt _ _ _ N q hq, (h q hq).2.2.1]) i hi
theorem know_dd {v : fr_V} {N : Nat} {x : Int32} (h : ntR v N) : ∀ l, l < 12 → f_know v N x 1146 l = dedC v N x l := by
  intro l hl
  show sp_dd (v 1118) (v 1119) (v 1120) (sp_cn (v 1118) (v 1119) (v 1121) (v 1145) N x) (v 1146) N l = _
  unfold sp_dd dedC dedF
  refine kn4_e (fun j hj => ((h j hj).1).symm) (fun j hj => ((h j hj).2.1).symm) (fun j hj c => ((h j hj).2.2.2 (by rw [(h j hj).1, c]; decide)).symm) (fun j hj => ?_) (fun q hq => kn3_lt _ 12 q hq) N (Nat.le_refl _) l hl
  exact know_cn h j hj
/-- so the dead of the class are those of the reference -/
theorem dead_eq {v : fr_V} {N : Nat} {x : Int32} (h : ntR v N) (hk : knC (f_kw v N x) N x) (hs : dedC (f_kw v N x) N x = dedC v N x) : ∀ l, l < 12 → f_kw v N x 110 l = f_know v N x 1146 l := fun l hl => by rw [hk.2.1 l hl, hs, know_dd h l hl]
theorem kw_ded (v : fr_V) (N : Nat) (x y : Int32) : cntC (f_kw v N y) N x = cntC v N x ∧ dedC (f_kw v N y) N x = dedC v N x := by
  have q := sm3.kw (v := v) (N := N) (x := y)
  have a := q.1 102 (by omega) (by omega) (by omega) (by omega) (by omega)
  have b := q.1 103 (by omega) (by omega) (by omega) (by omega) (by omega)
  have c := q.1 104 (by omega) (by omega) (by omega) (by omega) (by omega)
  have d := q.1 105 (by omega) (by omega) (by omega) (by omega) (by omega)
  unfold dedC cntC
  rw [a, b, c, d]
  exact ⟨rfl, rfl⟩
