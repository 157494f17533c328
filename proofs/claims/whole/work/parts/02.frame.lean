def gt : List Cond := lw_tbl.filter goodWord
theorem gt_mem {w : Cond} (h : w ∈ lw_tbl) (hg : goodWord w = true) : w ∈ gt := List.mem_filter.mpr ⟨h, hg⟩
theorem gt_good {w : Cond} (h : w ∈ gt) : (w.onTables && w.keeps) = true ∨ ∃ ty, w = .arrayClass ty := good_of_word (List.mem_filter.mp h).2
theorem gt_tbl {w : Cond} (h : w ∈ gt) : w ∈ lw_tbl := (List.mem_filter.mp h).1
theorem gt_all {ws : List Cond} (h : ∀ w ∈ ws, w ∈ lw_tbl) (hg : ws.all goodWord = true) : ∀ w ∈ ws, w ∈ gt := fun w hw => gt_mem (h w hw) (List.all_eq_true.mp hg w hw)
abbrev fr_cls : List vw_C := [(RX0, TX0, 3), (RX1, TX1, 10), (RX2, TX2, 11), (RX3, TX3, 11), (RX4, TX4, 8), (RX5, TX5, 3), (RX6, TX6, 16), (RX7, TX7, 7), (RX8, TX8, 7), (RX5, TX5, 3), (RX10, TX10, 10), (RX11, TX11, 58)]
theorem fr_in {ci : Nat} {q : vw_C} (h : fr_cls[ci]? = some q) : ∀ w ∈ u_ws q.1 q.2.1 q.2.2, w ∈ gt := by
  match ci, h with
  | 0, h => cases h; exact gt_all inX0 (by decide +kernel)
  | 1, h => cases h; exact gt_all inX1 (by decide +kernel)
  | 2, h => cases h; exact gt_all inX2 (by decide +kernel)
  | 3, h => cases h; exact gt_all inX3 (by decide +kernel)
  | 4, h => cases h; exact gt_all inX4 (by decide +kernel)
  | 5, h => cases h; exact gt_all inX5 (by decide +kernel)
  | 6, h => cases h; exact gt_all inX6 (by decide +kernel)
  | 7, h => cases h; exact gt_all inX7 (by decide +kernel)
  | 8, h => cases h; exact gt_all inX8 (by decide +kernel)
  | 9, h => cases h; exact gt_all inX5 (by decide +kernel)
  | 10, h => cases h; exact gt_all inX10 (by decide +kernel)
  | 11, h => cases h; exact gt_all inX11 (by decide +kernel)
  | k + 12, h => simp [fr_cls] at h
def fr_ty (ci : Nat) : Nat → FieldType := match ci with
  | 0 => tyX0 | 1 => tyX1 | 2 => tyX2 | 3 => tyX3 | 4 => tyX4 | 5 => tyX5 | 6 => tyX6 | 7 => tyX7 | 8 => tyX8 | 9 => tyX5 | 10 => tyX10 | _ => tyX11
theorem fr_tn {ci : Nat} {q : vw_C} (h : fr_cls[ci]? = some q) : (∀ k, k < q.2.2 → parseFieldDescriptor (q.2.1 k).2.2.1 = some (fr_ty ci k)) ∧ (∀ a, a < q.2.2 → ∀ b, b < q.2.2 → a ≠ b → (q.2.1 a).2.1 ≠ (q.2.1 b).2.1) := by
  match ci, h with
  | 0, h => cases h; exact ⟨tyX0_ok, nmX0⟩
  | 1, h => cases h; exact ⟨tyX1_ok, nmX1⟩
  | 2, h => cases h; exact ⟨tyX2_ok, nmX2⟩
  | 3, h => cases h; exact ⟨tyX3_ok, nmX3⟩
  | 4, h => cases h; exact ⟨tyX4_ok, nmX4⟩
  | 5, h => cases h; exact ⟨tyX5_ok, nmX5⟩
  | 6, h => cases h; exact ⟨tyX6_ok, nmX6⟩
  | 7, h => cases h; exact ⟨tyX7_ok, nmX7⟩
  | 8, h => cases h; exact ⟨tyX8_ok, nmX8⟩
  | 9, h => cases h; exact ⟨tyX5_ok, nmX5⟩
  | 10, h => cases h; exact ⟨tyX10_ok, nmX10⟩
  | 11, h => cases h; exact ⟨tyX11_ok, nmX11⟩
  | k + 12, h => simp [fr_cls] at h
abbrev fr_V : Type := Nat → Nat → Int32
abbrev fr_U : Type := Nat → Nat → Int64
def up2 (v : fr_V) (k i : Nat) (x : Int32) : fr_V := fun a => if a = k then upd (v k) i x else v a
def up3 (u : fr_U) (k i : Nat) (x : Int64) : fr_U := fun a => if a = k then vp_updL (u k) i x else u a
/-- the kind of each field: 0 a number, 1 a fixed cell, 2 a cell that may change -/
def fk (ci j : Nat) : Nat :=
  if ci = 11 then (if [1,2,3,4,7,14,16,23,24,25,26,27,28,29,38,39,42,43,48,49,50,52].contains j then 0 else 1)
  else if ci = 10 then (if j = 3 then 0 else if j = 1 then 2 else if j = 2 then 2 else 1)
  else if ci = 0 then (if j = 1 then 0 else 1)
  else if ci = 1 then (if j = 5 then 0 else if j = 6 then 0 else 1)
  else if ci = 2 then (if [3,5,6,7,8,10].contains j then 0 else 1)
  else if ci = 3 then (if [2,8,10].contains j then 0 else 1)
  else if ci = 4 then (if j = 0 then 2 else 0)
  else if ci = 5 then (if j = 2 then 0 else 1)
  else if ci = 6 then (if j = 0 then 1 else if [3,6,7,13].contains j then 2 else 0)
  else if ci = 7 then (if j = 6 then 1 else 0)
  else if ci = 8 then (if j = 3 then 0 else if j = 4 then 0 else 1)
  else 1
def nfd (ci : Nat) : Nat := match fr_cls[ci]? with
  | some q => q.2.2
  | none => 0
/-- which cell a fixed field names: the array of the field j of the object k stands at k + 1 + j -/
def sref (k j : Nat) : Nat :=
  if k = 1000 then (if j = 0 then 600 else if j = 4 then 500 else if j = 5 then 100 else if j = 6 then 300 else if j = 7 then 900 else if j = 8 then 200 else k + 1 + j)
  else if k = 100 then (if j = 0 then 500 else k + 1 + j)
  else if k = 300 then (if j = 0 then 100 else k + 1 + j)
  else if k = 900 then (if j = 0 then 500 else if j = 1 then 100 else k + 1 + j)
  else k + 1 + j
/-- what a cell is: below 20 an object of that number, 20 ints, 21 booleans, 22 longs, 23 Lines, 24 Rents, 25 rows of ints; and its length -/
def sh (k : Nat) : Nat × Nat :=
  if 2000 ≤ k then (if k % 10 = 0 then (7, 0) else (20, 80))
  else if 1100 ≤ k then
    (if k = 1100 then (11, 0) else if k = 1101 then (20, 500) else if k = 1106 then (20, 12) else if k = 1107 then (20, 12)
     else if k = 1116 then (20, 200) else if k = 1122 then (20, 40) else if k = 1123 then (20, 75)
     else if k = 1141 then (20, 8) else if k = 1142 then (21, 4) else if k = 1145 then (21, 60) else if k = 1146 then (20, 12) else if k = 1147 then (20, 1280) else if k = 1148 then (20, 8)
     else if k = 1152 then (20, 40) else if 1154 ≤ k then (20, 12) else if 1131 ≤ k then (20, 48) else if 1118 ≤ k then (20, 60) else (20, 16))
  else if 1000 ≤ k then (if k = 1000 then (10, 0) else (22, 12))
  else if 900 ≤ k then (if k = 900 then (8, 0) else if k = 903 then (25, 4) else if k = 950 then (22, 1) else (20, 10))
  else if 600 ≤ k then (if k = 600 then (6, 0) else (20, 500))
  else if 500 ≤ k then (if k = 500 then (5, 0) else (20, 12))
  else if 400 ≤ k then (4, 0)
  else if 300 ≤ k then (if k = 300 then (3, 0) else if k = 302 then (24, 16) else if k = 310 then (20, 8) else (20, 40))
  else if 200 ≤ k then (if k = 200 then (2, 0) else (20, 12))
  else if 100 ≤ k then (if k = 100 then (1, 0) else if k = 108 then (21, 60) else if k = 109 then (21, 60) else if k = 110 then (20, 12) else (20, 60))
  else (if k = 10 then (0, 0) else if k = 20 then (0, 0) else if k = 11 then (23, 24) else if k = 21 then (23, 24) else (20, 4))
/-- the first cell of an array of cells whose rows are fixed -/
def shb (k : Nat) : Nat := if k = 11 then 400 else if k = 21 then 430 else 910
def rq (L : Nat → Nat) (x : Int32) : Option Nat := if x < 0 then none else some (L x.toNatClampNeg)
def fv (L : Nat → Nat) (k ci j : Nat) (x : Int32) : Value := if fk ci j = 0 then .int x else if fk ci j = 1 then .ref (L (sref k j)) else va_rf (rq L x)
def fsl (L : Nat → Nat) (k ci : Nat) (f : Nat → Int32) : List Value := (List.range (nfd ci)).map (fun j => fv L k ci j (f j))
def ent (L : Nat → Nat) (cA : Nat → ClassId) (k : Nat) (f : Nat → Int32) (g : Nat → Int64) : va_E :=
  if (sh k).1 = 20 then .inl (cA 0, (sh k).2, .inl f)
  else if (sh k).1 = 21 then .inl (cA 1, (sh k).2, .inl f)
  else if (sh k).1 = 22 then .inl (cA 2, (sh k).2, .inr (.inl g))
  else if (sh k).1 = 23 then .inl (cA 3, (sh k).2, .inr (.inr (.inr (.inr (fun i => some (L (shb k + i)))))))
  else if (sh k).1 = 24 then .inl (cA 4, (sh k).2, .inr (.inr (.inr (.inr (fun i => rq L (f i))))))
  else if (sh k).1 = 25 then .inl (cA 5, (sh k).2, .inr (.inr (.inr (.inr (fun i => some (L (shb k + i)))))))
  else .inr ((sh k).1, fsl L k (sh k).1 f)
def fr_tys (cA : Nat → ClassId) : List (ClassId × FieldType) := [(cA 0, .int), (cA 1, .boolean), (cA 2, .long), (cA 3, .object RX4), (cA 4, .object RX7), (cA 5, .array .int)]
def mw (L : Nat → Nat) (cA : Nat → ClassId) (I : List Nat) (v : fr_V) (u : fr_U) : va_W := I.map (fun k => (L k, ent L cA k (v k) (u k)))
def Aw (L : Nat → Nat) (I : List Nat) : Nat → Prop := fun q => ∃ k, k ∈ I ∧ q = L k
theorem mw_get {L : Nat → Nat} {cA : Nat → ClassId} {I : List Nat} {v : fr_V} {u : fr_U} {k : Nat} (h : k ∈ I) : ∃ q : Nat, I[q]? = some k ∧ (mw L cA I v u)[q]? = some (L k, ent L cA k (v k) (u k)) := by
  obtain ⟨q, hq⟩ := List.getElem?_of_mem h
  exact ⟨q, hq, by simp [mw, hq]⟩
theorem mw_nd {L : Nat → Nat} {cA : Nat → ClassId} {I : List Nat} {v : fr_V} {u : fr_U} {A : Nat → Prop} (hD : va_D A (mw L cA I v u)) {i j k : Nat} (hi : I[i]? = some k) (hj : I[j]? = some k) : i = j :=
  hD.1 i j (L k, ent L cA k (v k) (u k)) (L k, ent L cA k (v k) (u k)) (by simp [mw, hi]) (by simp [mw, hj]) rfl
theorem ml_set {α β : Type} {f g : α → β} {I : List α} {q : Nat} {k : α} {x : β} (hq : I[q]? = some k) (hnd : ∀ i, I[i]? = some k → q = i) (hk : g k = x) (h : ∀ a, a ≠ k → g a = f a) : (I.map f).set q x = I.map g := by
  apply List.ext_getElem?
  intro i
  have hql : q < I.length := (List.getElem?_eq_some_iff.mp hq).1
  by_cases hi : q = i
  · subst hi
    rw [List.getElem?_set_self (by rw [List.length_map]; exact hql), List.getElem?_map, hq, Option.map_some, hk]
  · rw [List.getElem?_set_ne hi, List.getElem?_map, List.getElem?_map]
    cases ha : I[i]? with
    | none => rfl
    | some a =>
      have hne : a ≠ k := fun e => hi (hnd i (by rw [ha, e]))
      rw [Option.map_some, Option.map_some, h a hne]
theorem mw_set {L : Nat → Nat} {cA : Nat → ClassId} {I : List Nat} {v v' : fr_V} {u u' : fr_U} {A : Nat → Prop} (hD : va_D A (mw L cA I v u)) {q k : Nat} {e : va_E} (hq : I[q]? = some k) (hk : ent L cA k (v' k) (u' k) = e) (hv : ∀ a, a ≠ k → v' a = v a) (hu : ∀ a, a ≠ k → u' a = u a) : (mw L cA I v u).set q (L k, e) = mw L cA I v' u' :=
  ml_set hq (fun i hi => mw_nd hD hq hi) (by rw [hk]) (fun a ha => by rw [hv a ha, hu a ha])
theorem mw_D {L : Nat → Nat} {cA : Nat → ClassId} {I : List Nat} {v v' : fr_V} {u u' : fr_U} {A : Nat → Prop} (hD : va_D A (mw L cA I v u)) : va_D A (mw L cA I v' u') := by
  have h : ∀ (i : Nat) (p : Nat × va_E), (mw L cA I v' u')[i]? = some p → ∃ e, (mw L cA I v u)[i]? = some (p.1, e) := by
    intro i p hp
    simp only [mw, List.getElem?_map] at hp ⊢
    cases ha : I[i]? with
    | none => rw [ha] at hp; cases hp
    | some a =>
      rw [ha] at hp
      cases hp
      exact ⟨_, rfl⟩
  refine ⟨fun i j p q hp hq hpq => ?_, fun k q hq => ?_⟩
  · obtain ⟨e1, h1⟩ := h i p hp
    obtain ⟨e2, h2⟩ := h j q hq
    exact hD.1 i j _ _ h1 h2 hpq
  · obtain ⟨e1, h1⟩ := h k q hq
    exact hD.2 k (q.1, e1) h1
