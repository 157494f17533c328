theorem last_lt {dd x b : Int32} : cyLast dd x < b ↔ (x < b ∨ (¬ dd = (-1) ∧ dd < b)) := by
  unfold cyLast
  by_cases c : dd = (-1)
  · rw [if_pos c]
    exact ⟨Or.inl, fun h => h.elim id (fun q => absurd c q.1)⟩
  · rw [if_neg c]
    by_cases c2 : x < dd
    · rw [if_pos c2]
      exact ⟨Or.inl, fun h => h.elim id (fun q => Int32.lt_trans c2 q.2)⟩
    · rw [if_neg c2]
      exact ⟨fun h => Or.inr ⟨c, h⟩, fun h => h.elim (fun q => Int32.lt_of_le_of_lt (Int32.not_lt.mp c2) q) (fun q => q.2)⟩
theorem stop_lt {g s : Nat} {last start : Int32} (hg : g ≤ 9) (h1 : -400 ≤ start.toInt) (h2 : start.toInt ≤ 400) (hs : s < yrN g) : cyStop g last start < start + nI (2 * s) ↔ last < start + nI (2 * s) := by
  unfold cyStop
  by_cases c : nI g = 9
  · rw [if_pos c]
  · rw [if_neg c]
    have h9 : ¬ g = 9 := fun q => c (by rw [q]; rfl)
    have hs2 : s < 10 := by unfold yrN at hs; rw [if_neg h9] at hs; exact hs
    have e1 : (start + nI (2 * s)).toInt = start.toInt + (2 * s : Nat) := i_add (by omega) (by omega) (by omega)
    have e2 : (start + 18).toInt = start.toInt + 18 := i_add (n := 18) (by omega) (by omega) (by omega)
    by_cases c2 : start + 18 < last
    · rw [if_pos c2]
      have k := Int32.lt_iff_toInt_lt.mp c2
      constructor
      · intro h
        have := Int32.lt_iff_toInt_lt.mp h
        omega
      · intro h
        have := Int32.lt_iff_toInt_lt.mp h
        omega
    · rw [if_neg c2]
/-- a year of a life: the class's turn and the reference's -/
theorem year_eq {g i s : Nat} {z w : fr_V} {x3 b : Int32} {p q : Int32} (hg : g ≤ 9) (hd : z 110 i = w 1146 i) (hb : z 501 i = w 1106 i) (hB : w 1106 i + 2 * nI (10 * g + s) = b) (hb2 : z 501 i + 20 * nI g + nI (2 * s) = b) (h1 : -400 ≤ (z 501 i + 20 * nI g).toInt) (h2 : (z 501 i + 20 * nI g).toInt ≤ 400) (hs : s < yrN g) (hp : w 1100 49 = p) (hq : w 1100 50 = q) :
    (yr_i_t x3 g i s w 1100 49, yr_i_t x3 g i s w 1100 50) = cyT (z 110 i) (cyStop g (cyLast (z 110 i) x3) (z 501 i + 20 * nI g)) b (p, q) := by
  have ks := stop_lt (last := cyLast (z 110 i) x3) hg h1 h2 hs
  rw [hb2, last_lt] at ks
  have e49 : ∀ (u : fr_V) (a c : Int32), up2 (up2 u 1100 49 a) 1100 50 c 1100 49 = a := fun u a c => by rw [up2_self, pk_un (by decide), up2_self, pk_us]
  have e50 : ∀ (u : fr_V) (a c : Int32), up2 (up2 u 1100 49 a) 1100 50 c 1100 50 = c := fun u a c => by rw [up2_self, pk_us]
  rw [hd] at ks
  unfold yr_i_t cyT
  rw [hB, hp, hq, hd]
  by_cases c0 : b < 0
  · rw [if_pos c0]
    by_cases cs : cyStop g (cyLast (w 1146 i) x3) (z 501 i + 20 * nI g) < b
    · rw [if_pos cs]; rw [hp, hq]
    · rw [if_neg cs, if_pos c0]; rw [hp, hq]
  · rw [if_neg c0]
    by_cases c1 : x3 < b
    · rw [if_pos c1, if_pos (ks.mpr (Or.inl c1))]; rw [hp, hq]
    · rw [if_neg c1]
      by_cases c2 : w 1146 i = (-1)
      · rw [if_pos c2, if_neg (fun h => (ks.mp h).elim c1 (fun r => r.1 c2)), if_neg c0]
        by_cases c3 : w 1146 i = b
        · rw [if_pos c3, if_pos c3, e49, e50]
        · rw [if_neg c3, if_neg c3]
          by_cases c4 : w 1146 i = b + 1
          · rw [if_pos c4, if_pos c4, e49, e50]
          · rw [if_neg c4, if_neg c4, e49, e50, Int32.add_zero]
      · rw [if_neg c2]
        by_cases c5 : b ≤ w 1146 i
        · rw [if_pos c5, if_neg (fun h => (ks.mp h).elim c1 (fun r => absurd r.2 (Int32.not_lt.mpr c5))), if_neg c0]
          by_cases c3 : w 1146 i = b
          · rw [if_pos c3, if_pos c3, e49, e50]
          · rw [if_neg c3, if_neg c3]
            by_cases c4 : w 1146 i = b + 1
            · rw [if_pos c4, if_pos c4, e49, e50]
            · rw [if_neg c4, if_neg c4, e49, e50, Int32.add_zero]
        · rw [if_neg c5, if_pos (ks.mpr (Or.inr ⟨c2, Int32.not_le.mp c5⟩))]; rw [hp, hq]
