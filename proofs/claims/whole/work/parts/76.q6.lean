theorem yi_m {x3 : Int32} {g i : Nat} {w0 : fr_V} {k j : Nat} (h : ¬ (k = 1100 ∧ (j = 49 ∨ j = 50))) : ∀ s, yr_i x3 g i w0 s k j = w0 k j := by
  intro s
  induction s with
  | zero => rfl
  | succ s ih =>
    rw [yr_i_s, ← ih]
    have key : ∀ (u : fr_V) (a c : Int32), up2 (up2 u 1100 49 a) 1100 50 c k j = u k j := by
      intro u a c
      by_cases hk : k = 1100
      · subst hk
        rw [up2_self, pk_un (fun e => h ⟨rfl, Or.inr e⟩), up2_self, pk_un (fun e => h ⟨rfl, Or.inl e⟩)]
      · rw [up2_ne hk, up2_ne hk]
    unfold yr_i_t
    repeat' split
    all_goals first | rfl | exact key _ _ _
theorem b_eq {x : Int32} {g s : Nat} : x + 2 * nI (10 * g + s) = x + 20 * nI g + nI (2 * s) := by
  rw [Int32.add_assoc, show (2 : Int32) * nI (10 * g + s) = nI (2 * (10 * g + s)) from pk_mul 2 _, show (20 : Int32) * nI g = nI (20 * g) from pk_mul 20 g, nI_add]
  congr 2
  omega
/-- a life's years -/
theorem life_eq {z w0 : fr_V} {x3 : Int32} {g i : Nat} (hg : g ≤ 9) (hi : i < 12) (hd : z 110 i = w0 1146 i) (hb : z 501 i = w0 1106 i) (h1 : -160 ≤ (z 501 i).toInt) (h2 : (z 501 i).toInt ≤ 79) : (yr_i x3 g i w0 (yrN g) 1100 49, yr_i x3 g i w0 (yrN g) 1100 50) = cyO1 z (nI i) g x3 (w0 1100 49, w0 1100 50) := by
  have e := cyStart (b := z 501 i) h1 h2 hg
  have key : ∀ s, s ≤ yrN g → (yr_i x3 g i w0 s 1100 49, yr_i x3 g i w0 s 1100 50) = cyG (z 110 i) (cyStop g (cyLast (z 110 i) x3) (z 501 i + 20 * nI g)) (z 501 i + 20 * nI g) (w0 1100 49, w0 1100 50) s := by
    intro s
    induction s with
    | zero => intro _; rfl
    | succ s ih =>
      intro hs
      rw [cyG_s, ← ih (by omega), yr_i_s]
      refine year_eq (z := z) (w := yr_i x3 g i w0 s) hg ?_ ?_ ?_ rfl (by omega) (by omega) (by omega) rfl rfl
      · rw [yi_m (by omega)]; exact hd
      · rw [yi_m (by omega)]; exact hb
      · rw [yi_m (by omega), ← hb]; exact b_eq
  unfold cyO1
  rw [nI_clamp (show i < 2 ^ 31 by omega)]
  exact key _ (Nat.le_refl _)
theorem yo_m {x1 x3 : Int32} {g : Nat} {w0 : fr_V} {k j : Nat} (h : ¬ (k = 1100 ∧ (j = 49 ∨ j = 50))) : ∀ i, yr_o x1 x3 g w0 i k j = w0 k j := by
  intro i
  induction i with
  | zero => rfl
  | succ i ih =>
    rw [yr_o_s]
    unfold yr_o_t
    split
    · rw [yi_m h]; exact ih
    · exact ih
/-- the lives of the two, and who is dead, alike -/
def lfR (z y : fr_V) (n : Nat) : Prop := n ≤ 12 ∧ ∀ i, i < n → z 110 i = y 1146 i ∧ z 501 i = y 1106 i ∧ z 502 i = y 1107 i ∧ -160 ≤ (z 501 i).toInt ∧ (z 501 i).toInt ≤ 79
/-- begun and ended -/
theorem years_eq {z y : fr_V} {n g : Nat} {x1 x3 : Int32} (hg : g ≤ 9) (h : lfR z y n) : (f_years y n g x1 x3 1100 49, f_years y n g x1 x3 1100 50) = f_cy z n x1 g x3 := by
  have key : ∀ i, i ≤ n → (yr_o x1 x3 g (up2 (up2 y 1100 49 0) 1100 50 0) i 1100 49, yr_o x1 x3 g (up2 (up2 y 1100 49 0) 1100 50 0) i 1100 50) = cyO z x1 g x3 (0, 0) i := by
    intro i
    induction i with
    | zero => intro _; rfl
    | succ i ih =>
      intro hi
      obtain ⟨a1, a2, a3, a4, a5⟩ := h.2 i (by omega)
      have hn := h.1
      have e : ∀ k, k ≠ 1100 → yr_o x1 x3 g (up2 (up2 y 1100 49 0) 1100 50 0) i k i = y k i := fun k hk => by rw [yo_m (by omega), up2_ne hk, up2_ne hk]
      rw [yr_o_s, cyO_s]
      unfold yr_o_t
      rw [e 1107 (by decide), ← a3]
      by_cases c : z 502 i = x1
      · rw [if_pos c, if_pos c, ← ih (by omega)]
        exact life_eq hg (by omega) (by rw [e 1146 (by decide)]; exact a1) (by rw [e 1106 (by decide)]; exact a2) a4 a5
      · rw [if_neg c, if_neg c]; exact ih (by omega)
  exact key n (Nat.le_refl _)
