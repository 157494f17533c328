/-- begun and ended are small numbers, ended no more than begun -/
def beN (m : Nat) (q : Int32 × Int32) : Prop := ∃ a b : Nat, q = (nI a, nI b) ∧ b ≤ a ∧ a ≤ m
theorem cyT_N {dd stop b : Int32} {q : Int32 × Int32} {m : Nat} (h : beN m q) : beN (m + 1) (cyT dd stop b q) := by
  obtain ⟨a, c, rfl, h1, h2⟩ := h
  unfold cyT
  have k0 : beN (m + 1) (nI a, nI c) := ⟨a, c, rfl, h1, by omega⟩
  have k1 : beN (m + 1) (nI a + 1, nI c + 1) := ⟨a + 1, c + 1, by rw [nI_1, nI_1], by omega, by omega⟩
  have k2 : beN (m + 1) (nI a + 1, nI c) := ⟨a + 1, c, by rw [nI_1], by omega, by omega⟩
  repeat' split
  all_goals first | exact k0 | exact k1 | exact k2
theorem cyG_N {dd stop start : Int32} {q : Int32 × Int32} {m : Nat} (h : beN m q) : ∀ s, beN (m + s) (cyG dd stop start q s) := by
  intro s
  induction s with
  | zero => exact h
  | succ s ih => rw [cyG_s]; exact cyT_N ih
theorem cyO_N {v : fr_V} {x1 x3 : Int32} {g : Nat} : ∀ i, beN (40 * i) (cyO v x1 g x3 (0, 0) i) := by
  intro i
  induction i with
  | zero => exact ⟨0, 0, rfl, Nat.le_refl _, Nat.le_refl _⟩
  | succ i ih =>
    rw [cyO_s]
    split
    · obtain ⟨a, b, e, h1, h2⟩ := cyG_N (dd := v 110 (nI i).toNatClampNeg) (stop := cyStop g (cyLast (v 110 (nI i).toNatClampNeg) x3) (v 501 (nI i).toNatClampNeg + 20 * nI g)) (start := v 501 (nI i).toNatClampNeg + 20 * nI g) ih (yrN g)
      exact ⟨a, b, e, h1, by have := yrN_le g; omega⟩
    · obtain ⟨a, b, e, h1, h2⟩ := ih
      exact ⟨a, b, e, h1, by omega⟩
/-- a living share out of begun, ended and the table -/
def lvM (t : Int32) : Int32 := if t = 2 then 1 else if t = 3 then (-1) else 0
theorem lived_eq {t s : Int32} {w : fr_V} {x1 x2 : Int32} {m : Nat} (hm : m ≤ 1000) (h : beN m (w 1100 49, w 1100 50)) (hs : s = w 1122 (10 * x1 + x2).toNatClampNeg) : lvQ t s (w 1100 49, w 1100 50) = f_X11_lived w x1 x2 (lvM t) := by
  obtain ⟨a, b, e, h1, h2⟩ := h
  have ea : w 1100 49 = nI a := congrArg Prod.fst e
  have eb : w 1100 50 = nI b := congrArg Prod.snd e
  unfold lvQ f_X11_lived lvE lvM
  rw [hs]
  dsimp only
  rw [ea, eb]
  by_cases c0 : nI a = 0
  · rw [if_pos c0, if_pos c0]
  · rw [if_neg c0, if_neg c0]
    have ha0 : ¬ a = 0 := fun q => c0 (by rw [q]; rfl)
    by_cases t2 : t = 2
    · rw [if_pos t2, if_pos t2, nI_1, if_pos (show (0 : Int32) ≤ nI (b + 1) from nI_pos' (by omega))]
      by_cases c1 : b + 1 ≤ a
      · rw [if_pos (show nI (b + 1) ≤ nI a from nI_le c1 (by omega))]
        by_cases c2 : b + 1 < a
        · rw [if_pos (show nI (b + 1) < nI a from nI_lt c2 (by omega))]
        · rw [if_neg (show ¬ nI (b + 1) < nI a from nI_nlt (by omega) (by omega)), show b + 1 = a by omega]
      · rw [if_neg (show ¬ nI (b + 1) ≤ nI a from nI_ge (by omega) (by omega)), if_neg (show ¬ nI (b + 1) < nI a from nI_nlt (by omega) (by omega))]
    · rw [if_neg t2, if_neg t2]
      by_cases t3 : t = 3
      · rw [if_pos t3, if_pos t3]
        by_cases c1 : b = 0
        · rw [c1, if_neg (show ¬ (0 : Int32) ≤ nI 0 + (-1) by decide), if_neg (show ¬ (0 : Int32) < nI 0 - 1 by decide)]
        · obtain ⟨d, rfl⟩ : ∃ d, b = d + 1 := ⟨b - 1, by omega⟩
          rw [pk_m1, nI_pred, if_pos (show (0 : Int32) ≤ nI d from nI_pos' (by omega)), if_pos (show nI d ≤ nI a from nI_le (by omega) (by omega))]
          by_cases c2 : 0 < d
          · rw [if_pos (show (0 : Int32) < nI d from nI_lt (a := 0) c2 (by omega))]
          · rw [if_neg (show ¬ (0 : Int32) < nI d from nI_nlt (a := 0) (by omega) (by omega)), show d = 0 by omega]
            rfl
      · rw [if_neg t3, if_neg t3, Int32.add_zero, if_pos (show (0 : Int32) ≤ nI b from nI_pos' (by omega)), if_pos (show nI b ≤ nI a from nI_le h1 (by omega))]
/-- the tables that were sold, alike -/
def tbR (z y : fr_V) : Prop := ∀ c g, c < 4 → g < 10 → z (910 + c) g = y 1122 (10 * c + g)
theorem live_eq {z y : fr_V} {n c g : Nat} {x3 t : Int32} (hc : c < 4) (hg : g < 10) (h : lfR z y n) (ht : tbR z y) (h0 : ¬ t = 0) : f_live z n c g x3 t = f_X11_lived (f_years y n g (nI c) x3) (nI c) (nI g) (lvM t) := by
  unfold f_live
  rw [if_neg h0, ← years_eq (y := y) (by omega) h]
  have hn := h.1
  obtain ⟨a, b, e, h1, h2⟩ := cyO_N (v := z) (x1 := nI c) (x3 := x3) (g := g) n
  refine lived_eq (m := 40 * n) (by omega) ⟨a, b, ?_, h1, h2⟩ ?_
  · rw [years_eq (by omega) h]; exact e
  · rw [show (10 : Int32) * nI c = nI (10 * c) from pk_mul 10 c, nI_add, nI_clamp (by omega), f_years_m (by omega)]
    exact ht c g hc hg
