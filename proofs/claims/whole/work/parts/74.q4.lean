theorem sb_eq {P : Nat → Int32} (hP : ∀ j, j < 8 → 0 ≤ P j) : ∀ j, j ≤ 8 → sh_b P j = sgF P j ∧ (0 < j → sh_m P j = P (sgF P j)) := by
  intro j
  induction j with
  | zero => intro _; exact ⟨rfl, fun h => absurd h (Nat.lt_irrefl 0)⟩
  | succ j ih =>
    intro hj
    obtain ⟨i1, i2⟩ := ih (by omega)
    rw [sh_b_s, sgF_s, sh_m_s]
    by_cases c0 : j = 0
    · subst c0
      have e : sgF P 0 = 0 := rfl
      have e2 : sh_b P 0 = 0 := rfl
      have e3 : sh_m P 0 = 0 := rfl
      rw [e, e2, e3, if_pos (Int32.le_refl (P 0))]
      by_cases c : P 0 ≤ 0
      · rw [if_pos c, if_pos c]
        exact ⟨rfl, fun _ => (Int32.le_antisymm c (hP 0 (by omega))).symm⟩
      · rw [if_neg c, if_neg c]
        exact ⟨rfl, fun _ => rfl⟩
    · rw [i2 (by omega), i1]
      by_cases c : P j ≤ P (sgF P j)
      · rw [if_pos c, if_pos c]; exact ⟨rfl, fun _ => rfl⟩
      · rw [if_neg c, if_neg c]; exact ⟨rfl, fun _ => rfl⟩
theorem sg_at (P : Nat → Int32) (c : Int32) (g0 : Nat → Int32) : ∀ n i, sh_g P c g0 n i = if i < n then g0 i + c * P i / 60 else g0 i := by
  intro n
  induction n with
  | zero => intro i; rfl
  | succ n ih =>
    intro i
    rw [sh_g_s]
    unfold upd
    by_cases e : i = n
    · rw [if_pos e, if_pos (by omega), ih n, if_neg (by omega), e]
    · rw [if_neg e, ih i]
      by_cases h : i < n
      · rw [if_pos h, if_pos (by omega)]
      · rw [if_neg h, if_neg (by omega)]
/-- a payment's shares: the reference adds to each what the class says that he gets -/
theorem row_eq {P g0 : Nat → Int32} {c : Int32} (hP : ∀ j, j < 8 → 0 ≤ P j) {i : Nat} (hi : i < 8) : sh_row P c g0 i = g0 i + shV c P (nI i) := by
  have e := (sb_eq hP 8 (Nat.le_refl _)).1
  have h8 := sgF_8 P 8 (Nat.le_refl _)
  unfold sh_row shV upd
  rw [e, sl_eq, nI_clamp (show i < 2 ^ 31 by omega)]
  by_cases d : i = sgF P 8
  · rw [if_pos d, if_pos (by rw [← d]), sg_at, if_pos h8, ← d, Int32.add_assoc]
  · rw [if_neg d, if_neg (fun q => d ((nI_eq (by omega) (by omega)).mp q)), sg_at, if_pos hi, Int32.add_zero]
theorem spwo_e {Y Y' : Int32 → Int32 → Int32} {f g : Nat → Int32} {ag : Int32} (hY : ∀ a b, Y a b = Y' a b) : ∀ n, (∀ a, a < n → f a = g a) → ∀ w, sp_wo Y f ag n w = sp_wo Y' g ag n w := by
  intro n
  induction n with
  | zero => intro _ w; rfl
  | succ n ih =>
    intro h w
    rw [sp_wo_s, sp_wo_s]
    by_cases c : nI n < ag
    · rw [if_pos c, if_pos c]
    · rw [if_neg c, if_neg c, hY, h n (by omega)]
      exact ih (fun a ha => h a (by omega)) _
theorem spbo_e {Y Y' : Int32 → Int32 → Int32} {f g f' g' : Nat → Int32} (hY : ∀ a b, Y a b = Y' a b) : ∀ n, (∀ a, a < n → f a = f' a ∧ g a = g' a) → ∀ w, sp_bo Y f g n w = sp_bo Y' f' g' n w := by
  intro n
  induction n with
  | zero => intro _ w; rfl
  | succ n ih =>
    intro h w
    rw [sp_bo_s, sp_bo_s, hY, (h n (by omega)).1, (h n (by omega)).2]
    exact ih (fun a ha => h a (by omega)) _
theorem yb_eq {v : fr_V} {rate : Int32} (h : v 1141 2 = rate) (h0 : ¬ rate < 0) (w live : Int32) : yb8 rate w live = f_X11_yearBack v w live := by
  unfold yb8 f_X8_yearBefore f_X11_yearBack
  rw [if_pos (Int32.not_lt.mp h0), h]
theorem g10_a {a : Nat} (ha : a < 100) : g10 (nI a) = a / 10 := by
  unfold g10 f_X10_groupOf
  rw [show nI a / 10 = nI (a / 10) from pk_div (d := 10) (by omega) (by omega) (by omega)]
  by_cases c : a / 10 < 9
  · rw [if_pos (show nI (a / 10) < 9 from nI_lt (b := 9) c (by omega))]
    by_cases c0 : 0 < a / 10
    · rw [if_pos (show (0 : Int32) < nI (a / 10) from nI_lt (a := 0) c0 (by omega)), nI_clamp (by omega)]
    · rw [if_neg (show ¬ (0 : Int32) < nI (a / 10) from nI_nlt (a := 0) (by omega) (by omega))]
      show (0 : Int32).toNatClampNeg = _
      have : a / 10 = 0 := by omega
      rw [this]; rfl
  · rw [if_neg (show ¬ nI (a / 10) < 9 from nI_nlt (b := 9) (by omega) (by omega)), if_pos (by decide)]
    have : a / 10 = 9 := by omega
    rw [this]; rfl
theorem g11_a {v : fr_V} {a : Nat} (ha : a < 100) : f_X11_groupOf v (nI a) = nI (a / 10) := by
  unfold f_X11_groupOf
  rw [if_pos (show nI a ≤ 99 from nI_le (b := 99) (by omega) (by omega))]
  exact pk_div (d := 10) (by omega) (by omega) (by omega)
/-- an age's place in the table that is laid -/
theorem live_at {v : fr_V} {x : Int32} {c a : Nat} (hc : v 1107 x.toNatClampNeg = nI c) (hc4 : c < 4) (ha : a < 100) : f_X11_liveOf v x (nI a) = v 1152 (10 * c + a / 10) := by
  unfold f_X11_liveOf
  rw [hc, g11_a ha, show (10 : Int32) * nI c = nI (10 * c) from pk_mul 10 c, nI_add, nI_clamp (by omega)]
