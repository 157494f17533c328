def hit11 (y : fr_V) (x : Int32) (r : Nat) : Prop := y 1111 r = x ∧ y 1112 r = (-1)
theorem fa_G {z : fr_V} {x : Int32} {nr : Nat} : ∀ d, d ≤ nr → (∀ q, q < nr - d → ¬ fa_hit z x q) → fa_post z nr x (faG z x nr d) := by
  intro d
  induction d with
  | zero => intro _ h; exact Or.inr ⟨fun q hq => h q (by omega), rfl⟩
  | succ d ih =>
    intro hd h
    rw [faG_s]
    by_cases c : f_X7_isAloneOn z (nr - (d + 1)) x = 0
    · rw [if_pos c]
      refine ih (by omega) (fun q hq => ?_)
      by_cases e : q = nr - (d + 1)
      · rw [e]; exact fun g => g c
      · exact h q (by omega)
    · rw [if_neg c]; exact Or.inl ⟨_, by omega, c, h, rfl⟩
theorem rks_none {y : fr_V} {x : Int32} : ∀ j, (∀ q, q < j → ¬ hit11 y x q) → rks (y 1111) (y 1112) (y 1109) x j = (-1) := by
  intro j
  induction j with
  | zero => intro _; rfl
  | succ j ih =>
    intro h
    have ih' := ih (fun q hq => h q (by omega))
    rw [rks_s, ih']
    by_cases c1 : y 1111 j = x
    · rw [if_pos c1]
      by_cases c2 : y 1112 j = (-1)
      · exact absurd ⟨c1, c2⟩ (h j (by omega))
      · rw [if_neg c2]
    · rw [if_neg c1]
theorem rks_some {y : fr_V} {x : Int32} {r : Nat} (hr : hit11 y x r) (hno : ∀ q, q < r → ¬ hit11 y x q) (hb : ¬ y 1109 r = (-1)) : ∀ j, r < j → rks (y 1111) (y 1112) (y 1109) x j = y 1109 r := by
  intro j
  induction j with
  | zero => intro h; omega
  | succ j ih =>
    intro h
    rw [rks_s]
    by_cases e : j = r
    · rw [e, if_pos hr.1, if_pos hr.2, rks_none r hno, if_pos rfl]
    · have ih' := ih (by omega)
      rw [ih', if_neg hb]
      by_cases c1 : y 1111 j = x
      · rw [if_pos c1]
        by_cases c2 : y 1112 j = (-1)
        · rw [if_pos c2]
        · rw [if_neg c2]
      · rw [if_neg c1]
theorem rkc_N {y : fr_V} {x : Int32} {nr : Nat} (hn : nr ≤ 16) (hc : ∀ r, r < nr → ∃ c, 1 ≤ c ∧ c ≤ 99 ∧ y 1113 r = nI c) : ∀ j, j ≤ nr → ∃ s, rkc (y 1111) (y 1112) (y 1113) x j = nI s ∧ s ≤ 99 * j ∧ (s = 0 ↔ ∀ q, q < j → ¬ hit11 y x q) := by
  intro j
  induction j with
  | zero => intro _; exact ⟨0, rfl, by omega, fun _ q hq => absurd hq (Nat.not_lt_zero q), fun _ => rfl⟩
  | succ j ih =>
    intro hj
    obtain ⟨s, e, h1, h2⟩ := ih (by omega)
    obtain ⟨c, g1, g2, g3⟩ := hc j (by omega)
    rw [rkc_s, e, g3, nI_add]
    by_cases c1 : y 1111 j = x ∧ y 1112 j = (-1)
    · rw [if_pos c1.1, if_pos c1.2]
      exact ⟨s + c, rfl, by omega, fun q => by omega, fun q => absurd c1 (q j (by omega))⟩
    · have k : (s = 0 ↔ ∀ q, q < j + 1 → ¬ hit11 y x q) := by
        rw [h2]
        constructor
        · intro q r hr
          by_cases er : r = j
          · rw [er]; exact c1
          · exact q r (by omega)
        · intro q r hr; exact q r (by omega)
      by_cases d1 : y 1111 j = x
      · rw [if_pos d1, if_neg (fun d2 => c1 ⟨d1, d2⟩)]; exact ⟨s, rfl, by omega, k⟩
      · rw [if_neg d1]; exact ⟨s, rfl, by omega, k⟩
theorem lp_eq {z y : fr_V} {N : Nat} {x : Int32} (h : knR z y N) : ∀ j, j ≤ N → lpF (z 104) (z 109) (z 103) x j = rkl (y 1118) (y 1145) (y 1119) (y 1120) (fun j => f_X11_isFalse y (nI j)) x j := by
  intro j
  induction j with
  | zero => intro _; rfl
  | succ j ih =>
    intro hj
    obtain ⟨a1, a2, a3, a4, a5⟩ := h.2.2 j (by omega)
    rw [lpF_s, rkl_s, ih (by omega)]
    by_cases g : y 1118 j = 0 ∧ ¬ y 1145 j = 0 ∧ f_X11_isFalse y (nI j) = 0
    · obtain ⟨e1, -, -⟩ := a3 (by rw [a1, g.1]; decide)
      rw [e1, a2, if_pos g.1, if_neg g.2.1, if_neg (show ¬ z 109 j = 0 from fun q => (a5.mp q) g), if_pos g.2.2]
      by_cases c1 : y 1120 j ≤ rkl (y 1118) (y 1145) (y 1119) (y 1120) (fun j => f_X11_isFalse y (nI j)) x j
      · rw [if_pos c1, if_pos c1]; split <;> rfl
      · rw [if_neg c1, if_neg c1]
    · rw [if_pos (a5.mpr g)]
      have e : (if z 104 j ≤ rkl (y 1118) (y 1145) (y 1119) (y 1120) (fun j => f_X11_isFalse y (nI j)) x j then rkl (y 1118) (y 1145) (y 1119) (y 1120) (fun j => f_X11_isFalse y (nI j)) x j else rkl (y 1118) (y 1145) (y 1119) (y 1120) (fun j => f_X11_isFalse y (nI j)) x j) = rkl (y 1118) (y 1145) (y 1119) (y 1120) (fun j => f_X11_isFalse y (nI j)) x j := by split <;> rfl
      rw [e]
      by_cases d1 : y 1118 j = 0
      · rw [if_pos d1]
        by_cases d2 : y 1145 j = 0
        · rw [if_pos d2]
        · rw [if_neg d2, if_neg (show ¬ f_X11_isFalse y (nI j) = 0 from fun q => g ⟨d1, d2, q⟩)]
          split <;> rfl
      · rw [if_neg d1]
