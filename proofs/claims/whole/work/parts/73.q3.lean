/-- the sales of the two are alike -/
def slR (z y : fr_V) (NS : Nat) : Prop := NS ≤ 40 ∧ ∀ j, j < NS → z 304 j = y 1116 (5 * j) ∧ z 305 j = y 1116 (5 * j + 1) ∧ z 306 j = y 1116 (5 * j + 2) ∧ z 307 j = y 1116 (5 * j + 3) ∧ z 308 j = y 1116 (5 * j + 4) ∧ vp_in (z 305 j) 8 ∧ vp_in (z 306 j) 8
theorem pt_eq {SR SL TK SP SH W : Nat → Int32} {r x : Int32} {f0 : Nat → Int32} {NS i : Nat} (hi : i < 8) (h : ∀ j, j < NS → SR j = W (5 * j) ∧ SL j = W (5 * j + 1) ∧ TK j = W (5 * j + 2) ∧ SP j = W (5 * j + 3) ∧ SH j = W (5 * j + 4) ∧ vp_in (SL j) 8 ∧ vp_in (TK j) 8) : ∀ n, n ≤ NS → hdF SR SL TK SP SH r x f0 n i = sp_pt W r (nI i) x (f0 i) n := by
  intro n
  induction n with
  | zero => intro _; rfl
  | succ n ih =>
    intro hn
    obtain ⟨a1, a2, a3, a4, a5, a6, a7⟩ := h n (by omega)
    obtain ⟨s, hs, es⟩ := vp_in_of a6 (by omega)
    obtain ⟨t, ht, et⟩ := vp_in_of a7 (by omega)
    have ih' := ih (by omega)
    rw [hdF_s, sp_pt_s, ← a1, ← a2, ← a3, ← a4, ← a5]
    by_cases c1 : SR n = r
    · rw [if_pos c1, if_pos c1]
      by_cases c2 : x < SH n
      · rw [if_pos c2, if_neg (Int32.not_le.mpr c2)]; exact ih'
      · rw [if_neg c2, if_pos (Int32.not_lt.mp c2), ← ih', es, et, nI_clamp (show s < 2 ^ 31 by omega), nI_clamp (show t < 2 ^ 31 by omega)]
        have es2 : (nI s = nI i) ↔ s = i := nI_eq (by omega) (by omega)
        have et2 : (nI t = nI i) ↔ t = i := nI_eq (by omega) (by omega)
        unfold upd
        by_cases d1 : t = i
        · rw [if_pos d1.symm, if_pos (et2.mpr d1)]
          by_cases d2 : s = i
          · rw [if_pos (by omega), if_pos (es2.mpr d2), d2, Int32.sub_self, Int32.add_zero, Int32.sub_add_cancel]
          · rw [if_neg (by omega), if_neg (fun q => d2 (es2.mp q)), Int32.sub_zero, d1]
        · rw [if_neg (fun q => d1 q.symm), if_neg (fun q => d1 (et2.mp q))]
          by_cases d2 : s = i
          · rw [if_pos d2.symm, if_pos (es2.mpr d2), d2, Int32.zero_sub, ← Int32.sub_eq_add_neg]
          · rw [if_neg (fun q => d2 q.symm), if_neg (fun q => d2 (es2.mp q)), Int32.sub_self, Int32.add_zero]
    · rw [if_neg c1, if_neg c1]; exact ih'
/-- the parts that a holder has -/
theorem parts_eq {z y : fr_V} {NS r i : Nat} {x : Int32} (hr : r < 16) (hi : i < 8) (h : slR z y NS) (hb : z (2000 + 10 * r) 4 = y 1109 r) (h0 : z (2000 + 10 * r) 0 = y 1110 r) (hh : vp_in (y 1110 r) 8) : hdC z NS r x i = f_parts y NS (nI r) (nI i) x := by
  unfold hdC f_parts sp_parts
  rw [nI_clamp (show r < 2 ^ 31 by omega), hb, h0]
  by_cases c : y 1109 r ≤ x
  · rw [if_pos c, if_pos c, pt_eq hi h.2 NS (Nat.le_refl _)]
    obtain ⟨a, ha, e⟩ := vp_in_of hh (by omega)
    rw [e, nI_clamp (show a < 2 ^ 31 by omega)]
    unfold upd
    by_cases d : i = a
    · rw [if_pos d, if_pos (by rw [d])]
    · rw [if_neg d, if_neg (fun q => d ((nI_eq (by omega) (by omega)).mp q))]
  · rw [if_neg c, if_neg c]
/-- what a holder gets of a payment: the class's way and the reference's -/
theorem sl_eq (c : Int32) (H : Nat → Int32) : ∀ n, slF c H n = sh_l H c n := by
  intro n
  induction n with
  | zero => rfl
  | succ n ih => rw [slF_s, sh_l_s, ih]
