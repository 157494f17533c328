/-- both sides have found the same fault at the same place (or the text ends within a line) -/
def ERR (zf vf : fr_V) : Prop := (¬ zf 600 14 = 0 ∧ vf 1100 23 = zf 600 14 ∧ vf 1100 24 = zf 600 9) ∨ (zf 600 14 = 0 ∧ ¬ zf 600 5 = 0 ∧ vf 1100 23 = 1 ∧ vf 1100 24 = zf 600 9)
def fv11 (v w : fr_V) : Prop := (∀ c, c ≠ 1100 → w c = v c) ∧ ∀ j, (j < 23 ∨ j = 25 ∨ (29 < j ∧ j < 42) ∨ 43 < j) → w 1100 j = v 1100 j
theorem fv11.rf {v : fr_V} : fv11 v v := ⟨fun _ _ => rfl, fun _ _ => rfl⟩
theorem fv11.tr {v w x : fr_V} (h : fv11 v w) (g : fv11 w x) : fv11 v x := ⟨fun c hc => (g.1 c hc).trans (h.1 c hc), fun j hj => (g.2 j hj).trans (h.2 j hj)⟩
theorem fv11.u {v w : fr_V} (h : fv11 v w) {j : Nat} {x : Int32} (hj : j = 23 ∨ j = 24 ∨ (26 ≤ j ∧ j ≤ 29) ∨ j = 42 ∨ j = 43) : fv11 v (up2 w 1100 j x) := ⟨fun c hc => by rw [up2_ne hc]; exact h.1 c hc, fun i hi => by rw [u6 (by omega)]; exact h.2 i hi⟩
theorem fv11.w {v w : fr_V} (h : fv11 v w) (x : Int32) : fv11 v (f_X11_wrong w x).2 := (h.u (j := 23) (by omega)).u (j := 24) (by omega)
theorem fv11.t {v w : fr_V} {E : Nat} (h : fv11 v w) : fv11 v (f_tok E w) := by
  refine h.tr ⟨fun c hc => ?_, fun j hj => ?_⟩
  · unfold f_tok f_take; exact tk_f.1 c hc
  · unfold f_tok f_take; exact tk_f.2 j (by omega)
theorem wr_23 {v : fr_V} {r : Int32} : (f_X11_wrong v r).2 1100 23 = r := by
  show up2 (up2 v 1100 23 r) 1100 24 (v 1100 29) 1100 23 = r
  rw [u6 (by decide), u6s]
theorem wr_24 {v : fr_V} {r : Int32} : (f_X11_wrong v r).2 1100 24 = v 1100 29 := by
  show up2 (up2 v 1100 23 r) 1100 24 (v 1100 29) 1100 24 = _
  rw [u6s]
section PCS
variable {ac E q : Nat} {z v : fr_V}
theorem PB.eW (h : PB ac E q z v) (hq : q < E) {r : Int32} (hr : (f_put6 (f_tt z E q) ac).1 = r) (h0 : ¬ r = 0) {v' : fr_V} (e : v' 1100 29 = v 1100 29) : ERR (go ac E z) (f_X11_wrong v' r).2 := by
  have g := h.err hq (by rw [hr]; exact h0)
  refine Or.inl ⟨by rw [g.2.2, hr]; exact h0, ?_, ?_⟩
  · rw [g.2.2, hr, wr_23]
  · rw [g.2.1, wr_24, e]; exact h.2.2.2.2.2.2.2.1
theorem PB.eE (h : PB ac E E z v) (h5 : ¬ z 600 5 = 0) {v' : fr_V} (e : v' 1100 29 = v 1100 29) : ERR (go ac E z) (f_X11_wrong v' 1).2 := by
  rw [h.fin]
  refine Or.inr ⟨h.2.2.2.1, h5, ?_, ?_⟩
  · exact wr_23
  · rw [wr_24, e, h.2.2.2.2.2.2.2.1]; exact h.2.2.2.2.2.1.symm
/-- the token is a number, or it isn't, on both sides -/
theorem PB.nm (h : PB ac E q z v) (hq : q < E) : (v 1100 27 = 2 ∧ f_tt z E q 600 11 = 1 ∧ numR (f_tt z E q 600 12) (v 1100 28)) ∨ (¬ v 1100 27 = 2 ∧ ¬ f_tt z E q 600 11 = 1) := by
  rcases (h.tt hq).2.2 with ⟨w, -, h1, -, -, h2⟩ | ⟨h1, -, h2, h3⟩ | ⟨h1, -, h2⟩ | ⟨h1, -, h2⟩
  · exact Or.inr ⟨by rw [h1]; decide, by rw [h2]; decide⟩
  · exact Or.inl ⟨h1, h2, h3⟩
  · exact Or.inr ⟨by rw [h1]; decide, by rw [h2]; decide⟩
  · refine Or.inr ⟨by rw [h1]; decide, ?_⟩
    rcases h2 with h2 | h2 <;> rw [h2] <;> decide
/-- a number within bounds, asked for on both sides -/
theorem PB.num (h : PB ac E q z v) (hq : q < E) {y : fr_V} (y11 : y 600 11 = f_tt z E q 600 11) (y12 : y 600 12 = f_tt z E q 600 12) {ow lo hi : Nat} (hlo : wdleast ow = nI lo) (hhi : wdmost ow = nI hi) (l1 : lo ≤ 9999) (l2 : hi ≤ 9999) :
    (f_nf y ow = 0 ∧ f_X11_isNumber v (nI lo) (nI hi) = (1, v) ∧ ∃ n, lo ≤ n ∧ n ≤ hi ∧ y 600 12 = nI n ∧ v 1100 28 = nI n) ∨ (¬ f_nf y ow = 0 ∧ f_X11_isNumber v (nI lo) (nI hi) = (0, (f_X11_wrong v (f_nf y ow)).2)) := by
  unfold f_nf f_X11_isNumber
  rw [y11, y12, hlo, hhi]
  rcases h.nm hq with ⟨h1, h2, h3⟩ | ⟨h1, h2⟩
  · rw [if_pos h1, if_pos h2]
    rcases h3 with ⟨n, hn, e1, e2⟩ | ⟨n, k, g1, g2, g3, g4, e1, e2⟩
    · rw [e1, e2]
      by_cases c1 : nI n < nI lo
      · rw [if_pos c1, if_pos c1]; exact Or.inr ⟨by decide, rfl⟩
      · rw [if_neg c1, if_neg c1]
        have c1' : lo ≤ n := by
          rcases Nat.lt_or_ge n lo with q9 | q9
          · exact absurd (nI_lt q9 (by omega)) c1
          · exact q9
        by_cases c2 : nI n ≤ nI hi
        · rw [if_pos c2, if_pos c2]
          exact Or.inl ⟨rfl, rfl, n, c1', (nI_leI (by omega) (by omega)).mp c2, rfl, rfl⟩
        · rw [if_neg c2, if_neg c2]; exact Or.inr ⟨by decide, rfl⟩
    · rw [e1, e2, if_neg (nI_nlt (by omega) (by omega)), if_neg (nI_nlt (by omega) (by omega)), if_neg (nI_ge (by omega) (by omega)), if_neg (nI_ge (by omega) (by omega))]
      exact Or.inr ⟨by decide, rfl⟩
  · rw [if_neg h1, if_neg h2]; exact Or.inr ⟨by decide, rfl⟩
theorem PB.nmE (h : PB ac E E z v) (lo hi : Int32) : f_X11_isNumber v lo hi = (0, (f_X11_wrong v 1).2) := by
  unfold f_X11_isNumber
  rw [h.2.2.2.2.2.2.2.2.1 rfl, if_neg (by decide)]
theorem PB.wdE (h : PB ac E E z v) (x : Int32) : f_X11_isWord v x = 0 := by
  unfold f_X11_isWord
  rw [h.2.2.2.2.2.2.2.2.1 rfl, if_neg (by decide)]
theorem put_some {y : fr_V} {w : Nat} (h : woOf y = some w) : f_put6 y ac = f_putW y ac (mOf y ac) (rlOf y ac) (owOf y) w := by unfold f_put6; rw [h]
theorem put_none {y : fr_V} (h : woOf y = none) : f_put6 y ac = f_putN y ac (rlOf y ac) (owOf y) := by unfold f_put6; rw [h]
theorem pt_3 {y : fr_V} (h : y 600 5 = 3) : f_put6 y ac = f_pfr y (owOf y) := by
  cases hw : woOf y with
  | none => rw [put_none hw]; unfold f_putN; rw [h]; rfl
  | some w => rw [put_some hw]; unfold f_putW; rw [h]; rfl
theorem pt_5 {y : fr_V} (h : y 600 5 = 5) : f_put6 y ac = f_pup y ac (rlOf y ac) (owOf y) := by
  cases hw : woOf y with
  | none => rw [put_none hw]; unfold f_putN; rw [h]; rfl
  | some w => rw [put_some hw]; unfold f_putW; rw [h]; rfl
theorem pt_1 {y : fr_V} (h : y 600 5 = 1) : f_put6 y ac = f_pam y ac (rlOf y ac) (owOf y) := by
  cases hw : woOf y with
  | none => rw [put_none hw]; unfold f_putN; rw [h]; rfl
  | some w => rw [put_some hw]; unfold f_putW; rw [h]; rfl
theorem pt_6 {y : fr_V} (h : y 600 5 = 6) : f_put6 y ac = f_pcl y ac (rlOf y ac) (owOf y) := by
  cases hw : woOf y with
  | none => rw [put_none hw]; unfold f_putN; rw [h]; rfl
  | some w => rw [put_some hw]; unfold f_putW; rw [h]; rfl
theorem pt_8 {y : fr_V} (h : y 600 5 = 8) : f_put6 y ac = f_ple y := by
  cases hw : woOf y with
  | none => rw [put_none hw]; unfold f_putN; rw [h]; rfl
  | some w => rw [put_some hw]; unfold f_putW; rw [h]; rfl
/-- the word of that number, on both sides -/
theorem PB.wd (h : PB ac E q z v) (hq : q < E) {k : Nat} (hk : k < 15) : f_X11_isWord v (nI k) = 0 ↔ ¬ woOf (f_tt z E q) = some k := by
  unfold f_X11_isWord
  rcases (h.tt hq).2.2 with ⟨w, hw, h1, h2, h3, -⟩ | ⟨h1, h3, -, -⟩ | ⟨h1, h3, -⟩ | ⟨h1, h3, -⟩
  · rw [if_pos h1, h2, h3]
    by_cases e : w = k
    · rw [if_pos (by rw [e]), e]; exact ⟨fun q9 => absurd q9 (by decide), fun q9 => absurd rfl q9⟩
    · rw [if_neg (fun q9 => e ((nI_eq (by omega) (by omega)).mp q9))]; exact ⟨fun _ q9 => e (Option.some.inj q9), fun _ => rfl⟩
  · rw [if_neg (show ¬ v 1100 27 = 1 by rw [h1]; decide), h3]; exact ⟨fun _ q9 => (by cases q9), fun _ => rfl⟩
  · rw [if_neg (show ¬ v 1100 27 = 1 by rw [h1]; decide), h3]; exact ⟨fun _ q9 => (by cases q9), fun _ => rfl⟩
  · rw [if_neg (show ¬ v 1100 27 = 1 by rw [h1]; decide), h3]; exact ⟨fun _ q9 => (by cases q9), fun _ => rfl⟩
end PCS
