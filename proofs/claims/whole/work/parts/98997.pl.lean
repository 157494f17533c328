def fz (v w : fr_V) : Prop := (∀ c, (c < 1131 ∨ 1142 < c) → c ≠ 1100 → w c = v c) ∧ (∀ j, (j < 23 ∨ j = 25 ∨ (29 < j ∧ j < 39) ∨ (39 < j ∧ j < 42) ∨ 43 < j) → w 1100 j = v 1100 j) ∧ (∀ c i, 1131 ≤ c → c ≤ 1138 → i < 24 → w c i = v c i) ∧ ∀ i, i < 4 → w 1141 i = v 1141 i
theorem fz.rfl {v : fr_V} : fz v v := ⟨fun _ _ _ => Eq.refl _, fun _ _ => Eq.refl _, fun _ _ _ _ _ => Eq.refl _, fun _ _ => Eq.refl _⟩
theorem fz.tr {a b c : fr_V} (h : fz a b) (k : fz b c) : fz a c := ⟨fun x h1 h2 => (k.1 x h1 h2).trans (h.1 x h1 h2), fun j hj => (k.2.1 j hj).trans (h.2.1 j hj), fun x i h1 h2 h3 => (k.2.2.1 x i h1 h2 h3).trans (h.2.2.1 x i h1 h2 h3), fun i hi => (k.2.2.2 i hi).trans (h.2.2.2 i hi)⟩
theorem fz.up {a b : fr_V} (h : fz a b) {k j : Nat} {x : Int32} (hk : (k = 1100 ∧ (j = 23 ∨ j = 24 ∨ (26 ≤ j ∧ j ≤ 29) ∨ j = 39 ∨ j = 42 ∨ j = 43)) ∨ (1131 ≤ k ∧ k ≤ 1138 ∧ 24 ≤ j) ∨ (k = 1141 ∧ 4 ≤ j) ∨ k = 1142) : fz a (up2 b k j x) := by
  refine ⟨fun c h1 h2 => (up2_ne (by omega)).trans (h.1 c h1 h2), fun i hi => ?_, fun c i h1 h2 h3 => ?_, fun i hi => ?_⟩
  · by_cases e : k = 1100
    · subst e; rw [up2_self, pk_un (by omega)]; exact h.2.1 i hi
    · rw [up2_ne (fun q => e q.symm)]; exact h.2.1 i hi
  · by_cases e : k = c
    · subst e; rw [up2_self, pk_un (by omega)]; exact h.2.2.1 k i h1 h2 h3
    · rw [up2_ne (fun q => e q.symm)]; exact h.2.2.1 c i h1 h2 h3
  · by_cases e : k = 1141
    · subst e; rw [up2_self, pk_un (by omega)]; exact h.2.2.2 i hi
    · rw [up2_ne (fun q => e q.symm)]; exact h.2.2.2 i hi
theorem fz_tk (v : fr_V) (E q : Nat) : fz v (f_tk v E q) := by
  unfold f_tk
  have h0 : fz v (up2 (up2 v 1100 26 (nI q)) 1100 29 (nI q)) := (fz.rfl.up (by omega)).up (by omega)
  by_cases h1 : q = E
  · rw [if_pos h1]; exact h0.up (by omega)
  · rw [if_neg h1]
    by_cases h2 : isLt (v 1101) q
    · rw [if_pos h2]; exact ((h0.up (by omega)).up (by omega)).up (by omega)
    · rw [if_neg h2]
      by_cases h3 : isDg (v 1101) q
      · rw [if_pos h3]; exact ((h0.up (by omega)).up (by omega)).up (by omega)
      · rw [if_neg h3]; exact (h0.up (by omega)).up (by omega)
theorem fz_tok (E : Nat) (v : fr_V) : fz v (f_tok E v) := fz_tk _ _ _
theorem fz_wrong (v : fr_V) (x : Int32) : fz v (f_X11_wrong v x).2 := by
  unfold f_X11_wrong
  exact (fz.rfl.up (by omega)).up (by omega)
theorem fz_num (v : fr_V) (a b : Int32) : fz v (f_X11_isNumber v a b).2 := by
  unfold f_X11_isNumber
  by_cases c1 : v 1100 27 = 2
  · rw [if_pos c1]
    by_cases c2 : v 1100 28 < a
    · rw [if_pos c2]; exact fz_wrong v 2
    · rw [if_neg c2]
      by_cases c3 : v 1100 28 ≤ b
      · rw [if_pos c3]; exact fz.rfl
      · rw [if_neg c3]; exact fz_wrong v 2
  · rw [if_neg c1]; exact fz_wrong v 1
theorem span_fz {E : Nat} {v : fr_V} {x1 : Int32} : fz v (f_span E v x1).2 := by
    unfold f_span
    by_cases g0 : ((f_X11_isNumber v 0 x1).1) = 0
    · rw [if_pos g0]
      dsimp only
      exact (fz.rfl).tr (fz_num _ _ _)
    · rw [if_neg g0]
      by_cases g1 : (f_X11_isWord (f_tok E (up2 v 1100 42 (v 1100 28))) 13) = 0
      · rw [if_pos g1]
        dsimp only
        exact (((fz.rfl).up (k := 1100) (j := 42) (x := v 1100 28) (by omega)).tr (fz_tok _ _)).tr (fz_wrong _ _)
      · rw [if_neg g1]
        by_cases g2 : ((f_X11_isNumber (f_tok E (f_tok E (up2 v 1100 42 (v 1100 28)))) ((f_tok E (f_tok E (up2 v 1100 42 (v 1100 28)))) 1100 42) x1).1) = 0
        · rw [if_pos g2]
          dsimp only
          exact ((((fz.rfl).up (k := 1100) (j := 42) (x := v 1100 28) (by omega)).tr (fz_tok _ _)).tr (fz_tok _ _)).tr (fz_num _ _ _)
        · rw [if_neg g2]
          dsimp only
          exact (((((fz.rfl).up (k := 1100) (j := 42) (x := v 1100 28) (by omega)).tr (fz_tok _ _)).tr (fz_tok _ _)).up (k := 1100) (j := 43) (x := (f_tok E (f_tok E (up2 v 1100 42 (v 1100 28)))) 1100 28) (by omega)).tr (fz_tok _ _)
theorem cr_fz {E q : Nat} (hq : 24 ≤ q) : ∀ (d : Nat) {v : fr_V}, fz v (f_cr E q d v).2 := by
  intro d
  induction d with
  | zero => intro v; exact fz.rfl
  | succ d ih =>
    intro v
    rw [f_cr_s]
    by_cases g0 : ((f_X11_isNumber v 0 3).1) = 0
    · rw [if_pos g0]
      dsimp only
      exact (fz.rfl).tr (fz_num _ _ _)
    · rw [if_neg g0]
      by_cases g1 : (((v 1135 q) >>> ((v 1100 28) &&& 31)) &&& 1) = 1
      · rw [if_pos g1]
        dsimp only
        exact (fz.rfl).tr (fz_wrong _ _)
      · rw [if_neg g1]
        by_cases g2 : (f_X11_isWord (f_tok E (up2 v 1135 q ((v 1135 q) ||| (1 <<< ((v 1100 28) &&& 31))))) 14) = 0
        · rw [if_pos g2]
          dsimp only
          exact ((fz.rfl).up (k := 1135) (j := q) (x := (v 1135 q) ||| (1 <<< ((v 1100 28) &&& 31))) (by omega)).tr (fz_tok _ _)
        · rw [if_neg g2]
          exact ((((fz.rfl).up (k := 1135) (j := q) (x := (v 1135 q) ||| (1 <<< ((v 1100 28) &&& 31))) (by omega)).tr (fz_tok _ _)).tr (fz_tok _ _)).tr ih
theorem wh_fz {E q : Nat} (hq : 24 ≤ q) : ∀ (d : Nat) {v : fr_V} {ha hb : Int32}, fz v (f_wh E q d v ha hb).2 := by
  intro d
  induction d with
  | zero => intro v ha hb; exact fz.rfl
  | succ d ih =>
    intro v ha hb
    rw [f_wh_s]
    by_cases g0 : (v 1100 27) = 1
    · rw [if_pos g0]
      by_cases g1 : (v 1100 28) < 8
      · rw [if_pos g1]
        by_cases g2 : (v 1135 q) = 0
        · rw [if_pos g2]
          dsimp only
          exact (fz.rfl).up (k := 1135) (j := q) (x := 15) (by omega)
        · rw [if_neg g2]
          dsimp only
          exact fz.rfl
      · rw [if_neg g1]
        by_cases g2 : 12 < (v 1100 28)
        · rw [if_pos g2]
          by_cases g3 : (v 1135 q) = 0
          · rw [if_pos g3]
            dsimp only
            exact (fz.rfl).up (k := 1135) (j := q) (x := 15) (by omega)
          · rw [if_neg g3]
            dsimp only
            exact fz.rfl
        · rw [if_neg g2]
          by_cases g3 : (v 1100 28) = 8
          · rw [if_pos g3]
            by_cases g4 : ha = 0
            · rw [if_pos g4]
              by_cases g5 : ((f_span E (f_tok E v) 130).1) = 0
              · rw [if_pos g5]
                dsimp only
                exact ((fz.rfl).tr (fz_tok _ _)).tr (span_fz)
              · rw [if_neg g5]
                by_cases g6 : hb = 0
                · rw [if_pos g6]
                  by_cases g7 : (v 1100 28) = 10
                  · rw [if_pos g7]
                    exact (((((fz.rfl).tr (fz_tok _ _)).tr (span_fz)).up (k := 1133) (j := q) (x := ((f_span E (f_tok E v) 130).2) 1100 42) (by omega)).up (k := 1134) (j := q) (x := ((f_span E (f_tok E v) 130).2) 1100 43) (by omega)).tr ih
                  · rw [if_neg g7]
                    exact (((((fz.rfl).tr (fz_tok _ _)).tr (span_fz)).up (k := 1133) (j := q) (x := ((f_span E (f_tok E v) 130).2) 1100 42) (by omega)).up (k := 1134) (j := q) (x := ((f_span E (f_tok E v) 130).2) 1100 43) (by omega)).tr ih
                · rw [if_neg g6]
                  exact (((((fz.rfl).tr (fz_tok _ _)).tr (span_fz)).up (k := 1133) (j := q) (x := ((f_span E (f_tok E v) 130).2) 1100 42) (by omega)).up (k := 1134) (j := q) (x := ((f_span E (f_tok E v) 130).2) 1100 43) (by omega)).tr ih
            · rw [if_neg g4]
              dsimp only
              exact (fz.rfl).tr (fz_wrong _ _)
          · rw [if_neg g3]
            by_cases g4 : (v 1100 28) = 9
            · rw [if_pos g4]
              by_cases g5 : (v 1135 q) ≤ 0
              · rw [if_pos g5]
                by_cases g6 : (v 1100 28) = 10
                · rw [if_pos g6]
                  by_cases g7 : ((f_span E (f_tok E v) 79).1) = 0
                  · rw [if_pos g7]
                    dsimp only
                    exact ((fz.rfl).tr (fz_tok _ _)).tr (span_fz)
                  · rw [if_neg g7]
                    by_cases g8 : ha = 0
                    · rw [if_pos g8]
                      by_cases g9 : hb = 0
                      · rw [if_pos g9]
                        exact (((((fz.rfl).tr (fz_tok _ _)).tr (span_fz)).up (k := 1136) (j := q) (x := ((f_span E (f_tok E v) 79).2) 1100 42) (by omega)).up (k := 1137) (j := q) (x := ((f_span E (f_tok E v) 79).2) 1100 43) (by omega)).tr ih
                      · rw [if_neg g9]
                        exact (((((fz.rfl).tr (fz_tok _ _)).tr (span_fz)).up (k := 1136) (j := q) (x := ((f_span E (f_tok E v) 79).2) 1100 42) (by omega)).up (k := 1137) (j := q) (x := ((f_span E (f_tok E v) 79).2) 1100 43) (by omega)).tr ih
                    · rw [if_neg g8]
                      by_cases g9 : hb = 0
                      · rw [if_pos g9]
                        exact (((((fz.rfl).tr (fz_tok _ _)).tr (span_fz)).up (k := 1136) (j := q) (x := ((f_span E (f_tok E v) 79).2) 1100 42) (by omega)).up (k := 1137) (j := q) (x := ((f_span E (f_tok E v) 79).2) 1100 43) (by omega)).tr ih
                      · rw [if_neg g9]
                        exact (((((fz.rfl).tr (fz_tok _ _)).tr (span_fz)).up (k := 1136) (j := q) (x := ((f_span E (f_tok E v) 79).2) 1100 42) (by omega)).up (k := 1137) (j := q) (x := ((f_span E (f_tok E v) 79).2) 1100 43) (by omega)).tr ih
                · rw [if_neg g6]
                  by_cases g7 : ((f_cr E q (E + 1) (f_tok E v)).1) = 0
                  · rw [if_pos g7]
                    dsimp only
                    exact ((fz.rfl).tr (fz_tok _ _)).tr (cr_fz hq _)
                  · rw [if_neg g7]
                    exact (((fz.rfl).tr (fz_tok _ _)).tr (cr_fz hq _)).tr ih
              · rw [if_neg g5]
                dsimp only
                exact (fz.rfl).tr (fz_wrong _ _)
            · rw [if_neg g4]
              by_cases g5 : (v 1100 28) = 10
              · rw [if_pos g5]
                by_cases g6 : hb = 0
                · rw [if_pos g6]
                  by_cases g7 : ((f_span E (f_tok E v) 79).1) = 0
                  · rw [if_pos g7]
                    dsimp only
                    exact ((fz.rfl).tr (fz_tok _ _)).tr (span_fz)
                  · rw [if_neg g7]
                    by_cases g8 : ha = 0
                    · rw [if_pos g8]
                      exact (((((fz.rfl).tr (fz_tok _ _)).tr (span_fz)).up (k := 1136) (j := q) (x := ((f_span E (f_tok E v) 79).2) 1100 42) (by omega)).up (k := 1137) (j := q) (x := ((f_span E (f_tok E v) 79).2) 1100 43) (by omega)).tr ih
                    · rw [if_neg g8]
                      exact (((((fz.rfl).tr (fz_tok _ _)).tr (span_fz)).up (k := 1136) (j := q) (x := ((f_span E (f_tok E v) 79).2) 1100 42) (by omega)).up (k := 1137) (j := q) (x := ((f_span E (f_tok E v) 79).2) 1100 43) (by omega)).tr ih
                · rw [if_neg g6]
                  dsimp only
                  exact (fz.rfl).tr (fz_wrong _ _)
              · rw [if_neg g5]
                by_cases g6 : (v 1138 q) ≤ 0
                · rw [if_pos g6]
                  by_cases g7 : (v 1100 28) = 11
                  · rw [if_pos g7]
                    exact (((fz.rfl).tr (fz_tok _ _)).up (k := 1138) (j := q) (x := 1) (by omega)).tr ih
                  · rw [if_neg g7]
                    exact (((fz.rfl).tr (fz_tok _ _)).up (k := 1138) (j := q) (x := 2) (by omega)).tr ih
                · rw [if_neg g6]
                  dsimp only
                  exact (fz.rfl).tr (fz_wrong _ _)
    · rw [if_neg g0]
      by_cases g1 : (v 1135 q) = 0
      · rw [if_pos g1]
        dsimp only
        exact (fz.rfl).up (k := 1135) (j := q) (x := 15) (by omega)
      · rw [if_neg g1]
        dsimp only
        exact fz.rfl
theorem whom_fz {E q : Nat} {v : fr_V} (hq : 24 ≤ q) : fz v (f_whom E v q).2 := (((((((fz.rfl).up (k := 1133) (j := q) (x := 0) (by omega)).up (k := 1134) (j := q) (x := 1000) (by omega)).up (k := 1135) (j := q) (x := 0) (by omega)).up (k := 1136) (j := q) (x := 0) (by omega)).up (k := 1137) (j := q) (x := 1000) (by omega)).up (k := 1138) (j := q) (x := 0) (by omega)).tr (wh_fz hq _)
theorem ofN_fz {E k : Nat} {v : fr_V} : fz v (f_ofN E v k).2 := by
    unfold f_ofN
    by_cases g0 : (v 1142 k) = 0
    · rw [if_pos g0]
      by_cases g1 : (nI k) = 2
      · rw [if_pos g1]
        by_cases g2 : (nI k) = 0
        · rw [if_pos g2]
          by_cases g3 : ((f_X11_isNumber (f_tok E (up2 v 1142 k 1)) 2 40).1) = 0
          · rw [if_pos g3]
            dsimp only
            exact (((fz.rfl).up (k := 1142) (j := k) (x := 1) (by omega)).tr (fz_tok _ _)).tr (fz_num _ _ _)
          · rw [if_neg g3]
            dsimp only
            exact ((((fz.rfl).up (k := 1142) (j := k) (x := 1) (by omega)).tr (fz_tok _ _)).up (k := 1141) (j := 4 + k) (x := (f_tok E (up2 v 1142 k 1)) 1100 28) (by omega)).tr (fz_tok _ _)
        · rw [if_neg g2]
          by_cases g3 : (nI k) = 1
          · rw [if_pos g3]
            by_cases g4 : ((f_X11_isNumber (f_tok E (up2 v 1142 k 1)) 2 9).1) = 0
            · rw [if_pos g4]
              dsimp only
              exact (((fz.rfl).up (k := 1142) (j := k) (x := 1) (by omega)).tr (fz_tok _ _)).tr (fz_num _ _ _)
            · rw [if_neg g4]
              dsimp only
              exact ((((fz.rfl).up (k := 1142) (j := k) (x := 1) (by omega)).tr (fz_tok _ _)).up (k := 1141) (j := 4 + k) (x := (f_tok E (up2 v 1142 k 1)) 1100 28) (by omega)).tr (fz_tok _ _)
          · rw [if_neg g3]
            by_cases g4 : (nI k) = 2
            · rw [if_pos g4]
              by_cases g5 : ((f_X11_isNumber (f_tok E (up2 v 1142 k 1)) 2 99).1) = 0
              · rw [if_pos g5]
                dsimp only
                exact (((fz.rfl).up (k := 1142) (j := k) (x := 1) (by omega)).tr (fz_tok _ _)).tr (fz_num _ _ _)
              · rw [if_neg g5]
                dsimp only
                exact ((((fz.rfl).up (k := 1142) (j := k) (x := 1) (by omega)).tr (fz_tok _ _)).up (k := 1141) (j := 4 + k) (x := (f_tok E (up2 v 1142 k 1)) 1100 28) (by omega)).tr (fz_tok _ _)
            · rw [if_neg g4]
              by_cases g5 : ((f_X11_isNumber (f_tok E (up2 v 1142 k 1)) 2 3).1) = 0
              · rw [if_pos g5]
                dsimp only
                exact (((fz.rfl).up (k := 1142) (j := k) (x := 1) (by omega)).tr (fz_tok _ _)).tr (fz_num _ _ _)
              · rw [if_neg g5]
                dsimp only
                exact ((((fz.rfl).up (k := 1142) (j := k) (x := 1) (by omega)).tr (fz_tok _ _)).up (k := 1141) (j := 4 + k) (x := (f_tok E (up2 v 1142 k 1)) 1100 28) (by omega)).tr (fz_tok _ _)
      · rw [if_neg g1]
        by_cases g2 : (nI k) = 3
        · rw [if_pos g2]
          by_cases g3 : (nI k) = 0
          · rw [if_pos g3]
            by_cases g4 : ((f_X11_isNumber (f_tok E (up2 v 1142 k 1)) 1 40).1) = 0
            · rw [if_pos g4]
              dsimp only
              exact (((fz.rfl).up (k := 1142) (j := k) (x := 1) (by omega)).tr (fz_tok _ _)).tr (fz_num _ _ _)
            · rw [if_neg g4]
              dsimp only
              exact ((((fz.rfl).up (k := 1142) (j := k) (x := 1) (by omega)).tr (fz_tok _ _)).up (k := 1141) (j := 4 + k) (x := (f_tok E (up2 v 1142 k 1)) 1100 28) (by omega)).tr (fz_tok _ _)
          · rw [if_neg g3]
            by_cases g4 : (nI k) = 1
            · rw [if_pos g4]
              by_cases g5 : ((f_X11_isNumber (f_tok E (up2 v 1142 k 1)) 1 9).1) = 0
              · rw [if_pos g5]
                dsimp only
                exact (((fz.rfl).up (k := 1142) (j := k) (x := 1) (by omega)).tr (fz_tok _ _)).tr (fz_num _ _ _)
              · rw [if_neg g5]
                dsimp only
                exact ((((fz.rfl).up (k := 1142) (j := k) (x := 1) (by omega)).tr (fz_tok _ _)).up (k := 1141) (j := 4 + k) (x := (f_tok E (up2 v 1142 k 1)) 1100 28) (by omega)).tr (fz_tok _ _)
            · rw [if_neg g4]
              by_cases g5 : (nI k) = 2
              · rw [if_pos g5]
                by_cases g6 : ((f_X11_isNumber (f_tok E (up2 v 1142 k 1)) 1 99).1) = 0
                · rw [if_pos g6]
                  dsimp only
                  exact (((fz.rfl).up (k := 1142) (j := k) (x := 1) (by omega)).tr (fz_tok _ _)).tr (fz_num _ _ _)
                · rw [if_neg g6]
                  dsimp only
                  exact ((((fz.rfl).up (k := 1142) (j := k) (x := 1) (by omega)).tr (fz_tok _ _)).up (k := 1141) (j := 4 + k) (x := (f_tok E (up2 v 1142 k 1)) 1100 28) (by omega)).tr (fz_tok _ _)
              · rw [if_neg g5]
                by_cases g6 : ((f_X11_isNumber (f_tok E (up2 v 1142 k 1)) 1 3).1) = 0
                · rw [if_pos g6]
                  dsimp only
                  exact (((fz.rfl).up (k := 1142) (j := k) (x := 1) (by omega)).tr (fz_tok _ _)).tr (fz_num _ _ _)
                · rw [if_neg g6]
                  dsimp only
                  exact ((((fz.rfl).up (k := 1142) (j := k) (x := 1) (by omega)).tr (fz_tok _ _)).up (k := 1141) (j := 4 + k) (x := (f_tok E (up2 v 1142 k 1)) 1100 28) (by omega)).tr (fz_tok _ _)
        · rw [if_neg g2]
          by_cases g3 : (nI k) = 0
          · rw [if_pos g3]
            by_cases g4 : ((f_X11_isNumber (f_tok E (up2 v 1142 k 1)) 0 40).1) = 0
            · rw [if_pos g4]
              dsimp only
              exact (((fz.rfl).up (k := 1142) (j := k) (x := 1) (by omega)).tr (fz_tok _ _)).tr (fz_num _ _ _)
            · rw [if_neg g4]
              dsimp only
              exact ((((fz.rfl).up (k := 1142) (j := k) (x := 1) (by omega)).tr (fz_tok _ _)).up (k := 1141) (j := 4 + k) (x := (f_tok E (up2 v 1142 k 1)) 1100 28) (by omega)).tr (fz_tok _ _)
          · rw [if_neg g3]
            by_cases g4 : (nI k) = 1
            · rw [if_pos g4]
              by_cases g5 : ((f_X11_isNumber (f_tok E (up2 v 1142 k 1)) 0 9).1) = 0
              · rw [if_pos g5]
                dsimp only
                exact (((fz.rfl).up (k := 1142) (j := k) (x := 1) (by omega)).tr (fz_tok _ _)).tr (fz_num _ _ _)
              · rw [if_neg g5]
                dsimp only
                exact ((((fz.rfl).up (k := 1142) (j := k) (x := 1) (by omega)).tr (fz_tok _ _)).up (k := 1141) (j := 4 + k) (x := (f_tok E (up2 v 1142 k 1)) 1100 28) (by omega)).tr (fz_tok _ _)
            · rw [if_neg g4]
              by_cases g5 : (nI k) = 2
              · rw [if_pos g5]
                by_cases g6 : ((f_X11_isNumber (f_tok E (up2 v 1142 k 1)) 0 99).1) = 0
                · rw [if_pos g6]
                  dsimp only
                  exact (((fz.rfl).up (k := 1142) (j := k) (x := 1) (by omega)).tr (fz_tok _ _)).tr (fz_num _ _ _)
                · rw [if_neg g6]
                  dsimp only
                  exact ((((fz.rfl).up (k := 1142) (j := k) (x := 1) (by omega)).tr (fz_tok _ _)).up (k := 1141) (j := 4 + k) (x := (f_tok E (up2 v 1142 k 1)) 1100 28) (by omega)).tr (fz_tok _ _)
              · rw [if_neg g5]
                by_cases g6 : ((f_X11_isNumber (f_tok E (up2 v 1142 k 1)) 0 3).1) = 0
                · rw [if_pos g6]
                  dsimp only
                  exact (((fz.rfl).up (k := 1142) (j := k) (x := 1) (by omega)).tr (fz_tok _ _)).tr (fz_num _ _ _)
                · rw [if_neg g6]
                  dsimp only
                  exact ((((fz.rfl).up (k := 1142) (j := k) (x := 1) (by omega)).tr (fz_tok _ _)).up (k := 1141) (j := 4 + k) (x := (f_tok E (up2 v 1142 k 1)) 1100 28) (by omega)).tr (fz_tok _ _)
    · rw [if_neg g0]
      dsimp only
      exact (fz.rfl).tr (fz_wrong _ _)
theorem ofW_fz {E m w : Nat} {v : fr_V} : fz v (f_ofW E v m w).2 := by
  have hq : 24 ≤ 24 + m := by omega
  have a : fz v (f_tok E (up2 (up2 v 1131 (24 + m) (nI w)) 1132 (24 + m) 0)) := ((fz.rfl.up (by omega)).up (by omega)).tr (fz_tok _ _)
  have b : ∀ x : Int32, fz v (f_tok E (up2 (f_tok E (up2 (up2 v 1131 (24 + m) (nI w)) 1132 (24 + m) 0)) 1132 (24 + m) x)) := fun x => (a.up (by omega)).tr (fz_tok _ _)
  have c : ∀ z : fr_V, fz v z → fz v (f_whom E z (24 + m)).2 := fun z h => h.tr (whom_fz hq)
  have d : ∀ (z : fr_V) (x : Int32), fz v z → fz v (up2 (f_whom E z (24 + m)).2 1100 39 x) := fun z x h => (c z h).up (by omega)
  unfold f_ofW
  split
  · exact fz_wrong v 2
  · split
    · split
      · exact c _ a
      · exact d _ _ a
    · split
      · split
        · exact a.tr (fz_num _ _ _)
        · split
          · exact c _ (b _)
          · exact d _ _ (b _)
      · split
        · exact a.tr (fz_num _ _ _)
        · split
          · exact c _ (b _)
          · exact d _ _ (b _)
def alQ (v : fr_V) (B : Nat) (r : Int32 × fr_V) : Prop := fz v r.2 ∨ ∃ k' v' M, k' < B ∧ r = (nI k', f_keep v' M) ∧ fz v v'
theorem alQ.tr {v v' : fr_V} {B B' : Nat} {r : Int32 × fr_V} (h : alQ v' B r) (g : fz v v') (hB : B ≤ B') : alQ v B' r := by
  rcases h with h | ⟨k', w, M, h1, h2, h3⟩
  · exact Or.inl (g.tr h)
  · exact Or.inr ⟨k', w, M, by omega, h2, g.tr h3⟩
theorem al_fz {E : Nat} : ∀ (d : Nat) (v : fr_V) (k : Nat), alQ v (k + d + 1) (f_al E d v k) := by
  intro d
  induction d with
  | zero => intro v k; exact Or.inl fz.rfl
  | succ d ih =>
    intro v k
    rw [f_al_s]
    split
    · exact Or.inr ⟨k, v, _, by omega, rfl, fz.rfl⟩
    · split
      · split
        · split
          · split
            · exact Or.inl ofN_fz
            · split
              · exact (ih _ (k + 1)).tr (ofN_fz.tr (fz_tok _ _)) (by omega)
              · exact Or.inl (ofN_fz.tr (fz_wrong _ _))
          · split
            · exact Or.inl ofW_fz
            · split
              · exact (ih _ (k + 1)).tr (ofW_fz.tr (fz_tok _ _)) (by omega)
              · exact Or.inl (ofW_fz.tr (fz_wrong _ _))
        · exact Or.inl (fz_wrong _ _)
      · exact Or.inl (fz_wrong _ _)
/-- what acts() leaves as it was, faulty or not -/
def fy (v w : fr_V) : Prop := (∀ c, (c < 1131 ∨ 1142 < c) → c ≠ 1100 → w c = v c) ∧ ∀ j, (j < 23 ∨ j = 25 ∨ (29 < j ∧ j < 38) ∨ (39 < j ∧ j < 42) ∨ 43 < j) → w 1100 j = v 1100 j
theorem fz.y {v w : fr_V} (h : fz v w) : fy v w := ⟨h.1, fun j hj => h.2.1 j (by omega)⟩
theorem kpb_o {w0 : fr_V} {c : Nat} (hc : c < 1131 ∨ 1138 < c) : ∀ j, kp_b w0 j c = w0 c := by
  intro j
  induction j with
  | zero => rfl
  | succ j ih =>
    rw [kp_b_s]
    funext i
    rw [kbt, if_neg (fun k => by omega), ih]
theorem keep_fy {v : fr_V} {m : Nat} : fy v (f_keep v m) := by
  unfold f_keep
  refine ⟨fun c h1 h2 => ?_, fun j hj => ?_⟩
  · rw [kpb_o (by omega), up2_ne h2, ka_is.1 c (by omega)]
  · rw [kpb_o (by omega), u6 (by omega), ka_is.1 1100 (by decide)]
theorem al_fy {E d k : Nat} {v : fr_V} : fy v (f_al E d v k).2 := by
  rcases al_fz d v k with h | ⟨k', w, M, -, h2, h3⟩
  · exact h.y
  · rw [h2]
    exact ⟨fun c h1 h2 => (keep_fy.1 c h1 h2).trans (h3.1 c h1 h2), fun j hj => (keep_fy.2 j hj).trans (h3.2.1 j (by omega))⟩
theorem al_f1 {E d k : Nat} {v : fr_V} (hd : k + d < 2 ^ 30) (h : (f_al E d v k).1 = (-1)) : fz v (f_al E d v k).2 := by
  rcases al_fz d v k with h | ⟨k', w, M, h1, h2, h3⟩
  · exact h
  · rw [h2] at h
    exact absurd h (nI_m1 (by omega))
/-- the lines' words stay words -/
def gLn (ac : Nat) (y : fr_V) : Prop := ∀ i, i < 24 → y (lnB ac + i) 0 < 2000 ∨ 3000 ≤ y (lnB ac + i) 0
section GLN
variable {ac : Nat} {y : fr_V}
theorem gLn.u (hac : ac = 10 ∨ ac = 20) {k j : Nat} {x : Int32} (h : gLn ac y) (hk : j ≠ 0 ∨ k = 600 ∨ k = ac ∨ k = ac + 3) : gLn ac (up2 y k j x) := fun i hi => by
  have hl := ln_far hac
  by_cases e : lnB ac + i = k
  · rw [← e, up2_self, pk_un (show 0 ≠ j by omega)]; exact h i hi
  · rw [up2_ne e]; exact h i hi
theorem gLn.w {k w : Nat} (hw : w < 15) (h : gLn ac y) : gLn ac (up2 y k 0 (nI (3000 + w))) := fun i hi => by
  by_cases e : lnB ac + i = k
  · rw [← e, up2_self, pk_us]; exact Or.inr (nI_le (a := 3000) (by omega) (by omega))
  · rw [up2_ne e]; exact h i hi
theorem ple_g (hac : ac = 10 ∨ ac = 20) (h : gLn ac y) : gLn ac (f_ple y).2 := by
  unfold f_ple
  split
  · exact gLn.u hac (gLn.u hac h (by omega)) (by omega)
  · exact h
theorem pam_g (hac : ac = 10 ∨ ac = 20) (h : gLn ac y) {rl ow : Nat} : gLn ac (f_pam y ac rl ow).2 := by
  unfold f_pam
  split
  · split
    · exact gLn.u hac (gLn.u hac h (by omega)) (by omega)
    · exact gLn.u hac (gLn.u hac h (by omega)) (by omega)
  · exact h
theorem gL1 (hac : ac = 10 ∨ ac = 20) (h : gLn ac y) {j : Nat} {x : Int32} : gLn ac (up2 y 600 j x) := gLn.u hac h (Or.inr (Or.inl rfl))
theorem gL2 (hac : ac = 10 ∨ ac = 20) (h : gLn ac y) {j j2 : Nat} {x x2 : Int32} : gLn ac (up2 (up2 y 600 j x) 600 j2 x2) := gL1 hac (gL1 hac h)
theorem gL3 (hac : ac = 10 ∨ ac = 20) (h : gLn ac y) {j j2 k k2 : Nat} {x x2 x3 : Int32} (hj : j ≠ 0) (hj2 : j2 ≠ 0) : gLn ac (up2 (up2 (up2 y k j x) k2 j2 x2) 600 5 x3) := gL1 hac (gLn.u hac (gLn.u hac h (Or.inl hj)) (Or.inl hj2))
theorem pup_g (hac : ac = 10 ∨ ac = 20) (h : gLn ac y) {rl ow : Nat} : gLn ac (f_pup y ac rl ow).2 := by
  unfold f_pup
  split
  · split
    · split
      · exact gL3 hac h (by decide) (by decide)
      · exact gL3 hac h (by decide) (by decide)
    · exact h
  · exact h
theorem pcl_g (hac : ac = 10 ∨ ac = 20) (h : gLn ac y) {rl ow : Nat} : gLn ac (f_pcl y ac rl ow).2 := by
  unfold f_pcl
  split
  · split
    · exact gL1 hac (gLn.u hac h (Or.inl (by decide)))
    · exact h
  · exact h
theorem pwhN_g (hac : ac = 10 ∨ ac = 20) (h : gLn ac y) : gLn ac (f_pwhN y).2 := by
  unfold f_pwhN
  split
  · exact ple_g hac h
  · exact h
theorem pwh_g (hac : ac = 10 ∨ ac = 20) (h : gLn ac y) {rl w : Nat} : gLn ac (f_pwh y ac rl w).2 := by
  unfold f_pwh
  split
  · exact ple_g hac h
  · split
    · split
      · split
        · exact gL2 hac h
        · split
          · exact gL2 hac h
          · split
            · exact gL2 hac h
            · split
              · exact gL1 hac (gLn.u hac (gL1 hac h) (Or.inl (by decide)))
              · exact gL1 hac (gLn.u hac (gL1 hac h) (Or.inl (by decide)))
      · exact h
    · exact h
theorem plw_g (hac : ac = 10 ∨ ac = 20) (h : gLn ac y) {m w : Nat} (hw : w < 15) : gLn ac (f_plw y ac m w).2 := by
  have g : ∀ x : Int32, gLn ac (up2 (up2 (up2 (up2 (up2 (up2 (up2 (up2 (up2 (up2 (up2 (up2 y 600 6 (nI (3000 + w))) 600 7 (nI (lnB ac + m))) (lnB ac + m) 0 (nI (3000 + w))) (lnB ac + m) 1 0) (lnB ac + m) 2 (-1)) (lnB ac + m) 3 (-1)) (lnB ac + m) 4 0) (lnB ac + m) 5 (-1)) (lnB ac + m) 6 (-1)) (lnB ac + m) 7 0) ac 1 (nI m + 1)) 600 5 x) := fun x =>
    gL1 hac (gLn.u hac (gLn.u hac (gLn.u hac (gLn.u hac (gLn.u hac (gLn.u hac (gLn.u hac (gLn.u hac (gLn.w hw (gL2 hac h)) (Or.inl (by decide))) (Or.inl (by decide))) (Or.inl (by decide))) (Or.inl (by decide))) (Or.inl (by decide))) (Or.inl (by decide))) (Or.inl (by decide))) (Or.inl (by decide)))
  unfold f_plw
  split
  · split
    · exact gL2 hac h
    · exact gL2 hac h
  · split
    · split
      · split
        · exact g 2
        · exact g 1
      · exact gL1 hac h
    · exact gL1 hac h
theorem put6_g (hac : ac = 10 ∨ ac = 20) (h : gLn ac y) (hwo : ∀ w, woOf y = some w → w < 15) : gLn ac (f_put6 y ac).2 := by
  cases hw : woOf y with
  | none =>
    rw [put_none hw]
    unfold f_putN
    split
    · exact h
    · split
      · exact pam_g hac h
      · split
        · exact pwhN_g hac h
        · split
          · exact gL2 hac h
          · split
            · exact gL1 hac h
            · split
              · exact pup_g hac h
              · split
                · exact pcl_g hac h
                · split
                  · exact pwhN_g hac h
                  · exact ple_g hac h
  | some w =>
    rw [put_some hw]
    unfold f_putW
    split
    · exact plw_g hac h (hwo w hw)
    · split
      · exact pam_g hac h
      · split
        · exact pwh_g hac h
        · split
          · exact gL2 hac h
          · split
            · split
              · exact gL1 hac h
              · exact gL1 hac h
            · split
              · exact pup_g hac h
              · split
                · exact pcl_g hac h
                · split
                  · split
                    · exact gL1 hac h
                    · exact pwh_g hac h
                  · exact ple_g hac h
end GLN
/-- what the class's reader leaves as it was -/
def gI (ac E : Nat) (z0 z : fr_V) : Prop := (∃ q, q ≤ E ∧ z 600 9 = nI q) ∧ rd6 ac E z ∧ (∀ c, c ≠ 600 → c ≠ ac → c ≠ ac + 3 → (∀ i, i < 24 → c ≠ lnB ac + i) → z c = z0 c) ∧ z 600 1 = z0 600 1 ∧ (z 600 13 < 2000 ∨ 3000 ≤ z 600 13) ∧ gLn ac z
theorem gI.t {ac E q : Nat} {z0 z : fr_V} (hac : ac = 10 ∨ ac = 20) (hE : E ≤ 500) (h : gI ac E z0 z) (h9 : z 600 9 = nI q) (hq : q < E) : gI ac E z0 (rd_t ac E z) := by
  obtain ⟨-, h6, hc, h1, h13, hl⟩ := h
  have hy := tt_ok hac h6 h9 hq
  have hw9 : ∀ w, woOf (f_tt z E q) = some w → w < 15 := fun w hw => (hy.2.1.2 w hw).1
  have hp := put6_pp hy.1 hac hw9
  have hL := ln_far hac
  have hg : gLn ac (f_put6 (f_tt z E q) ac).2 := put6_g hac (fun i hi => by rw [hy.2.2.2.2.1 _ (by omega)]; exact hl i hi) hw9
  have w13 : (f_put6 (f_tt z E q) ac).2 600 13 < 2000 ∨ 3000 ≤ (f_put6 (f_tt z E q) ac).2 600 13 := by
    rw [hp.2.2 13 (by omega)]
    cases hw : woOf (f_tt z E q) with
    | none => rw [hy.2.1.1 hw]; exact Or.inl (by decide)
    | some w =>
      have q9 := hy.2.1.2 w hw
      rw [q9.2]; exact Or.inr (nI_le (a := 3000) (by omega) (by omega))
  have cc : ∀ c, c ≠ 600 → c ≠ ac → c ≠ ac + 3 → (∀ i, i < 24 → c ≠ lnB ac + i) → (f_put6 (f_tt z E q) ac).2 c = z0 c := fun c a1 a2 a3 a4 => by
    rw [hp.2.1 c a1 a2 a3 a4, hy.2.2.2.2.1 c a1]; exact hc c a1 a2 a3 a4
  have e1 : (f_put6 (f_tt z E q) ac).2 600 1 = z0 600 1 := by rw [hp.2.2 1 (by omega), hy.2.2.2.2.2 1 (by omega)]; exact h1
  have ht := rdt_is hac hE h6 h9 hq
  by_cases p : (f_put6 (f_tt z E q) ac).1 = 0
  · obtain ⟨b, q', g1, g2, g3, -, -, g6, g7⟩ := ht.2 p
    refine ⟨⟨q', g3, by rw [g6, u6s]⟩, g7, fun c a1 a2 a3 a4 => ?_, ?_, ?_, fun i hi => ?_⟩
    · rw [g6, up2_ne a1, up2_ne a1]; exact cc c a1 a2 a3 a4
    · rw [g6, u6 (by decide), u6 (by decide)]; exact e1
    · rw [g6, u6 (by decide), u6 (by decide)]; exact w13
    · rw [g6, up2_ne (show lnB ac + i ≠ 600 by omega), up2_ne (show lnB ac + i ≠ 600 by omega)]; exact hg i hi
  · obtain ⟨g1, g2, g3⟩ := ht.1 p
    refine ⟨⟨q, by omega, g2⟩, g3, fun c a1 a2 a3 a4 => ?_, ?_, ?_, fun i hi => ?_⟩
    · rw [g1, up2_ne a1]; exact cc c a1 a2 a3 a4
    · rw [g1, u6 (by decide)]; exact e1
    · rw [g1, u6 (by decide)]; exact w13
    · rw [g1, up2_ne (show lnB ac + i ≠ 600 by omega)]; exact hg i hi
theorem rdF_g {ac E : Nat} {z0 : fr_V} (hac : ac = 10 ∨ ac = 20) (hE : E ≤ 500) : ∀ (d : Nat) (z : fr_V), gI ac E z0 z → gI ac E z0 (rdF ac E d z) := by
  intro d
  induction d with
  | zero => intro z h; exact h
  | succ d ih =>
    intro z h
    rw [rdF_s]
    by_cases c : nI E ≤ z 600 9
    · rw [if_pos c]; exact h
    · rw [if_neg c]
      by_cases c2 : z 600 14 = 0
      · rw [if_pos c2]
        obtain ⟨q, hq, h9⟩ := h.1
        have hq2 : q < E := by
          rcases Nat.lt_or_ge q E with a | a
          · exact a
          · exact absurd (by rw [h9]; exact nI_le a (by omega)) c
        exact ih _ (h.t hac hE h9 hq2)
      · rw [if_neg c2]; exact h
