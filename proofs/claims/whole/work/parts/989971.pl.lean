def e2 (v w : fr_V) : Prop := w 1100 23 = v 1100 23 ∧ w 1100 24 = v 1100 24
theorem e2.rfl {v : fr_V} : e2 v v := ⟨Eq.refl _, Eq.refl _⟩
theorem e2.tr {a b c : fr_V} (h : e2 a b) (k : e2 b c) : e2 a c := ⟨k.1.trans h.1, k.2.trans h.2⟩
theorem e2.up {a b : fr_V} (h : e2 a b) {k j : Nat} {x : Int32} (hk : k ≠ 1100 ∨ (j ≠ 23 ∧ j ≠ 24)) : e2 a (up2 b k j x) := by
  by_cases e : k = 1100
  · subst e
    unfold e2
    rw [u6 (by omega), u6 (by omega)]
    exact h
  · unfold e2
    rw [up2_ne (fun q => e q.symm)]
    exact h
theorem e2_tok (E : Nat) (v : fr_V) : e2 v (f_tok E v) := ⟨tk_f.2 23 (by omega), tk_f.2 24 (by omega)⟩
theorem span_e2 {E : Nat} {v : fr_V} {x1 : Int32} : (f_span E v x1).1 = 0 ∨ e2 v (f_span E v x1).2 := by
    unfold f_span
    by_cases g0 : ((f_X11_isNumber v 0 x1).1) = 0
    · rw [if_pos g0]
      dsimp only
      exact Or.inl rfl
    · rw [if_neg g0]
      by_cases g1 : (f_X11_isWord (f_tok E (up2 v 1100 42 (v 1100 28))) 13) = 0
      · rw [if_pos g1]
        dsimp only
        exact Or.inl rfl
      · rw [if_neg g1]
        by_cases g2 : ((f_X11_isNumber (f_tok E (f_tok E (up2 v 1100 42 (v 1100 28)))) ((f_tok E (f_tok E (up2 v 1100 42 (v 1100 28)))) 1100 42) x1).1) = 0
        · rw [if_pos g2]
          dsimp only
          exact Or.inl rfl
        · rw [if_neg g2]
          dsimp only
          first | exact Or.inl rfl | exact Or.inr ((((((e2.rfl).up (k := 1100) (j := 42) (x := v 1100 28) (by omega)).tr (e2_tok _ _)).tr (e2_tok _ _)).up (k := 1100) (j := 43) (x := (f_tok E (f_tok E (up2 v 1100 42 (v 1100 28)))) 1100 28) (by omega)).tr (e2_tok _ _))
theorem cr_e2 {E q : Nat} : ∀ (d : Nat) {v : fr_V}, (f_cr E q d v).1 = 0 ∨ e2 v (f_cr E q d v).2 := by
  intro d
  induction d with
  | zero => intro v; exact Or.inr e2.rfl
  | succ d ih =>
    intro v
    rw [f_cr_s]
    by_cases g0 : ((f_X11_isNumber v 0 3).1) = 0
    · rw [if_pos g0]
      dsimp only
      exact Or.inl rfl
    · rw [if_neg g0]
      by_cases g1 : (((v 1135 q) >>> ((v 1100 28) &&& 31)) &&& 1) = 1
      · rw [if_pos g1]
        dsimp only
        exact Or.inl rfl
      · rw [if_neg g1]
        by_cases g2 : (f_X11_isWord (f_tok E (up2 v 1135 q ((v 1135 q) ||| (1 <<< ((v 1100 28) &&& 31))))) 14) = 0
        · rw [if_pos g2]
          dsimp only
          first | exact Or.inl rfl | exact Or.inr (((e2.rfl).up (k := 1135) (j := q) (x := (v 1135 q) ||| (1 <<< ((v 1100 28) &&& 31))) (by omega)).tr (e2_tok _ _))
        · rw [if_neg g2]
          exact ih.imp_right (fun k9 => ((((e2.rfl).up (k := 1135) (j := q) (x := (v 1135 q) ||| (1 <<< ((v 1100 28) &&& 31))) (by omega)).tr (e2_tok _ _)).tr (e2_tok _ _)).tr k9)
theorem wh_e2 {E q : Nat} : ∀ (d : Nat) {v : fr_V} {ha hb : Int32}, (f_wh E q d v ha hb).1 = 0 ∨ e2 v (f_wh E q d v ha hb).2 := by
  intro d
  induction d with
  | zero => intro v ha hb; exact Or.inr e2.rfl
  | succ d ih =>
    intro v ha hb
    rw [f_wh_s]
    by_cases g0 : (v 1100 27) = 1
    · rw [if_pos g0]
      by_cases g1 : (v 1100 28) < 8
      · rw [if_pos g1]
        by_cases g2 : (v 1135 q) = 0
        · rw [if_pos g2]
          dsimp only
          first | exact Or.inl rfl | exact Or.inr ((e2.rfl).up (k := 1135) (j := q) (x := 15) (by omega))
        · rw [if_neg g2]
          dsimp only
          first | exact Or.inl rfl | exact Or.inr (e2.rfl)
      · rw [if_neg g1]
        by_cases g2 : 12 < (v 1100 28)
        · rw [if_pos g2]
          by_cases g3 : (v 1135 q) = 0
          · rw [if_pos g3]
            dsimp only
            first | exact Or.inl rfl | exact Or.inr ((e2.rfl).up (k := 1135) (j := q) (x := 15) (by omega))
          · rw [if_neg g3]
            dsimp only
            first | exact Or.inl rfl | exact Or.inr (e2.rfl)
        · rw [if_neg g2]
          by_cases g3 : (v 1100 28) = 8
          · rw [if_pos g3]
            by_cases g4 : ha = 0
            · rw [if_pos g4]
              by_cases g5 : ((f_span E (f_tok E v) 130).1) = 0
              · rw [if_pos g5]
                dsimp only
                first | exact Or.inl rfl | exact Or.inr (((e2.rfl).tr (e2_tok _ _)).tr (span_e2.resolve_left (by assumption)))
              · rw [if_neg g5]
                by_cases g6 : hb = 0
                · rw [if_pos g6]
                  by_cases g7 : (v 1100 28) = 10
                  · rw [if_pos g7]
                    exact ih.imp_right (fun k9 => (((((e2.rfl).tr (e2_tok _ _)).tr (span_e2.resolve_left (by assumption))).up (k := 1133) (j := q) (x := ((f_span E (f_tok E v) 130).2) 1100 42) (by omega)).up (k := 1134) (j := q) (x := ((f_span E (f_tok E v) 130).2) 1100 43) (by omega)).tr k9)
                  · rw [if_neg g7]
                    exact ih.imp_right (fun k9 => (((((e2.rfl).tr (e2_tok _ _)).tr (span_e2.resolve_left (by assumption))).up (k := 1133) (j := q) (x := ((f_span E (f_tok E v) 130).2) 1100 42) (by omega)).up (k := 1134) (j := q) (x := ((f_span E (f_tok E v) 130).2) 1100 43) (by omega)).tr k9)
                · rw [if_neg g6]
                  exact ih.imp_right (fun k9 => (((((e2.rfl).tr (e2_tok _ _)).tr (span_e2.resolve_left (by assumption))).up (k := 1133) (j := q) (x := ((f_span E (f_tok E v) 130).2) 1100 42) (by omega)).up (k := 1134) (j := q) (x := ((f_span E (f_tok E v) 130).2) 1100 43) (by omega)).tr k9)
            · rw [if_neg g4]
              dsimp only
              exact Or.inl rfl
          · rw [if_neg g3]
            by_cases g4 : (v 1100 28) = 9
            · rw [if_pos g4]
              by_cases g5 : (v 1135 q) ≤ 0
              · rw [if_pos g5]
                by_cases g6 : (v 1100 28) = 10
                · rw [if_pos g6]
                  by_cases g7 : ((f_span E (f_tok E v) 79).1) = 0
                  · rw [if_pos g7]
                    dsimp only
                    first | exact Or.inl rfl | exact Or.inr (((e2.rfl).tr (e2_tok _ _)).tr (span_e2.resolve_left (by assumption)))
                  · rw [if_neg g7]
                    by_cases g8 : ha = 0
                    · rw [if_pos g8]
                      by_cases g9 : hb = 0
                      · rw [if_pos g9]
                        exact ih.imp_right (fun k9 => (((((e2.rfl).tr (e2_tok _ _)).tr (span_e2.resolve_left (by assumption))).up (k := 1136) (j := q) (x := ((f_span E (f_tok E v) 79).2) 1100 42) (by omega)).up (k := 1137) (j := q) (x := ((f_span E (f_tok E v) 79).2) 1100 43) (by omega)).tr k9)
                      · rw [if_neg g9]
                        exact ih.imp_right (fun k9 => (((((e2.rfl).tr (e2_tok _ _)).tr (span_e2.resolve_left (by assumption))).up (k := 1136) (j := q) (x := ((f_span E (f_tok E v) 79).2) 1100 42) (by omega)).up (k := 1137) (j := q) (x := ((f_span E (f_tok E v) 79).2) 1100 43) (by omega)).tr k9)
                    · rw [if_neg g8]
                      by_cases g9 : hb = 0
                      · rw [if_pos g9]
                        exact ih.imp_right (fun k9 => (((((e2.rfl).tr (e2_tok _ _)).tr (span_e2.resolve_left (by assumption))).up (k := 1136) (j := q) (x := ((f_span E (f_tok E v) 79).2) 1100 42) (by omega)).up (k := 1137) (j := q) (x := ((f_span E (f_tok E v) 79).2) 1100 43) (by omega)).tr k9)
                      · rw [if_neg g9]
                        exact ih.imp_right (fun k9 => (((((e2.rfl).tr (e2_tok _ _)).tr (span_e2.resolve_left (by assumption))).up (k := 1136) (j := q) (x := ((f_span E (f_tok E v) 79).2) 1100 42) (by omega)).up (k := 1137) (j := q) (x := ((f_span E (f_tok E v) 79).2) 1100 43) (by omega)).tr k9)
                · rw [if_neg g6]
                  by_cases g7 : ((f_cr E q (E + 1) (f_tok E v)).1) = 0
                  · rw [if_pos g7]
                    dsimp only
                    first | exact Or.inl rfl | exact Or.inr (((e2.rfl).tr (e2_tok _ _)).tr ((cr_e2 _).resolve_left (by assumption)))
                  · rw [if_neg g7]
                    exact ih.imp_right (fun k9 => (((e2.rfl).tr (e2_tok _ _)).tr ((cr_e2 _).resolve_left (by assumption))).tr k9)
              · rw [if_neg g5]
                dsimp only
                exact Or.inl rfl
            · rw [if_neg g4]
              by_cases g5 : (v 1100 28) = 10
              · rw [if_pos g5]
                by_cases g6 : hb = 0
                · rw [if_pos g6]
                  by_cases g7 : ((f_span E (f_tok E v) 79).1) = 0
                  · rw [if_pos g7]
                    dsimp only
                    first | exact Or.inl rfl | exact Or.inr (((e2.rfl).tr (e2_tok _ _)).tr (span_e2.resolve_left (by assumption)))
                  · rw [if_neg g7]
                    by_cases g8 : ha = 0
                    · rw [if_pos g8]
                      exact ih.imp_right (fun k9 => (((((e2.rfl).tr (e2_tok _ _)).tr (span_e2.resolve_left (by assumption))).up (k := 1136) (j := q) (x := ((f_span E (f_tok E v) 79).2) 1100 42) (by omega)).up (k := 1137) (j := q) (x := ((f_span E (f_tok E v) 79).2) 1100 43) (by omega)).tr k9)
                    · rw [if_neg g8]
                      exact ih.imp_right (fun k9 => (((((e2.rfl).tr (e2_tok _ _)).tr (span_e2.resolve_left (by assumption))).up (k := 1136) (j := q) (x := ((f_span E (f_tok E v) 79).2) 1100 42) (by omega)).up (k := 1137) (j := q) (x := ((f_span E (f_tok E v) 79).2) 1100 43) (by omega)).tr k9)
                · rw [if_neg g6]
                  dsimp only
                  exact Or.inl rfl
              · rw [if_neg g5]
                by_cases g6 : (v 1138 q) ≤ 0
                · rw [if_pos g6]
                  by_cases g7 : (v 1100 28) = 11
                  · rw [if_pos g7]
                    exact ih.imp_right (fun k9 => (((e2.rfl).tr (e2_tok _ _)).up (k := 1138) (j := q) (x := 1) (by omega)).tr k9)
                  · rw [if_neg g7]
                    exact ih.imp_right (fun k9 => (((e2.rfl).tr (e2_tok _ _)).up (k := 1138) (j := q) (x := 2) (by omega)).tr k9)
                · rw [if_neg g6]
                  dsimp only
                  exact Or.inl rfl
    · rw [if_neg g0]
      by_cases g1 : (v 1135 q) = 0
      · rw [if_pos g1]
        dsimp only
        first | exact Or.inl rfl | exact Or.inr ((e2.rfl).up (k := 1135) (j := q) (x := 15) (by omega))
      · rw [if_neg g1]
        dsimp only
        first | exact Or.inl rfl | exact Or.inr (e2.rfl)
theorem whom_e2 {E q : Nat} {v : fr_V} : (f_whom E v q).1 = 0 ∨ e2 v (f_whom E v q).2 := (wh_e2 _).imp_right (fun k => (((((((e2.rfl).up (k := 1133) (j := q) (x := 0) (by omega)).up (k := 1134) (j := q) (x := 1000) (by omega)).up (k := 1135) (j := q) (x := 0) (by omega)).up (k := 1136) (j := q) (x := 0) (by omega)).up (k := 1137) (j := q) (x := 1000) (by omega)).up (k := 1138) (j := q) (x := 0) (by omega)).tr k)
theorem ofN_e2 {E k : Nat} {v : fr_V} : (f_ofN E v k).1 = 0 ∨ e2 v (f_ofN E v k).2 := by
    unfold f_ofN
    by_cases g0 : (v 1142 k) = 0
    · rw [if_pos g0]
      by_cases g1 : (nI k) = 2
      · rw [if_pos g1]
        by_cases g2 : (nI k) = 0
        · rw [if_pos g2]
          by_cases g3 : ((f_X11_isNumber (f_tok E (up2 v 1142 k 1)) 2 40).1) = 0
          · rw [if_pos g3]
            dsimp only
            exact Or.inl rfl
          · rw [if_neg g3]
            dsimp only
            first | exact Or.inl rfl | exact Or.inr (((((e2.rfl).up (k := 1142) (j := k) (x := 1) (by omega)).tr (e2_tok _ _)).up (k := 1141) (j := 4 + k) (x := (f_tok E (up2 v 1142 k 1)) 1100 28) (by omega)).tr (e2_tok _ _))
        · rw [if_neg g2]
          by_cases g3 : (nI k) = 1
          · rw [if_pos g3]
            by_cases g4 : ((f_X11_isNumber (f_tok E (up2 v 1142 k 1)) 2 9).1) = 0
            · rw [if_pos g4]
              dsimp only
              exact Or.inl rfl
            · rw [if_neg g4]
              dsimp only
              first | exact Or.inl rfl | exact Or.inr (((((e2.rfl).up (k := 1142) (j := k) (x := 1) (by omega)).tr (e2_tok _ _)).up (k := 1141) (j := 4 + k) (x := (f_tok E (up2 v 1142 k 1)) 1100 28) (by omega)).tr (e2_tok _ _))
          · rw [if_neg g3]
            by_cases g4 : (nI k) = 2
            · rw [if_pos g4]
              by_cases g5 : ((f_X11_isNumber (f_tok E (up2 v 1142 k 1)) 2 99).1) = 0
              · rw [if_pos g5]
                dsimp only
                exact Or.inl rfl
              · rw [if_neg g5]
                dsimp only
                first | exact Or.inl rfl | exact Or.inr (((((e2.rfl).up (k := 1142) (j := k) (x := 1) (by omega)).tr (e2_tok _ _)).up (k := 1141) (j := 4 + k) (x := (f_tok E (up2 v 1142 k 1)) 1100 28) (by omega)).tr (e2_tok _ _))
            · rw [if_neg g4]
              by_cases g5 : ((f_X11_isNumber (f_tok E (up2 v 1142 k 1)) 2 3).1) = 0
              · rw [if_pos g5]
                dsimp only
                exact Or.inl rfl
              · rw [if_neg g5]
                dsimp only
                first | exact Or.inl rfl | exact Or.inr (((((e2.rfl).up (k := 1142) (j := k) (x := 1) (by omega)).tr (e2_tok _ _)).up (k := 1141) (j := 4 + k) (x := (f_tok E (up2 v 1142 k 1)) 1100 28) (by omega)).tr (e2_tok _ _))
      · rw [if_neg g1]
        by_cases g2 : (nI k) = 3
        · rw [if_pos g2]
          by_cases g3 : (nI k) = 0
          · rw [if_pos g3]
            by_cases g4 : ((f_X11_isNumber (f_tok E (up2 v 1142 k 1)) 1 40).1) = 0
            · rw [if_pos g4]
              dsimp only
              exact Or.inl rfl
            · rw [if_neg g4]
              dsimp only
              first | exact Or.inl rfl | exact Or.inr (((((e2.rfl).up (k := 1142) (j := k) (x := 1) (by omega)).tr (e2_tok _ _)).up (k := 1141) (j := 4 + k) (x := (f_tok E (up2 v 1142 k 1)) 1100 28) (by omega)).tr (e2_tok _ _))
          · rw [if_neg g3]
            by_cases g4 : (nI k) = 1
            · rw [if_pos g4]
              by_cases g5 : ((f_X11_isNumber (f_tok E (up2 v 1142 k 1)) 1 9).1) = 0
              · rw [if_pos g5]
                dsimp only
                exact Or.inl rfl
              · rw [if_neg g5]
                dsimp only
                first | exact Or.inl rfl | exact Or.inr (((((e2.rfl).up (k := 1142) (j := k) (x := 1) (by omega)).tr (e2_tok _ _)).up (k := 1141) (j := 4 + k) (x := (f_tok E (up2 v 1142 k 1)) 1100 28) (by omega)).tr (e2_tok _ _))
            · rw [if_neg g4]
              by_cases g5 : (nI k) = 2
              · rw [if_pos g5]
                by_cases g6 : ((f_X11_isNumber (f_tok E (up2 v 1142 k 1)) 1 99).1) = 0
                · rw [if_pos g6]
                  dsimp only
                  exact Or.inl rfl
                · rw [if_neg g6]
                  dsimp only
                  first | exact Or.inl rfl | exact Or.inr (((((e2.rfl).up (k := 1142) (j := k) (x := 1) (by omega)).tr (e2_tok _ _)).up (k := 1141) (j := 4 + k) (x := (f_tok E (up2 v 1142 k 1)) 1100 28) (by omega)).tr (e2_tok _ _))
              · rw [if_neg g5]
                by_cases g6 : ((f_X11_isNumber (f_tok E (up2 v 1142 k 1)) 1 3).1) = 0
                · rw [if_pos g6]
                  dsimp only
                  exact Or.inl rfl
                · rw [if_neg g6]
                  dsimp only
                  first | exact Or.inl rfl | exact Or.inr (((((e2.rfl).up (k := 1142) (j := k) (x := 1) (by omega)).tr (e2_tok _ _)).up (k := 1141) (j := 4 + k) (x := (f_tok E (up2 v 1142 k 1)) 1100 28) (by omega)).tr (e2_tok _ _))
        · rw [if_neg g2]
          by_cases g3 : (nI k) = 0
          · rw [if_pos g3]
            by_cases g4 : ((f_X11_isNumber (f_tok E (up2 v 1142 k 1)) 0 40).1) = 0
            · rw [if_pos g4]
              dsimp only
              exact Or.inl rfl
            · rw [if_neg g4]
              dsimp only
              first | exact Or.inl rfl | exact Or.inr (((((e2.rfl).up (k := 1142) (j := k) (x := 1) (by omega)).tr (e2_tok _ _)).up (k := 1141) (j := 4 + k) (x := (f_tok E (up2 v 1142 k 1)) 1100 28) (by omega)).tr (e2_tok _ _))
          · rw [if_neg g3]
            by_cases g4 : (nI k) = 1
            · rw [if_pos g4]
              by_cases g5 : ((f_X11_isNumber (f_tok E (up2 v 1142 k 1)) 0 9).1) = 0
              · rw [if_pos g5]
                dsimp only
                exact Or.inl rfl
              · rw [if_neg g5]
                dsimp only
                first | exact Or.inl rfl | exact Or.inr (((((e2.rfl).up (k := 1142) (j := k) (x := 1) (by omega)).tr (e2_tok _ _)).up (k := 1141) (j := 4 + k) (x := (f_tok E (up2 v 1142 k 1)) 1100 28) (by omega)).tr (e2_tok _ _))
            · rw [if_neg g4]
              by_cases g5 : (nI k) = 2
              · rw [if_pos g5]
                by_cases g6 : ((f_X11_isNumber (f_tok E (up2 v 1142 k 1)) 0 99).1) = 0
                · rw [if_pos g6]
                  dsimp only
                  exact Or.inl rfl
                · rw [if_neg g6]
                  dsimp only
                  first | exact Or.inl rfl | exact Or.inr (((((e2.rfl).up (k := 1142) (j := k) (x := 1) (by omega)).tr (e2_tok _ _)).up (k := 1141) (j := 4 + k) (x := (f_tok E (up2 v 1142 k 1)) 1100 28) (by omega)).tr (e2_tok _ _))
              · rw [if_neg g5]
                by_cases g6 : ((f_X11_isNumber (f_tok E (up2 v 1142 k 1)) 0 3).1) = 0
                · rw [if_pos g6]
                  dsimp only
                  exact Or.inl rfl
                · rw [if_neg g6]
                  dsimp only
                  first | exact Or.inl rfl | exact Or.inr (((((e2.rfl).up (k := 1142) (j := k) (x := 1) (by omega)).tr (e2_tok _ _)).up (k := 1141) (j := 4 + k) (x := (f_tok E (up2 v 1142 k 1)) 1100 28) (by omega)).tr (e2_tok _ _))
    · rw [if_neg g0]
      dsimp only
      exact Or.inl rfl
theorem ofW_e2 {E m w : Nat} {v : fr_V} : (f_ofW E v m w).1 = 0 ∨ e2 v (f_ofW E v m w).2 := by
  have a : e2 v (f_tok E (up2 (up2 v 1131 (24 + m) (nI w)) 1132 (24 + m) 0)) := ((e2.rfl.up (by omega)).up (by omega)).tr (e2_tok _ _)
  have b : ∀ x : Int32, e2 v (f_tok E (up2 (f_tok E (up2 (up2 v 1131 (24 + m) (nI w)) 1132 (24 + m) 0)) 1132 (24 + m) x)) := fun x => (a.up (by omega)).tr (e2_tok _ _)
  have d : ∀ (z : fr_V) (x : Int32), e2 v z → ¬ (f_whom E z (24 + m)).1 = 0 → e2 v (up2 (f_whom E z (24 + m)).2 1100 39 x) := fun z x h g => (h.tr (whom_e2.resolve_left g)).up (by omega)
  unfold f_ofW
  split
  · exact Or.inl rfl
  · split
    · split
      · exact Or.inl rfl
      · exact Or.inr (d _ _ a (by assumption))
    · split
      · split
        · exact Or.inl rfl
        · split
          · exact Or.inl rfl
          · exact Or.inr (d _ _ (b _) (by assumption))
      · split
        · exact Or.inl rfl
        · split
          · exact Or.inl rfl
          · exact Or.inr (d _ _ (b _) (by assumption))
theorem keep_e2 {v : fr_V} {m : Nat} : e2 v (f_keep v m) := by
  unfold f_keep e2
  rw [kpb_o (by omega), u6 (by decide), u6 (by decide), ka_is.1 1100 (by decide)]
  exact ⟨rfl, rfl⟩
theorem al_e2 {E : Nat} : ∀ (d : Nat) (v : fr_V) (k : Nat), (f_al E d v k).1 = (-1) ∨ e2 v (f_al E d v k).2 := by
  intro d
  induction d with
  | zero => intro v k; exact Or.inr e2.rfl
  | succ d ih =>
    intro v k
    rw [f_al_s]
    split
    · exact Or.inr keep_e2
    · split
      · split
        · split
          · split
            · exact Or.inl rfl
            · split
              · exact (ih _ (k + 1)).imp_right (fun g => ((ofN_e2.resolve_left (by assumption)).tr (e2_tok _ _)).tr g)
              · exact Or.inl rfl
          · split
            · exact Or.inl rfl
            · split
              · exact (ih _ (k + 1)).imp_right (fun g => ((ofW_e2.resolve_left (by assumption)).tr (e2_tok _ _)).tr g)
              · exact Or.inl rfl
        · exact Or.inl rfl
      · exact Or.inl rfl
