theorem ofN_le {E k : Nat} {v : fr_V} (h : rdOK E v) (q : ¬ (f_ofN E v k).1 = 0) : nx v ≤ nx (f_ofN E v k).2 := by
    unfold f_ofN at q ⊢
    by_cases g0 : (v 1142 k) = 0
    · rw [if_pos g0] at q ⊢
      by_cases g1 : (nI k) = 2
      · rw [if_pos g1] at q ⊢
        by_cases g2 : (nI k) = 0
        · rw [if_pos g2] at q ⊢
          by_cases g3 : ((f_X11_isNumber (f_tok E (up2 v 1142 k 1)) 2 40).1) = 0
          · rw [if_pos g3] at q ⊢
            exact absurd rfl q
          · rw [if_neg g3] at q ⊢
            dsimp only
            exact (Nat.le_trans (Nat.le_trans (Nat.le_trans (Nat.le_trans (Nat.le_refl _) (Nat.le_of_eq (nx_up (k := 1142) (j := k) (x := 1) (by omega)).symm)) (tok_adv ((h).up (k := 1142) (j := k) (x := 1) (by omega) (by omega))).1) (Nat.le_of_eq (nx_up (k := 1141) (j := 4 + k) (x := (f_tok E (up2 v 1142 k 1)) 1100 28) (by omega)).symm)) (tok_adv ((f_tok_ok ((h).up (k := 1142) (j := k) (x := 1) (by omega) (by omega))).up (k := 1141) (j := 4 + k) (x := (f_tok E (up2 v 1142 k 1)) 1100 28) (by omega) (by omega))).1)
        · rw [if_neg g2] at q ⊢
          by_cases g3 : (nI k) = 1
          · rw [if_pos g3] at q ⊢
            by_cases g4 : ((f_X11_isNumber (f_tok E (up2 v 1142 k 1)) 2 9).1) = 0
            · rw [if_pos g4] at q ⊢
              exact absurd rfl q
            · rw [if_neg g4] at q ⊢
              dsimp only
              exact (Nat.le_trans (Nat.le_trans (Nat.le_trans (Nat.le_trans (Nat.le_refl _) (Nat.le_of_eq (nx_up (k := 1142) (j := k) (x := 1) (by omega)).symm)) (tok_adv ((h).up (k := 1142) (j := k) (x := 1) (by omega) (by omega))).1) (Nat.le_of_eq (nx_up (k := 1141) (j := 4 + k) (x := (f_tok E (up2 v 1142 k 1)) 1100 28) (by omega)).symm)) (tok_adv ((f_tok_ok ((h).up (k := 1142) (j := k) (x := 1) (by omega) (by omega))).up (k := 1141) (j := 4 + k) (x := (f_tok E (up2 v 1142 k 1)) 1100 28) (by omega) (by omega))).1)
          · rw [if_neg g3] at q ⊢
            by_cases g4 : (nI k) = 2
            · rw [if_pos g4] at q ⊢
              by_cases g5 : ((f_X11_isNumber (f_tok E (up2 v 1142 k 1)) 2 99).1) = 0
              · rw [if_pos g5] at q ⊢
                exact absurd rfl q
              · rw [if_neg g5] at q ⊢
                dsimp only
                exact (Nat.le_trans (Nat.le_trans (Nat.le_trans (Nat.le_trans (Nat.le_refl _) (Nat.le_of_eq (nx_up (k := 1142) (j := k) (x := 1) (by omega)).symm)) (tok_adv ((h).up (k := 1142) (j := k) (x := 1) (by omega) (by omega))).1) (Nat.le_of_eq (nx_up (k := 1141) (j := 4 + k) (x := (f_tok E (up2 v 1142 k 1)) 1100 28) (by omega)).symm)) (tok_adv ((f_tok_ok ((h).up (k := 1142) (j := k) (x := 1) (by omega) (by omega))).up (k := 1141) (j := 4 + k) (x := (f_tok E (up2 v 1142 k 1)) 1100 28) (by omega) (by omega))).1)
            · rw [if_neg g4] at q ⊢
              by_cases g5 : ((f_X11_isNumber (f_tok E (up2 v 1142 k 1)) 2 3).1) = 0
              · rw [if_pos g5] at q ⊢
                exact absurd rfl q
              · rw [if_neg g5] at q ⊢
                dsimp only
                exact (Nat.le_trans (Nat.le_trans (Nat.le_trans (Nat.le_trans (Nat.le_refl _) (Nat.le_of_eq (nx_up (k := 1142) (j := k) (x := 1) (by omega)).symm)) (tok_adv ((h).up (k := 1142) (j := k) (x := 1) (by omega) (by omega))).1) (Nat.le_of_eq (nx_up (k := 1141) (j := 4 + k) (x := (f_tok E (up2 v 1142 k 1)) 1100 28) (by omega)).symm)) (tok_adv ((f_tok_ok ((h).up (k := 1142) (j := k) (x := 1) (by omega) (by omega))).up (k := 1141) (j := 4 + k) (x := (f_tok E (up2 v 1142 k 1)) 1100 28) (by omega) (by omega))).1)
      · rw [if_neg g1] at q ⊢
        by_cases g2 : (nI k) = 3
        · rw [if_pos g2] at q ⊢
          by_cases g3 : (nI k) = 0
          · rw [if_pos g3] at q ⊢
            by_cases g4 : ((f_X11_isNumber (f_tok E (up2 v 1142 k 1)) 1 40).1) = 0
            · rw [if_pos g4] at q ⊢
              exact absurd rfl q
            · rw [if_neg g4] at q ⊢
              dsimp only
              exact (Nat.le_trans (Nat.le_trans (Nat.le_trans (Nat.le_trans (Nat.le_refl _) (Nat.le_of_eq (nx_up (k := 1142) (j := k) (x := 1) (by omega)).symm)) (tok_adv ((h).up (k := 1142) (j := k) (x := 1) (by omega) (by omega))).1) (Nat.le_of_eq (nx_up (k := 1141) (j := 4 + k) (x := (f_tok E (up2 v 1142 k 1)) 1100 28) (by omega)).symm)) (tok_adv ((f_tok_ok ((h).up (k := 1142) (j := k) (x := 1) (by omega) (by omega))).up (k := 1141) (j := 4 + k) (x := (f_tok E (up2 v 1142 k 1)) 1100 28) (by omega) (by omega))).1)
          · rw [if_neg g3] at q ⊢
            by_cases g4 : (nI k) = 1
            · rw [if_pos g4] at q ⊢
              by_cases g5 : ((f_X11_isNumber (f_tok E (up2 v 1142 k 1)) 1 9).1) = 0
              · rw [if_pos g5] at q ⊢
                exact absurd rfl q
              · rw [if_neg g5] at q ⊢
                dsimp only
                exact (Nat.le_trans (Nat.le_trans (Nat.le_trans (Nat.le_trans (Nat.le_refl _) (Nat.le_of_eq (nx_up (k := 1142) (j := k) (x := 1) (by omega)).symm)) (tok_adv ((h).up (k := 1142) (j := k) (x := 1) (by omega) (by omega))).1) (Nat.le_of_eq (nx_up (k := 1141) (j := 4 + k) (x := (f_tok E (up2 v 1142 k 1)) 1100 28) (by omega)).symm)) (tok_adv ((f_tok_ok ((h).up (k := 1142) (j := k) (x := 1) (by omega) (by omega))).up (k := 1141) (j := 4 + k) (x := (f_tok E (up2 v 1142 k 1)) 1100 28) (by omega) (by omega))).1)
            · rw [if_neg g4] at q ⊢
              by_cases g5 : (nI k) = 2
              · rw [if_pos g5] at q ⊢
                by_cases g6 : ((f_X11_isNumber (f_tok E (up2 v 1142 k 1)) 1 99).1) = 0
                · rw [if_pos g6] at q ⊢
                  exact absurd rfl q
                · rw [if_neg g6] at q ⊢
                  dsimp only
                  exact (Nat.le_trans (Nat.le_trans (Nat.le_trans (Nat.le_trans (Nat.le_refl _) (Nat.le_of_eq (nx_up (k := 1142) (j := k) (x := 1) (by omega)).symm)) (tok_adv ((h).up (k := 1142) (j := k) (x := 1) (by omega) (by omega))).1) (Nat.le_of_eq (nx_up (k := 1141) (j := 4 + k) (x := (f_tok E (up2 v 1142 k 1)) 1100 28) (by omega)).symm)) (tok_adv ((f_tok_ok ((h).up (k := 1142) (j := k) (x := 1) (by omega) (by omega))).up (k := 1141) (j := 4 + k) (x := (f_tok E (up2 v 1142 k 1)) 1100 28) (by omega) (by omega))).1)
              · rw [if_neg g5] at q ⊢
                by_cases g6 : ((f_X11_isNumber (f_tok E (up2 v 1142 k 1)) 1 3).1) = 0
                · rw [if_pos g6] at q ⊢
                  exact absurd rfl q
                · rw [if_neg g6] at q ⊢
                  dsimp only
                  exact (Nat.le_trans (Nat.le_trans (Nat.le_trans (Nat.le_trans (Nat.le_refl _) (Nat.le_of_eq (nx_up (k := 1142) (j := k) (x := 1) (by omega)).symm)) (tok_adv ((h).up (k := 1142) (j := k) (x := 1) (by omega) (by omega))).1) (Nat.le_of_eq (nx_up (k := 1141) (j := 4 + k) (x := (f_tok E (up2 v 1142 k 1)) 1100 28) (by omega)).symm)) (tok_adv ((f_tok_ok ((h).up (k := 1142) (j := k) (x := 1) (by omega) (by omega))).up (k := 1141) (j := 4 + k) (x := (f_tok E (up2 v 1142 k 1)) 1100 28) (by omega) (by omega))).1)
        · rw [if_neg g2] at q ⊢
          by_cases g3 : (nI k) = 0
          · rw [if_pos g3] at q ⊢
            by_cases g4 : ((f_X11_isNumber (f_tok E (up2 v 1142 k 1)) 0 40).1) = 0
            · rw [if_pos g4] at q ⊢
              exact absurd rfl q
            · rw [if_neg g4] at q ⊢
              dsimp only
              exact (Nat.le_trans (Nat.le_trans (Nat.le_trans (Nat.le_trans (Nat.le_refl _) (Nat.le_of_eq (nx_up (k := 1142) (j := k) (x := 1) (by omega)).symm)) (tok_adv ((h).up (k := 1142) (j := k) (x := 1) (by omega) (by omega))).1) (Nat.le_of_eq (nx_up (k := 1141) (j := 4 + k) (x := (f_tok E (up2 v 1142 k 1)) 1100 28) (by omega)).symm)) (tok_adv ((f_tok_ok ((h).up (k := 1142) (j := k) (x := 1) (by omega) (by omega))).up (k := 1141) (j := 4 + k) (x := (f_tok E (up2 v 1142 k 1)) 1100 28) (by omega) (by omega))).1)
          · rw [if_neg g3] at q ⊢
            by_cases g4 : (nI k) = 1
            · rw [if_pos g4] at q ⊢
              by_cases g5 : ((f_X11_isNumber (f_tok E (up2 v 1142 k 1)) 0 9).1) = 0
              · rw [if_pos g5] at q ⊢
                exact absurd rfl q
              · rw [if_neg g5] at q ⊢
                dsimp only
                exact (Nat.le_trans (Nat.le_trans (Nat.le_trans (Nat.le_trans (Nat.le_refl _) (Nat.le_of_eq (nx_up (k := 1142) (j := k) (x := 1) (by omega)).symm)) (tok_adv ((h).up (k := 1142) (j := k) (x := 1) (by omega) (by omega))).1) (Nat.le_of_eq (nx_up (k := 1141) (j := 4 + k) (x := (f_tok E (up2 v 1142 k 1)) 1100 28) (by omega)).symm)) (tok_adv ((f_tok_ok ((h).up (k := 1142) (j := k) (x := 1) (by omega) (by omega))).up (k := 1141) (j := 4 + k) (x := (f_tok E (up2 v 1142 k 1)) 1100 28) (by omega) (by omega))).1)
            · rw [if_neg g4] at q ⊢
              by_cases g5 : (nI k) = 2
              · rw [if_pos g5] at q ⊢
                by_cases g6 : ((f_X11_isNumber (f_tok E (up2 v 1142 k 1)) 0 99).1) = 0
                · rw [if_pos g6] at q ⊢
                  exact absurd rfl q
                · rw [if_neg g6] at q ⊢
                  dsimp only
                  exact (Nat.le_trans (Nat.le_trans (Nat.le_trans (Nat.le_trans (Nat.le_refl _) (Nat.le_of_eq (nx_up (k := 1142) (j := k) (x := 1) (by omega)).symm)) (tok_adv ((h).up (k := 1142) (j := k) (x := 1) (by omega) (by omega))).1) (Nat.le_of_eq (nx_up (k := 1141) (j := 4 + k) (x := (f_tok E (up2 v 1142 k 1)) 1100 28) (by omega)).symm)) (tok_adv ((f_tok_ok ((h).up (k := 1142) (j := k) (x := 1) (by omega) (by omega))).up (k := 1141) (j := 4 + k) (x := (f_tok E (up2 v 1142 k 1)) 1100 28) (by omega) (by omega))).1)
              · rw [if_neg g5] at q ⊢
                by_cases g6 : ((f_X11_isNumber (f_tok E (up2 v 1142 k 1)) 0 3).1) = 0
                · rw [if_pos g6] at q ⊢
                  exact absurd rfl q
                · rw [if_neg g6] at q ⊢
                  dsimp only
                  exact (Nat.le_trans (Nat.le_trans (Nat.le_trans (Nat.le_trans (Nat.le_refl _) (Nat.le_of_eq (nx_up (k := 1142) (j := k) (x := 1) (by omega)).symm)) (tok_adv ((h).up (k := 1142) (j := k) (x := 1) (by omega) (by omega))).1) (Nat.le_of_eq (nx_up (k := 1141) (j := 4 + k) (x := (f_tok E (up2 v 1142 k 1)) 1100 28) (by omega)).symm)) (tok_adv ((f_tok_ok ((h).up (k := 1142) (j := k) (x := 1) (by omega) (by omega))).up (k := 1141) (j := 4 + k) (x := (f_tok E (up2 v 1142 k 1)) 1100 28) (by omega) (by omega))).1)
    · rw [if_neg g0] at q ⊢
      exact absurd rfl q
theorem ofN_fr {E k : Nat} {v : fr_V} : fr11 v (f_ofN E v k).2 := by
    unfold f_ofN
    by_cases g0 : (v 1142 k) = 0
    · rw [if_pos g0]
      by_cases g1 : (nI k) = 2
      · rw [if_pos g1]
        by_cases g2 : (nI k) = 0
        · rw [if_pos g2]
          by_cases g3 : ((f_X11_isNumber (f_tok E (up2 v 1142 k 1)) 2 40).1) = 0
          · rw [if_pos g3]
            dsimp only
            exact (((fr11.rfl).up (k := 1142) (j := k) (x := 1) (by omega)).tr (fr_tok _ _)).tr (fr_num _ _ _)
          · rw [if_neg g3]
            dsimp only
            exact ((((fr11.rfl).up (k := 1142) (j := k) (x := 1) (by omega)).tr (fr_tok _ _)).up (k := 1141) (j := 4 + k) (x := (f_tok E (up2 v 1142 k 1)) 1100 28) (by omega)).tr (fr_tok _ _)
        · rw [if_neg g2]
          by_cases g3 : (nI k) = 1
          · rw [if_pos g3]
            by_cases g4 : ((f_X11_isNumber (f_tok E (up2 v 1142 k 1)) 2 9).1) = 0
            · rw [if_pos g4]
              dsimp only
              exact (((fr11.rfl).up (k := 1142) (j := k) (x := 1) (by omega)).tr (fr_tok _ _)).tr (fr_num _ _ _)
            · rw [if_neg g4]
              dsimp only
              exact ((((fr11.rfl).up (k := 1142) (j := k) (x := 1) (by omega)).tr (fr_tok _ _)).up (k := 1141) (j := 4 + k) (x := (f_tok E (up2 v 1142 k 1)) 1100 28) (by omega)).tr (fr_tok _ _)
          · rw [if_neg g3]
            by_cases g4 : (nI k) = 2
            · rw [if_pos g4]
              by_cases g5 : ((f_X11_isNumber (f_tok E (up2 v 1142 k 1)) 2 99).1) = 0
              · rw [if_pos g5]
                dsimp only
                exact (((fr11.rfl).up (k := 1142) (j := k) (x := 1) (by omega)).tr (fr_tok _ _)).tr (fr_num _ _ _)
              · rw [if_neg g5]
                dsimp only
                exact ((((fr11.rfl).up (k := 1142) (j := k) (x := 1) (by omega)).tr (fr_tok _ _)).up (k := 1141) (j := 4 + k) (x := (f_tok E (up2 v 1142 k 1)) 1100 28) (by omega)).tr (fr_tok _ _)
            · rw [if_neg g4]
              by_cases g5 : ((f_X11_isNumber (f_tok E (up2 v 1142 k 1)) 2 3).1) = 0
              · rw [if_pos g5]
                dsimp only
                exact (((fr11.rfl).up (k := 1142) (j := k) (x := 1) (by omega)).tr (fr_tok _ _)).tr (fr_num _ _ _)
              · rw [if_neg g5]
                dsimp only
                exact ((((fr11.rfl).up (k := 1142) (j := k) (x := 1) (by omega)).tr (fr_tok _ _)).up (k := 1141) (j := 4 + k) (x := (f_tok E (up2 v 1142 k 1)) 1100 28) (by omega)).tr (fr_tok _ _)
      · rw [if_neg g1]
        by_cases g2 : (nI k) = 3
        · rw [if_pos g2]
          by_cases g3 : (nI k) = 0
          · rw [if_pos g3]
            by_cases g4 : ((f_X11_isNumber (f_tok E (up2 v 1142 k 1)) 1 40).1) = 0
            · rw [if_pos g4]
              dsimp only
              exact (((fr11.rfl).up (k := 1142) (j := k) (x := 1) (by omega)).tr (fr_tok _ _)).tr (fr_num _ _ _)
            · rw [if_neg g4]
              dsimp only
              exact ((((fr11.rfl).up (k := 1142) (j := k) (x := 1) (by omega)).tr (fr_tok _ _)).up (k := 1141) (j := 4 + k) (x := (f_tok E (up2 v 1142 k 1)) 1100 28) (by omega)).tr (fr_tok _ _)
          · rw [if_neg g3]
            by_cases g4 : (nI k) = 1
            · rw [if_pos g4]
              by_cases g5 : ((f_X11_isNumber (f_tok E (up2 v 1142 k 1)) 1 9).1) = 0
              · rw [if_pos g5]
                dsimp only
                exact (((fr11.rfl).up (k := 1142) (j := k) (x := 1) (by omega)).tr (fr_tok _ _)).tr (fr_num _ _ _)
              · rw [if_neg g5]
                dsimp only
                exact ((((fr11.rfl).up (k := 1142) (j := k) (x := 1) (by omega)).tr (fr_tok _ _)).up (k := 1141) (j := 4 + k) (x := (f_tok E (up2 v 1142 k 1)) 1100 28) (by omega)).tr (fr_tok _ _)
            · rw [if_neg g4]
              by_cases g5 : (nI k) = 2
              · rw [if_pos g5]
                by_cases g6 : ((f_X11_isNumber (f_tok E (up2 v 1142 k 1)) 1 99).1) = 0
                · rw [if_pos g6]
                  dsimp only
                  exact (((fr11.rfl).up (k := 1142) (j := k) (x := 1) (by omega)).tr (fr_tok _ _)).tr (fr_num _ _ _)
                · rw [if_neg g6]
                  dsimp only
                  exact ((((fr11.rfl).up (k := 1142) (j := k) (x := 1) (by omega)).tr (fr_tok _ _)).up (k := 1141) (j := 4 + k) (x := (f_tok E (up2 v 1142 k 1)) 1100 28) (by omega)).tr (fr_tok _ _)
              · rw [if_neg g5]
                by_cases g6 : ((f_X11_isNumber (f_tok E (up2 v 1142 k 1)) 1 3).1) = 0
                · rw [if_pos g6]
                  dsimp only
                  exact (((fr11.rfl).up (k := 1142) (j := k) (x := 1) (by omega)).tr (fr_tok _ _)).tr (fr_num _ _ _)
                · rw [if_neg g6]
                  dsimp only
                  exact ((((fr11.rfl).up (k := 1142) (j := k) (x := 1) (by omega)).tr (fr_tok _ _)).up (k := 1141) (j := 4 + k) (x := (f_tok E (up2 v 1142 k 1)) 1100 28) (by omega)).tr (fr_tok _ _)
        · rw [if_neg g2]
          by_cases g3 : (nI k) = 0
          · rw [if_pos g3]
            by_cases g4 : ((f_X11_isNumber (f_tok E (up2 v 1142 k 1)) 0 40).1) = 0
            · rw [if_pos g4]
              dsimp only
              exact (((fr11.rfl).up (k := 1142) (j := k) (x := 1) (by omega)).tr (fr_tok _ _)).tr (fr_num _ _ _)
            · rw [if_neg g4]
              dsimp only
              exact ((((fr11.rfl).up (k := 1142) (j := k) (x := 1) (by omega)).tr (fr_tok _ _)).up (k := 1141) (j := 4 + k) (x := (f_tok E (up2 v 1142 k 1)) 1100 28) (by omega)).tr (fr_tok _ _)
          · rw [if_neg g3]
            by_cases g4 : (nI k) = 1
            · rw [if_pos g4]
              by_cases g5 : ((f_X11_isNumber (f_tok E (up2 v 1142 k 1)) 0 9).1) = 0
              · rw [if_pos g5]
                dsimp only
                exact (((fr11.rfl).up (k := 1142) (j := k) (x := 1) (by omega)).tr (fr_tok _ _)).tr (fr_num _ _ _)
              · rw [if_neg g5]
                dsimp only
                exact ((((fr11.rfl).up (k := 1142) (j := k) (x := 1) (by omega)).tr (fr_tok _ _)).up (k := 1141) (j := 4 + k) (x := (f_tok E (up2 v 1142 k 1)) 1100 28) (by omega)).tr (fr_tok _ _)
            · rw [if_neg g4]
              by_cases g5 : (nI k) = 2
              · rw [if_pos g5]
                by_cases g6 : ((f_X11_isNumber (f_tok E (up2 v 1142 k 1)) 0 99).1) = 0
                · rw [if_pos g6]
                  dsimp only
                  exact (((fr11.rfl).up (k := 1142) (j := k) (x := 1) (by omega)).tr (fr_tok _ _)).tr (fr_num _ _ _)
                · rw [if_neg g6]
                  dsimp only
                  exact ((((fr11.rfl).up (k := 1142) (j := k) (x := 1) (by omega)).tr (fr_tok _ _)).up (k := 1141) (j := 4 + k) (x := (f_tok E (up2 v 1142 k 1)) 1100 28) (by omega)).tr (fr_tok _ _)
              · rw [if_neg g5]
                by_cases g6 : ((f_X11_isNumber (f_tok E (up2 v 1142 k 1)) 0 3).1) = 0
                · rw [if_pos g6]
                  dsimp only
                  exact (((fr11.rfl).up (k := 1142) (j := k) (x := 1) (by omega)).tr (fr_tok _ _)).tr (fr_num _ _ _)
                · rw [if_neg g6]
                  dsimp only
                  exact ((((fr11.rfl).up (k := 1142) (j := k) (x := 1) (by omega)).tr (fr_tok _ _)).up (k := 1141) (j := 4 + k) (x := (f_tok E (up2 v 1142 k 1)) 1100 28) (by omega)).tr (fr_tok _ _)
    · rw [if_neg g0]
      dsimp only
      exact (fr11.rfl).tr (fr_wrong _ _)
noncomputable def f_ofW (E : Nat) (v : fr_V) (m w : Nat) : Int32 × fr_V := if (nI m) = 24 then (0, (f_X11_wrong v 2).2) else if (nI w) ≤ 1 then (if ((f_whom E (f_tok E (up2 (up2 v 1131 (24 + m) (nI w)) 1132 (24 + m) 0)) (24 + m)).1) = 0 then (0, (f_whom E (f_tok E (up2 (up2 v 1131 (24 + m) (nI w)) 1132 (24 + m) 0)) (24 + m)).2) else (1, up2 ((f_whom E (f_tok E (up2 (up2 v 1131 (24 + m) (nI w)) 1132 (24 + m) 0)) (24 + m)).2) 1100 39 ((nI m) + 1))) else if (nI w) = 2 then (if ((f_X11_isNumber (f_tok E (up2 (up2 v 1131 (24 + m) (nI w)) 1132 (24 + m) 0)) 1 9999).1) = 0 then (0, (f_X11_isNumber (f_tok E (up2 (up2 v 1131 (24 + m) (nI w)) 1132 (24 + m) 0)) 1 9999).2) else if ((f_whom E (f_tok E (up2 (f_tok E (up2 (up2 v 1131 (24 + m) (nI w)) 1132 (24 + m) 0)) 1132 (24 + m) ((f_tok E (up2 (up2 v 1131 (24 + m) (nI w)) 1132 (24 + m) 0)) 1100 28))) (24 + m)).1) = 0 then (0, (f_whom E (f_tok E (up2 (f_tok E (up2 (up2 v 1131 (24 + m) (nI w)) 1132 (24 + m) 0)) 1132 (24 + m) ((f_tok E (up2 (up2 v 1131 (24 + m) (nI w)) 1132 (24 + m) 0)) 1100 28))) (24 + m)).2) else (1, up2 ((f_whom E (f_tok E (up2 (f_tok E (up2 (up2 v 1131 (24 + m) (nI w)) 1132 (24 + m) 0)) 1132 (24 + m) ((f_tok E (up2 (up2 v 1131 (24 + m) (nI w)) 1132 (24 + m) 0)) 1100 28))) (24 + m)).2) 1100 39 ((nI m) + 1))) else if ((f_X11_isNumber (f_tok E (up2 (up2 v 1131 (24 + m) (nI w)) 1132 (24 + m) 0)) 0 200).1) = 0 then (0, (f_X11_isNumber (f_tok E (up2 (up2 v 1131 (24 + m) (nI w)) 1132 (24 + m) 0)) 0 200).2) else if ((f_whom E (f_tok E (up2 (f_tok E (up2 (up2 v 1131 (24 + m) (nI w)) 1132 (24 + m) 0)) 1132 (24 + m) ((f_tok E (up2 (up2 v 1131 (24 + m) (nI w)) 1132 (24 + m) 0)) 1100 28))) (24 + m)).1) = 0 then (0, (f_whom E (f_tok E (up2 (f_tok E (up2 (up2 v 1131 (24 + m) (nI w)) 1132 (24 + m) 0)) 1132 (24 + m) ((f_tok E (up2 (up2 v 1131 (24 + m) (nI w)) 1132 (24 + m) 0)) 1100 28))) (24 + m)).2) else (1, up2 ((f_whom E (f_tok E (up2 (f_tok E (up2 (up2 v 1131 (24 + m) (nI w)) 1132 (24 + m) 0)) 1132 (24 + m) ((f_tok E (up2 (up2 v 1131 (24 + m) (nI w)) 1132 (24 + m) 0)) 1100 28))) (24 + m)).2) 1100 39 ((nI m) + 1))
theorem k_f_ofW {l : Launch} {I : List Nat} (hI : fr_I I) (v : fr_V) (u : fr_U) (E m w : Nat) (hm : v 1100 39 = nI m) (hm2 : m ≤ 24) (hw : w < 4) (h : rdOK E v) : Con l mX11_ofWhom I v u [.ref 1100, .int (nI w)] (QX u (fun a b => a = (f_ofW E v m w).1 ∧ b = (f_ofW E v m w).2)) := by
  refine Con.of (by decide) (Nat.le_of_ble_eq_true rfl) ?_
  show J l mX11_ofWhom I v u 0 [(0, .ref 1100), (1, .int (nI w))] [] _
  refine J_aload_n dX11_ofWhom_0 rfl 0 rfl ?_
  refine J_gete (ci := 11) (j := 39) (x := nI m) dX11_ofWhom_1 fl_X11_167 (i1100 hI) rfl rfl hm ?_
  refine J_bipush (x := 24) dX11_ofWhom_4 (by decide) ?_
  refine J_icmp_ne (tgt := 15) dX11_ofWhom_6 (by decide) (fun c1 => ?_) (fun c1 => ?_)
  · have hm9 : ¬ m = 24 := fun e => c1 (by rw [e]; rfl)
    have hm24 : m < 24 := by omega
    refine J_bipush (x := 24) dX11_ofWhom_15 (by decide) ?_
    refine J_aload_n dX11_ofWhom_17 rfl 0 rfl ?_
    refine J_gete (ci := 11) (j := 39) (x := nI m) dX11_ofWhom_18 fl_X11_167 (i1100 hI) rfl rfl hm ?_
    refine J_iadd dX11_ofWhom_21 ?_
    refine J_istore_n (lv' := [(2, .int (24 + (nI m))), (0, .ref 1100), (1, .int (nI w))]) dX11_ofWhom_22 rfl (by decide) rfl ?_
    refine J_aload_n dX11_ofWhom_23 rfl 1 rfl ?_
    refine J_getr (ci := 11) (j := 30) (t := 1131) dX11_ofWhom_24 fl_X11_62 (i1100 hI) rfl rfl rfl ?_
    refine J_iload_n dX11_ofWhom_27 rfl 0 rfl ?_
    refine J_iload_n dX11_ofWhom_28 rfl 2 rfl ?_
    refine J_iase (j := 24 + m) dX11_ofWhom_29 (i1131 hI) rfl (ix_in (j := 24 + m) (by show (nI 24) + (nI m) = _; simp only [nI_add, pk_mul]) (by omega) (by omega)) (ix_cl (j := 24 + m) (by show (nI 24) + (nI m) = _; simp only [nI_add, pk_mul]) (by omega)) ?_
    refine J_aload_n dX11_ofWhom_30 rfl 1 rfl ?_
    refine J_getr (ci := 11) (j := 31) (t := 1132) dX11_ofWhom_31 fl_X11_65 (i1100 hI) rfl rfl rfl ?_
    refine J_iload_n dX11_ofWhom_34 rfl 0 rfl ?_
    refine J_iconst (x := 0) dX11_ofWhom_35 (by decide) ?_
    refine J_iase (j := 24 + m) dX11_ofWhom_36 (i1132 hI) rfl (ix_in (j := 24 + m) (by show (nI 24) + (nI m) = _; simp only [nI_add, pk_mul]) (by omega) (by omega)) (ix_cl (j := 24 + m) (by show (nI 24) + (nI m) = _; simp only [nI_add, pk_mul]) (by omega)) ?_
    refine J_aload_n dX11_ofWhom_37 rfl 1 rfl ?_
    refine J_eVN (z := mX11_take) (As := []) (rest := []) (ci := 11) (w := (f_tok E (up2 (up2 v 1131 (24 + m) (nI w)) 1132 (24 + m) 0))) dX11_ofWhom_38 ml_X11_180 ok_X11_take iv_X11_take (by decide) (i1100 hI) rfl rfl rfl rfl (Nat.le_of_ble_eq_true rfl) (k2_take hI (up2 (up2 v 1131 (24 + m) (nI w)) 1132 (24 + m) 0) u E (((h).up (k := 1131) (j := 24 + m) (x := nI w) (by omega) (by omega)).up (k := 1132) (j := 24 + m) (x := 0) (by omega) (by omega))) ?_
    refine J_iload_n dX11_ofWhom_41 rfl 2 rfl ?_
    refine J_iconst (x := 1) dX11_ofWhom_42 (by decide) ?_
    refine J_icmp_le (tgt := 93) dX11_ofWhom_43 (by decide) (fun c2 => ?_) (fun c2 => ?_)
    · refine J_aload_n dX11_ofWhom_93 rfl 1 rfl ?_
      refine J_iload_n dX11_ofWhom_94 rfl 0 rfl ?_
      refine J_eVX (z := mX11_whom) (As := [.int (24 + (nI m))]) (rest := []) (ci := 11) (x := (f_whom E (f_tok E (up2 (up2 v 1131 (24 + m) (nI w)) 1132 (24 + m) 0)) (24 + m)).1) (w := (f_whom E (f_tok E (up2 (up2 v 1131 (24 + m) (nI w)) 1132 (24 + m) 0)) (24 + m)).2) dX11_ofWhom_95 ml_X11_195 ok_X11_whom iv_X11_whom (by decide) (i1100 hI) rfl rfl rfl rfl (Nat.le_of_ble_eq_true rfl) ((show Con l mX11_whom I (f_tok E (up2 (up2 v 1131 (24 + m) (nI w)) 1132 (24 + m) 0)) u [.ref 1100, .int (24 + nI m)] _ from (show (24 : Int32) + nI m = nI (24 + m) from nI_add 24 m) ▸ k_f_whom hI (f_tok E (up2 (up2 v 1131 (24 + m) (nI w)) 1132 (24 + m) 0)) u E (24 + m) (by omega) (f_tok_ok (((h).up (k := 1131) (j := 24 + m) (x := nI w) (by omega) (by omega)).up (k := 1132) (j := 24 + m) (x := 0) (by omega) (by omega))))) ?_
      refine J_if_ne (tgt := 103) dX11_ofWhom_98 (by decide) (fun c3 => ?_) (fun c3 => ?_)
      · refine J_aload_n dX11_ofWhom_103 rfl 1 rfl ?_
        refine J_dup dX11_ofWhom_104 rfl ?_
        refine J_gete (ci := 11) (j := 39) (x := nI m) dX11_ofWhom_105 fl_X11_167 (i1100 hI) rfl rfl (((((((fr11.rfl).up (k := 1131) (j := 24 + m) (x := nI w) (by omega)).up (k := 1132) (j := 24 + m) (x := 0) (by omega)).tr (fr_tok _ _)).tr (whom_fr)).2 39 (by omega)).trans hm) ?_
        refine J_iconst (x := 1) dX11_ofWhom_108 (by decide) ?_
        refine J_iadd dX11_ofWhom_109 ?_
        refine J_puti (ci := 11) (j := 39) dX11_ofWhom_110 fl_X11_167 (i1100 hI) rfl rfl (fun q h => by cases h; rfl) rfl ?_
        refine J_iconst (x := 1) dX11_ofWhom_113 (by decide) ?_
        exact J_zret dX11_ofWhom_114 rfl (by decide) ⟨_, rfl, rfl, by unfold f_ofW; rw [if_neg c1, if_pos c2, if_neg c3], by unfold f_ofW; rw [if_neg c1, if_pos c2, if_neg c3]⟩
      · refine J_iconst (x := 0) dX11_ofWhom_101 (by decide) ?_
        exact J_zret dX11_ofWhom_102 rfl (by decide) ⟨_, rfl, rfl, by unfold f_ofW; rw [if_neg c1, if_pos c2, if_pos c3], by unfold f_ofW; rw [if_neg c1, if_pos c2, if_pos c3]⟩
    · refine J_aload_n dX11_ofWhom_46 rfl 1 rfl ?_
      refine J_iload_n dX11_ofWhom_47 rfl 2 rfl ?_
      refine J_iconst (x := 2) dX11_ofWhom_48 (by decide) ?_
      refine J_icmp_ne (tgt := 56) dX11_ofWhom_49 (by decide) (fun c4 => ?_) (fun c4 => ?_)
      · refine J_iconst (x := 0) dX11_ofWhom_56 (by decide) ?_
        refine J_iload_n dX11_ofWhom_57 rfl 2 rfl ?_
        refine J_iconst (x := 2) dX11_ofWhom_58 (by decide) ?_
        refine J_icmp_ne (tgt := 68) dX11_ofWhom_59 (by decide) (fun c5 => ?_) (fun c5 => absurd c5 c4)
        refine J_sipush (x := 200) dX11_ofWhom_68 (by decide) ?_
        refine J_eVX (z := mX11_isNumber) (As := [.int 0, .int 200]) (rest := []) (ci := 11) (x := (f_X11_isNumber (f_tok E (up2 (up2 v 1131 (24 + m) (nI w)) 1132 (24 + m) 0)) 0 200).1) (w := (f_X11_isNumber (f_tok E (up2 (up2 v 1131 (24 + m) (nI w)) 1132 (24 + m) 0)) 0 200).2) dX11_ofWhom_71 ml_X11_173 ok_X11_isNumber iv_X11_isNumber (by decide) (i1100 hI) rfl rfl rfl rfl (Nat.le_of_ble_eq_true rfl) (k_X11_isNumber hI (f_tok E (up2 (up2 v 1131 (24 + m) (nI w)) 1132 (24 + m) 0)) u 0 200) ?_
        refine J_if_ne (tgt := 79) dX11_ofWhom_74 (by decide) (fun c6 => ?_) (fun c6 => ?_)
        · refine J_ve (w := (f_tok E (up2 (up2 v 1131 (24 + m) (nI w)) 1132 (24 + m) 0))) (isNum_1 c6).1 ?_
          refine J_aload_n dX11_ofWhom_79 rfl 1 rfl ?_
          refine J_getr (ci := 11) (j := 31) (t := 1132) dX11_ofWhom_80 fl_X11_65 (i1100 hI) rfl rfl rfl ?_
          refine J_iload_n dX11_ofWhom_83 rfl 0 rfl ?_
          refine J_aload_n dX11_ofWhom_84 rfl 1 rfl ?_
          refine J_gete (ci := 11) (j := 28) (x := (f_tok E (up2 (up2 v 1131 (24 + m) (nI w)) 1132 (24 + m) 0)) 1100 28) dX11_ofWhom_85 fl_X11_158 (i1100 hI) rfl rfl rfl ?_
          refine J_iase (j := 24 + m) dX11_ofWhom_88 (i1132 hI) rfl (ix_in (j := 24 + m) (by show (nI 24) + (nI m) = _; simp only [nI_add, pk_mul]) (by omega) (by omega)) (ix_cl (j := 24 + m) (by show (nI 24) + (nI m) = _; simp only [nI_add, pk_mul]) (by omega)) ?_
          refine J_aload_n dX11_ofWhom_89 rfl 1 rfl ?_
          refine J_eVN (z := mX11_take) (As := []) (rest := []) (ci := 11) (w := (f_tok E (up2 (f_tok E (up2 (up2 v 1131 (24 + m) (nI w)) 1132 (24 + m) 0)) 1132 (24 + m) ((f_tok E (up2 (up2 v 1131 (24 + m) (nI w)) 1132 (24 + m) 0)) 1100 28)))) dX11_ofWhom_90 ml_X11_180 ok_X11_take iv_X11_take (by decide) (i1100 hI) rfl rfl rfl rfl (Nat.le_of_ble_eq_true rfl) (k2_take hI (up2 (f_tok E (up2 (up2 v 1131 (24 + m) (nI w)) 1132 (24 + m) 0)) 1132 (24 + m) ((f_tok E (up2 (up2 v 1131 (24 + m) (nI w)) 1132 (24 + m) 0)) 1100 28)) u E ((f_tok_ok (((h).up (k := 1131) (j := 24 + m) (x := nI w) (by omega) (by omega)).up (k := 1132) (j := 24 + m) (x := 0) (by omega) (by omega))).up (k := 1132) (j := 24 + m) (x := (f_tok E (up2 (up2 v 1131 (24 + m) (nI w)) 1132 (24 + m) 0)) 1100 28) (by omega) (by omega))) ?_
          refine J_aload_n dX11_ofWhom_93 rfl 1 rfl ?_
          refine J_iload_n dX11_ofWhom_94 rfl 0 rfl ?_
          refine J_eVX (z := mX11_whom) (As := [.int (24 + (nI m))]) (rest := []) (ci := 11) (x := (f_whom E (f_tok E (up2 (f_tok E (up2 (up2 v 1131 (24 + m) (nI w)) 1132 (24 + m) 0)) 1132 (24 + m) ((f_tok E (up2 (up2 v 1131 (24 + m) (nI w)) 1132 (24 + m) 0)) 1100 28))) (24 + m)).1) (w := (f_whom E (f_tok E (up2 (f_tok E (up2 (up2 v 1131 (24 + m) (nI w)) 1132 (24 + m) 0)) 1132 (24 + m) ((f_tok E (up2 (up2 v 1131 (24 + m) (nI w)) 1132 (24 + m) 0)) 1100 28))) (24 + m)).2) dX11_ofWhom_95 ml_X11_195 ok_X11_whom iv_X11_whom (by decide) (i1100 hI) rfl rfl rfl rfl (Nat.le_of_ble_eq_true rfl) ((show Con l mX11_whom I (f_tok E (up2 (f_tok E (up2 (up2 v 1131 (24 + m) (nI w)) 1132 (24 + m) 0)) 1132 (24 + m) ((f_tok E (up2 (up2 v 1131 (24 + m) (nI w)) 1132 (24 + m) 0)) 1100 28))) u [.ref 1100, .int (24 + nI m)] _ from (show (24 : Int32) + nI m = nI (24 + m) from nI_add 24 m) ▸ k_f_whom hI (f_tok E (up2 (f_tok E (up2 (up2 v 1131 (24 + m) (nI w)) 1132 (24 + m) 0)) 1132 (24 + m) ((f_tok E (up2 (up2 v 1131 (24 + m) (nI w)) 1132 (24 + m) 0)) 1100 28))) u E (24 + m) (by omega) (f_tok_ok ((f_tok_ok (((h).up (k := 1131) (j := 24 + m) (x := nI w) (by omega) (by omega)).up (k := 1132) (j := 24 + m) (x := 0) (by omega) (by omega))).up (k := 1132) (j := 24 + m) (x := (f_tok E (up2 (up2 v 1131 (24 + m) (nI w)) 1132 (24 + m) 0)) 1100 28) (by omega) (by omega))))) ?_
          refine J_if_ne (tgt := 103) dX11_ofWhom_98 (by decide) (fun c7 => ?_) (fun c7 => ?_)
          · refine J_aload_n dX11_ofWhom_103 rfl 1 rfl ?_
            refine J_dup dX11_ofWhom_104 rfl ?_
            refine J_gete (ci := 11) (j := 39) (x := nI m) dX11_ofWhom_105 fl_X11_167 (i1100 hI) rfl rfl (((((((((fr11.rfl).up (k := 1131) (j := 24 + m) (x := nI w) (by omega)).up (k := 1132) (j := 24 + m) (x := 0) (by omega)).tr (fr_tok _ _)).up (k := 1132) (j := 24 + m) (x := (f_tok E (up2 (up2 v 1131 (24 + m) (nI w)) 1132 (24 + m) 0)) 1100 28) (by omega)).tr (fr_tok _ _)).tr (whom_fr)).2 39 (by omega)).trans hm) ?_
            refine J_iconst (x := 1) dX11_ofWhom_108 (by decide) ?_
            refine J_iadd dX11_ofWhom_109 ?_
            refine J_puti (ci := 11) (j := 39) dX11_ofWhom_110 fl_X11_167 (i1100 hI) rfl rfl (fun q h => by cases h; rfl) rfl ?_
            refine J_iconst (x := 1) dX11_ofWhom_113 (by decide) ?_
            exact J_zret dX11_ofWhom_114 rfl (by decide) ⟨_, rfl, rfl, by unfold f_ofW; rw [if_neg c1, if_neg c2, if_neg c4, if_neg c6, if_neg c7], by unfold f_ofW; rw [if_neg c1, if_neg c2, if_neg c4, if_neg c6, if_neg c7]⟩
          · refine J_iconst (x := 0) dX11_ofWhom_101 (by decide) ?_
            exact J_zret dX11_ofWhom_102 rfl (by decide) ⟨_, rfl, rfl, by unfold f_ofW; rw [if_neg c1, if_neg c2, if_neg c4, if_neg c6, if_pos c7], by unfold f_ofW; rw [if_neg c1, if_neg c2, if_neg c4, if_neg c6, if_pos c7]⟩
        · refine J_iconst (x := 0) dX11_ofWhom_77 (by decide) ?_
          exact J_zret dX11_ofWhom_78 rfl (by decide) ⟨_, rfl, rfl, by unfold f_ofW; rw [if_neg c1, if_neg c2, if_neg c4, if_pos c6], by unfold f_ofW; rw [if_neg c1, if_neg c2, if_neg c4, if_pos c6]⟩
      · refine J_iconst (x := 1) dX11_ofWhom_52 (by decide) ?_
        refine J_goto (tgt := 57) dX11_ofWhom_53 (by decide) ?_
        refine J_iload_n dX11_ofWhom_57 rfl 2 rfl ?_
        refine J_iconst (x := 2) dX11_ofWhom_58 (by decide) ?_
        refine J_icmp_ne (tgt := 68) dX11_ofWhom_59 (by decide) (fun c8 => absurd c4 c8) (fun c8 => ?_)
        refine J_sipush (x := 9999) dX11_ofWhom_62 (by decide) ?_
        refine J_goto (tgt := 71) dX11_ofWhom_65 (by decide) ?_
        refine J_eVX (z := mX11_isNumber) (As := [.int 1, .int 9999]) (rest := []) (ci := 11) (x := (f_X11_isNumber (f_tok E (up2 (up2 v 1131 (24 + m) (nI w)) 1132 (24 + m) 0)) 1 9999).1) (w := (f_X11_isNumber (f_tok E (up2 (up2 v 1131 (24 + m) (nI w)) 1132 (24 + m) 0)) 1 9999).2) dX11_ofWhom_71 ml_X11_173 ok_X11_isNumber iv_X11_isNumber (by decide) (i1100 hI) rfl rfl rfl rfl (Nat.le_of_ble_eq_true rfl) (k_X11_isNumber hI (f_tok E (up2 (up2 v 1131 (24 + m) (nI w)) 1132 (24 + m) 0)) u 1 9999) ?_
        refine J_if_ne (tgt := 79) dX11_ofWhom_74 (by decide) (fun c9 => ?_) (fun c9 => ?_)
        · refine J_ve (w := (f_tok E (up2 (up2 v 1131 (24 + m) (nI w)) 1132 (24 + m) 0))) (isNum_1 c9).1 ?_
          refine J_aload_n dX11_ofWhom_79 rfl 1 rfl ?_
          refine J_getr (ci := 11) (j := 31) (t := 1132) dX11_ofWhom_80 fl_X11_65 (i1100 hI) rfl rfl rfl ?_
          refine J_iload_n dX11_ofWhom_83 rfl 0 rfl ?_
          refine J_aload_n dX11_ofWhom_84 rfl 1 rfl ?_
          refine J_gete (ci := 11) (j := 28) (x := (f_tok E (up2 (up2 v 1131 (24 + m) (nI w)) 1132 (24 + m) 0)) 1100 28) dX11_ofWhom_85 fl_X11_158 (i1100 hI) rfl rfl rfl ?_
          refine J_iase (j := 24 + m) dX11_ofWhom_88 (i1132 hI) rfl (ix_in (j := 24 + m) (by show (nI 24) + (nI m) = _; simp only [nI_add, pk_mul]) (by omega) (by omega)) (ix_cl (j := 24 + m) (by show (nI 24) + (nI m) = _; simp only [nI_add, pk_mul]) (by omega)) ?_
          refine J_aload_n dX11_ofWhom_89 rfl 1 rfl ?_
          refine J_eVN (z := mX11_take) (As := []) (rest := []) (ci := 11) (w := (f_tok E (up2 (f_tok E (up2 (up2 v 1131 (24 + m) (nI w)) 1132 (24 + m) 0)) 1132 (24 + m) ((f_tok E (up2 (up2 v 1131 (24 + m) (nI w)) 1132 (24 + m) 0)) 1100 28)))) dX11_ofWhom_90 ml_X11_180 ok_X11_take iv_X11_take (by decide) (i1100 hI) rfl rfl rfl rfl (Nat.le_of_ble_eq_true rfl) (k2_take hI (up2 (f_tok E (up2 (up2 v 1131 (24 + m) (nI w)) 1132 (24 + m) 0)) 1132 (24 + m) ((f_tok E (up2 (up2 v 1131 (24 + m) (nI w)) 1132 (24 + m) 0)) 1100 28)) u E ((f_tok_ok (((h).up (k := 1131) (j := 24 + m) (x := nI w) (by omega) (by omega)).up (k := 1132) (j := 24 + m) (x := 0) (by omega) (by omega))).up (k := 1132) (j := 24 + m) (x := (f_tok E (up2 (up2 v 1131 (24 + m) (nI w)) 1132 (24 + m) 0)) 1100 28) (by omega) (by omega))) ?_
          refine J_aload_n dX11_ofWhom_93 rfl 1 rfl ?_
          refine J_iload_n dX11_ofWhom_94 rfl 0 rfl ?_
          refine J_eVX (z := mX11_whom) (As := [.int (24 + (nI m))]) (rest := []) (ci := 11) (x := (f_whom E (f_tok E (up2 (f_tok E (up2 (up2 v 1131 (24 + m) (nI w)) 1132 (24 + m) 0)) 1132 (24 + m) ((f_tok E (up2 (up2 v 1131 (24 + m) (nI w)) 1132 (24 + m) 0)) 1100 28))) (24 + m)).1) (w := (f_whom E (f_tok E (up2 (f_tok E (up2 (up2 v 1131 (24 + m) (nI w)) 1132 (24 + m) 0)) 1132 (24 + m) ((f_tok E (up2 (up2 v 1131 (24 + m) (nI w)) 1132 (24 + m) 0)) 1100 28))) (24 + m)).2) dX11_ofWhom_95 ml_X11_195 ok_X11_whom iv_X11_whom (by decide) (i1100 hI) rfl rfl rfl rfl (Nat.le_of_ble_eq_true rfl) ((show Con l mX11_whom I (f_tok E (up2 (f_tok E (up2 (up2 v 1131 (24 + m) (nI w)) 1132 (24 + m) 0)) 1132 (24 + m) ((f_tok E (up2 (up2 v 1131 (24 + m) (nI w)) 1132 (24 + m) 0)) 1100 28))) u [.ref 1100, .int (24 + nI m)] _ from (show (24 : Int32) + nI m = nI (24 + m) from nI_add 24 m) ▸ k_f_whom hI (f_tok E (up2 (f_tok E (up2 (up2 v 1131 (24 + m) (nI w)) 1132 (24 + m) 0)) 1132 (24 + m) ((f_tok E (up2 (up2 v 1131 (24 + m) (nI w)) 1132 (24 + m) 0)) 1100 28))) u E (24 + m) (by omega) (f_tok_ok ((f_tok_ok (((h).up (k := 1131) (j := 24 + m) (x := nI w) (by omega) (by omega)).up (k := 1132) (j := 24 + m) (x := 0) (by omega) (by omega))).up (k := 1132) (j := 24 + m) (x := (f_tok E (up2 (up2 v 1131 (24 + m) (nI w)) 1132 (24 + m) 0)) 1100 28) (by omega) (by omega))))) ?_
          refine J_if_ne (tgt := 103) dX11_ofWhom_98 (by decide) (fun c10 => ?_) (fun c10 => ?_)
          · refine J_aload_n dX11_ofWhom_103 rfl 1 rfl ?_
            refine J_dup dX11_ofWhom_104 rfl ?_
            refine J_gete (ci := 11) (j := 39) (x := nI m) dX11_ofWhom_105 fl_X11_167 (i1100 hI) rfl rfl (((((((((fr11.rfl).up (k := 1131) (j := 24 + m) (x := nI w) (by omega)).up (k := 1132) (j := 24 + m) (x := 0) (by omega)).tr (fr_tok _ _)).up (k := 1132) (j := 24 + m) (x := (f_tok E (up2 (up2 v 1131 (24 + m) (nI w)) 1132 (24 + m) 0)) 1100 28) (by omega)).tr (fr_tok _ _)).tr (whom_fr)).2 39 (by omega)).trans hm) ?_
            refine J_iconst (x := 1) dX11_ofWhom_108 (by decide) ?_
            refine J_iadd dX11_ofWhom_109 ?_
            refine J_puti (ci := 11) (j := 39) dX11_ofWhom_110 fl_X11_167 (i1100 hI) rfl rfl (fun q h => by cases h; rfl) rfl ?_
            refine J_iconst (x := 1) dX11_ofWhom_113 (by decide) ?_
            exact J_zret dX11_ofWhom_114 rfl (by decide) ⟨_, rfl, rfl, by unfold f_ofW; rw [if_neg c1, if_neg c2, if_pos c4, if_neg c9, if_neg c10], by unfold f_ofW; rw [if_neg c1, if_neg c2, if_pos c4, if_neg c9, if_neg c10]⟩
          · refine J_iconst (x := 0) dX11_ofWhom_101 (by decide) ?_
            exact J_zret dX11_ofWhom_102 rfl (by decide) ⟨_, rfl, rfl, by unfold f_ofW; rw [if_neg c1, if_neg c2, if_pos c4, if_neg c9, if_pos c10], by unfold f_ofW; rw [if_neg c1, if_neg c2, if_pos c4, if_neg c9, if_pos c10]⟩
        · refine J_iconst (x := 0) dX11_ofWhom_77 (by decide) ?_
          exact J_zret dX11_ofWhom_78 rfl (by decide) ⟨_, rfl, rfl, by unfold f_ofW; rw [if_neg c1, if_neg c2, if_pos c4, if_pos c9], by unfold f_ofW; rw [if_neg c1, if_neg c2, if_pos c4, if_pos c9]⟩
  · refine J_aload_n dX11_ofWhom_9 rfl 0 rfl ?_
    refine J_iconst (x := 2) dX11_ofWhom_10 (by decide) ?_
    refine J_eVX (z := mX11_wrong) (As := [.int 2]) (rest := []) (ci := 11) (x := 0) (w := (f_X11_wrong v 2).2) dX11_ofWhom_11 ml_X11_164 ok_X11_wrong iv_X11_wrong (by decide) (i1100 hI) rfl rfl rfl rfl (Nat.le_of_ble_eq_true rfl) (k_X11_wrong hI v u 2) ?_
    exact J_zret dX11_ofWhom_14 rfl (by decide) ⟨_, rfl, rfl, by unfold f_ofW; rw [if_pos c1], by unfold f_ofW; rw [if_pos c1]⟩
theorem f_ofW_ok {E m w : Nat} {v : fr_V} (h : rdOK E v) : rdOK E (f_ofW E v m w).2 := by
    unfold f_ofW
    by_cases g0 : (nI m) = 24
    · rw [if_pos g0]
      dsimp only
      exact wrong_ok (h)
    · rw [if_neg g0]
      by_cases g1 : (nI w) ≤ 1
      · rw [if_pos g1]
        by_cases g2 : ((f_whom E (f_tok E (up2 (up2 v 1131 (24 + m) (nI w)) 1132 (24 + m) 0)) (24 + m)).1) = 0
        · rw [if_pos g2]
          dsimp only
          exact f_whom_ok (f_tok_ok (((h).up (k := 1131) (j := 24 + m) (x := nI w) (by omega) (by omega)).up (k := 1132) (j := 24 + m) (x := 0) (by omega) (by omega)))
        · rw [if_neg g2]
          dsimp only
          exact (f_whom_ok (f_tok_ok (((h).up (k := 1131) (j := 24 + m) (x := nI w) (by omega) (by omega)).up (k := 1132) (j := 24 + m) (x := 0) (by omega) (by omega)))).up (k := 1100) (j := 39) (x := (nI m) + 1) (by omega) (by omega)
      · rw [if_neg g1]
        by_cases g2 : (nI w) = 2
        · rw [if_pos g2]
          by_cases g3 : ((f_X11_isNumber (f_tok E (up2 (up2 v 1131 (24 + m) (nI w)) 1132 (24 + m) 0)) 1 9999).1) = 0
          · rw [if_pos g3]
            dsimp only
            exact isNumber_ok (f_tok_ok (((h).up (k := 1131) (j := 24 + m) (x := nI w) (by omega) (by omega)).up (k := 1132) (j := 24 + m) (x := 0) (by omega) (by omega)))
          · rw [if_neg g3]
            by_cases g4 : ((f_whom E (f_tok E (up2 (f_tok E (up2 (up2 v 1131 (24 + m) (nI w)) 1132 (24 + m) 0)) 1132 (24 + m) ((f_tok E (up2 (up2 v 1131 (24 + m) (nI w)) 1132 (24 + m) 0)) 1100 28))) (24 + m)).1) = 0
            · rw [if_pos g4]
              dsimp only
              exact f_whom_ok (f_tok_ok ((f_tok_ok (((h).up (k := 1131) (j := 24 + m) (x := nI w) (by omega) (by omega)).up (k := 1132) (j := 24 + m) (x := 0) (by omega) (by omega))).up (k := 1132) (j := 24 + m) (x := (f_tok E (up2 (up2 v 1131 (24 + m) (nI w)) 1132 (24 + m) 0)) 1100 28) (by omega) (by omega)))
            · rw [if_neg g4]
              dsimp only
              exact (f_whom_ok (f_tok_ok ((f_tok_ok (((h).up (k := 1131) (j := 24 + m) (x := nI w) (by omega) (by omega)).up (k := 1132) (j := 24 + m) (x := 0) (by omega) (by omega))).up (k := 1132) (j := 24 + m) (x := (f_tok E (up2 (up2 v 1131 (24 + m) (nI w)) 1132 (24 + m) 0)) 1100 28) (by omega) (by omega)))).up (k := 1100) (j := 39) (x := (nI m) + 1) (by omega) (by omega)
        · rw [if_neg g2]
          by_cases g3 : ((f_X11_isNumber (f_tok E (up2 (up2 v 1131 (24 + m) (nI w)) 1132 (24 + m) 0)) 0 200).1) = 0
          · rw [if_pos g3]
            dsimp only
            exact isNumber_ok (f_tok_ok (((h).up (k := 1131) (j := 24 + m) (x := nI w) (by omega) (by omega)).up (k := 1132) (j := 24 + m) (x := 0) (by omega) (by omega)))
          · rw [if_neg g3]
            by_cases g4 : ((f_whom E (f_tok E (up2 (f_tok E (up2 (up2 v 1131 (24 + m) (nI w)) 1132 (24 + m) 0)) 1132 (24 + m) ((f_tok E (up2 (up2 v 1131 (24 + m) (nI w)) 1132 (24 + m) 0)) 1100 28))) (24 + m)).1) = 0
            · rw [if_pos g4]
              dsimp only
              exact f_whom_ok (f_tok_ok ((f_tok_ok (((h).up (k := 1131) (j := 24 + m) (x := nI w) (by omega) (by omega)).up (k := 1132) (j := 24 + m) (x := 0) (by omega) (by omega))).up (k := 1132) (j := 24 + m) (x := (f_tok E (up2 (up2 v 1131 (24 + m) (nI w)) 1132 (24 + m) 0)) 1100 28) (by omega) (by omega)))
            · rw [if_neg g4]
              dsimp only
              exact (f_whom_ok (f_tok_ok ((f_tok_ok (((h).up (k := 1131) (j := 24 + m) (x := nI w) (by omega) (by omega)).up (k := 1132) (j := 24 + m) (x := 0) (by omega) (by omega))).up (k := 1132) (j := 24 + m) (x := (f_tok E (up2 (up2 v 1131 (24 + m) (nI w)) 1132 (24 + m) 0)) 1100 28) (by omega) (by omega)))).up (k := 1100) (j := 39) (x := (nI m) + 1) (by omega) (by omega)
theorem ofW_le {E m w : Nat} {v : fr_V} (h : rdOK E v) (q : ¬ (f_ofW E v m w).1 = 0) : nx v ≤ nx (f_ofW E v m w).2 := by
    unfold f_ofW at q ⊢
    by_cases g0 : (nI m) = 24
    · rw [if_pos g0] at q ⊢
      exact absurd rfl q
    · rw [if_neg g0] at q ⊢
      by_cases g1 : (nI w) ≤ 1
      · rw [if_pos g1] at q ⊢
        by_cases g2 : ((f_whom E (f_tok E (up2 (up2 v 1131 (24 + m) (nI w)) 1132 (24 + m) 0)) (24 + m)).1) = 0
        · rw [if_pos g2] at q ⊢
          exact absurd rfl q
        · rw [if_neg g2] at q ⊢
          dsimp only
          exact (Nat.le_trans (Nat.le_trans (Nat.le_trans (Nat.le_trans (Nat.le_trans (Nat.le_refl _) (Nat.le_of_eq (nx_up (k := 1131) (j := 24 + m) (x := nI w) (by omega)).symm)) (Nat.le_of_eq (nx_up (k := 1132) (j := 24 + m) (x := 0) (by omega)).symm)) (tok_adv (((h).up (k := 1131) (j := 24 + m) (x := nI w) (by omega) (by omega)).up (k := 1132) (j := 24 + m) (x := 0) (by omega) (by omega))).1) (whom_le (f_tok_ok (((h).up (k := 1131) (j := 24 + m) (x := nI w) (by omega) (by omega)).up (k := 1132) (j := 24 + m) (x := 0) (by omega) (by omega))) g2)) (Nat.le_of_eq (nx_up (k := 1100) (j := 39) (x := (nI m) + 1) (by omega)).symm))
      · rw [if_neg g1] at q ⊢
        by_cases g2 : (nI w) = 2
        · rw [if_pos g2] at q ⊢
          by_cases g3 : ((f_X11_isNumber (f_tok E (up2 (up2 v 1131 (24 + m) (nI w)) 1132 (24 + m) 0)) 1 9999).1) = 0
          · rw [if_pos g3] at q ⊢
            exact absurd rfl q
          · rw [if_neg g3] at q ⊢
            by_cases g4 : ((f_whom E (f_tok E (up2 (f_tok E (up2 (up2 v 1131 (24 + m) (nI w)) 1132 (24 + m) 0)) 1132 (24 + m) ((f_tok E (up2 (up2 v 1131 (24 + m) (nI w)) 1132 (24 + m) 0)) 1100 28))) (24 + m)).1) = 0
            · rw [if_pos g4] at q ⊢
              exact absurd rfl q
            · rw [if_neg g4] at q ⊢
              dsimp only
              exact (Nat.le_trans (Nat.le_trans (Nat.le_trans (Nat.le_trans (Nat.le_trans (Nat.le_trans (Nat.le_trans (Nat.le_refl _) (Nat.le_of_eq (nx_up (k := 1131) (j := 24 + m) (x := nI w) (by omega)).symm)) (Nat.le_of_eq (nx_up (k := 1132) (j := 24 + m) (x := 0) (by omega)).symm)) (tok_adv (((h).up (k := 1131) (j := 24 + m) (x := nI w) (by omega) (by omega)).up (k := 1132) (j := 24 + m) (x := 0) (by omega) (by omega))).1) (Nat.le_of_eq (nx_up (k := 1132) (j := 24 + m) (x := (f_tok E (up2 (up2 v 1131 (24 + m) (nI w)) 1132 (24 + m) 0)) 1100 28) (by omega)).symm)) (tok_adv ((f_tok_ok (((h).up (k := 1131) (j := 24 + m) (x := nI w) (by omega) (by omega)).up (k := 1132) (j := 24 + m) (x := 0) (by omega) (by omega))).up (k := 1132) (j := 24 + m) (x := (f_tok E (up2 (up2 v 1131 (24 + m) (nI w)) 1132 (24 + m) 0)) 1100 28) (by omega) (by omega))).1) (whom_le (f_tok_ok ((f_tok_ok (((h).up (k := 1131) (j := 24 + m) (x := nI w) (by omega) (by omega)).up (k := 1132) (j := 24 + m) (x := 0) (by omega) (by omega))).up (k := 1132) (j := 24 + m) (x := (f_tok E (up2 (up2 v 1131 (24 + m) (nI w)) 1132 (24 + m) 0)) 1100 28) (by omega) (by omega))) g4)) (Nat.le_of_eq (nx_up (k := 1100) (j := 39) (x := (nI m) + 1) (by omega)).symm))
        · rw [if_neg g2] at q ⊢
          by_cases g3 : ((f_X11_isNumber (f_tok E (up2 (up2 v 1131 (24 + m) (nI w)) 1132 (24 + m) 0)) 0 200).1) = 0
          · rw [if_pos g3] at q ⊢
            exact absurd rfl q
          · rw [if_neg g3] at q ⊢
            by_cases g4 : ((f_whom E (f_tok E (up2 (f_tok E (up2 (up2 v 1131 (24 + m) (nI w)) 1132 (24 + m) 0)) 1132 (24 + m) ((f_tok E (up2 (up2 v 1131 (24 + m) (nI w)) 1132 (24 + m) 0)) 1100 28))) (24 + m)).1) = 0
            · rw [if_pos g4] at q ⊢
              exact absurd rfl q
            · rw [if_neg g4] at q ⊢
              dsimp only
              exact (Nat.le_trans (Nat.le_trans (Nat.le_trans (Nat.le_trans (Nat.le_trans (Nat.le_trans (Nat.le_trans (Nat.le_refl _) (Nat.le_of_eq (nx_up (k := 1131) (j := 24 + m) (x := nI w) (by omega)).symm)) (Nat.le_of_eq (nx_up (k := 1132) (j := 24 + m) (x := 0) (by omega)).symm)) (tok_adv (((h).up (k := 1131) (j := 24 + m) (x := nI w) (by omega) (by omega)).up (k := 1132) (j := 24 + m) (x := 0) (by omega) (by omega))).1) (Nat.le_of_eq (nx_up (k := 1132) (j := 24 + m) (x := (f_tok E (up2 (up2 v 1131 (24 + m) (nI w)) 1132 (24 + m) 0)) 1100 28) (by omega)).symm)) (tok_adv ((f_tok_ok (((h).up (k := 1131) (j := 24 + m) (x := nI w) (by omega) (by omega)).up (k := 1132) (j := 24 + m) (x := 0) (by omega) (by omega))).up (k := 1132) (j := 24 + m) (x := (f_tok E (up2 (up2 v 1131 (24 + m) (nI w)) 1132 (24 + m) 0)) 1100 28) (by omega) (by omega))).1) (whom_le (f_tok_ok ((f_tok_ok (((h).up (k := 1131) (j := 24 + m) (x := nI w) (by omega) (by omega)).up (k := 1132) (j := 24 + m) (x := 0) (by omega) (by omega))).up (k := 1132) (j := 24 + m) (x := (f_tok E (up2 (up2 v 1131 (24 + m) (nI w)) 1132 (24 + m) 0)) 1100 28) (by omega) (by omega))) g4)) (Nat.le_of_eq (nx_up (k := 1100) (j := 39) (x := (nI m) + 1) (by omega)).symm))
theorem ofW_m {E m w : Nat} {v : fr_V} (q : ¬ (f_ofW E v m w).1 = 0) : (f_ofW E v m w).2 1100 39 = nI (m + 1) ∧ ¬ nI m = 24 := by
    unfold f_ofW at q ⊢
    by_cases g0 : (nI m) = 24
    · rw [if_pos g0] at q ⊢
      exact absurd rfl q
    · rw [if_neg g0] at q ⊢
      by_cases g1 : (nI w) ≤ 1
      · rw [if_pos g1] at q ⊢
        by_cases g2 : ((f_whom E (f_tok E (up2 (up2 v 1131 (24 + m) (nI w)) 1132 (24 + m) 0)) (24 + m)).1) = 0
        · rw [if_pos g2] at q ⊢
          exact absurd rfl q
        · rw [if_neg g2] at q ⊢
          exact ⟨by dsimp only; rw [up2_self, pk_us, nI_1], g0⟩
      · rw [if_neg g1] at q ⊢
        by_cases g2 : (nI w) = 2
        · rw [if_pos g2] at q ⊢
          by_cases g3 : ((f_X11_isNumber (f_tok E (up2 (up2 v 1131 (24 + m) (nI w)) 1132 (24 + m) 0)) 1 9999).1) = 0
          · rw [if_pos g3] at q ⊢
            exact absurd rfl q
          · rw [if_neg g3] at q ⊢
            by_cases g4 : ((f_whom E (f_tok E (up2 (f_tok E (up2 (up2 v 1131 (24 + m) (nI w)) 1132 (24 + m) 0)) 1132 (24 + m) ((f_tok E (up2 (up2 v 1131 (24 + m) (nI w)) 1132 (24 + m) 0)) 1100 28))) (24 + m)).1) = 0
            · rw [if_pos g4] at q ⊢
              exact absurd rfl q
            · rw [if_neg g4] at q ⊢
              exact ⟨by dsimp only; rw [up2_self, pk_us, nI_1], g0⟩
        · rw [if_neg g2] at q ⊢
          by_cases g3 : ((f_X11_isNumber (f_tok E (up2 (up2 v 1131 (24 + m) (nI w)) 1132 (24 + m) 0)) 0 200).1) = 0
          · rw [if_pos g3] at q ⊢
            exact absurd rfl q
          · rw [if_neg g3] at q ⊢
            by_cases g4 : ((f_whom E (f_tok E (up2 (f_tok E (up2 (up2 v 1131 (24 + m) (nI w)) 1132 (24 + m) 0)) 1132 (24 + m) ((f_tok E (up2 (up2 v 1131 (24 + m) (nI w)) 1132 (24 + m) 0)) 1100 28))) (24 + m)).1) = 0
            · rw [if_pos g4] at q ⊢
              exact absurd rfl q
            · rw [if_neg g4] at q ⊢
              exact ⟨by dsimp only; rw [up2_self, pk_us, nI_1], g0⟩
theorem tk_w {v : fr_V} {E q : Nat} (h : kd (f_tk v E q) = 1) : ∃ w, w < 15 ∧ f_tk v E q 1100 28 = nI w := by
  have ne : ∀ (w : fr_V) (j i : Nat) (x : Int32), i ≠ j → up2 w 1100 j x 1100 i = w 1100 i := fun w j i x hi => by rw [up2_self, pk_un hi]
  unfold kd at h
  unfold f_tk at h ⊢
  by_cases h1 : q = E
  · rw [if_pos h1, up2_self, pk_us] at h; exact absurd h (by decide)
  · rw [if_neg h1] at h ⊢
    by_cases h2 : isLt (v 1101) q
    · rw [if_pos h2, up2_self, pk_us] at h
      rw [if_pos h2, ne _ 27 28 _ (by omega), up2_self, pk_us]
      have key : ∀ d, d ≤ 15 → wA (v 1101) q (sc (isLt (v 1101)) E (E - q)) d = (-1) ∨ ∃ w, w < 15 ∧ wA (v 1101) q (sc (isLt (v 1101)) E (E - q)) d = nI w := by
        intro d
        induction d with
        | zero => intro _; exact Or.inl rfl
        | succ d ih =>
          intro hd
          by_cases g : wm (v 1101) q (sc (isLt (v 1101)) E (E - q)) (14 - d)
          · rw [wA_p g]; exact Or.inr ⟨14 - d, by omega, rfl⟩
          · rw [wA_n g]; exact ih (by omega)
      rcases key 15 (by omega) with e | e
      · rw [e] at h; exact absurd h (by decide)
      · exact e
    · rw [if_neg h2] at h
      by_cases h3 : isDg (v 1101) q
      · rw [if_pos h3, ne _ 26 27 _ (by omega), ne _ 28 27 _ (by omega), up2_self, pk_us] at h; exact absurd h (by decide)
      · rw [if_neg h3, ne _ 26 27 _ (by omega), up2_self, pk_us] at h
        by_cases g : v 1101 q = 59
        · rw [if_pos g] at h; exact absurd h (by decide)
        · rw [if_neg g] at h; exact absurd h (by decide)
def wOK (v : fr_V) : Prop := kd v = 1 → ∃ w, w < 15 ∧ v 1100 28 = nI w
theorem tok_w (E : Nat) (v : fr_V) : wOK (f_tok E v) := fun h => tk_w h
theorem plain_ok {E : Nat} {v : fr_V} (h : rdOK E v) : rdOK E (f_plain v) := by
  have g : ∀ n, rdOK E (pl_a (up2 (up2 (up2 (up2 v 1141 4 4) 1141 5 0) 1141 6 20) 1141 7 3) n) := by
    intro n
    induction n with
    | zero => exact (((h.up (by omega) (by omega)).up (by omega) (by omega)).up (by omega) (by omega)).up (by omega) (by omega)
    | succ n ih => rw [pl_a_s]; unfold pl_a_t; exact ih.up (by omega) (by omega)
  unfold f_plain
  exact (g 4).up (by omega) (by omega)
noncomputable def f_al (E : Nat) : Nat → fr_V → Nat → Int32 × fr_V
  | 0, v, _ => (0, v)
  | d + 1, v, k => if (v 1100 27) = 0 then (nI k, (f_keep v (v 1100 39).toNatClampNeg)) else if (v 1100 27) = 1 then (if (v 1100 28) ≤ 7 then (if 4 ≤ (v 1100 28) then (if ((f_ofN E v ((v 1100 28).toNatClampNeg - 4)).1) = 0 then ((-1), (f_ofN E v ((v 1100 28).toNatClampNeg - 4)).2) else if (((f_ofN E v ((v 1100 28).toNatClampNeg - 4)).2) 1100 27) = 3 then f_al E d (f_tok E ((f_ofN E v ((v 1100 28).toNatClampNeg - 4)).2)) (k + 1) else ((-1), (f_X11_wrong ((f_ofN E v ((v 1100 28).toNatClampNeg - 4)).2) 1).2)) else if ((f_ofW E v (v 1100 39).toNatClampNeg (v 1100 28).toNatClampNeg).1) = 0 then ((-1), (f_ofW E v (v 1100 39).toNatClampNeg (v 1100 28).toNatClampNeg).2) else if (((f_ofW E v (v 1100 39).toNatClampNeg (v 1100 28).toNatClampNeg).2) 1100 27) = 3 then f_al E d (f_tok E ((f_ofW E v (v 1100 39).toNatClampNeg (v 1100 28).toNatClampNeg).2)) (k + 1) else ((-1), (f_X11_wrong ((f_ofW E v (v 1100 39).toNatClampNeg (v 1100 28).toNatClampNeg).2) 1).2)) else ((-1), (f_X11_wrong v 1).2)) else ((-1), (f_X11_wrong v 1).2)
theorem f_al_s (E d : Nat) (v : fr_V) (k : Nat) : f_al E (d + 1) v k = (if (v 1100 27) = 0 then (nI k, (f_keep v (v 1100 39).toNatClampNeg)) else if (v 1100 27) = 1 then (if (v 1100 28) ≤ 7 then (if 4 ≤ (v 1100 28) then (if ((f_ofN E v ((v 1100 28).toNatClampNeg - 4)).1) = 0 then ((-1), (f_ofN E v ((v 1100 28).toNatClampNeg - 4)).2) else if (((f_ofN E v ((v 1100 28).toNatClampNeg - 4)).2) 1100 27) = 3 then f_al E d (f_tok E ((f_ofN E v ((v 1100 28).toNatClampNeg - 4)).2)) (k + 1) else ((-1), (f_X11_wrong ((f_ofN E v ((v 1100 28).toNatClampNeg - 4)).2) 1).2)) else if ((f_ofW E v (v 1100 39).toNatClampNeg (v 1100 28).toNatClampNeg).1) = 0 then ((-1), (f_ofW E v (v 1100 39).toNatClampNeg (v 1100 28).toNatClampNeg).2) else if (((f_ofW E v (v 1100 39).toNatClampNeg (v 1100 28).toNatClampNeg).2) 1100 27) = 3 then f_al E d (f_tok E ((f_ofW E v (v 1100 39).toNatClampNeg (v 1100 28).toNatClampNeg).2)) (k + 1) else ((-1), (f_X11_wrong ((f_ofW E v (v 1100 39).toNatClampNeg (v 1100 28).toNatClampNeg).2) 1).2)) else ((-1), (f_X11_wrong v 1).2)) else ((-1), (f_X11_wrong v 1).2) : Int32 × fr_V) := rfl
theorem al_L {l : Launch} {I : List Nat} (hI : fr_I I) (u : fr_U) (E : Nat) (x1 : Int32) : ∀ (d : Nat) (v : fr_V) (k m : Nat) (h : rdOK E v) (hm : v 1100 39 = nI m) (hm2 : m ≤ 24) (hw : wOK v) (hd : nd E v ≤ d) (hk2 : k + d < 2000), J l mX11_acts I v u 55 [(0, .ref 1100), (1, .int x1), (2, .int (nI k))] [] (QX u (fun a b => a = (f_al E d v k).1 ∧ b = (f_al E d v k).2)) := by
  intro d
  induction d with
  | zero => intro v k m h hm hm2 hw hd; have := nd_1 E v; omega
  | succ d ih =>
    intro v k m h hm hm2 hw hd hk2
    refine J_aload_n dX11_acts_55 rfl 0 rfl ?_
    refine J_gete (ci := 11) (j := 27) (x := v 1100 27) dX11_acts_56 fl_X11_147 (i1100 hI) rfl rfl rfl ?_
    refine J_if_eq (tgt := 149) dX11_acts_59 (by decide) (fun c1 => ?_) (fun c1 => ?_)
    · refine J_aload_n dX11_acts_149 rfl 0 rfl ?_
      refine J_eVN (z := mX11_keep) (As := []) (rest := []) (ci := 11) (w := (f_keep v m)) dX11_acts_150 ml_X11_126 ok_X11_keep iv_X11_keep (by decide) (i1100 hI) rfl rfl rfl rfl (Nat.le_of_ble_eq_true rfl) (k_X11_keep hI v u m hm2 hm) ?_
      refine J_iload_n dX11_acts_153 rfl 2 rfl ?_
      exact J_iret dX11_acts_154 rfl ⟨_, rfl, rfl, by rw [f_al_s]; simp only [hm, nI_clamp (show m < 2 ^ 31 by omega)]; rw [if_pos c1], by rw [f_al_s]; simp only [hm, nI_clamp (show m < 2 ^ 31 by omega)]; rw [if_pos c1]⟩
    · refine J_aload_n dX11_acts_62 rfl 0 rfl ?_
      refine J_gete (ci := 11) (j := 27) (x := v 1100 27) dX11_acts_63 fl_X11_147 (i1100 hI) rfl rfl rfl ?_
      refine J_iconst (x := 1) dX11_acts_66 (by decide) ?_
      refine J_icmp_ne (tgt := 79) dX11_acts_67 (by decide) (fun c2 => ?_) (fun c2 => ?_)
      · refine J_aload_n dX11_acts_79 rfl 0 rfl ?_
        refine J_iconst (x := 1) dX11_acts_80 (by decide) ?_
        refine J_eVX (z := mX11_wrong) (As := [.int 1]) (rest := []) (ci := 11) (x := 0) (w := (f_X11_wrong v 1).2) dX11_acts_81 ml_X11_164 ok_X11_wrong iv_X11_wrong (by decide) (i1100 hI) rfl rfl rfl rfl (Nat.le_of_ble_eq_true rfl) (k_X11_wrong hI v u 1) ?_
        refine J_pop dX11_acts_84 rfl ?_
        refine J_iconst (x := (-1)) dX11_acts_85 (by decide) ?_
        exact J_iret dX11_acts_86 rfl ⟨_, rfl, rfl, by rw [f_al_s]; rw [if_neg c1, if_neg c2], by rw [f_al_s]; rw [if_neg c1, if_neg c2]⟩
      · obtain ⟨w, hw15, ew⟩ := hw c2
        have hk1 : ¬ kd v = 0 := by unfold kd; rw [c2]; decide
        refine J_aload_n dX11_acts_70 rfl 0 rfl ?_
        refine J_gete (ci := 11) (j := 28) (x := nI w) dX11_acts_71 fl_X11_158 (i1100 hI) rfl rfl ew ?_
        refine J_bipush (x := 7) dX11_acts_74 (by decide) ?_
        refine J_icmp_le (tgt := 87) dX11_acts_76 (by decide) (fun c3 => ?_) (fun c3 => ?_)
        · refine J_aload_n dX11_acts_87 rfl 0 rfl ?_
          refine J_gete (ci := 11) (j := 28) (x := nI w) dX11_acts_88 fl_X11_158 (i1100 hI) rfl rfl ew ?_
          refine J_iconst (x := 4) dX11_acts_91 (by decide) ?_
          refine J_icmp_ge (tgt := 106) dX11_acts_92 (by decide) (fun c4 => ?_) (fun c4 => ?_)
          · refine J_aload_n dX11_acts_106 rfl 0 rfl ?_
            refine J_aload_n dX11_acts_107 rfl 0 rfl ?_
            refine J_gete (ci := 11) (j := 28) (x := nI w) dX11_acts_108 fl_X11_158 (i1100 hI) rfl rfl ew ?_
            refine J_iconst (x := 4) dX11_acts_111 (by decide) ?_
            refine J_isub dX11_acts_112 ?_
            have h4w : 4 ≤ w := nz_le (a := 4) (by omega) (by omega) c4
            rw [show nI w - 4 = nI (w - 4) from pk_sub (b := 4) h4w]
            refine J_eVX (z := mX11_ofNumber) (As := [.int (nI (w - 4))]) (rest := []) (ci := 11) (x := (f_ofN E v (w - 4)).1) (w := (f_ofN E v (w - 4)).2) dX11_acts_113 ml_X11_201 ok_X11_ofNumber iv_X11_ofNumber (by decide) (i1100 hI) rfl rfl rfl rfl (Nat.le_of_ble_eq_true rfl) (k_f_ofN hI v u E (w - 4) h (by have := nz_le (b := 7) (by omega) (by omega) c3; omega)) ?_
            refine J_istore_n (lv' := [(3, .int ((f_ofN E v (w - 4)).1)), (0, .ref 1100), (1, .int x1), (2, .int (nI k))]) dX11_acts_116 rfl (by decide) rfl ?_
            refine J_iload_n dX11_acts_117 rfl 0 rfl ?_
            refine J_if_ne (tgt := 123) dX11_acts_118 (by decide) (fun c5 => ?_) (fun c5 => ?_)
            · refine J_aload_n dX11_acts_123 rfl 1 rfl ?_
              refine J_gete (ci := 11) (j := 27) (x := ((f_ofN E v (w - 4)).2) 1100 27) dX11_acts_124 fl_X11_147 (i1100 hI) rfl rfl rfl ?_
              refine J_iconst (x := 3) dX11_acts_127 (by decide) ?_
              refine J_icmp_eq (tgt := 139) dX11_acts_128 (by decide) (fun c6 => ?_) (fun c6 => ?_)
              · refine J_aload_n dX11_acts_139 rfl 1 rfl ?_
                refine J_eVN (z := mX11_take) (As := []) (rest := []) (ci := 11) (w := (f_tok E ((f_ofN E v (w - 4)).2))) dX11_acts_140 ml_X11_180 ok_X11_take iv_X11_take (by decide) (i1100 hI) rfl rfl rfl rfl (Nat.le_of_ble_eq_true rfl) (k2_take hI ((f_ofN E v (w - 4)).2) u E (f_ofN_ok (h))) ?_
                refine J_iinc (q := 3) (z := nI (k + 1)) (lv' := [(2, .int (nI (k + 1))), (3, .int ((f_ofN E v (w - 4)).1)), (0, .ref 1100), (1, .int x1)]) dX11_acts_143 rfl (nI_1 k) (by decide) rfl ?_
                refine J_goto (tgt := 55) dX11_acts_146 (by decide) ?_
                refine J_lv [2, 3, 0] rfl ?_
                have a1 : adv v (f_tok E ((f_ofN E v (w - 4)).2)) := (adv.tr (Nat.le_trans (Nat.le_refl _) (ofN_le (h) c5)) (tok_adv (f_ofN_ok (h))))
                have a2 := nd_next (E := E) hk1 a1 (nx_le (f_tok_ok (f_ofN_ok (h)))).1
                rw [f_al_s]
                simp only [ew, hm, nI_clamp (show w < 2 ^ 31 by omega), nI_clamp (show m < 2 ^ 31 by omega)]
                rw [if_neg c1, if_pos c2, if_pos c3, if_pos c4, if_neg c5, if_pos c6]
                exact ih (f_tok E ((f_ofN E v (w - 4)).2)) (k + 1) m (f_tok_ok (f_ofN_ok (h))) ((((ofN_fr (E := E) (k := w - 4) (v := v)).tr (fr_tok _ _)).2 39 (by omega)).trans hm) hm2 (tok_w _ _) (by omega) (by omega)
              · refine J_aload_n dX11_acts_131 rfl 1 rfl ?_
                refine J_iconst (x := 1) dX11_acts_132 (by decide) ?_
                refine J_eVX (z := mX11_wrong) (As := [.int 1]) (rest := []) (ci := 11) (x := 0) (w := (f_X11_wrong ((f_ofN E v (w - 4)).2) 1).2) dX11_acts_133 ml_X11_164 ok_X11_wrong iv_X11_wrong (by decide) (i1100 hI) rfl rfl rfl rfl (Nat.le_of_ble_eq_true rfl) (k_X11_wrong hI ((f_ofN E v (w - 4)).2) u 1) ?_
                refine J_pop dX11_acts_136 rfl ?_
                refine J_iconst (x := (-1)) dX11_acts_137 (by decide) ?_
                exact J_iret dX11_acts_138 rfl ⟨_, rfl, rfl, by rw [f_al_s]; simp only [ew, hm, nI_clamp (show w < 2 ^ 31 by omega), nI_clamp (show m < 2 ^ 31 by omega)]; rw [if_neg c1, if_pos c2, if_pos c3, if_pos c4, if_neg c5, if_neg c6], by rw [f_al_s]; simp only [ew, hm, nI_clamp (show w < 2 ^ 31 by omega), nI_clamp (show m < 2 ^ 31 by omega)]; rw [if_neg c1, if_pos c2, if_pos c3, if_pos c4, if_neg c5, if_neg c6]⟩
            · refine J_iconst (x := (-1)) dX11_acts_121 (by decide) ?_
              exact J_iret dX11_acts_122 rfl ⟨_, rfl, rfl, by rw [f_al_s]; simp only [ew, hm, nI_clamp (show w < 2 ^ 31 by omega), nI_clamp (show m < 2 ^ 31 by omega)]; rw [if_neg c1, if_pos c2, if_pos c3, if_pos c4, if_pos c5], by rw [f_al_s]; simp only [ew, hm, nI_clamp (show w < 2 ^ 31 by omega), nI_clamp (show m < 2 ^ 31 by omega)]; rw [if_neg c1, if_pos c2, if_pos c3, if_pos c4, if_pos c5]⟩
          · refine J_aload_n dX11_acts_95 rfl 0 rfl ?_
            refine J_aload_n dX11_acts_96 rfl 0 rfl ?_
            refine J_gete (ci := 11) (j := 28) (x := nI w) dX11_acts_97 fl_X11_158 (i1100 hI) rfl rfl ew ?_
            refine J_eVX (z := mX11_ofWhom) (As := [.int (nI w)]) (rest := []) (ci := 11) (x := (f_ofW E v m w).1) (w := (f_ofW E v m w).2) dX11_acts_100 ml_X11_198 ok_X11_ofWhom iv_X11_ofWhom (by decide) (i1100 hI) rfl rfl rfl rfl (Nat.le_of_ble_eq_true rfl) (k_f_ofW hI v u E m w hm hm2 (by have := nz_nle (a := 4) (by omega) (by omega) c4; omega) h) ?_
            refine J_goto (tgt := 116) dX11_acts_103 (by decide) ?_
            refine J_istore_n (lv' := [(3, .int ((f_ofW E v m w).1)), (0, .ref 1100), (1, .int x1), (2, .int (nI k))]) dX11_acts_116 rfl (by decide) rfl ?_
            refine J_iload_n dX11_acts_117 rfl 0 rfl ?_
            refine J_if_ne (tgt := 123) dX11_acts_118 (by decide) (fun c7 => ?_) (fun c7 => ?_)
            · refine J_aload_n dX11_acts_123 rfl 1 rfl ?_
              refine J_gete (ci := 11) (j := 27) (x := ((f_ofW E v m w).2) 1100 27) dX11_acts_124 fl_X11_147 (i1100 hI) rfl rfl rfl ?_
              refine J_iconst (x := 3) dX11_acts_127 (by decide) ?_
              refine J_icmp_eq (tgt := 139) dX11_acts_128 (by decide) (fun c8 => ?_) (fun c8 => ?_)
              · refine J_aload_n dX11_acts_139 rfl 1 rfl ?_
                refine J_eVN (z := mX11_take) (As := []) (rest := []) (ci := 11) (w := (f_tok E ((f_ofW E v m w).2))) dX11_acts_140 ml_X11_180 ok_X11_take iv_X11_take (by decide) (i1100 hI) rfl rfl rfl rfl (Nat.le_of_ble_eq_true rfl) (k2_take hI ((f_ofW E v m w).2) u E (f_ofW_ok (h))) ?_
                refine J_iinc (q := 3) (z := nI (k + 1)) (lv' := [(2, .int (nI (k + 1))), (3, .int ((f_ofW E v m w).1)), (0, .ref 1100), (1, .int x1)]) dX11_acts_143 rfl (nI_1 k) (by decide) rfl ?_
                refine J_goto (tgt := 55) dX11_acts_146 (by decide) ?_
                refine J_lv [2, 3, 0] rfl ?_
                have a1 : adv v (f_tok E ((f_ofW E v m w).2)) := (adv.tr (Nat.le_trans (Nat.le_refl _) (ofW_le (h) c7)) (tok_adv (f_ofW_ok (h))))
                have a2 := nd_next (E := E) hk1 a1 (nx_le (f_tok_ok (f_ofW_ok (h)))).1
                rw [f_al_s]
                simp only [ew, hm, nI_clamp (show w < 2 ^ 31 by omega), nI_clamp (show m < 2 ^ 31 by omega)]
                rw [if_neg c1, if_pos c2, if_pos c3, if_neg c4, if_neg c7, if_pos c8]
                exact ih (f_tok E ((f_ofW E v m w).2)) (k + 1) (m + 1) (f_tok_ok (f_ofW_ok (h))) (((fr_tok _ _).2 39 (by omega)).trans (ofW_m c7).1) (by have q := (ofW_m c7).2; have : ¬ m = 24 := fun e => q (by rw [e]; rfl); omega) (tok_w _ _) (by omega) (by omega)
              · refine J_aload_n dX11_acts_131 rfl 1 rfl ?_
                refine J_iconst (x := 1) dX11_acts_132 (by decide) ?_
                refine J_eVX (z := mX11_wrong) (As := [.int 1]) (rest := []) (ci := 11) (x := 0) (w := (f_X11_wrong ((f_ofW E v m w).2) 1).2) dX11_acts_133 ml_X11_164 ok_X11_wrong iv_X11_wrong (by decide) (i1100 hI) rfl rfl rfl rfl (Nat.le_of_ble_eq_true rfl) (k_X11_wrong hI ((f_ofW E v m w).2) u 1) ?_
                refine J_pop dX11_acts_136 rfl ?_
                refine J_iconst (x := (-1)) dX11_acts_137 (by decide) ?_
                exact J_iret dX11_acts_138 rfl ⟨_, rfl, rfl, by rw [f_al_s]; simp only [ew, hm, nI_clamp (show w < 2 ^ 31 by omega), nI_clamp (show m < 2 ^ 31 by omega)]; rw [if_neg c1, if_pos c2, if_pos c3, if_neg c4, if_neg c7, if_neg c8], by rw [f_al_s]; simp only [ew, hm, nI_clamp (show w < 2 ^ 31 by omega), nI_clamp (show m < 2 ^ 31 by omega)]; rw [if_neg c1, if_pos c2, if_pos c3, if_neg c4, if_neg c7, if_neg c8]⟩
            · refine J_iconst (x := (-1)) dX11_acts_121 (by decide) ?_
              exact J_iret dX11_acts_122 rfl ⟨_, rfl, rfl, by rw [f_al_s]; simp only [ew, hm, nI_clamp (show w < 2 ^ 31 by omega), nI_clamp (show m < 2 ^ 31 by omega)]; rw [if_neg c1, if_pos c2, if_pos c3, if_neg c4, if_pos c7], by rw [f_al_s]; simp only [ew, hm, nI_clamp (show w < 2 ^ 31 by omega), nI_clamp (show m < 2 ^ 31 by omega)]; rw [if_neg c1, if_pos c2, if_pos c3, if_neg c4, if_pos c7]⟩
        · refine J_aload_n dX11_acts_79 rfl 0 rfl ?_
          refine J_iconst (x := 1) dX11_acts_80 (by decide) ?_
          refine J_eVX (z := mX11_wrong) (As := [.int 1]) (rest := []) (ci := 11) (x := 0) (w := (f_X11_wrong v 1).2) dX11_acts_81 ml_X11_164 ok_X11_wrong iv_X11_wrong (by decide) (i1100 hI) rfl rfl rfl rfl (Nat.le_of_ble_eq_true rfl) (k_X11_wrong hI v u 1) ?_
          refine J_pop dX11_acts_84 rfl ?_
          refine J_iconst (x := (-1)) dX11_acts_85 (by decide) ?_
          exact J_iret dX11_acts_86 rfl ⟨_, rfl, rfl, by rw [f_al_s]; simp only [ew, hm, nI_clamp (show w < 2 ^ 31 by omega), nI_clamp (show m < 2 ^ 31 by omega)]; rw [if_neg c1, if_pos c2, if_neg c3], by rw [f_al_s]; simp only [ew, hm, nI_clamp (show w < 2 ^ 31 by omega), nI_clamp (show m < 2 ^ 31 by omega)]; rw [if_neg c1, if_pos c2, if_neg c3]⟩
theorem leN11 {x y : Int32} {t : Nat} (h : y = nI t) (ht : t ≤ 500) (h1 : ¬ x < 0) (h2 : x ≤ y) : ∃ n, n ≤ t ∧ x = nI n := by
  rw [h] at h2
  obtain ⟨j, hj, rfl⟩ := nI_of h1
  exact ⟨j, nz_le hj (by omega) h2, rfl⟩
noncomputable def ac0 (v : fr_V) (n : Nat) : fr_V := f_tok n (f_plain (up2 (up2 (up2 (up2 (up2 (up2 v 1100 2 0) 1100 25 (nI n)) 1100 1 0) 1100 23 0) 1100 24 (-1)) 1100 26 0))
noncomputable def f_acts11 (v : fr_V) (x1 : Int32) : Int32 × fr_V := if x1 < 0 then ((-2), up2 v 1100 2 0) else if x1 ≤ v 1100 1 then f_al x1.toNatClampNeg (x1.toNatClampNeg + 2) (ac0 v x1.toNatClampNeg) 0 else ((-2), up2 v 1100 2 0)
theorem ac0_1 (v : fr_V) (n : Nat) (hn : n ≤ 500) (hwd : ∀ i, i < 75 → v 1123 i = wd i) : rdOK n (f_plain (up2 (up2 (up2 (up2 (up2 (up2 v 1100 2 0) 1100 25 (nI n)) 1100 1 0) 1100 23 0) 1100 24 (-1)) 1100 26 0)) := plain_ok ⟨hn, rfl, ⟨0, by omega, rfl⟩, hwd⟩
theorem ac0_m (v : fr_V) (n : Nat) : ac0 v n 1100 39 = nI 0 := ((fr_tok _ _).2 39 (by omega)).trans (by unfold f_plain; rw [up2_self, pk_us]; rfl)
theorem k_X11_acts {l : Launch} {I : List Nat} (hI : fr_I I) (v : fr_V) (u : fr_U) (t : Nat) (x1 : Int32) (ht : v 1100 1 = nI t) (ht5 : t ≤ 500) (hwd : ∀ i, i < 75 → v 1123 i = wd i) : Con l mX11_acts I v u [.ref 1100, .int x1] (QX u (fun a b => a = (f_acts11 v x1).1 ∧ b = (f_acts11 v x1).2)) := by
  refine Con.of (by decide) (Nat.le_of_ble_eq_true rfl) ?_
  show J l mX11_acts I v u 0 [(0, .ref 1100), (1, .int x1)] [] _
  refine J_aload_n dX11_acts_0 rfl 0 rfl ?_
  refine J_iconst (x := 0) dX11_acts_1 (by decide) ?_
  refine J_puti (ci := 11) (j := 2) dX11_acts_2 fl_X11_129 (i1100 hI) rfl rfl (fun q h => by cases h; rfl) rfl ?_
  refine J_iload_n dX11_acts_5 rfl 1 rfl ?_
  refine J_if_lt (tgt := 17) dX11_acts_6 (by decide) (fun c1 => ?_) (fun c1 => ?_)
  · refine J_bipush (x := (-2)) dX11_acts_17 (by decide) ?_
    exact J_iret dX11_acts_19 rfl ⟨_, rfl, rfl, by unfold f_acts11; rw [if_pos c1], by unfold f_acts11; rw [if_pos c1]⟩
  · refine J_iload_n dX11_acts_9 rfl 1 rfl ?_
    refine J_aload_n dX11_acts_10 rfl 0 rfl ?_
    refine J_gete (ci := 11) (j := 1) (x := v 1100 1) dX11_acts_11 fl_X11_132 (i1100 hI) rfl rfl rfl ?_
    refine J_icmp_le (tgt := 20) dX11_acts_14 (by decide) (fun c2 => ?_) (fun c2 => ?_)
    · obtain ⟨n, hnt, rfl⟩ := leN11 ht ht5 c1 c2
      refine J_aload_n dX11_acts_20 rfl 0 rfl ?_
      refine J_iload_n dX11_acts_21 rfl 1 rfl ?_
      refine J_puti (ci := 11) (j := 25) dX11_acts_22 fl_X11_141 (i1100 hI) rfl rfl (fun q h => by cases h; rfl) rfl ?_
      refine J_aload_n dX11_acts_25 rfl 0 rfl ?_
      refine J_iconst (x := 0) dX11_acts_26 (by decide) ?_
      refine J_puti (ci := 11) (j := 1) dX11_acts_27 fl_X11_132 (i1100 hI) rfl rfl (fun q h => by cases h; rfl) rfl ?_
      refine J_aload_n dX11_acts_30 rfl 0 rfl ?_
      refine J_iconst (x := 0) dX11_acts_31 (by decide) ?_
      refine J_puti (ci := 11) (j := 23) dX11_acts_32 fl_X11_135 (i1100 hI) rfl rfl (fun q h => by cases h; rfl) rfl ?_
      refine J_aload_n dX11_acts_35 rfl 0 rfl ?_
      refine J_iconst (x := (-1)) dX11_acts_36 (by decide) ?_
      refine J_puti (ci := 11) (j := 24) dX11_acts_37 fl_X11_58 (i1100 hI) rfl rfl (fun q h => by cases h; rfl) rfl ?_
      refine J_aload_n dX11_acts_40 rfl 0 rfl ?_
      refine J_iconst (x := 0) dX11_acts_41 (by decide) ?_
      refine J_puti (ci := 11) (j := 26) dX11_acts_42 fl_X11_144 (i1100 hI) rfl rfl (fun q h => by cases h; rfl) rfl ?_
      refine J_aload_n dX11_acts_45 rfl 0 rfl ?_
      refine J_eVN (z := mX11_plain) (As := []) (rest := []) (ci := 11) (w := (f_plain (up2 (up2 (up2 (up2 (up2 (up2 v 1100 2 0) 1100 25 (nI n)) 1100 1 0) 1100 23 0) 1100 24 (-1)) 1100 26 0))) dX11_acts_46 ml_X11_123 ok_X11_plain iv_X11_plain (by decide) (i1100 hI) rfl rfl rfl rfl (Nat.le_of_ble_eq_true rfl) (k_X11_plain hI (up2 (up2 (up2 (up2 (up2 (up2 v 1100 2 0) 1100 25 (nI n)) 1100 1 0) 1100 23 0) 1100 24 (-1)) 1100 26 0) u) ?_
      refine J_iconst (x := 0) dX11_acts_49 (by decide) ?_
      refine J_istore_n (lv' := [(2, .int 0), (0, .ref 1100), (1, .int (nI n))]) dX11_acts_50 rfl (by decide) rfl ?_
      refine J_aload_n dX11_acts_51 rfl 1 rfl ?_
      refine J_eVN (z := mX11_take) (As := []) (rest := []) (ci := 11) (w := (ac0 v n)) dX11_acts_52 ml_X11_180 ok_X11_take iv_X11_take (by decide) (i1100 hI) rfl rfl rfl rfl (Nat.le_of_ble_eq_true rfl) (k2_take hI (f_plain (up2 (up2 (up2 (up2 (up2 (up2 v 1100 2 0) 1100 25 (nI n)) 1100 1 0) 1100 23 0) 1100 24 (-1)) 1100 26 0)) u n (ac0_1 v n (by omega) hwd)) ?_
      refine J_lv [1, 2, 0] rfl ?_
      unfold f_acts11
      rw [if_neg c1, if_pos c2, nI_clamp (show n < 2 ^ 31 by omega)]
      exact al_L hI u n (nI n) (n + 2) (ac0 v n) 0 0 (f_tok_ok (ac0_1 v n (by omega) hwd)) (ac0_m v n) (by omega) (tok_w _ _) (nd_max _) (by omega)
    · refine J_bipush (x := (-2)) dX11_acts_17 (by decide) ?_
      exact J_iret dX11_acts_19 rfl ⟨_, rfl, rfl, by unfold f_acts11; rw [if_neg c1, if_neg c2], by unfold f_acts11; rw [if_neg c1, if_neg c2]⟩
