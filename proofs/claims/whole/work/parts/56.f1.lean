theorem pass_b (v : fr_V) (x1 x2 x3 x4 x5 : Int32) : narrow .boolean (.int (f_X3_passOn v x1 x2 x3 x4 x5).1) = .int (f_X3_passOn v x1 x2 x3 x4 x5).1 := by
  unfold f_X3_passOn
  split
  · exact (show narrow .boolean (.int 1) = .int 1 by decide)
  · exact (show narrow .boolean (.int 0) = .int 0 by decide)
theorem rng {x : Int32} {b : Nat} (h1 : ¬ x < 0) (h2 : ¬ nI b ≤ x) (hb : b < 2 ^ 31) : ∃ j, j < b ∧ x = nI j := by
  rcases pk_ix x hb with h | h | h
  · exact absurd h h1
  · exact absurd h h2
  · exact h
theorem has5N {v : fr_V} {n : Nat} {x : Int32} (h : v 500 2 = nI n) (hn : n ≤ 12) (c : ¬ f_X5_has v x = 0) : ∃ i, i < n ∧ x = nI i := by
  unfold f_X5_has at c
  by_cases h1 : x < 0
  · rw [if_pos h1] at c; exact absurd rfl c
  · rw [if_neg h1, h] at c
    by_cases h2 : nI n ≤ x
    · rw [if_pos h2] at c; exact absurd rfl c
    · exact rng h1 h2 (by omega)
theorem has3N {v : fr_V} {n : Nat} {x : Int32} (h : v 300 2 = nI n) (hn : n ≤ 16) (c : ¬ f_X3_has v x = 0) : ∃ i, i < n ∧ x = nI i := by
  unfold f_X3_has at c
  by_cases h1 : x < 0
  · rw [if_pos h1] at c; exact absurd rfl c
  · rw [if_neg h1, h] at c
    by_cases h2 : nI n ≤ x
    · rw [if_pos h2] at c; exact absurd rfl c
    · exact rng h1 h2 (by omega)
theorem has1N {v : fr_V} {n : Nat} {x : Int32} (h : v 100 5 = nI n) (hn : n ≤ 60) (c : ¬ f_X1_has v x = 0) : ∃ i, i < n ∧ x = nI i := by
  unfold f_X1_has at c
  by_cases h1 : x < 0
  · rw [if_pos h1] at c; exact absurd rfl c
  · rw [if_neg h1, h] at c
    by_cases h2 : nI n ≤ x
    · rw [if_pos h2] at c; exact absurd rfl c
    · exact rng h1 h2 (by omega)
theorem halfN {v : fr_V} {x : Int32} (c : ¬ f_X10_isHalf v x = 0) : ∃ i, i < 80 ∧ x = nI i := by
  unfold f_X10_isHalf at c
  by_cases h1 : x < 0
  · rw [if_pos h1] at c; exact absurd rfl c
  · rw [if_neg h1] at c
    by_cases h2 : 80 ≤ x
    · rw [if_pos h2] at c; exact absurd rfl c
    · exact rng (b := 80) h1 h2 (by omega)
theorem clsN {v : fr_V} {x : Int32} (c : ¬ f_X10_isClass v x = 0) : ∃ i, i < 4 ∧ x = nI i := by
  unfold f_X10_isClass at c
  by_cases h1 : x < 0
  · rw [if_pos h1] at c; exact absurd rfl c
  · rw [if_neg h1] at c
    by_cases h2 : 4 ≤ x
    · rw [if_pos h2] at c; exact absurd rfl c
    · exact rng (b := 4) h1 h2 (by omega)
theorem grpN {v : fr_V} {x : Int32} (c : ¬ f_X10_isGroup v x = 0) : ∃ i, i < 10 ∧ x = nI i := by
  unfold f_X10_isGroup at c
  by_cases h1 : x < 0
  · rw [if_pos h1] at c; exact absurd rfl c
  · rw [if_neg h1] at c
    by_cases h2 : 10 ≤ x
    · rw [if_pos h2] at c; exact absurd rfl c
    · exact rng (b := 10) h1 h2 (by omega)
theorem hldN {v : fr_V} {x : Int32} (c : ¬ f_X10_isHolder v x = 0) : ∃ i, i < 8 ∧ x = nI i := by
  unfold f_X10_isHolder at c
  by_cases h1 : x < 0
  · rw [if_pos h1] at c; exact absurd rfl c
  · rw [if_neg h1] at c
    by_cases h2 : 8 ≤ x
    · rw [if_pos h2] at c; exact absurd rfl c
    · exact rng (b := 8) h1 h2 (by omega)
theorem begN {v : fr_V} {x : Int32} {w : Nat} (hw : v 1000 3 = nI w) (hw8 : w < 80) (c : ¬ f_X10_hasBegun v x = 0) : ∃ i, i ≤ w ∧ x = nI i := by
  unfold f_X10_hasBegun at c
  by_cases h1 : x < 0
  · rw [if_pos h1] at c; exact absurd rfl c
  · rw [if_neg h1, hw] at c
    obtain ⟨j, hj, rfl⟩ := nI_of h1
    by_cases h2 : nI w < nI j
    · rw [if_pos h2] at c; exact absurd rfl c
    · exact ⟨j, nz_nlt (by omega) hj h2, rfl⟩
theorem pB_1 (v : fr_V) (t : Nat) (x : Int32) : f_putBytes v t x 600 1 = nI (t + 4) := by
  unfold f_putBytes
  show nI t + 1 + 1 + 1 + 1 = nI (t + 4)
  simp only [nI_1]
def f_feed10 (v : fr_V) (t : Nat) (x1 x2 x3 x4 x5 : Int32) : Int32 × fr_V := if ((nI t) + 20) ≤ 500 then ((f_putBytes (f_putBytes (f_putBytes (f_putBytes (f_putBytes v t x1) (t + 4) x2) (t + 8) x3) (t + 12) x4) (t + 16) x5) 600 1, (f_putBytes (f_putBytes (f_putBytes (f_putBytes (f_putBytes v t x1) (t + 4) x2) (t + 8) x3) (t + 12) x4) (t + 16) x5)) else ((-1), v)
theorem k_X10_feed {l : Launch} {I : List Nat} (hI : fr_I I) (v : fr_V) (u : fr_U) (t : Nat) (x1 x2 x3 x4 x5 : Int32) (ht : v 600 1 = nI t) (ht5 : t ≤ 500) : Con l mX10_feed I v u [.ref 1000, .int x1, .int x2, .int x3, .int x4, .int x5] (QX u (fun a b => a = (f_feed10 v t x1 x2 x3 x4 x5).1 ∧ b = (f_feed10 v t x1 x2 x3 x4 x5).2)) := by
  refine Con.of (by decide) (Nat.le_of_ble_eq_true rfl) ?_
  show J l mX10_feed I v u 0 [(0, .ref 1000), (1, .int x1), (2, .int x2), (3, .int x3), (4, .int x4), (5, .int x5)] [] _
  refine J_aload_n dX10_feed_0 rfl 0 rfl ?_
  refine J_getr (ci := 10) (j := 0) (t := 600) dX10_feed_1 fl_X10_10 (i1000 hI) rfl rfl rfl ?_
  refine J_gete (ci := 6) (j := 1) (x := nI t) dX10_feed_4 fl_X10_71 (i600 hI) rfl rfl ht ?_
  refine J_bipush (x := 20) dX10_feed_7 (by decide) ?_
  refine J_iadd dX10_feed_9 ?_
  refine J_sipush (x := 500) dX10_feed_10 (by decide) ?_
  refine J_icmp_le (tgt := 18) dX10_feed_13 (by decide) (fun c1 => ?_) (fun c1 => ?_)
  · have hle : t + 20 ≤ 500 := nz_le (b := 500) (by omega) (by omega) (by rw [← nI_add]; exact c1)
    refine J_aload_n dX10_feed_18 rfl 0 rfl ?_
    refine J_getr (ci := 10) (j := 0) (t := 600) dX10_feed_19 fl_X10_10 (i1000 hI) rfl rfl rfl ?_
    refine J_iload_n dX10_feed_22 rfl 1 rfl ?_
    refine J_eVN (z := mX6_putBytes) (As := [.int x1]) (rest := []) (ci := 6) (w := (f_putBytes v t x1)) dX10_feed_23 ml_X10_75 ok_X6_putBytes iv_X6_putBytes (by decide) (i600 hI) rfl rfl rfl rfl (Nat.le_of_ble_eq_true rfl) (k_X6_putBytes hI v u t x1 ht (by omega)) ?_
    refine J_aload_n dX10_feed_26 rfl 0 rfl ?_
    refine J_getr (ci := 10) (j := 0) (t := 600) dX10_feed_27 fl_X10_10 (i1000 hI) rfl rfl rfl ?_
    refine J_iload_n dX10_feed_30 rfl 2 rfl ?_
    refine J_eVN (z := mX6_putBytes) (As := [.int x2]) (rest := []) (ci := 6) (w := (f_putBytes (f_putBytes v t x1) (t + 4) x2)) dX10_feed_31 ml_X10_75 ok_X6_putBytes iv_X6_putBytes (by decide) (i600 hI) rfl rfl rfl rfl (Nat.le_of_ble_eq_true rfl) (k_X6_putBytes hI (f_putBytes v t x1) u (t + 4) x2 (pB_1 _ _ _) (by omega)) ?_
    refine J_aload_n dX10_feed_34 rfl 0 rfl ?_
    refine J_getr (ci := 10) (j := 0) (t := 600) dX10_feed_35 fl_X10_10 (i1000 hI) rfl rfl rfl ?_
    refine J_iload_n dX10_feed_38 rfl 3 rfl ?_
    refine J_eVN (z := mX6_putBytes) (As := [.int x3]) (rest := []) (ci := 6) (w := (f_putBytes (f_putBytes (f_putBytes v t x1) (t + 4) x2) (t + 8) x3)) dX10_feed_39 ml_X10_75 ok_X6_putBytes iv_X6_putBytes (by decide) (i600 hI) rfl rfl rfl rfl (Nat.le_of_ble_eq_true rfl) (k_X6_putBytes hI (f_putBytes (f_putBytes v t x1) (t + 4) x2) u (t + 8) x3 (pB_1 _ _ _) (by omega)) ?_
    refine J_aload_n dX10_feed_42 rfl 0 rfl ?_
    refine J_getr (ci := 10) (j := 0) (t := 600) dX10_feed_43 fl_X10_10 (i1000 hI) rfl rfl rfl ?_
    refine J_iload dX10_feed_46 4 rfl ?_
    refine J_eVN (z := mX6_putBytes) (As := [.int x4]) (rest := []) (ci := 6) (w := (f_putBytes (f_putBytes (f_putBytes (f_putBytes v t x1) (t + 4) x2) (t + 8) x3) (t + 12) x4)) dX10_feed_48 ml_X10_75 ok_X6_putBytes iv_X6_putBytes (by decide) (i600 hI) rfl rfl rfl rfl (Nat.le_of_ble_eq_true rfl) (k_X6_putBytes hI (f_putBytes (f_putBytes (f_putBytes v t x1) (t + 4) x2) (t + 8) x3) u (t + 12) x4 (pB_1 _ _ _) (by omega)) ?_
    refine J_aload_n dX10_feed_51 rfl 0 rfl ?_
    refine J_getr (ci := 10) (j := 0) (t := 600) dX10_feed_52 fl_X10_10 (i1000 hI) rfl rfl rfl ?_
    refine J_iload dX10_feed_55 5 rfl ?_
    refine J_eVN (z := mX6_putBytes) (As := [.int x5]) (rest := []) (ci := 6) (w := (f_putBytes (f_putBytes (f_putBytes (f_putBytes (f_putBytes v t x1) (t + 4) x2) (t + 8) x3) (t + 12) x4) (t + 16) x5)) dX10_feed_57 ml_X10_75 ok_X6_putBytes iv_X6_putBytes (by decide) (i600 hI) rfl rfl rfl rfl (Nat.le_of_ble_eq_true rfl) (k_X6_putBytes hI (f_putBytes (f_putBytes (f_putBytes (f_putBytes v t x1) (t + 4) x2) (t + 8) x3) (t + 12) x4) u (t + 16) x5 (pB_1 _ _ _) (by omega)) ?_
    refine J_aload_n dX10_feed_60 rfl 0 rfl ?_
    refine J_getr (ci := 10) (j := 0) (t := 600) dX10_feed_61 fl_X10_10 (i1000 hI) rfl rfl rfl ?_
    refine J_gete (ci := 6) (j := 1) (x := (f_putBytes (f_putBytes (f_putBytes (f_putBytes (f_putBytes v t x1) (t + 4) x2) (t + 8) x3) (t + 12) x4) (t + 16) x5) 600 1) dX10_feed_64 fl_X10_71 (i600 hI) rfl rfl rfl ?_
    exact J_iret dX10_feed_67 rfl ⟨_, rfl, rfl, by unfold f_feed10; rw [if_pos c1], by unfold f_feed10; rw [if_pos c1]⟩
  · refine J_iconst (x := (-1)) dX10_feed_16 (by decide) ?_
    exact J_iret dX10_feed_17 rfl ⟨_, rfl, rfl, by unfold f_feed10; rw [if_neg c1], by unfold f_feed10; rw [if_neg c1]⟩
def f_life10 (v : fr_V) (x1 x2 : Int32) : Int32 × fr_V := if x1 < (-160) then ((-1), v) else if (v 1000 3) < x1 then ((-1), v) else if (f_X10_isClass v x2) = 0 then ((-1), v) else ((f_X5_enter v x1 x2).1, (f_X5_enter v x1 x2).2)
theorem k_X10_life {l : Launch} {I : List Nat} (hI : fr_I I) (v : fr_V) (u : fr_U) (x1 x2 : Int32) (n : Nat) (hn : v 500 2 = nI n) (hn2 : n ≤ 12) : Con l mX10_life I v u [.ref 1000, .int x1, .int x2] (QX u (fun a b => a = (f_life10 v x1 x2).1 ∧ b = (f_life10 v x1 x2).2)) := by
  refine Con.of (by decide) (Nat.le_of_ble_eq_true rfl) ?_
  show J l mX10_life I v u 0 [(0, .ref 1000), (1, .int x1), (2, .int x2)] [] _
  refine J_iload_n dX10_life_0 rfl 1 rfl ?_
  refine J_sipush (x := (-160)) dX10_life_1 (by decide) ?_
  refine J_icmp_lt (tgt := 22) dX10_life_4 (by decide) (fun c1 => ?_) (fun c1 => ?_)
  · refine J_iconst (x := (-1)) dX10_life_22 (by decide) ?_
    exact J_iret dX10_life_23 rfl ⟨_, rfl, rfl, by unfold f_life10; rw [if_pos c1], by unfold f_life10; rw [if_pos c1]⟩
  · refine J_iload_n dX10_life_7 rfl 1 rfl ?_
    refine J_aload_n dX10_life_8 rfl 0 rfl ?_
    refine J_gete (ci := 10) (j := 3) (x := v 1000 3) dX10_life_9 fl_X10_92 (i1000 hI) rfl rfl rfl ?_
    refine J_icmp_gt (tgt := 22) dX10_life_12 (by decide) (fun c2 => ?_) (fun c2 => ?_)
    · refine J_iconst (x := (-1)) dX10_life_22 (by decide) ?_
      exact J_iret dX10_life_23 rfl ⟨_, rfl, rfl, by unfold f_life10; rw [if_neg c1, if_pos c2], by unfold f_life10; rw [if_neg c1, if_pos c2]⟩
    · refine J_iload_n dX10_life_15 rfl 2 rfl ?_
      refine J_eSI (z := mX10_isClass) (As := [.int x2]) (rest := []) (x := f_X10_isClass v x2) dX10_life_16 ml_X10_95 ok_X10_isClass iv_X10_isClass (by decide) rfl rfl (Nat.le_of_ble_eq_true rfl) (k_X10_isClass hI v u x2) ?_
      refine J_if_ne (tgt := 24) dX10_life_19 (by decide) (fun c3 => ?_) (fun c3 => ?_)
      · refine J_aload_n dX10_life_24 rfl 0 rfl ?_
        refine J_getr (ci := 10) (j := 4) (t := 500) dX10_life_25 fl_X10_29 (i1000 hI) rfl rfl rfl ?_
        refine J_iload_n dX10_life_28 rfl 1 rfl ?_
        refine J_iload_n dX10_life_29 rfl 2 rfl ?_
        refine J_eVX (z := mX5_enter) (As := [.int x1, .int x2]) (rest := []) (ci := 5) (x := (f_X5_enter v x1 x2).1) (w := (f_X5_enter v x1 x2).2) dX10_life_30 ml_X10_99 ok_X5_enter iv_X5_enter (by decide) (i500 hI) rfl rfl rfl rfl (Nat.le_of_ble_eq_true rfl) (k_X5_enter hI v u x1 x2 n hn (by omega)) ?_
        exact J_iret dX10_life_33 rfl ⟨_, rfl, rfl, by unfold f_life10; rw [if_neg c1, if_neg c2, if_neg c3], by unfold f_life10; rw [if_neg c1, if_neg c2, if_neg c3]⟩
      · refine J_iconst (x := (-1)) dX10_life_22 (by decide) ?_
        exact J_iret dX10_life_23 rfl ⟨_, rfl, rfl, by unfold f_life10; rw [if_neg c1, if_neg c2, if_pos c3], by unfold f_life10; rw [if_neg c1, if_neg c2, if_pos c3]⟩
def f_note10 (v : fr_V) (x1 x2 x3 : Int32) : Int32 × fr_V := if (f_X5_has v x1) = 0 then ((-1), v) else if x2 < 0 then ((-1), v) else if x2 ≤ (v 1000 3) then (if x3 = 0 then ((f_X1_write v 0 x1 x2 (v 1000 3)).1, (f_X1_write v 0 x1 x2 (v 1000 3)).2) else ((f_X1_write v 1 x1 x2 (v 1000 3)).1, (f_X1_write v 1 x1 x2 (v 1000 3)).2)) else ((-1), v)
theorem k_X10_note {l : Launch} {I : List Nat} (hI : fr_I I) (v : fr_V) (u : fr_U) (x1 x2 x3 : Int32) (N : Nat) (hN : v 100 5 = nI N) (hN2 : N ≤ 60) : Con l mX10_note I v u [.ref 1000, .int x1, .int x2, .int x3] (QX u (fun a b => a = (f_note10 v x1 x2 x3).1 ∧ b = (f_note10 v x1 x2 x3).2)) := by
  refine Con.of (by decide) (Nat.le_of_ble_eq_true rfl) ?_
  show J l mX10_note I v u 0 [(0, .ref 1000), (1, .int x1), (2, .int x2), (3, .int x3)] [] _
  refine J_aload_n dX10_note_0 rfl 0 rfl ?_
  refine J_getr (ci := 10) (j := 4) (t := 500) dX10_note_1 fl_X10_29 (i1000 hI) rfl rfl rfl ?_
  refine J_iload_n dX10_note_4 rfl 1 rfl ?_
  refine J_eVI (z := mX5_has) (As := [.int x1]) (rest := []) (ci := 5) (x := f_X5_has v x1) dX10_note_5 ml_X10_103 ok_X5_has iv_X5_has (by decide) (i500 hI) rfl rfl rfl rfl (Nat.le_of_ble_eq_true rfl) (k_X5_has hI v u x1) ?_
  refine J_if_eq (tgt := 23) dX10_note_8 (by decide) (fun c1 => ?_) (fun c1 => ?_)
  · refine J_iconst (x := (-1)) dX10_note_23 (by decide) ?_
    exact J_iret dX10_note_24 rfl ⟨_, rfl, rfl, by unfold f_note10; rw [if_pos c1], by unfold f_note10; rw [if_pos c1]⟩
  · refine J_iload_n dX10_note_11 rfl 2 rfl ?_
    refine J_if_lt (tgt := 23) dX10_note_12 (by decide) (fun c2 => ?_) (fun c2 => ?_)
    · refine J_iconst (x := (-1)) dX10_note_23 (by decide) ?_
      exact J_iret dX10_note_24 rfl ⟨_, rfl, rfl, by unfold f_note10; rw [if_neg c1, if_pos c2], by unfold f_note10; rw [if_neg c1, if_pos c2]⟩
    · refine J_iload_n dX10_note_15 rfl 2 rfl ?_
      refine J_aload_n dX10_note_16 rfl 0 rfl ?_
      refine J_gete (ci := 10) (j := 3) (x := v 1000 3) dX10_note_17 fl_X10_92 (i1000 hI) rfl rfl rfl ?_
      refine J_icmp_le (tgt := 25) dX10_note_20 (by decide) (fun c3 => ?_) (fun c3 => ?_)
      · refine J_aload_n dX10_note_25 rfl 0 rfl ?_
        refine J_getr (ci := 10) (j := 5) (t := 100) dX10_note_26 fl_X10_38 (i1000 hI) rfl rfl rfl ?_
        refine J_iload_n dX10_note_29 rfl 3 rfl ?_
        refine J_if_eq (tgt := 37) dX10_note_30 (by decide) (fun c4 => ?_) (fun c4 => ?_)
        · refine J_iconst (x := 0) dX10_note_37 (by decide) ?_
          refine J_iload_n dX10_note_38 rfl 1 rfl ?_
          refine J_iload_n dX10_note_39 rfl 2 rfl ?_
          refine J_aload_n dX10_note_40 rfl 0 rfl ?_
          refine J_gete (ci := 10) (j := 3) (x := v 1000 3) dX10_note_41 fl_X10_92 (i1000 hI) rfl rfl rfl ?_
          refine J_eVX (z := mX1_write) (As := [.int 0, .int x1, .int x2, .int (v 1000 3)]) (rest := []) (ci := 1) (x := (f_X1_write v 0 x1 x2 (v 1000 3)).1) (w := (f_X1_write v 0 x1 x2 (v 1000 3)).2) dX10_note_44 ml_X10_144 ok_X1_write iv_X1_write (by decide) (i100 hI) rfl rfl rfl rfl (Nat.le_of_ble_eq_true rfl) (k_X1_write hI v u 0 x1 x2 (v 1000 3) N hN (by omega)) ?_
          exact J_iret dX10_note_47 rfl ⟨_, rfl, rfl, by unfold f_note10; rw [if_neg c1, if_neg c2, if_pos c3, if_pos c4], by unfold f_note10; rw [if_neg c1, if_neg c2, if_pos c3, if_pos c4]⟩
        · refine J_iconst (x := 1) dX10_note_33 (by decide) ?_
          refine J_goto (tgt := 38) dX10_note_34 (by decide) ?_
          refine J_iload_n dX10_note_38 rfl 1 rfl ?_
          refine J_iload_n dX10_note_39 rfl 2 rfl ?_
          refine J_aload_n dX10_note_40 rfl 0 rfl ?_
          refine J_gete (ci := 10) (j := 3) (x := v 1000 3) dX10_note_41 fl_X10_92 (i1000 hI) rfl rfl rfl ?_
          refine J_eVX (z := mX1_write) (As := [.int 1, .int x1, .int x2, .int (v 1000 3)]) (rest := []) (ci := 1) (x := (f_X1_write v 1 x1 x2 (v 1000 3)).1) (w := (f_X1_write v 1 x1 x2 (v 1000 3)).2) dX10_note_44 ml_X10_144 ok_X1_write iv_X1_write (by decide) (i100 hI) rfl rfl rfl rfl (Nat.le_of_ble_eq_true rfl) (k_X1_write hI v u 1 x1 x2 (v 1000 3) N hN (by omega)) ?_
          exact J_iret dX10_note_47 rfl ⟨_, rfl, rfl, by unfold f_note10; rw [if_neg c1, if_neg c2, if_pos c3, if_neg c4], by unfold f_note10; rw [if_neg c1, if_neg c2, if_pos c3, if_neg c4]⟩
      · refine J_iconst (x := (-1)) dX10_note_23 (by decide) ?_
        exact J_iret dX10_note_24 rfl ⟨_, rfl, rfl, by unfold f_note10; rw [if_neg c1, if_neg c2, if_neg c3], by unfold f_note10; rw [if_neg c1, if_neg c2, if_neg c3]⟩
def f_strike10 (v : fr_V) (x1 : Int32) : Int32 × fr_V := if (f_X1_has v x1) = 0 then ((-1), v) else ((f_X1_write v 2 x1 (v 1000 3) (v 1000 3)).1, (f_X1_write v 2 x1 (v 1000 3) (v 1000 3)).2)
theorem k_X10_strike {l : Launch} {I : List Nat} (hI : fr_I I) (v : fr_V) (u : fr_U) (x1 : Int32) (N : Nat) (hN : v 100 5 = nI N) (hN2 : N ≤ 60) : Con l mX10_strike I v u [.ref 1000, .int x1] (QX u (fun a b => a = (f_strike10 v x1).1 ∧ b = (f_strike10 v x1).2)) := by
  refine Con.of (by decide) (Nat.le_of_ble_eq_true rfl) ?_
  show J l mX10_strike I v u 0 [(0, .ref 1000), (1, .int x1)] [] _
  refine J_aload_n dX10_strike_0 rfl 0 rfl ?_
  refine J_getr (ci := 10) (j := 5) (t := 100) dX10_strike_1 fl_X10_38 (i1000 hI) rfl rfl rfl ?_
  refine J_iload_n dX10_strike_4 rfl 1 rfl ?_
  refine J_eVI (z := mX1_has) (As := [.int x1]) (rest := []) (ci := 1) (x := f_X1_has v x1) dX10_strike_5 ml_X10_148 ok_X1_has iv_X1_has (by decide) (i100 hI) rfl rfl rfl rfl (Nat.le_of_ble_eq_true rfl) (k_X1_has hI v u x1) ?_
  refine J_if_ne (tgt := 13) dX10_strike_8 (by decide) (fun c1 => ?_) (fun c1 => ?_)
  · refine J_aload_n dX10_strike_13 rfl 0 rfl ?_
    refine J_getr (ci := 10) (j := 5) (t := 100) dX10_strike_14 fl_X10_38 (i1000 hI) rfl rfl rfl ?_
    refine J_iconst (x := 2) dX10_strike_17 (by decide) ?_
    refine J_iload_n dX10_strike_18 rfl 1 rfl ?_
    refine J_aload_n dX10_strike_19 rfl 0 rfl ?_
    refine J_gete (ci := 10) (j := 3) (x := v 1000 3) dX10_strike_20 fl_X10_92 (i1000 hI) rfl rfl rfl ?_
    refine J_aload_n dX10_strike_23 rfl 0 rfl ?_
    refine J_gete (ci := 10) (j := 3) (x := v 1000 3) dX10_strike_24 fl_X10_92 (i1000 hI) rfl rfl rfl ?_
    refine J_eVX (z := mX1_write) (As := [.int 2, .int x1, .int (v 1000 3), .int (v 1000 3)]) (rest := []) (ci := 1) (x := (f_X1_write v 2 x1 (v 1000 3) (v 1000 3)).1) (w := (f_X1_write v 2 x1 (v 1000 3) (v 1000 3)).2) dX10_strike_27 ml_X10_144 ok_X1_write iv_X1_write (by decide) (i100 hI) rfl rfl rfl rfl (Nat.le_of_ble_eq_true rfl) (k_X1_write hI v u 2 x1 (v 1000 3) (v 1000 3) N hN (by omega)) ?_
    exact J_iret dX10_strike_30 rfl ⟨_, rfl, rfl, by unfold f_strike10; rw [if_neg c1], by unfold f_strike10; rw [if_neg c1]⟩
  · refine J_iconst (x := (-1)) dX10_strike_11 (by decide) ?_
    exact J_iret dX10_strike_12 rfl ⟨_, rfl, rfl, by unfold f_strike10; rw [if_pos c1], by unfold f_strike10; rw [if_pos c1]⟩
def f_dead10 (v : fr_V) (N : Nat) (x1 x2 : Int32) : Int32 × fr_V := if (f_X5_has v x1) = 0 then ((-2), v) else if (f_X10_isHalf v x2) = 0 then ((-2), v) else ((f_kw v N x2) 110 x1.toNatClampNeg, (f_kw v N x2))
theorem k_X10_dead {l : Launch} {I : List Nat} (hI : fr_I I) (v : fr_V) (u : fr_U) (N : Nat) (x1 x2 : Int32) (hN : v 100 5 = nI N) (hW : nt_ok (v 102) (v 103) N) (n : Nat) (hn : v 500 2 = nI n) (hn2 : n ≤ 12) : Con l mX10_dead I v u [.ref 1000, .int x1, .int x2] (QX u (fun a b => a = (f_dead10 v N x1 x2).1 ∧ b = (f_dead10 v N x1 x2).2)) := by
  refine Con.of (by decide) (Nat.le_of_ble_eq_true rfl) ?_
  show J l mX10_dead I v u 0 [(0, .ref 1000), (1, .int x1), (2, .int x2)] [] _
  refine J_aload_n dX10_dead_0 rfl 0 rfl ?_
  refine J_getr (ci := 10) (j := 4) (t := 500) dX10_dead_1 fl_X10_29 (i1000 hI) rfl rfl rfl ?_
  refine J_iload_n dX10_dead_4 rfl 1 rfl ?_
  refine J_eVI (z := mX5_has) (As := [.int x1]) (rest := []) (ci := 5) (x := f_X5_has v x1) dX10_dead_5 ml_X10_103 ok_X5_has iv_X5_has (by decide) (i500 hI) rfl rfl rfl rfl (Nat.le_of_ble_eq_true rfl) (k_X5_has hI v u x1) ?_
  refine J_if_eq (tgt := 18) dX10_dead_8 (by decide) (fun c1 => ?_) (fun c1 => ?_)
  · refine J_bipush (x := (-2)) dX10_dead_18 (by decide) ?_
    exact J_iret dX10_dead_20 rfl ⟨_, rfl, rfl, by unfold f_dead10; rw [if_pos c1], by unfold f_dead10; rw [if_pos c1]⟩
  · refine J_iload_n dX10_dead_11 rfl 2 rfl ?_
    refine J_eSI (z := mX10_isHalf) (As := [.int x2]) (rest := []) (x := f_X10_isHalf v x2) dX10_dead_12 ml_X10_141 ok_X10_isHalf iv_X10_isHalf (by decide) rfl rfl (Nat.le_of_ble_eq_true rfl) (k_X10_isHalf hI v u x2) ?_
    refine J_if_ne (tgt := 21) dX10_dead_15 (by decide) (fun c2 => ?_) (fun c2 => ?_)
    · obtain ⟨i, hi, rfl⟩ := has5N hn hn2 c1
      refine J_aload_n dX10_dead_21 rfl 0 rfl ?_
      refine J_getr (ci := 10) (j := 5) (t := 100) dX10_dead_22 fl_X10_38 (i1000 hI) rfl rfl rfl ?_
      refine J_iload_n dX10_dead_25 rfl 2 rfl ?_
      refine J_eVN (z := mX1_know) (As := [.int x2]) (rest := []) (ci := 1) (w := (f_kw v N x2)) dX10_dead_26 ml_X10_149 ok_X1_know iv_X1_know (by decide) (i100 hI) rfl rfl rfl rfl (Nat.le_of_ble_eq_true rfl) (k_X1_know hI v u x2 N hN hW) ?_
      refine J_aload_n dX10_dead_29 rfl 0 rfl ?_
      refine J_getr (ci := 10) (j := 5) (t := 100) dX10_dead_30 fl_X10_38 (i1000 hI) rfl rfl rfl ?_
      refine J_getr (ci := 1) (j := 9) (t := 110) dX10_dead_33 fl_X10_152 (i100 hI) rfl rfl rfl ?_
      refine J_iload_n dX10_dead_36 rfl 1 rfl ?_
      refine J_iale (x := (f_kw v N x2) 110 i) dX10_dead_37 (i110 hI) rfl (ix_in (j := i) rfl (by omega) (by omega)) ((congrArg _ (ix_cl (j := i) rfl (by omega))).trans rfl) ?_
      exact J_iret dX10_dead_38 rfl ⟨_, rfl, rfl, by unfold f_dead10; try simp only [nI_clamp (show i < 2 ^ 31 by omega)]; rw [if_neg c1, if_neg c2], by unfold f_dead10; try simp only [nI_clamp (show i < 2 ^ 31 by omega)]; rw [if_neg c1, if_neg c2]⟩
    · refine J_bipush (x := (-2)) dX10_dead_18 (by decide) ?_
      exact J_iret dX10_dead_20 rfl ⟨_, rfl, rfl, by unfold f_dead10; rw [if_neg c1, if_pos c2], by unfold f_dead10; rw [if_neg c1, if_pos c2]⟩
def f_holds10 (v : fr_V) (N : Nat) (x1 x2 : Int32) : Int32 × fr_V := if (f_X1_has v x1) = 0 then ((-1), v) else if (f_X10_isHalf v x2) = 0 then ((-1), v) else if ((f_kw v N x2) 108 x1.toNatClampNeg) = 0 then (0, (f_kw v N x2)) else if (f_X1_isFalse (f_kw v N x2) x1) = 0 then (1, (f_kw v N x2)) else (2, (f_kw v N x2))
theorem k_X10_holds {l : Launch} {I : List Nat} (hI : fr_I I) (v : fr_V) (u : fr_U) (N : Nat) (x1 x2 : Int32) (hN : v 100 5 = nI N) (hW : nt_ok (v 102) (v 103) N) : Con l mX10_holds I v u [.ref 1000, .int x1, .int x2] (QX u (fun a b => a = (f_holds10 v N x1 x2).1 ∧ b = (f_holds10 v N x1 x2).2)) := by
  refine Con.of (by decide) (Nat.le_of_ble_eq_true rfl) ?_
  show J l mX10_holds I v u 0 [(0, .ref 1000), (1, .int x1), (2, .int x2)] [] _
  have hN6 := hW.1
  refine J_aload_n dX10_holds_0 rfl 0 rfl ?_
  refine J_getr (ci := 10) (j := 5) (t := 100) dX10_holds_1 fl_X10_38 (i1000 hI) rfl rfl rfl ?_
  refine J_iload_n dX10_holds_4 rfl 1 rfl ?_
  refine J_eVI (z := mX1_has) (As := [.int x1]) (rest := []) (ci := 1) (x := f_X1_has v x1) dX10_holds_5 ml_X10_148 ok_X1_has iv_X1_has (by decide) (i100 hI) rfl rfl rfl rfl (Nat.le_of_ble_eq_true rfl) (k_X1_has hI v u x1) ?_
  refine J_if_eq (tgt := 18) dX10_holds_8 (by decide) (fun c1 => ?_) (fun c1 => ?_)
  · refine J_iconst (x := (-1)) dX10_holds_18 (by decide) ?_
    exact J_iret dX10_holds_19 rfl ⟨_, rfl, rfl, by unfold f_holds10; rw [if_pos c1], by unfold f_holds10; rw [if_pos c1]⟩
  · refine J_iload_n dX10_holds_11 rfl 2 rfl ?_
    refine J_eSI (z := mX10_isHalf) (As := [.int x2]) (rest := []) (x := f_X10_isHalf v x2) dX10_holds_12 ml_X10_141 ok_X10_isHalf iv_X10_isHalf (by decide) rfl rfl (Nat.le_of_ble_eq_true rfl) (k_X10_isHalf hI v u x2) ?_
    refine J_if_ne (tgt := 20) dX10_holds_15 (by decide) (fun c2 => ?_) (fun c2 => ?_)
    · obtain ⟨i, hi, rfl⟩ := has1N hN hW.1 c1
      refine J_aload_n dX10_holds_20 rfl 0 rfl ?_
      refine J_getr (ci := 10) (j := 5) (t := 100) dX10_holds_21 fl_X10_38 (i1000 hI) rfl rfl rfl ?_
      refine J_iload_n dX10_holds_24 rfl 2 rfl ?_
      refine J_eVN (z := mX1_know) (As := [.int x2]) (rest := []) (ci := 1) (w := (f_kw v N x2)) dX10_holds_25 ml_X10_149 ok_X1_know iv_X1_know (by decide) (i100 hI) rfl rfl rfl rfl (Nat.le_of_ble_eq_true rfl) (k_X1_know hI v u x2 N hN hW) ?_
      refine J_aload_n dX10_holds_28 rfl 0 rfl ?_
      refine J_getr (ci := 10) (j := 5) (t := 100) dX10_holds_29 fl_X10_38 (i1000 hI) rfl rfl rfl ?_
      refine J_getr (ci := 1) (j := 7) (t := 108) dX10_holds_32 fl_X10_156 (i100 hI) rfl rfl rfl ?_
      refine J_iload_n dX10_holds_35 rfl 1 rfl ?_
      refine J_zale (x := (f_kw v N x2) 108 i) dX10_holds_36 (i108 hI) rfl (ix_in (j := i) rfl (by omega) (by omega)) ((congrArg _ (ix_cl (j := i) rfl (by omega))).trans rfl) ?_
      refine J_if_ne (tgt := 42) dX10_holds_37 (by decide) (fun c3 => ?_) (fun c3 => ?_)
      · refine J_aload_n dX10_holds_42 rfl 0 rfl ?_
        refine J_getr (ci := 10) (j := 5) (t := 100) dX10_holds_43 fl_X10_38 (i1000 hI) rfl rfl rfl ?_
        refine J_iload_n dX10_holds_46 rfl 1 rfl ?_
        refine J_eVI (z := mX1_isFalse) (As := [.int (nI i)]) (rest := []) (ci := 1) (x := f_X1_isFalse (f_kw v N x2) (nI i)) dX10_holds_47 ml_X10_160 ok_X1_isFalse iv_X1_isFalse (by decide) (i100 hI) rfl rfl rfl rfl (Nat.le_of_ble_eq_true rfl) (k_X1_isFalse hI (f_kw v N x2) u (nI i) (vp_in_nI (by omega) (by omega))) ?_
        refine J_if_eq (tgt := 57) dX10_holds_50 (by decide) (fun c4 => ?_) (fun c4 => ?_)
        · refine J_iconst (x := 1) dX10_holds_57 (by decide) ?_
          exact J_iret dX10_holds_58 rfl ⟨_, rfl, rfl, by unfold f_holds10; try simp only [nI_clamp (show i < 2 ^ 31 by omega)]; rw [if_neg c1, if_neg c2, if_neg c3, if_pos c4], by unfold f_holds10; try simp only [nI_clamp (show i < 2 ^ 31 by omega)]; rw [if_neg c1, if_neg c2, if_neg c3, if_pos c4]⟩
        · refine J_iconst (x := 2) dX10_holds_53 (by decide) ?_
          refine J_goto (tgt := 58) dX10_holds_54 (by decide) ?_
          exact J_iret dX10_holds_58 rfl ⟨_, rfl, rfl, by unfold f_holds10; try simp only [nI_clamp (show i < 2 ^ 31 by omega)]; rw [if_neg c1, if_neg c2, if_neg c3, if_neg c4], by unfold f_holds10; try simp only [nI_clamp (show i < 2 ^ 31 by omega)]; rw [if_neg c1, if_neg c2, if_neg c3, if_neg c4]⟩
      · refine J_iconst (x := 0) dX10_holds_40 (by decide) ?_
        exact J_iret dX10_holds_41 rfl ⟨_, rfl, rfl, by unfold f_holds10; try simp only [nI_clamp (show i < 2 ^ 31 by omega)]; rw [if_neg c1, if_neg c2, if_pos c3], by unfold f_holds10; try simp only [nI_clamp (show i < 2 ^ 31 by omega)]; rw [if_neg c1, if_neg c2, if_pos c3]⟩
    · refine J_iconst (x := (-1)) dX10_holds_18 (by decide) ?_
      exact J_iret dX10_holds_19 rfl ⟨_, rfl, rfl, by unfold f_holds10; rw [if_neg c1, if_pos c2], by unfold f_holds10; rw [if_neg c1, if_pos c2]⟩
def f_parts10 (v : fr_V) (NS : Nat) (x1 x2 x3 : Int32) : Int32 × fr_V := if (f_X3_has v x1) = 0 then ((-1), v) else if (f_X10_isHolder v x2) = 0 then ((-1), v) else if (f_X10_isHalf v x3) = 0 then ((-1), v) else (hdR v NS x1.toNatClampNeg x3 x2.toNatClampNeg, upA v 310 (hdR v NS x1.toNatClampNeg x3))
theorem k_X10_parts {l : Launch} {I : List Nat} (hI : fr_I I) (v : fr_V) (u : fr_U) (NS : Nat) (x1 x2 x3 : Int32) (nr : Nat) (hn : rnOK I nr v) (hS : v 300 8 = nI NS) (hS2 : NS ≤ 40) (hq : ∀ j, j < NS → vp_in (v 305 j) 8 ∧ vp_in (v 306 j) 8) (hh : ∀ r, r < nr → vp_in (v (2000 + 10 * r) 0) 8) : Con l mX10_parts I v u [.ref 1000, .int x1, .int x2, .int x3] (QX u (fun a b => a = (f_parts10 v NS x1 x2 x3).1 ∧ b = (f_parts10 v NS x1 x2 x3).2)) := by
  refine Con.of (by decide) (Nat.le_of_ble_eq_true rfl) ?_
  show J l mX10_parts I v u 0 [(0, .ref 1000), (1, .int x1), (2, .int x2), (3, .int x3)] [] _
  have hn16 := hn.1
  refine J_aload_n dX10_parts_0 rfl 0 rfl ?_
  refine J_getr (ci := 10) (j := 6) (t := 300) dX10_parts_1 fl_X10_47 (i1000 hI) rfl rfl rfl ?_
  refine J_iload_n dX10_parts_4 rfl 1 rfl ?_
  refine J_eVI (z := mX3_has) (As := [.int x1]) (rest := []) (ci := 3) (x := f_X3_has v x1) dX10_parts_5 ml_X10_132 ok_X3_has iv_X3_has (by decide) (i300 hI) rfl rfl rfl rfl (Nat.le_of_ble_eq_true rfl) (k_X3_has hI v u x1) ?_
  refine J_if_eq (tgt := 25) dX10_parts_8 (by decide) (fun c1 => ?_) (fun c1 => ?_)
  · refine J_iconst (x := (-1)) dX10_parts_25 (by decide) ?_
    exact J_iret dX10_parts_26 rfl ⟨_, rfl, rfl, by unfold f_parts10; rw [if_pos c1], by unfold f_parts10; rw [if_pos c1]⟩
  · refine J_iload_n dX10_parts_11 rfl 2 rfl ?_
    refine J_eSI (z := mX10_isHolder) (As := [.int x2]) (rest := []) (x := f_X10_isHolder v x2) dX10_parts_12 ml_X10_116 ok_X10_isHolder iv_X10_isHolder (by decide) rfl rfl (Nat.le_of_ble_eq_true rfl) (k_X10_isHolder hI v u x2) ?_
    refine J_if_eq (tgt := 25) dX10_parts_15 (by decide) (fun c2 => ?_) (fun c2 => ?_)
    · refine J_iconst (x := (-1)) dX10_parts_25 (by decide) ?_
      exact J_iret dX10_parts_26 rfl ⟨_, rfl, rfl, by unfold f_parts10; rw [if_neg c1, if_pos c2], by unfold f_parts10; rw [if_neg c1, if_pos c2]⟩
    · refine J_iload_n dX10_parts_18 rfl 3 rfl ?_
      refine J_eSI (z := mX10_isHalf) (As := [.int x3]) (rest := []) (x := f_X10_isHalf v x3) dX10_parts_19 ml_X10_141 ok_X10_isHalf iv_X10_isHalf (by decide) rfl rfl (Nat.le_of_ble_eq_true rfl) (k_X10_isHalf hI v u x3) ?_
      refine J_if_ne (tgt := 27) dX10_parts_22 (by decide) (fun c3 => ?_) (fun c3 => ?_)
      · obtain ⟨r, hr, rfl⟩ := has3N hn.2.1 hn.1 c1
        obtain ⟨q, hq8, rfl⟩ := hldN c2
        refine J_aload_n dX10_parts_27 rfl 0 rfl ?_
        refine J_getr (ci := 10) (j := 6) (t := 300) dX10_parts_28 fl_X10_47 (i1000 hI) rfl rfl rfl ?_
        refine J_iload_n dX10_parts_31 rfl 1 rfl ?_
        refine J_iload_n dX10_parts_32 rfl 2 rfl ?_
        refine J_iload_n dX10_parts_33 rfl 3 rfl ?_
        refine J_eVX (z := mX3_heldBy) (As := [.int (nI r), .int (nI q), .int x3]) (rest := []) (ci := 3) (x := hdR v NS r x3 q) (w := upA v 310 (hdR v NS r x3)) dX10_parts_34 ml_X10_133 ok_X3_heldBy iv_X3_heldBy (by decide) (i300 hI) rfl rfl rfl rfl (Nat.le_of_ble_eq_true rfl) ((by have h := k_X3_heldBy (l := l) hI v u nr r NS hn hr (nI q) x3 hS hS2 hq (hh r hr) (vp_in_nI (by omega) (by omega)); rw [nI_clamp (show q < 2 ^ 31 by omega)] at h; exact h)) ?_
        exact J_iret dX10_parts_37 rfl ⟨_, rfl, rfl, by unfold f_parts10; try simp only [nI_clamp (show r < 2 ^ 31 by omega), nI_clamp (show q < 2 ^ 31 by omega)]; rw [if_neg c1, if_neg c2, if_neg c3], by unfold f_parts10; try simp only [nI_clamp (show r < 2 ^ 31 by omega), nI_clamp (show q < 2 ^ 31 by omega)]; rw [if_neg c1, if_neg c2, if_neg c3]⟩
      · refine J_iconst (x := (-1)) dX10_parts_25 (by decide) ?_
        exact J_iret dX10_parts_26 rfl ⟨_, rfl, rfl, by unfold f_parts10; rw [if_neg c1, if_neg c2, if_pos c3], by unfold f_parts10; rw [if_neg c1, if_neg c2, if_pos c3]⟩
def f_sell10 (v : fr_V) (NS : Nat) (x1 x2 x3 x4 : Int32) : Int32 × fr_V := if (f_X3_has v x1) = 0 then (0, v) else if (f_X10_isHolder v x2) = 0 then (0, v) else if (f_X10_isHolder v x3) = 0 then (0, v) else if x2 = x3 then (0, v) else if x4 < 1 then (0, v) else if x4 ≤ (hdR v NS x1.toNatClampNeg (v 1000 3) x2.toNatClampNeg) then ((f_X3_passOn (upA v 310 (hdR v NS x1.toNatClampNeg (v 1000 3))) x1 x2 x3 x4 (v 1000 3)).1, (f_X3_passOn (upA v 310 (hdR v NS x1.toNatClampNeg (v 1000 3))) x1 x2 x3 x4 (v 1000 3)).2) else (0, upA v 310 (hdR v NS x1.toNatClampNeg (v 1000 3)))
theorem k_X10_sell {l : Launch} {I : List Nat} (hI : fr_I I) (v : fr_V) (u : fr_U) (NS : Nat) (x1 x2 x3 x4 : Int32) (nr : Nat) (hn : rnOK I nr v) (hS : v 300 8 = nI NS) (hS2 : NS ≤ 40) (hq : ∀ j, j < NS → vp_in (v 305 j) 8 ∧ vp_in (v 306 j) 8) (hh : ∀ r, r < nr → vp_in (v (2000 + 10 * r) 0) 8) : Con l mX10_sell I v u [.ref 1000, .int x1, .int x2, .int x3, .int x4] (QX u (fun a b => a = (f_sell10 v NS x1 x2 x3 x4).1 ∧ b = (f_sell10 v NS x1 x2 x3 x4).2)) := by
  refine Con.of (by decide) (Nat.le_of_ble_eq_true rfl) ?_
  show J l mX10_sell I v u 0 [(0, .ref 1000), (1, .int x1), (2, .int x2), (3, .int x3), (4, .int x4)] [] _
  have hn16 := hn.1
  refine J_aload_n dX10_sell_0 rfl 0 rfl ?_
  refine J_getr (ci := 10) (j := 6) (t := 300) dX10_sell_1 fl_X10_47 (i1000 hI) rfl rfl rfl ?_
  refine J_iload_n dX10_sell_4 rfl 1 rfl ?_
  refine J_eVI (z := mX3_has) (As := [.int x1]) (rest := []) (ci := 3) (x := f_X3_has v x1) dX10_sell_5 ml_X10_132 ok_X3_has iv_X3_has (by decide) (i300 hI) rfl rfl rfl rfl (Nat.le_of_ble_eq_true rfl) (k_X3_has hI v u x1) ?_
  refine J_if_eq (tgt := 30) dX10_sell_8 (by decide) (fun c1 => ?_) (fun c1 => ?_)
  · refine J_iconst (x := 0) dX10_sell_30 (by decide) ?_
    exact J_zret dX10_sell_31 rfl (by decide) ⟨_, rfl, rfl, by unfold f_sell10; rw [if_pos c1], by unfold f_sell10; rw [if_pos c1]⟩
  · refine J_iload_n dX10_sell_11 rfl 2 rfl ?_
    refine J_eSI (z := mX10_isHolder) (As := [.int x2]) (rest := []) (x := f_X10_isHolder v x2) dX10_sell_12 ml_X10_116 ok_X10_isHolder iv_X10_isHolder (by decide) rfl rfl (Nat.le_of_ble_eq_true rfl) (k_X10_isHolder hI v u x2) ?_
    refine J_if_eq (tgt := 30) dX10_sell_15 (by decide) (fun c2 => ?_) (fun c2 => ?_)
    · refine J_iconst (x := 0) dX10_sell_30 (by decide) ?_
      exact J_zret dX10_sell_31 rfl (by decide) ⟨_, rfl, rfl, by unfold f_sell10; rw [if_neg c1, if_pos c2], by unfold f_sell10; rw [if_neg c1, if_pos c2]⟩
    · refine J_iload_n dX10_sell_18 rfl 3 rfl ?_
      refine J_eSI (z := mX10_isHolder) (As := [.int x3]) (rest := []) (x := f_X10_isHolder v x3) dX10_sell_19 ml_X10_116 ok_X10_isHolder iv_X10_isHolder (by decide) rfl rfl (Nat.le_of_ble_eq_true rfl) (k_X10_isHolder hI v u x3) ?_
      refine J_if_eq (tgt := 30) dX10_sell_22 (by decide) (fun c3 => ?_) (fun c3 => ?_)
      · refine J_iconst (x := 0) dX10_sell_30 (by decide) ?_
        exact J_zret dX10_sell_31 rfl (by decide) ⟨_, rfl, rfl, by unfold f_sell10; rw [if_neg c1, if_neg c2, if_pos c3], by unfold f_sell10; rw [if_neg c1, if_neg c2, if_pos c3]⟩
      · refine J_iload_n dX10_sell_25 rfl 2 rfl ?_
        refine J_iload_n dX10_sell_26 rfl 3 rfl ?_
        refine J_icmp_ne (tgt := 32) dX10_sell_27 (by decide) (fun c4 => ?_) (fun c4 => ?_)
        · obtain ⟨r, hr, rfl⟩ := has3N hn.2.1 hn.1 c1
          obtain ⟨q, hq8, rfl⟩ := hldN c2
          refine J_iload dX10_sell_32 4 rfl ?_
          refine J_iconst (x := 1) dX10_sell_34 (by decide) ?_
          refine J_icmp_lt (tgt := 56) dX10_sell_35 (by decide) (fun c5 => ?_) (fun c5 => ?_)
          · refine J_iconst (x := 0) dX10_sell_56 (by decide) ?_
            exact J_zret dX10_sell_57 rfl (by decide) ⟨_, rfl, rfl, by unfold f_sell10; try simp only [nI_clamp (show r < 2 ^ 31 by omega), nI_clamp (show q < 2 ^ 31 by omega)]; rw [if_neg c1, if_neg c2, if_neg c3, if_neg c4, if_pos c5], by unfold f_sell10; try simp only [nI_clamp (show r < 2 ^ 31 by omega), nI_clamp (show q < 2 ^ 31 by omega)]; rw [if_neg c1, if_neg c2, if_neg c3, if_neg c4, if_pos c5]⟩
          · refine J_iload dX10_sell_38 4 rfl ?_
            refine J_aload_n dX10_sell_40 rfl 0 rfl ?_
            refine J_getr (ci := 10) (j := 6) (t := 300) dX10_sell_41 fl_X10_47 (i1000 hI) rfl rfl rfl ?_
            refine J_iload_n dX10_sell_44 rfl 1 rfl ?_
            refine J_iload_n dX10_sell_45 rfl 2 rfl ?_
            refine J_aload_n dX10_sell_46 rfl 0 rfl ?_
            refine J_gete (ci := 10) (j := 3) (x := v 1000 3) dX10_sell_47 fl_X10_92 (i1000 hI) rfl rfl rfl ?_
            refine J_eVX (z := mX3_heldBy) (As := [.int (nI r), .int (nI q), .int (v 1000 3)]) (rest := [.int x4]) (ci := 3) (x := hdR v NS r (v 1000 3) q) (w := upA v 310 (hdR v NS r (v 1000 3))) dX10_sell_50 ml_X10_133 ok_X3_heldBy iv_X3_heldBy (by decide) (i300 hI) rfl rfl rfl rfl (Nat.le_of_ble_eq_true rfl) ((by have h := k_X3_heldBy (l := l) hI v u nr r NS hn hr (nI q) (v 1000 3) hS hS2 hq (hh r hr) (vp_in_nI (by omega) (by omega)); rw [nI_clamp (show q < 2 ^ 31 by omega)] at h; exact h)) ?_
            refine J_icmp_le (tgt := 58) dX10_sell_53 (by decide) (fun c6 => ?_) (fun c6 => ?_)
            · refine J_aload_n dX10_sell_58 rfl 0 rfl ?_
              refine J_getr (ci := 10) (j := 6) (t := 300) dX10_sell_59 fl_X10_47 (i1000 hI) rfl rfl rfl ?_
              refine J_iload_n dX10_sell_62 rfl 1 rfl ?_
              refine J_iload_n dX10_sell_63 rfl 2 rfl ?_
              refine J_iload_n dX10_sell_64 rfl 3 rfl ?_
              refine J_iload dX10_sell_65 4 rfl ?_
              refine J_aload_n dX10_sell_67 rfl 0 rfl ?_
              refine J_gete (ci := 10) (j := 3) (x := v 1000 3) dX10_sell_68 fl_X10_92 (i1000 hI) rfl rfl rfl ?_
              refine J_eVX (z := mX3_passOn) (As := [.int (nI r), .int (nI q), .int x3, .int x4, .int (v 1000 3)]) (rest := []) (ci := 3) (x := (f_X3_passOn (upA v 310 (hdR v NS r (v 1000 3))) (nI r) (nI q) x3 x4 (v 1000 3)).1) (w := (f_X3_passOn (upA v 310 (hdR v NS r (v 1000 3))) (nI r) (nI q) x3 x4 (v 1000 3)).2) dX10_sell_71 ml_X10_137 ok_X3_passOn iv_X3_passOn (by decide) (i300 hI) rfl rfl rfl rfl (Nat.le_of_ble_eq_true rfl) (k_X3_passOn hI (upA v 310 (hdR v NS r (v 1000 3))) u (nI r) (nI q) x3 x4 (v 1000 3) NS hS (by omega)) ?_
              exact J_zret dX10_sell_74 rfl (pass_b _ _ _ _ _ _) ⟨_, rfl, rfl, by unfold f_sell10; try simp only [nI_clamp (show r < 2 ^ 31 by omega), nI_clamp (show q < 2 ^ 31 by omega)]; rw [if_neg c1, if_neg c2, if_neg c3, if_neg c4, if_neg c5, if_pos c6], by unfold f_sell10; try simp only [nI_clamp (show r < 2 ^ 31 by omega), nI_clamp (show q < 2 ^ 31 by omega)]; rw [if_neg c1, if_neg c2, if_neg c3, if_neg c4, if_neg c5, if_pos c6]⟩
            · refine J_iconst (x := 0) dX10_sell_56 (by decide) ?_
              exact J_zret dX10_sell_57 rfl (by decide) ⟨_, rfl, rfl, by unfold f_sell10; try simp only [nI_clamp (show r < 2 ^ 31 by omega), nI_clamp (show q < 2 ^ 31 by omega)]; rw [if_neg c1, if_neg c2, if_neg c3, if_neg c4, if_neg c5, if_neg c6], by unfold f_sell10; try simp only [nI_clamp (show r < 2 ^ 31 by omega), nI_clamp (show q < 2 ^ 31 by omega)]; rw [if_neg c1, if_neg c2, if_neg c3, if_neg c4, if_neg c5, if_neg c6]⟩
        · refine J_iconst (x := 0) dX10_sell_30 (by decide) ?_
          exact J_zret dX10_sell_31 rfl (by decide) ⟨_, rfl, rfl, by unfold f_sell10; rw [if_neg c1, if_neg c2, if_neg c3, if_pos c4], by unfold f_sell10; rw [if_neg c1, if_neg c2, if_neg c3, if_pos c4]⟩
def f_sold10 (v : fr_V) (x1 x2 x3 : Int32) : Int32 × fr_V := if (f_X10_isClass v x1) = 0 then (0, v) else if (f_X10_isGroup v x2) = 0 then (0, v) else if x3 < 0 then (0, v) else if x3 ≤ 1000 then (1, up2 v (910 + x1.toNatClampNeg) x2.toNatClampNeg x3) else (0, v)
theorem k_X10_sold {l : Launch} {I : List Nat} (hI : fr_I I) (v : fr_V) (u : fr_U) (x1 x2 x3 : Int32) : Con l mX10_sold I v u [.ref 1000, .int x1, .int x2, .int x3] (QX u (fun a b => a = (f_sold10 v x1 x2 x3).1 ∧ b = (f_sold10 v x1 x2 x3).2)) := by
  refine Con.of (by decide) (Nat.le_of_ble_eq_true rfl) ?_
  show J l mX10_sold I v u 0 [(0, .ref 1000), (1, .int x1), (2, .int x2), (3, .int x3)] [] _
  refine J_iload_n dX10_sold_0 rfl 1 rfl ?_
  refine J_eSI (z := mX10_isClass) (As := [.int x1]) (rest := []) (x := f_X10_isClass v x1) dX10_sold_1 ml_X10_95 ok_X10_isClass iv_X10_isClass (by decide) rfl rfl (Nat.le_of_ble_eq_true rfl) (k_X10_isClass hI v u x1) ?_
  refine J_if_eq (tgt := 25) dX10_sold_4 (by decide) (fun c1 => ?_) (fun c1 => ?_)
  · refine J_iconst (x := 0) dX10_sold_25 (by decide) ?_
    exact J_zret dX10_sold_26 rfl (by decide) ⟨_, rfl, rfl, by unfold f_sold10; rw [if_pos c1], by unfold f_sold10; rw [if_pos c1]⟩
  · refine J_iload_n dX10_sold_7 rfl 2 rfl ?_
    refine J_eSI (z := mX10_isGroup) (As := [.int x2]) (rest := []) (x := f_X10_isGroup v x2) dX10_sold_8 ml_X10_203 ok_X10_isGroup iv_X10_isGroup (by decide) rfl rfl (Nat.le_of_ble_eq_true rfl) (k_X10_isGroup hI v u x2) ?_
    refine J_if_eq (tgt := 25) dX10_sold_11 (by decide) (fun c2 => ?_) (fun c2 => ?_)
    · refine J_iconst (x := 0) dX10_sold_25 (by decide) ?_
      exact J_zret dX10_sold_26 rfl (by decide) ⟨_, rfl, rfl, by unfold f_sold10; rw [if_neg c1, if_pos c2], by unfold f_sold10; rw [if_neg c1, if_pos c2]⟩
    · refine J_iload_n dX10_sold_14 rfl 3 rfl ?_
      refine J_if_lt (tgt := 25) dX10_sold_15 (by decide) (fun c3 => ?_) (fun c3 => ?_)
      · refine J_iconst (x := 0) dX10_sold_25 (by decide) ?_
        exact J_zret dX10_sold_26 rfl (by decide) ⟨_, rfl, rfl, by unfold f_sold10; rw [if_neg c1, if_neg c2, if_pos c3], by unfold f_sold10; rw [if_neg c1, if_neg c2, if_pos c3]⟩
      · refine J_iload_n dX10_sold_18 rfl 3 rfl ?_
        refine J_sipush (x := 1000) dX10_sold_19 (by decide) ?_
        refine J_icmp_le (tgt := 27) dX10_sold_22 (by decide) (fun c4 => ?_) (fun c4 => ?_)
        · obtain ⟨c, hc, rfl⟩ := clsN c1
          obtain ⟨g, hg, rfl⟩ := grpN c2
          refine J_aload_n dX10_sold_27 rfl 0 rfl ?_
          refine J_getr (ci := 10) (j := 7) (t := 900) dX10_sold_28 fl_X10_56 (i1000 hI) rfl rfl rfl ?_
          refine J_getr (ci := 8) (j := 2) (t := 903) dX10_sold_31 fl_X10_206 (i900 hI) rfl rfl rfl ?_
          refine J_iload_n dX10_sold_34 rfl 1 rfl ?_
          refine J_aldM (t := 910 + c) dX10_sold_35 (i903 hI) rfl (vp_in_nI (by omega) (by omega)) (by rw [nI_clamp (by omega)]; rfl) ?_
          refine J_iload_n dX10_sold_36 rfl 2 rfl ?_
          refine J_iload_n dX10_sold_37 rfl 3 rfl ?_
          refine J_iase (j := g) dX10_sold_38 (i_sold hI hc) (s_sold hc) (ix_in (j := g) rfl (by omega) (by omega)) (ix_cl (j := g) rfl (by omega)) ?_
          refine J_iconst (x := 1) dX10_sold_39 (by decide) ?_
          exact J_zret dX10_sold_40 rfl (by decide) ⟨_, rfl, rfl, by unfold f_sold10; try simp only [nI_clamp (show c < 2 ^ 31 by omega), nI_clamp (show g < 2 ^ 31 by omega)]; rw [if_neg c1, if_neg c2, if_neg c3, if_pos c4], by unfold f_sold10; try simp only [nI_clamp (show c < 2 ^ 31 by omega), nI_clamp (show g < 2 ^ 31 by omega)]; rw [if_neg c1, if_neg c2, if_neg c3, if_pos c4]⟩
        · refine J_iconst (x := 0) dX10_sold_25 (by decide) ?_
          exact J_zret dX10_sold_26 rfl (by decide) ⟨_, rfl, rfl, by unfold f_sold10; rw [if_neg c1, if_neg c2, if_neg c3, if_neg c4], by unfold f_sold10; rw [if_neg c1, if_neg c2, if_neg c3, if_neg c4]⟩
def f_named10 (v : fr_V) (x1 : Int32) : Int32 := if (f_X5_has v x1) = 0 then (-1) else if (v 200 10) = 0 then (-1) else v 210 x1.toNatClampNeg
theorem k_X10_named {l : Launch} {I : List Nat} (hI : fr_I I) (v : fr_V) (u : fr_U) (x1 : Int32) (n : Nat) (hn : v 500 2 = nI n) (hn2 : n ≤ 12) : Con l mX10_named I v u [.ref 1000, .int x1] (QI v u (fun a => a = f_named10 v x1)) := by
  refine Con.of (by decide) (Nat.le_of_ble_eq_true rfl) ?_
  show J l mX10_named I v u 0 [(0, .ref 1000), (1, .int x1)] [] _
  refine J_aload_n dX10_named_0 rfl 0 rfl ?_
  refine J_getr (ci := 10) (j := 4) (t := 500) dX10_named_1 fl_X10_29 (i1000 hI) rfl rfl rfl ?_
  refine J_iload_n dX10_named_4 rfl 1 rfl ?_
  refine J_eVI (z := mX5_has) (As := [.int x1]) (rest := []) (ci := 5) (x := f_X5_has v x1) dX10_named_5 ml_X10_103 ok_X5_has iv_X5_has (by decide) (i500 hI) rfl rfl rfl rfl (Nat.le_of_ble_eq_true rfl) (k_X5_has hI v u x1) ?_
  refine J_if_eq (tgt := 21) dX10_named_8 (by decide) (fun c1 => ?_) (fun c1 => ?_)
  · refine J_iconst (x := (-1)) dX10_named_21 (by decide) ?_
    exact J_iret dX10_named_22 rfl ⟨_, rfl, rfl, rfl, by unfold f_named10; rw [if_pos c1]⟩
  · refine J_aload_n dX10_named_11 rfl 0 rfl ?_
    refine J_getr (ci := 10) (j := 8) (t := 200) dX10_named_12 fl_X10_63 (i1000 hI) rfl rfl rfl ?_
    refine J_gete (ci := 2) (j := 10) (x := v 200 10) dX10_named_15 fl_X10_248 (i200 hI) rfl rfl rfl ?_
    refine J_if_ne (tgt := 23) dX10_named_18 (by decide) (fun c2 => ?_) (fun c2 => ?_)
    · obtain ⟨i, hi, rfl⟩ := has5N hn hn2 c1
      refine J_aload_n dX10_named_23 rfl 0 rfl ?_
      refine J_getr (ci := 10) (j := 8) (t := 200) dX10_named_24 fl_X10_63 (i1000 hI) rfl rfl rfl ?_
      refine J_getr (ci := 2) (j := 9) (t := 210) dX10_named_27 fl_X10_252 (i200 hI) rfl rfl rfl ?_
      refine J_iload_n dX10_named_30 rfl 1 rfl ?_
      refine J_iale (x := v 210 i) dX10_named_31 (i210 hI) rfl (ix_in (j := i) rfl (by omega) (by omega)) ((congrArg _ (ix_cl (j := i) rfl (by omega))).trans rfl) ?_
      exact J_iret dX10_named_32 rfl ⟨_, rfl, rfl, rfl, by unfold f_named10; try simp only [nI_clamp (show i < 2 ^ 31 by omega)]; rw [if_neg c1, if_neg c2]⟩
    · refine J_iconst (x := (-1)) dX10_named_21 (by decide) ?_
      exact J_iret dX10_named_22 rfl ⟨_, rfl, rfl, rfl, by unfold f_named10; rw [if_neg c1, if_pos c2]⟩
def f_yl (v : fr_V) (x1 : Int32) : Int32 := if (f_X5_has v x1) = 0 then 0 else if 100 ≤ (f_X5_ageIn v x1 (v 1000 3)) then 0 else 1
theorem k_X10_hasYearsLeft {l : Launch} {I : List Nat} (hI : fr_I I) (v : fr_V) (u : fr_U) (x1 : Int32) (n : Nat) (hn : v 500 2 = nI n) (hn2 : n ≤ 12) : Con l mX10_hasYearsLeft I v u [.ref 1000, .int x1] (QI v u (fun a => a = f_yl v x1)) := by
  refine Con.of (by decide) (Nat.le_of_ble_eq_true rfl) ?_
  show J l mX10_hasYearsLeft I v u 0 [(0, .ref 1000), (1, .int x1)] [] _
  refine J_aload_n dX10_hasYearsLeft_0 rfl 0 rfl ?_
  refine J_getr (ci := 10) (j := 4) (t := 500) dX10_hasYearsLeft_1 fl_X10_29 (i1000 hI) rfl rfl rfl ?_
  refine J_iload_n dX10_hasYearsLeft_4 rfl 1 rfl ?_
  refine J_eVI (z := mX5_has) (As := [.int x1]) (rest := []) (ci := 5) (x := f_X5_has v x1) dX10_hasYearsLeft_5 ml_X10_103 ok_X5_has iv_X5_has (by decide) (i500 hI) rfl rfl rfl rfl (Nat.le_of_ble_eq_true rfl) (k_X5_has hI v u x1) ?_
  refine J_if_eq (tgt := 32) dX10_hasYearsLeft_8 (by decide) (fun c1 => ?_) (fun c1 => ?_)
  · refine J_iconst (x := 0) dX10_hasYearsLeft_32 (by decide) ?_
    exact J_zret dX10_hasYearsLeft_33 rfl (by decide) ⟨_, rfl, rfl, rfl, by unfold f_yl; rw [if_pos c1]⟩
  · obtain ⟨i, hi, rfl⟩ := has5N hn hn2 c1
    refine J_aload_n dX10_hasYearsLeft_11 rfl 0 rfl ?_
    refine J_getr (ci := 10) (j := 4) (t := 500) dX10_hasYearsLeft_12 fl_X10_29 (i1000 hI) rfl rfl rfl ?_
    refine J_iload_n dX10_hasYearsLeft_15 rfl 1 rfl ?_
    refine J_aload_n dX10_hasYearsLeft_16 rfl 0 rfl ?_
    refine J_gete (ci := 10) (j := 3) (x := v 1000 3) dX10_hasYearsLeft_17 fl_X10_92 (i1000 hI) rfl rfl rfl ?_
    refine J_eVI (z := mX5_ageIn) (As := [.int (nI i), .int (v 1000 3)]) (rest := []) (ci := 5) (x := f_X5_ageIn v (nI i) (v 1000 3)) dX10_hasYearsLeft_20 ml_X10_292 ok_X5_ageIn iv_X5_ageIn (by decide) (i500 hI) rfl rfl rfl rfl (Nat.le_of_ble_eq_true rfl) (k_X5_ageIn hI v u (nI i) (v 1000 3) (vp_in_nI (by omega) (by omega))) ?_
    refine J_bipush (x := 100) dX10_hasYearsLeft_23 (by decide) ?_
    refine J_icmp_ge (tgt := 32) dX10_hasYearsLeft_25 (by decide) (fun c2 => ?_) (fun c2 => ?_)
    · refine J_iconst (x := 0) dX10_hasYearsLeft_32 (by decide) ?_
      exact J_zret dX10_hasYearsLeft_33 rfl (by decide) ⟨_, rfl, rfl, rfl, by unfold f_yl; try simp only [nI_clamp (show i < 2 ^ 31 by omega)]; rw [if_neg c1, if_pos c2]⟩
    · refine J_iconst (x := 1) dX10_hasYearsLeft_28 (by decide) ?_
      refine J_goto (tgt := 33) dX10_hasYearsLeft_29 (by decide) ?_
      exact J_zret dX10_hasYearsLeft_33 rfl (by decide) ⟨_, rfl, rfl, rfl, by unfold f_yl; try simp only [nI_clamp (show i < 2 ^ 31 by omega)]; rw [if_neg c1, if_neg c2]⟩
def f_asks10 (v : fr_V) (ac : Nat) (m : Nat) (x1 x2 : Int32) : Int32 := if (f_X5_has v x1) = 0 then (-1) else if x2 = 0 then (if (f_may v ac m x1 (-1)) = 0 then 0 else 1) else if x2 = 1 then f_price v ac m x1 (-1) else if x2 = 2 then f_lump v ac m x1 (-1) else (-1)
theorem k_X10_asks {l : Launch} {I : List Nat} (hI : fr_I I) (v : fr_V) (u : fr_U) (ac : Nat) (m : Nat) (x1 x2 : Int32) (hac : ac = 10 ∨ ac = 20) (ha : v 1000 1 = nI ac) (hln : lnOK v ac m) (n : Nat) (hn : v 500 2 = nI n) (hn2 : n ≤ 12) : Con l mX10_asks I v u [.ref 1000, .int x1, .int x2] (QI v u (fun a => a = f_asks10 v ac m x1 x2)) := by
  refine Con.of (by decide) (Nat.le_of_ble_eq_true rfl) ?_
  show J l mX10_asks I v u 0 [(0, .ref 1000), (1, .int x1), (2, .int x2)] [] _
  refine J_aload_n dX10_asks_0 rfl 0 rfl ?_
  refine J_getr (ci := 10) (j := 4) (t := 500) dX10_asks_1 fl_X10_29 (i1000 hI) rfl rfl rfl ?_
  refine J_iload_n dX10_asks_4 rfl 1 rfl ?_
  refine J_eVI (z := mX5_has) (As := [.int x1]) (rest := []) (ci := 5) (x := f_X5_has v x1) dX10_asks_5 ml_X10_103 ok_X5_has iv_X5_has (by decide) (i500 hI) rfl rfl rfl rfl (Nat.le_of_ble_eq_true rfl) (k_X5_has hI v u x1) ?_
  refine J_if_ne (tgt := 13) dX10_asks_8 (by decide) (fun c1 => ?_) (fun c1 => ?_)
  · obtain ⟨i, hi, rfl⟩ := has5N hn hn2 c1
    refine J_iload_n dX10_asks_13 rfl 2 rfl ?_
    by_cases c2 : x2 = 0
    · refine J_tableIn (off := 26) (tgt := 40) dX10_asks_14 (by rw [c2]; decide) (by rw [c2]; decide) (by rw [c2]; decide) (by decide) ?_
      refine J_aload_n dX10_asks_40 rfl 0 rfl ?_
      refine J_iload_n dX10_asks_41 rfl 1 rfl ?_
      refine J_iconst (x := (-1)) dX10_asks_42 (by decide) ?_
      refine J_eVI (z := mX10_mayBeNamed) (As := [.int (nI i), .int (-1)]) (rest := []) (ci := 10) (x := f_may v ac m (nI i) (-1)) dX10_asks_43 ml_X10_106 ok_X10_mayBeNamed iv_X10_mayBeNamed (by decide) (i1000 hI) rfl rfl rfl rfl (Nat.le_of_ble_eq_true rfl) (k_X10_mayBeNamed hI v u ac m (nI i) (-1) hac ha hln (vp_in_nI (by omega) (by omega)) (fun h => absurd rfl h)) ?_
      refine J_if_eq (tgt := 53) dX10_asks_46 (by decide) (fun c3 => ?_) (fun c3 => ?_)
      · refine J_iconst (x := 0) dX10_asks_53 (by decide) ?_
        exact J_iret dX10_asks_54 rfl ⟨_, rfl, rfl, rfl, by unfold f_asks10; try simp only [nI_clamp (show i < 2 ^ 31 by omega)]; rw [if_neg c1, if_pos c2, if_pos c3]⟩
      · refine J_iconst (x := 1) dX10_asks_49 (by decide) ?_
        refine J_goto (tgt := 54) dX10_asks_50 (by decide) ?_
        exact J_iret dX10_asks_54 rfl ⟨_, rfl, rfl, rfl, by unfold f_asks10; try simp only [nI_clamp (show i < 2 ^ 31 by omega)]; rw [if_neg c1, if_pos c2, if_neg c3]⟩
    by_cases c4 : x2 = 1
    · refine J_tableIn (off := 41) (tgt := 55) dX10_asks_14 (by rw [c4]; decide) (by rw [c4]; decide) (by rw [c4]; decide) (by decide) ?_
      refine J_aload_n dX10_asks_55 rfl 0 rfl ?_
      refine J_iload_n dX10_asks_56 rfl 1 rfl ?_
      refine J_iconst (x := (-1)) dX10_asks_57 (by decide) ?_
      refine J_eVI (z := mX10_priceOn) (As := [.int (nI i), .int (-1)]) (rest := []) (ci := 10) (x := f_price v ac m (nI i) (-1)) dX10_asks_58 ml_X10_110 ok_X10_priceOn iv_X10_priceOn (by decide) (i1000 hI) rfl rfl rfl rfl (Nat.le_of_ble_eq_true rfl) (k_X10_priceOn hI v u ac m (nI i) (-1) hac ha hln (vp_in_nI (by omega) (by omega)) (fun h => absurd rfl h)) ?_
      exact J_iret dX10_asks_61 rfl ⟨_, rfl, rfl, rfl, by unfold f_asks10; try simp only [nI_clamp (show i < 2 ^ 31 by omega)]; rw [if_neg c1, if_neg c2, if_pos c4]⟩
    by_cases c5 : x2 = 2
    · refine J_tableIn (off := 48) (tgt := 62) dX10_asks_14 (by rw [c5]; decide) (by rw [c5]; decide) (by rw [c5]; decide) (by decide) ?_
      refine J_aload_n dX10_asks_62 rfl 0 rfl ?_
      refine J_iload_n dX10_asks_63 rfl 1 rfl ?_
      refine J_iconst (x := (-1)) dX10_asks_64 (by decide) ?_
      refine J_eVI (z := mX10_lumpOn) (As := [.int (nI i), .int (-1)]) (rest := []) (ci := 10) (x := f_lump v ac m (nI i) (-1)) dX10_asks_65 ml_X10_113 ok_X10_lumpOn iv_X10_lumpOn (by decide) (i1000 hI) rfl rfl rfl rfl (Nat.le_of_ble_eq_true rfl) (k_X10_lumpOn hI v u ac m (nI i) (-1) hac ha hln (vp_in_nI (by omega) (by omega)) (fun h => absurd rfl h)) ?_
      exact J_iret dX10_asks_68 rfl ⟨_, rfl, rfl, rfl, by unfold f_asks10; try simp only [nI_clamp (show i < 2 ^ 31 by omega)]; rw [if_neg c1, if_neg c2, if_neg c4, if_pos c5]⟩
    refine J_tableOut (tgt := 69) dX10_asks_14 (sw_no 2 (by omega) (fun k hk => by match k, hk with | 0, _ => exact c2 | 1, _ => exact c4 | 2, _ => exact c5 | k + 3, hk => omega)) (by decide) ?_
    refine J_iconst (x := (-1)) dX10_asks_69 (by decide) ?_
    exact J_iret dX10_asks_70 rfl ⟨_, rfl, rfl, rfl, by unfold f_asks10; try simp only [nI_clamp (show i < 2 ^ 31 by omega)]; rw [if_neg c1, if_neg c2, if_neg c4, if_neg c5]⟩
  · refine J_iconst (x := (-1)) dX10_asks_11 (by decide) ?_
    exact J_iret dX10_asks_12 rfl ⟨_, rfl, rfl, rfl, by unfold f_asks10; rw [if_pos c1]⟩
def f_count10 (v : fr_V) (ac : Nat) (x1 : Int32) : Int32 := if x1 = 0 then v 1000 3 else if x1 = 1 then v 500 2 else if x1 = 2 then v 300 2 else if x1 = 3 then v 100 5 else if x1 = 4 then f_set v ac 0 else if x1 = 5 then f_set v ac 1 else if x1 = 6 then f_set v ac 2 else if x1 = 7 then f_set v ac 3 else if x1 = 8 then v ac 1 else (-1)
theorem k_X10_count {l : Launch} {I : List Nat} (hI : fr_I I) (v : fr_V) (u : fr_U) (ac : Nat) (x1 : Int32) (hac : ac = 10 ∨ ac = 20) (ha : v 1000 1 = nI ac) : Con l mX10_count I v u [.ref 1000, .int x1] (QI v u (fun a => a = f_count10 v ac x1)) := by
  refine Con.of (by decide) (Nat.le_of_ble_eq_true rfl) ?_
  show J l mX10_count I v u 0 [(0, .ref 1000), (1, .int x1)] [] _
  refine J_iload_n dX10_count_0 rfl 1 rfl ?_
  by_cases c1 : x1 = 0
  · refine J_tableIn (off := 51) (tgt := 52) dX10_count_1 (by rw [c1]; decide) (by rw [c1]; decide) (by rw [c1]; decide) (by decide) ?_
    refine J_aload_n dX10_count_52 rfl 0 rfl ?_
    refine J_gete (ci := 10) (j := 3) (x := v 1000 3) dX10_count_53 fl_X10_92 (i1000 hI) rfl rfl rfl ?_
    exact J_iret dX10_count_56 rfl ⟨_, rfl, rfl, rfl, by unfold f_count10; rw [if_pos c1]⟩
  by_cases c2 : x1 = 1
  · refine J_tableIn (off := 56) (tgt := 57) dX10_count_1 (by rw [c2]; decide) (by rw [c2]; decide) (by rw [c2]; decide) (by decide) ?_
    refine J_aload_n dX10_count_57 rfl 0 rfl ?_
    refine J_getr (ci := 10) (j := 4) (t := 500) dX10_count_58 fl_X10_29 (i1000 hI) rfl rfl rfl ?_
    refine J_gete (ci := 5) (j := 2) (x := v 500 2) dX10_count_61 fl_X10_236 (i500 hI) rfl rfl rfl ?_
    exact J_iret dX10_count_64 rfl ⟨_, rfl, rfl, rfl, by unfold f_count10; rw [if_neg c1, if_pos c2]⟩
  by_cases c3 : x1 = 2
  · refine J_tableIn (off := 64) (tgt := 65) dX10_count_1 (by rw [c3]; decide) (by rw [c3]; decide) (by rw [c3]; decide) (by decide) ?_
    refine J_aload_n dX10_count_65 rfl 0 rfl ?_
    refine J_getr (ci := 10) (j := 6) (t := 300) dX10_count_66 fl_X10_47 (i1000 hI) rfl rfl rfl ?_
    refine J_gete (ci := 3) (j := 2) (x := v 300 2) dX10_count_69 fl_X10_289 (i300 hI) rfl rfl rfl ?_
    exact J_iret dX10_count_72 rfl ⟨_, rfl, rfl, rfl, by unfold f_count10; rw [if_neg c1, if_neg c2, if_pos c3]⟩
  by_cases c4 : x1 = 3
  · refine J_tableIn (off := 72) (tgt := 73) dX10_count_1 (by rw [c4]; decide) (by rw [c4]; decide) (by rw [c4]; decide) (by decide) ?_
    refine J_aload_n dX10_count_73 rfl 0 rfl ?_
    refine J_getr (ci := 10) (j := 5) (t := 100) dX10_count_74 fl_X10_38 (i1000 hI) rfl rfl rfl ?_
    refine J_gete (ci := 1) (j := 5) (x := v 100 5) dX10_count_77 fl_X10_290 (i100 hI) rfl rfl rfl ?_
    exact J_iret dX10_count_80 rfl ⟨_, rfl, rfl, rfl, by unfold f_count10; rw [if_neg c1, if_neg c2, if_neg c3, if_pos c4]⟩
  by_cases c5 : x1 = 4
  · refine J_tableIn (off := 80) (tgt := 81) dX10_count_1 (by rw [c5]; decide) (by rw [c5]; decide) (by rw [c5]; decide) (by decide) ?_
    refine J_aload_n dX10_count_81 rfl 0 rfl ?_
    refine J_getd (ci := 10) (j := 1) (t := ac) dX10_count_82 fl_X10_19 (i1000 hI) rfl rfl (by rw [show v 1000 1 = nI ac from ha]; exact nI_pos (by omega)) (by rw [show v 1000 1 = nI ac from ha]; exact nI_clamp (by omega)) ?_
    refine J_iconst (x := 0) dX10_count_85 (by decide) ?_
    refine J_eVI (z := mX0_setting) (As := [.int 0]) (rest := []) (ci := 0) (x := f_set v ac 0) dX10_count_86 ml_X10_177 ok_X0_setting iv_X0_setting (by decide) (i_ac hI hac) (s_ac hac) rfl rfl rfl (Nat.le_of_ble_eq_true rfl) (k_X0_setting hI v u hac 0 (by omega)) ?_
    exact J_iret dX10_count_89 rfl ⟨_, rfl, rfl, rfl, by unfold f_count10; rw [if_neg c1, if_neg c2, if_neg c3, if_neg c4, if_pos c5]⟩
  by_cases c6 : x1 = 5
  · refine J_tableIn (off := 89) (tgt := 90) dX10_count_1 (by rw [c6]; decide) (by rw [c6]; decide) (by rw [c6]; decide) (by decide) ?_
    refine J_aload_n dX10_count_90 rfl 0 rfl ?_
    refine J_getd (ci := 10) (j := 1) (t := ac) dX10_count_91 fl_X10_19 (i1000 hI) rfl rfl (by rw [show v 1000 1 = nI ac from ha]; exact nI_pos (by omega)) (by rw [show v 1000 1 = nI ac from ha]; exact nI_clamp (by omega)) ?_
    refine J_iconst (x := 1) dX10_count_94 (by decide) ?_
    refine J_eVI (z := mX0_setting) (As := [.int 1]) (rest := []) (ci := 0) (x := f_set v ac 1) dX10_count_95 ml_X10_177 ok_X0_setting iv_X0_setting (by decide) (i_ac hI hac) (s_ac hac) rfl rfl rfl (Nat.le_of_ble_eq_true rfl) (k_X0_setting hI v u hac 1 (by omega)) ?_
    exact J_iret dX10_count_98 rfl ⟨_, rfl, rfl, rfl, by unfold f_count10; rw [if_neg c1, if_neg c2, if_neg c3, if_neg c4, if_neg c5, if_pos c6]⟩
  by_cases c7 : x1 = 6
  · refine J_tableIn (off := 98) (tgt := 99) dX10_count_1 (by rw [c7]; decide) (by rw [c7]; decide) (by rw [c7]; decide) (by decide) ?_
    refine J_aload_n dX10_count_99 rfl 0 rfl ?_
    refine J_getd (ci := 10) (j := 1) (t := ac) dX10_count_100 fl_X10_19 (i1000 hI) rfl rfl (by rw [show v 1000 1 = nI ac from ha]; exact nI_pos (by omega)) (by rw [show v 1000 1 = nI ac from ha]; exact nI_clamp (by omega)) ?_
    refine J_iconst (x := 2) dX10_count_103 (by decide) ?_
    refine J_eVI (z := mX0_setting) (As := [.int 2]) (rest := []) (ci := 0) (x := f_set v ac 2) dX10_count_104 ml_X10_177 ok_X0_setting iv_X0_setting (by decide) (i_ac hI hac) (s_ac hac) rfl rfl rfl (Nat.le_of_ble_eq_true rfl) (k_X0_setting hI v u hac 2 (by omega)) ?_
    exact J_iret dX10_count_107 rfl ⟨_, rfl, rfl, rfl, by unfold f_count10; rw [if_neg c1, if_neg c2, if_neg c3, if_neg c4, if_neg c5, if_neg c6, if_pos c7]⟩
  by_cases c8 : x1 = 7
  · refine J_tableIn (off := 107) (tgt := 108) dX10_count_1 (by rw [c8]; decide) (by rw [c8]; decide) (by rw [c8]; decide) (by decide) ?_
    refine J_aload_n dX10_count_108 rfl 0 rfl ?_
    refine J_getd (ci := 10) (j := 1) (t := ac) dX10_count_109 fl_X10_19 (i1000 hI) rfl rfl (by rw [show v 1000 1 = nI ac from ha]; exact nI_pos (by omega)) (by rw [show v 1000 1 = nI ac from ha]; exact nI_clamp (by omega)) ?_
    refine J_iconst (x := 3) dX10_count_112 (by decide) ?_
    refine J_eVI (z := mX0_setting) (As := [.int 3]) (rest := []) (ci := 0) (x := f_set v ac 3) dX10_count_113 ml_X10_177 ok_X0_setting iv_X0_setting (by decide) (i_ac hI hac) (s_ac hac) rfl rfl rfl (Nat.le_of_ble_eq_true rfl) (k_X0_setting hI v u hac 3 (by omega)) ?_
    exact J_iret dX10_count_116 rfl ⟨_, rfl, rfl, rfl, by unfold f_count10; rw [if_neg c1, if_neg c2, if_neg c3, if_neg c4, if_neg c5, if_neg c6, if_neg c7, if_pos c8]⟩
  by_cases c9 : x1 = 8
  · refine J_tableIn (off := 116) (tgt := 117) dX10_count_1 (by rw [c9]; decide) (by rw [c9]; decide) (by rw [c9]; decide) (by decide) ?_
    refine J_aload_n dX10_count_117 rfl 0 rfl ?_
    refine J_getd (ci := 10) (j := 1) (t := ac) dX10_count_118 fl_X10_19 (i1000 hI) rfl rfl (by rw [show v 1000 1 = nI ac from ha]; exact nI_pos (by omega)) (by rw [show v 1000 1 = nI ac from ha]; exact nI_clamp (by omega)) ?_
    refine J_gete (ci := 0) (j := 1) (x := v ac 1) dX10_count_121 fl_X10_291 (i_ac hI hac) (s_ac hac) rfl rfl ?_
    exact J_iret dX10_count_124 rfl ⟨_, rfl, rfl, rfl, by unfold f_count10; rw [if_neg c1, if_neg c2, if_neg c3, if_neg c4, if_neg c5, if_neg c6, if_neg c7, if_neg c8, if_pos c9]⟩
  refine J_tableOut (tgt := 125) dX10_count_1 (sw_no 8 (by omega) (fun k hk => by match k, hk with | 0, _ => exact c1 | 1, _ => exact c2 | 2, _ => exact c3 | 3, _ => exact c4 | 4, _ => exact c5 | 5, _ => exact c6 | 6, _ => exact c7 | 7, _ => exact c8 | 8, _ => exact c9 | k + 9, hk => omega)) (by decide) ?_
  refine J_iconst (x := (-1)) dX10_count_125 (by decide) ?_
  exact J_iret dX10_count_126 rfl ⟨_, rfl, rfl, rfl, by unfold f_count10; rw [if_neg c1, if_neg c2, if_neg c3, if_neg c4, if_neg c5, if_neg c6, if_neg c7, if_neg c8, if_neg c9]⟩
