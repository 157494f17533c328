def wdl : List Int32 := [109, 97, 121, 32, 98, 97, 114, 32, 112, 114, 105, 99, 101, 32, 108, 117, 109, 112, 32, 97, 114, 114, 101, 97, 114, 115, 32, 119, 97, 105, 116, 32, 114, 97, 116, 101, 32, 99, 97, 112, 32, 97, 103, 101, 32, 99, 108, 97, 115, 115, 32, 104, 97, 108, 102, 32, 106, 111, 105, 110, 116, 32, 115, 105, 110, 103, 108, 101, 32, 116, 111, 32, 111, 114, 32]
def wd (i : Nat) : Int32 := wdl.getD i 0
def wst (k : Nat) : Nat := ([0, 4, 8, 14, 19, 27, 32, 37, 41, 45, 51, 56, 62, 69, 72] : List Nat).getD k 75
def wlen (k : Nat) : Nat := ([3, 3, 5, 4, 7, 4, 4, 3, 3, 5, 4, 5, 6, 2, 2] : List Nat).getD k 0
theorem wd_facts : ∀ k, k < 15 → (wst k + wlen k + 1 = wst (k + 1)) ∧ (wst k + wlen k < 75) ∧ wlen k ≤ 7 ∧ wd (wst k + wlen k) = 32 ∧ (∀ n, n < wlen k → ¬ wd (wst k + n) = 32) := by decide +kernel
theorem wst_15 : wst 15 = 75 := rfl
def wm (W : Nat → Int32) (a b k : Nat) : Prop := wlen k = b - a ∧ ∀ i, i < wlen k → wd (wst k + i) = W (a + i)
noncomputable def wA (W : Nat → Int32) (a b : Nat) : Nat → Int32
  | 0 => (-1)
  | d + 1 => @ite Int32 (wm W a b (14 - d)) (Classical.propDecidable _) (nI (14 - d)) (wA W a b d)
theorem wA_p {W : Nat → Int32} {a b d : Nat} (h : wm W a b (14 - d)) : wA W a b (d + 1) = nI (14 - d) := if_pos h
theorem wA_n {W : Nat → Int32} {a b d : Nat} (h : ¬ wm W a b (14 - d)) : wA W a b (d + 1) = wA W a b d := if_neg h
theorem wa_1 {l : Launch} {I : List Nat} (hI : fr_I I) (v : fr_V) (u : fr_U) (a b : Nat) (hab : a ≤ b) (hb : b ≤ 500) (hwd : ∀ i, i < 75 → v 1123 i = wd i) (k : Nat) (hk : k < 15) {Q : Option Value → fr_V → fr_U → Prop} (hk1 : J l mX11_wordAt I v u 39 [(0, .ref 1100), (1, .int (nI a)), (2, .int (nI b)), (3, .int (nI k)), (4, .int (nI (wst k))), (5, .int (nI (wlen k)))] [] Q) : ∀ (d n : Nat) (hd : wlen k - n < d) (hn : n ≤ wlen k), J l mX11_wordAt I v u 18 [(0, .ref 1100), (1, .int (nI a)), (2, .int (nI b)), (3, .int (nI k)), (4, .int (nI (wst k))), (5, .int (nI n))] [] Q := by
  have hf := wd_facts k hk
  intro d
  induction d with
  | zero => intros; omega
  | succ d ih =>
    intro n hd hn
    refine J_aload_n dX11_wordAt_18 rfl 0 rfl ?_
    refine J_getr (ci := 11) (j := 22) (t := 1123) dX11_wordAt_19 fl_X11_55 (i1100 hI) rfl rfl rfl ?_
    refine J_iload dX11_wordAt_22 4 rfl ?_
    refine J_iload dX11_wordAt_24 5 rfl ?_
    refine J_iadd dX11_wordAt_26 ?_
    refine J_iale (x := v 1123 ((wst k) + n)) dX11_wordAt_27 (i1123 hI) rfl (ix_in (j := (wst k) + n) (by show (nI (wst k)) + (nI n) = _; simp only [nI_add, pk_mul]) (by omega) (by omega)) ((congrArg _ (ix_cl (j := (wst k) + n) (by show (nI (wst k)) + (nI n) = _; simp only [nI_add, pk_mul]) (by omega))).trans rfl) ?_
    refine J_bipush (x := 32) dX11_wordAt_28 (by decide) ?_
    refine J_icmp_eq (tgt := 39) dX11_wordAt_30 (by decide) (fun c1 => ?_) (fun c1 => ?_)
    · have he : n = wlen k := by
        by_cases q : n < wlen k
        · exact absurd (by rw [← hwd _ (by omega)]; exact c1) (hf.2.2.2.2 n q)
        · omega
      subst he
      refine J_lv [0, 1, 2, 3, 4, 5] rfl ?_
      exact hk1
    · refine J_iinc (q := 5) (z := nI (n + 1)) (lv' := [(5, .int (nI (n + 1))), (0, .ref 1100), (1, .int (nI a)), (2, .int (nI b)), (3, .int (nI k)), (4, .int (nI (wst k)))]) dX11_wordAt_33 rfl (nI_1 n) (by decide) rfl ?_
      refine J_goto (tgt := 18) dX11_wordAt_36 (by decide) ?_
      refine J_lv [1, 2, 3, 4, 5, 0] rfl ?_
      have hne : ¬ n = wlen k := fun e => c1 (by rw [hwd _ (by omega), e]; exact hf.2.2.2.1)
      exact ih (n + 1) (by omega) (by omega)
theorem wa_2 {l : Launch} {I : List Nat} (hI : fr_I I) (v : fr_V) (u : fr_U) (a b : Nat) (hab : a ≤ b) (hb : b ≤ 500) (hwd : ∀ i, i < 75 → v 1123 i = wd i) (k : Nat) (hk : k < 15) (heq : wlen k = b - a) {Q : Option Value → fr_V → fr_U → Prop} (hk0 : ¬ wm (v 1101) a b k → J l mX11_wordAt I v u 111 [(0, .ref 1100), (1, .int (nI a)), (2, .int (nI b)), (3, .int (nI k)), (4, .int (nI (wst k))), (5, .int (nI (wlen k)))] [] Q) (hk2 : wm (v 1101) a b k → Q (some (.int (nI k))) v u) : ∀ (d i : Nat) (hd : wlen k - i < d) (hin : i ≤ wlen k) (hall : ∀ j, j < i → wd (wst k + j) = v 1101 (a + j)), J l mX11_wordAt I v u 57 [(0, .ref 1100), (1, .int (nI a)), (2, .int (nI b)), (3, .int (nI k)), (4, .int (nI (wst k))), (5, .int (nI (wlen k))), (6, .int 1), (7, .int (nI i))] [] Q := by
  have hf := wd_facts k hk
  intro d
  induction d with
  | zero => intros; omega
  | succ d ih =>
    intro i hd hin hall
    refine J_iload dX11_wordAt_57 7 rfl ?_
    refine J_iload dX11_wordAt_59 5 rfl ?_
    refine J_icmp_ge (tgt := 104) dX11_wordAt_61 (by decide) (fun c1 => ?_) (fun c1 => ?_)
    · refine J_iload dX11_wordAt_104 6 rfl ?_
      refine J_if_eq (tgt := 111) dX11_wordAt_106 (by decide) (fun c81 => absurd c81 (by decide)) (fun c81 => ?_)
      refine J_iload_n dX11_wordAt_109 rfl 3 rfl ?_
      exact J_iret dX11_wordAt_110 rfl (hk2 ⟨heq, fun i2 h2 => hall i2 (by have := nz_le (by omega) (by omega) c1; omega)⟩)
    · refine J_iload dX11_wordAt_64 6 rfl ?_
      refine J_if_eq (tgt := 104) dX11_wordAt_66 (by decide) (fun c2 => absurd c2 (by decide)) (fun c2 => ?_)
      have hi : i < wlen k := nz_nle (by omega) (by omega) c1
      refine J_aload_n dX11_wordAt_69 rfl 0 rfl ?_
      refine J_getr (ci := 11) (j := 22) (t := 1123) dX11_wordAt_70 fl_X11_55 (i1100 hI) rfl rfl rfl ?_
      refine J_iload dX11_wordAt_73 4 rfl ?_
      refine J_iload dX11_wordAt_75 7 rfl ?_
      refine J_iadd dX11_wordAt_77 ?_
      refine J_iale (x := v 1123 ((wst k) + i)) dX11_wordAt_78 (i1123 hI) rfl (ix_in (j := (wst k) + i) (by show (nI (wst k)) + (nI i) = _; simp only [nI_add, pk_mul]) (by omega) (by omega)) ((congrArg _ (ix_cl (j := (wst k) + i) (by show (nI (wst k)) + (nI i) = _; simp only [nI_add, pk_mul]) (by omega))).trans rfl) ?_
      refine J_aload_n dX11_wordAt_79 rfl 0 rfl ?_
      refine J_getr (ci := 11) (j := 0) (t := 1101) dX11_wordAt_80 fl_X11_7 (i1100 hI) rfl rfl rfl ?_
      refine J_iload_n dX11_wordAt_83 rfl 1 rfl ?_
      refine J_iload dX11_wordAt_84 7 rfl ?_
      refine J_iadd dX11_wordAt_86 ?_
      refine J_iale (x := v 1101 (a + i)) dX11_wordAt_87 (i1101 hI) rfl (ix_in (j := a + i) (by show (nI a) + (nI i) = _; simp only [nI_add, pk_mul]) (by omega) (by omega)) ((congrArg _ (ix_cl (j := a + i) (by show (nI a) + (nI i) = _; simp only [nI_add, pk_mul]) (by omega))).trans rfl) ?_
      refine J_icmp_ne (tgt := 95) dX11_wordAt_88 (by decide) (fun c3 => ?_) (fun c3 => ?_)
      · refine J_iconst (x := 0) dX11_wordAt_95 (by decide) ?_
        refine J_istore (lv' := [(6, .int 0), (0, .ref 1100), (1, .int (nI a)), (2, .int (nI b)), (3, .int (nI k)), (4, .int (nI (wst k))), (5, .int (nI (wlen k))), (7, .int (nI i))]) dX11_wordAt_96 (by decide) rfl ?_
        refine J_iinc (q := 7) (z := nI (i + 1)) (lv' := [(7, .int (nI (i + 1))), (6, .int 0), (0, .ref 1100), (1, .int (nI a)), (2, .int (nI b)), (3, .int (nI k)), (4, .int (nI (wst k))), (5, .int (nI (wlen k)))]) dX11_wordAt_98 rfl (nI_1 i) (by decide) rfl ?_
        refine J_goto (tgt := 57) dX11_wordAt_101 (by decide) ?_
        have hno : ¬ wm (v 1101) a b k := fun h => c3 (by rw [hwd _ (by omega)]; exact h.2 i hi)
        refine J_iload dX11_wordAt_57 0 rfl ?_
        refine J_iload dX11_wordAt_59 7 rfl ?_
        refine J_icmp_ge (tgt := 104) dX11_wordAt_61 (by decide) (fun c61 => ?_) (fun c61 => ?_)
        · refine J_iload dX11_wordAt_104 1 rfl ?_
          refine J_if_eq (tgt := 111) dX11_wordAt_106 (by decide) (fun c81 => ?_) (fun c81 => absurd (by decide) c81)
          refine J_lv [2, 3, 4, 5, 6, 7] rfl ?_
          exact hk0 hno
        · refine J_iload dX11_wordAt_64 1 rfl ?_
          refine J_if_eq (tgt := 104) dX11_wordAt_66 (by decide) (fun c62 => ?_) (fun c62 => absurd (by decide) c62)
          refine J_iload dX11_wordAt_104 1 rfl ?_
          refine J_if_eq (tgt := 111) dX11_wordAt_106 (by decide) (fun c81 => ?_) (fun c81 => absurd (by decide) c81)
          refine J_lv [2, 3, 4, 5, 6, 7] rfl ?_
          exact hk0 hno
      · refine J_iconst (x := 1) dX11_wordAt_91 (by decide) ?_
        refine J_goto (tgt := 96) dX11_wordAt_92 (by decide) ?_
        refine J_istore (lv' := [(6, .int 1), (0, .ref 1100), (1, .int (nI a)), (2, .int (nI b)), (3, .int (nI k)), (4, .int (nI (wst k))), (5, .int (nI (wlen k))), (7, .int (nI i))]) dX11_wordAt_96 (by decide) rfl ?_
        refine J_iinc (q := 7) (z := nI (i + 1)) (lv' := [(7, .int (nI (i + 1))), (6, .int 1), (0, .ref 1100), (1, .int (nI a)), (2, .int (nI b)), (3, .int (nI k)), (4, .int (nI (wst k))), (5, .int (nI (wlen k)))]) dX11_wordAt_98 rfl (nI_1 i) (by decide) rfl ?_
        refine J_goto (tgt := 57) dX11_wordAt_101 (by decide) ?_
        refine J_lv [2, 3, 4, 5, 6, 7, 1, 0] rfl ?_
        exact ih (i + 1) (by omega) (by omega) (lt_s hall (by rw [← hwd _ (by omega)]; exact c3))
