theorem wa_o {l : Launch} {I : List Nat} (hI : fr_I I) (v : fr_V) (u : fr_U) (a b : Nat) (hab : a ≤ b) (hb : b ≤ 500) (hwd : ∀ i, i < 75 → v 1123 i = wd i) : ∀ (d k : Nat) (hdk : d + k = 15), J l mX11_wordAt I v u 5 [(0, .ref 1100), (1, .int (nI a)), (2, .int (nI b)), (3, .int (nI k)), (4, .int (nI (wst k)))] [] (QI v u (fun z => z = wA (v 1101) a b d)) := by
  intro d
  induction d with
  | zero =>
    intro k hdk
    obtain rfl : k = 15 := by omega
    refine J_iload dX11_wordAt_5 4 rfl ?_
    refine J_aload_n dX11_wordAt_7 rfl 0 rfl ?_
    refine J_getr (ci := 11) (j := 22) (t := 1123) dX11_wordAt_8 fl_X11_55 (i1100 hI) rfl rfl rfl ?_
    refine J_alen (x := 75) dX11_wordAt_11 (i1123 hI) rfl (by decide) ?_
    refine J_icmp_ge (tgt := 126) dX11_wordAt_12 (by decide) (fun c1 => ?_) (fun c1 => absurd (by decide) c1)
    refine J_iconst (x := (-1)) dX11_wordAt_126 (by decide) ?_
    exact J_iret dX11_wordAt_127 rfl ⟨_, rfl, rfl, rfl, rfl⟩
  | succ d ih =>
    intro k hdk
    have hk : k < 15 := by omega
    have hkd : k = 14 - d := by omega
    have hf := wd_facts k hk
    refine J_iload dX11_wordAt_5 4 rfl ?_
    refine J_aload_n dX11_wordAt_7 rfl 0 rfl ?_
    refine J_getr (ci := 11) (j := 22) (t := 1123) dX11_wordAt_8 fl_X11_55 (i1100 hI) rfl rfl rfl ?_
    refine J_alen (x := 75) dX11_wordAt_11 (i1123 hI) rfl (by decide) ?_
    refine J_icmp_ge (tgt := 126) dX11_wordAt_12 (by decide) (fun c1 => absurd c1 (nI_ge (a := wst k) (b := 75) (by omega) (by omega))) (fun c1 => ?_)
    refine J_iconst (x := 0) dX11_wordAt_15 (by decide) ?_
    refine J_istore (lv' := [(5, .int 0), (0, .ref 1100), (1, .int (nI a)), (2, .int (nI b)), (3, .int (nI k)), (4, .int (nI (wst k)))]) dX11_wordAt_16 (by decide) rfl ?_
    refine J_lv [1, 2, 3, 4, 5, 0] rfl ?_
    refine wa_1 hI v u a b hab hb hwd k hk ?_ (wlen k + 1) 0 (by omega) (by omega)
    refine J_iload dX11_wordAt_39 5 rfl ?_
    refine J_iload_n dX11_wordAt_41 rfl 2 rfl ?_
    refine J_iload_n dX11_wordAt_42 rfl 1 rfl ?_
    refine J_isub dX11_wordAt_43 ?_
    refine J_icmp_ne (tgt := 51) dX11_wordAt_44 (by decide) (fun c21 => ?_) (fun c21 => ?_)
    · refine J_iconst (x := 0) dX11_wordAt_51 (by decide) ?_
      refine J_istore (lv' := [(6, .int 0), (0, .ref 1100), (1, .int (nI a)), (2, .int (nI b)), (3, .int (nI k)), (4, .int (nI (wst k))), (5, .int (nI (wlen k)))]) dX11_wordAt_52 (by decide) rfl ?_
      refine J_iconst (x := 0) dX11_wordAt_54 (by decide) ?_
      refine J_istore (lv' := [(7, .int 0), (6, .int 0), (0, .ref 1100), (1, .int (nI a)), (2, .int (nI b)), (3, .int (nI k)), (4, .int (nI (wst k))), (5, .int (nI (wlen k)))]) dX11_wordAt_55 (by decide) rfl ?_
      have hno : ¬ wm (v 1101) a b k := fun h => c21 (by rw [h.1, pk_sub hab])
      refine J_iload dX11_wordAt_57 0 rfl ?_
      refine J_iload dX11_wordAt_59 7 rfl ?_
      refine J_icmp_ge (tgt := 104) dX11_wordAt_61 (by decide) (fun c61 => ?_) (fun c61 => ?_)
      · refine J_iload dX11_wordAt_104 1 rfl ?_
        refine J_if_eq (tgt := 111) dX11_wordAt_106 (by decide) (fun c62 => ?_) (fun c62 => absurd (by decide) c62)
        refine J_lv [2, 3, 4, 5, 6, 7] rfl ?_
        refine J_iload dX11_wordAt_111 4 rfl ?_
        refine J_iload dX11_wordAt_113 5 rfl ?_
        refine J_iconst (x := 1) dX11_wordAt_115 (by decide) ?_
        refine J_iadd dX11_wordAt_116 ?_
        refine J_iadd dX11_wordAt_117 ?_
        refine J_istore (lv' := [(4, .int ((nI (wst k)) + ((nI (wlen k)) + 1))), (0, .ref 1100), (1, .int (nI a)), (2, .int (nI b)), (3, .int (nI k)), (5, .int (nI (wlen k)))]) dX11_wordAt_118 (by decide) rfl ?_
        refine J_iinc (q := 4) (z := nI (k + 1)) (lv' := [(3, .int (nI (k + 1))), (4, .int ((nI (wst k)) + ((nI (wlen k)) + 1))), (0, .ref 1100), (1, .int (nI a)), (2, .int (nI b)), (5, .int (nI (wlen k)))]) dX11_wordAt_120 rfl (nI_1 k) (by decide) rfl ?_
        refine J_goto (tgt := 5) dX11_wordAt_123 (by decide) ?_
        have e4 : nI (wst k) + (nI (wlen k) + 1) = nI (wst (k + 1)) := by rw [nI_1, nI_add, ← hf.1]; rfl
        rw [e4]
        refine J_lv [2, 3, 4, 0, 1] rfl ?_
        rw [wA_n (by rw [← hkd]; exact hno)]
        exact ih (k + 1) (by omega)
      · refine J_iload dX11_wordAt_64 1 rfl ?_
        refine J_if_eq (tgt := 104) dX11_wordAt_66 (by decide) (fun c63 => ?_) (fun c63 => absurd (by decide) c63)
        refine J_iload dX11_wordAt_104 1 rfl ?_
        refine J_if_eq (tgt := 111) dX11_wordAt_106 (by decide) (fun c64 => ?_) (fun c64 => absurd (by decide) c64)
        refine J_lv [2, 3, 4, 5, 6, 7] rfl ?_
        refine J_iload dX11_wordAt_111 4 rfl ?_
        refine J_iload dX11_wordAt_113 5 rfl ?_
        refine J_iconst (x := 1) dX11_wordAt_115 (by decide) ?_
        refine J_iadd dX11_wordAt_116 ?_
        refine J_iadd dX11_wordAt_117 ?_
        refine J_istore (lv' := [(4, .int ((nI (wst k)) + ((nI (wlen k)) + 1))), (0, .ref 1100), (1, .int (nI a)), (2, .int (nI b)), (3, .int (nI k)), (5, .int (nI (wlen k)))]) dX11_wordAt_118 (by decide) rfl ?_
        refine J_iinc (q := 4) (z := nI (k + 1)) (lv' := [(3, .int (nI (k + 1))), (4, .int ((nI (wst k)) + ((nI (wlen k)) + 1))), (0, .ref 1100), (1, .int (nI a)), (2, .int (nI b)), (5, .int (nI (wlen k)))]) dX11_wordAt_120 rfl (nI_1 k) (by decide) rfl ?_
        refine J_goto (tgt := 5) dX11_wordAt_123 (by decide) ?_
        have e4 : nI (wst k) + (nI (wlen k) + 1) = nI (wst (k + 1)) := by rw [nI_1, nI_add, ← hf.1]; rfl
        rw [e4]
        refine J_lv [2, 3, 4, 0, 1] rfl ?_
        rw [wA_n (by rw [← hkd]; exact hno)]
        exact ih (k + 1) (by omega)
    · refine J_iconst (x := 1) dX11_wordAt_47 (by decide) ?_
      refine J_goto (tgt := 52) dX11_wordAt_48 (by decide) ?_
      refine J_istore (lv' := [(6, .int 1), (0, .ref 1100), (1, .int (nI a)), (2, .int (nI b)), (3, .int (nI k)), (4, .int (nI (wst k))), (5, .int (nI (wlen k)))]) dX11_wordAt_52 (by decide) rfl ?_
      refine J_iconst (x := 0) dX11_wordAt_54 (by decide) ?_
      refine J_istore (lv' := [(7, .int 0), (6, .int 1), (0, .ref 1100), (1, .int (nI a)), (2, .int (nI b)), (3, .int (nI k)), (4, .int (nI (wst k))), (5, .int (nI (wlen k)))]) dX11_wordAt_55 (by decide) rfl ?_
      refine J_lv [2, 3, 4, 5, 6, 7, 1, 0] rfl ?_
      have heq : wlen k = b - a := by
        have q : nI (wlen k) = nI (b - a) := by rw [← pk_sub hab]; exact c21
        exact (nI_eq (by omega) (by omega)).mp q
      refine wa_2 hI v u a b hab hb hwd k hk heq (fun hno => ?_) (fun h => ⟨_, rfl, rfl, rfl, by rw [wA_p (by rw [← hkd]; exact h), ← hkd]⟩) (wlen k + 1) 0 (by omega) (by omega) lt_0
      refine J_iload dX11_wordAt_111 4 rfl ?_
      refine J_iload dX11_wordAt_113 5 rfl ?_
      refine J_iconst (x := 1) dX11_wordAt_115 (by decide) ?_
      refine J_iadd dX11_wordAt_116 ?_
      refine J_iadd dX11_wordAt_117 ?_
      refine J_istore (lv' := [(4, .int ((nI (wst k)) + ((nI (wlen k)) + 1))), (0, .ref 1100), (1, .int (nI a)), (2, .int (nI b)), (3, .int (nI k)), (5, .int (nI (wlen k)))]) dX11_wordAt_118 (by decide) rfl ?_
      refine J_iinc (q := 4) (z := nI (k + 1)) (lv' := [(3, .int (nI (k + 1))), (4, .int ((nI (wst k)) + ((nI (wlen k)) + 1))), (0, .ref 1100), (1, .int (nI a)), (2, .int (nI b)), (5, .int (nI (wlen k)))]) dX11_wordAt_120 rfl (nI_1 k) (by decide) rfl ?_
      refine J_goto (tgt := 5) dX11_wordAt_123 (by decide) ?_
      have e4 : nI (wst k) + (nI (wlen k) + 1) = nI (wst (k + 1)) := by rw [nI_1, nI_add, ← hf.1]; rfl
      rw [e4]
      refine J_lv [2, 3, 4, 0, 1] rfl ?_
      rw [wA_n (by rw [← hkd]; exact hno)]
      exact ih (k + 1) (by omega)
theorem k_X11_wordAt {l : Launch} {I : List Nat} (hI : fr_I I) (v : fr_V) (u : fr_U) (a b : Nat) (hab : a ≤ b) (hb : b ≤ 500) (hwd : ∀ i, i < 75 → v 1123 i = wd i) : Con l mX11_wordAt I v u [.ref 1100, .int (nI a), .int (nI b)] (QI v u (fun z => z = wA (v 1101) a b 15)) := by
  refine Con.of (by decide) (Nat.le_of_ble_eq_true rfl) ?_
  show J l mX11_wordAt I v u 0 [(0, .ref 1100), (1, .int (nI a)), (2, .int (nI b))] [] _
  refine J_iconst (x := 0) dX11_wordAt_0 (by decide) ?_
  refine J_istore_n (lv' := [(3, .int 0), (0, .ref 1100), (1, .int (nI a)), (2, .int (nI b))]) dX11_wordAt_1 rfl (by decide) rfl ?_
  refine J_iconst (x := 0) dX11_wordAt_2 (by decide) ?_
  refine J_istore (lv' := [(4, .int 0), (3, .int 0), (0, .ref 1100), (1, .int (nI a)), (2, .int (nI b))]) dX11_wordAt_3 (by decide) rfl ?_
  refine J_lv [2, 3, 4, 1, 0] rfl ?_
  exact wa_o hI v u a b hab hb hwd 15 0 rfl
