theorem ent_R {L : Nat → Nat} {cA : Nat → ClassId} {k n : Nat} {f : Nat → Int32} {g : Nat → Int64} (h : sh k = (24, n)) : ent L cA k f g = .inl (cA 4, n, .inr (.inr (.inr (.inr (fun i => rq L (f i)))))) := by simp [ent, h]
theorem ent_N {L : Nat → Nat} {cA : Nat → ClassId} {k n : Nat} {f : Nat → Int32} {g : Nat → Int64} (h : sh k = (23, n)) : ent L cA k f g = .inl (cA 3, n, .inr (.inr (.inr (.inr (fun i => some (L (shb k + i))))))) := by simp [ent, h]
section FRG
variable {l : Launch} {y : fr_M} {I : List Nat} {v : fr_V} {u : fr_U} {Q : Option Value → fr_V → fr_U → Prop} {pc : Nat} {lv : List (Nat × Value)} {st : List Value}
theorem J_aldR {k n t : Nat} {i : Int32} (d : decode y.2.1 pc = .ok (.aaload, 1)) (hk : k ∈ I) (hs : sh k = (24, n)) (hin : vp_in i n) (h0 : ¬ v k i.toNatClampNeg < 0) (ht : (v k i.toNatClampNeg).toNatClampNeg = t) (kk : J l y I v u (pc + 1) lv (.ref t :: st) Q) : J l y I v u pc lv (.int i :: .ref k :: st) Q := by
  intro L cA D p e s m args below meth c H locs ls C hP hD hS hl
  obtain ⟨q0, -, hq0⟩ := mw_get (L := L) (cA := cA) (v := v) (u := u) hk
  rw [ent_R hs] at hq0
  have he : va_rf ((fun i => rq L (v k i)) i.toNatClampNeg) = .ref (L t) := by simp [rq, h0, ht, va_rf]
  refine va_aldq C.1 C.2.1 C.2.2.2.2.2.2.2.2 hP q0 4 hq0 rfl hin d ?_
  rw [he]
  exact kk L cA D p e s m args below meth c H locs ls C hP hD hS hl
theorem J_aldN {k n t : Nat} {i : Int32} (d : decode y.2.1 pc = .ok (.aaload, 1)) (hk : k ∈ I) (hs : sh k = (23, n)) (hin : vp_in i n) (ht : shb k + i.toNatClampNeg = t) (kk : J l y I v u (pc + 1) lv (.ref t :: st) Q) : J l y I v u pc lv (.int i :: .ref k :: st) Q := by
  intro L cA D p e s m args below meth c H locs ls C hP hD hS hl
  obtain ⟨q0, -, hq0⟩ := mw_get (L := L) (cA := cA) (v := v) (u := u) hk
  rw [ent_N hs] at hq0
  have he : va_rf ((fun i => some (L (shb k + i))) i.toNatClampNeg) = .ref (L t) := by simp [ht, va_rf]
  refine va_aldq C.1 C.2.1 C.2.2.2.2.2.2.2.2 hP q0 3 hq0 rfl hin d ?_
  rw [he]
  exact kk L cA D p e s m args below meth c H locs ls C hP hD hS hl
end FRG
def fl (x : Int32) (f0 : Nat → Int32) : Nat → Nat → Int32
  | 0 => f0
  | j + 1 => upd (fl x f0 j) j x
theorem fl_s (x : Int32) (f0 : Nat → Int32) (j : Nat) : fl x f0 (j + 1) = upd (fl x f0 j) j x := rfl
theorem fl_eq (x : Int32) (f0 : Nat → Int32) : ∀ n i, fl x f0 n i = if i < n then x else f0 i := by
  intro n
  induction n with
  | zero => intro i; rfl
  | succ n ih =>
    intro i
    rw [fl_s]
    unfold upd
    by_cases h : i = n
    · subst h; simp
    · rw [if_neg h, ih]
      by_cases h2 : i < n
      · rw [if_pos h2, if_pos (by omega)]
      · rw [if_neg h2, if_neg (by omega)]
theorem J_mmin {l : Launch} {y : fr_M} {I : List Nat} {v : fr_V} {u : fr_U} {Q : Option Value → fr_V → fr_U → Prop} {pc : Nat} {lv : List (Nat × Value)} {st : List Value} {idx : Nat} {a b : Int32} (d : decode y.2.1 pc = .ok (.invokestatic idx, 3)) (hw : Cond.methodLink y.1.cls idx Lib.Math.min.name ∈ gt) (hf : 1 ≤ y.2.2.2.2.1) (hl9 : (st.map fun x => x.category).sum + 13 ≤ y.2.2.2.2.2) (kk : J l y I v u (pc + 3) lv (.int (if b < a then b else a) :: st) Q) : J l y I v u pc lv (.int b :: .int a :: st) Q := by
  intro L cA D p e s m args below meth c H locs ls C hP hD hS hl
  have hT := C.2.2.2.2.2.2.1
  exact va_mmin C.1 C.2.1 (C.2.2.2.1.trans hl.1.symm) C.2.2.2.2.1 (hT _ hw) (hT _ iv_J9_min_7cf53) (hT _ ok_J9_min_7cf53.2.1) (hT _ ok_J9_min_7cf53.1) hf (by rw [cv_sum]; exact hl9) (Nat.le_refl _) (Nat.le_refl _) d (kk L cA D p e s m args below meth c H locs ls C hP hD hS hl)
theorem J_mmax {l : Launch} {y : fr_M} {I : List Nat} {v : fr_V} {u : fr_U} {Q : Option Value → fr_V → fr_U → Prop} {pc : Nat} {lv : List (Nat × Value)} {st : List Value} {idx : Nat} {a b : Int32} (d : decode y.2.1 pc = .ok (.invokestatic idx, 3)) (hw : Cond.methodLink y.1.cls idx Lib.Math.max.name ∈ gt) (hf : 1 ≤ y.2.2.2.2.1) (hl9 : (st.map fun x => x.category).sum + 13 ≤ y.2.2.2.2.2) (kk : J l y I v u (pc + 3) lv (.int (if a < b then b else a) :: st) Q) : J l y I v u pc lv (.int b :: .int a :: st) Q := by
  intro L cA D p e s m args below meth c H locs ls C hP hD hS hl
  have hT := C.2.2.2.2.2.2.1
  exact va_mmax C.1 C.2.1 (C.2.2.2.1.trans hl.1.symm) C.2.2.2.2.1 (hT _ hw) (hT _ iv_J9_max_7cf53) (hT _ ok_J9_max_7cf53.2.1) (hT _ ok_J9_max_7cf53.1) hf (by rw [cv_sum]; exact hl9) (Nat.le_refl _) (Nat.le_refl _) d (kk L cA D p e s m args below meth c H locs ls C hP hD hS hl)
theorem fill_L {l : Launch} {I : List Nat} (hI : fr_I I) (v : fr_V) (u : fr_U) (k n : Nat) (hk : k ∈ I) (hs : sh k = (20, n)) (hn : n ≤ 2000) (x : Int32) : ∀ (d j : Nat) (F : Nat → Int32) (hd : n - j < d) (hj : j ≤ n) (hF : F = fl x (v k) j), J l mJ7_fill_53178 I (upA v k F) u 5 [(0, .ref k), (1, .int x), (2, .int (nI j)), (3, .int (nI n))] [] (QN u (fun a => a = upA v k (fl x (v k) n))) := by
  intro d
  induction d with
  | zero => intros; omega
  | succ d ih =>
    intro j F hd hj hF
    refine J_iload_n dJ7_fill_53178_5 rfl 2 rfl ?_
    refine J_iload_n dJ7_fill_53178_6 rfl 3 rfl ?_
    refine J_icmp_ge (tgt := 20) dJ7_fill_53178_7 (by decide) (fun c1 => ?_) (fun c1 => ?_)
    · exact J_vret dJ7_fill_53178_20 rfl ⟨rfl, rfl, by have e : j = n := by {have := nz_le (by omega) (by omega) c1; omega}; rw [hF, e]⟩
    · have hjn : j < n := nz_nle (by omega) (by omega) c1
      refine J_aload_n dJ7_fill_53178_10 rfl 0 rfl ?_
      refine J_iload_n dJ7_fill_53178_11 rfl 2 rfl ?_
      refine J_iload_n dJ7_fill_53178_12 rfl 1 rfl ?_
      refine J_iase (j := j) dJ7_fill_53178_13 hk hs (ix_in (j := j) rfl (by omega) (by omega)) (ix_cl (j := j) rfl (by omega)) ?_
      refine J_iinc (q := 2) (z := nI (j + 1)) (lv' := [(2, .int (nI (j + 1))), (0, .ref k), (1, .int x), (3, .int (nI n))]) dJ7_fill_53178_14 rfl (nI_1 j) (by decide) rfl ?_
      refine J_goto (tgt := 5) dJ7_fill_53178_17 (by decide) ?_
      refine J_lv [1, 2, 0, 3] rfl ?_
      rw [up2_upA]
      exact ih (j + 1) _ (by omega) (by omega) (by rw [fl_s, hF])
theorem k_fill {l : Launch} {I : List Nat} (hI : fr_I I) (v : fr_V) (u : fr_U) (k n : Nat) (hk : k ∈ I) (hs : sh k = (20, n)) (hn : n ≤ 2000) (x : Int32) : Con l mJ7_fill_53178 I v u [.ref k, .int x] (QN u (fun a => a = upA v k (fl x (v k) n))) := by
  refine Con.of (by decide) (Nat.le_of_ble_eq_true rfl) ?_
  show J l mJ7_fill_53178 I v u 0 [(0, .ref k), (1, .int x)] [] _
  refine J_iconst (x := 0) dJ7_fill_53178_0 (by decide) ?_
  refine J_istore_n (lv' := [(2, .int 0), (0, .ref k), (1, .int x)]) dJ7_fill_53178_1 rfl (by decide) rfl ?_
  refine J_aload_n dJ7_fill_53178_2 rfl 1 rfl ?_
  refine J_alen (x := nI n) dJ7_fill_53178_3 hk hs rfl ?_
  refine J_istore_n (lv' := [(3, .int (nI n)), (2, .int 0), (0, .ref k), (1, .int x)]) dJ7_fill_53178_4 rfl (by decide) rfl ?_
  refine J_lv [2, 3, 1, 0] rfl ?_
  refine J_ve (w := upA v k (v k)) (upA_id v k).symm ?_
  exact fill_L hI v u k n hk hs hn x (n + 1) 0 _ (by omega) (by omega) rfl
def hpP (v : fr_V) (x1 x2 x3 : Int32) (i : Nat) : Prop := ¬ v 104 i < x2 ∧ ¬ x3 < v 104 i ∧ ¬ v 109 i = 0 ∧ v 103 i = x1
theorem hp_L {l : Launch} {I : List Nat} (hI : fr_I I) (v : fr_V) (u : fr_U) (x1 x2 x3 : Int32) (N : Nat) (hN : v 100 5 = nI N) (hN6 : N ≤ 60) : ∀ (d j : Nat) (hd : N - j < d) (hj : j ≤ N) (hno : ∀ i, i < j → ¬ hpP v x1 x2 x3 i), J l mX1_hasProof I v u 3 [(0, .ref 100), (1, .int x1), (2, .int x2), (3, .int x3), (4, .int (nI j))] [] (QI v u (fun a => a = cI (∃ i, i < N ∧ hpP v x1 x2 x3 i))) := by
  intro d
  induction d with
  | zero => intros; omega
  | succ d ih =>
    intro j hd hj hno
    refine J_iload dX1_hasProof_3 4 rfl ?_
    refine J_aload_n dX1_hasProof_5 rfl 0 rfl ?_
    refine J_gete (ci := 1) (j := 5) (x := nI N) dX1_hasProof_6 fl_X1_48 (i100 hI) rfl rfl hN ?_
    refine J_icmp_ge (tgt := 63) dX1_hasProof_9 (by decide) (fun c1 => ?_) (fun c1 => ?_)
    · refine J_iconst (x := 0) dX1_hasProof_63 (by decide) ?_
      exact J_zret dX1_hasProof_64 rfl (by decide) ⟨_, rfl, rfl, rfl, (cI_neg (fun ⟨i, hi, hp⟩ => hno i (by have := nz_le (by omega) (by omega) c1; omega) hp)).symm⟩
    · have hjN : j < N := nz_nle (by omega) (by omega) c1
      refine J_aload_n dX1_hasProof_12 rfl 0 rfl ?_
      refine J_getr (ci := 1) (j := 3) (t := 104) dX1_hasProof_13 fl_X1_18 (i100 hI) rfl rfl rfl ?_
      refine J_iload dX1_hasProof_16 4 rfl ?_
      refine J_iale (x := v 104 j) dX1_hasProof_18 (i104 hI) rfl (ix_in (j := j) rfl (by omega) (by omega)) ((congrArg _ (ix_cl (j := j) rfl (by omega))).trans rfl) ?_
      refine J_iload_n dX1_hasProof_19 rfl 2 rfl ?_
      refine J_icmp_lt (tgt := 57) dX1_hasProof_20 (by decide) (fun c2 => ?_) (fun c2 => ?_)
      · refine J_iinc (q := 4) (z := nI (j + 1)) (lv' := [(4, .int (nI (j + 1))), (0, .ref 100), (1, .int x1), (2, .int x2), (3, .int x3)]) dX1_hasProof_57 rfl (nI_1 j) (by decide) rfl ?_
        refine J_goto (tgt := 3) dX1_hasProof_60 (by decide) ?_
        refine J_lv [1, 2, 3, 4, 0] rfl ?_
        exact ih (j + 1) (by omega) (by omega) (lt_s hno (by clear ih; unfold hpP; simp [c2]))
      · refine J_aload_n dX1_hasProof_23 rfl 0 rfl ?_
        refine J_getr (ci := 1) (j := 3) (t := 104) dX1_hasProof_24 fl_X1_18 (i100 hI) rfl rfl rfl ?_
        refine J_iload dX1_hasProof_27 4 rfl ?_
        refine J_iale (x := v 104 j) dX1_hasProof_29 (i104 hI) rfl (ix_in (j := j) rfl (by omega) (by omega)) ((congrArg _ (ix_cl (j := j) rfl (by omega))).trans rfl) ?_
        refine J_iload_n dX1_hasProof_30 rfl 3 rfl ?_
        refine J_icmp_gt (tgt := 57) dX1_hasProof_31 (by decide) (fun c3 => ?_) (fun c3 => ?_)
        · refine J_iinc (q := 4) (z := nI (j + 1)) (lv' := [(4, .int (nI (j + 1))), (0, .ref 100), (1, .int x1), (2, .int x2), (3, .int x3)]) dX1_hasProof_57 rfl (nI_1 j) (by decide) rfl ?_
          refine J_goto (tgt := 3) dX1_hasProof_60 (by decide) ?_
          refine J_lv [1, 2, 3, 4, 0] rfl ?_
          exact ih (j + 1) (by omega) (by omega) (lt_s hno (by clear ih; unfold hpP; simp [c2, c3]))
        · refine J_aload_n dX1_hasProof_34 rfl 0 rfl ?_
          refine J_getr (ci := 1) (j := 8) (t := 109) dX1_hasProof_35 fl_X1_32 (i100 hI) rfl rfl rfl ?_
          refine J_iload dX1_hasProof_38 4 rfl ?_
          refine J_zale (x := v 109 j) dX1_hasProof_40 (i109 hI) rfl (ix_in (j := j) rfl (by omega) (by omega)) ((congrArg _ (ix_cl (j := j) rfl (by omega))).trans rfl) ?_
          refine J_if_eq (tgt := 57) dX1_hasProof_41 (by decide) (fun c4 => ?_) (fun c4 => ?_)
          · refine J_iinc (q := 4) (z := nI (j + 1)) (lv' := [(4, .int (nI (j + 1))), (0, .ref 100), (1, .int x1), (2, .int x2), (3, .int x3)]) dX1_hasProof_57 rfl (nI_1 j) (by decide) rfl ?_
            refine J_goto (tgt := 3) dX1_hasProof_60 (by decide) ?_
            refine J_lv [1, 2, 3, 4, 0] rfl ?_
            exact ih (j + 1) (by omega) (by omega) (lt_s hno (by clear ih; unfold hpP; simp [c2, c3, c4]))
          · refine J_aload_n dX1_hasProof_44 rfl 0 rfl ?_
            refine J_getr (ci := 1) (j := 2) (t := 103) dX1_hasProof_45 fl_X1_15 (i100 hI) rfl rfl rfl ?_
            refine J_iload dX1_hasProof_48 4 rfl ?_
            refine J_iale (x := v 103 j) dX1_hasProof_50 (i103 hI) rfl (ix_in (j := j) rfl (by omega) (by omega)) ((congrArg _ (ix_cl (j := j) rfl (by omega))).trans rfl) ?_
            refine J_iload_n dX1_hasProof_51 rfl 1 rfl ?_
            refine J_icmp_ne (tgt := 57) dX1_hasProof_52 (by decide) (fun c5 => ?_) (fun c5 => ?_)
            · refine J_iinc (q := 4) (z := nI (j + 1)) (lv' := [(4, .int (nI (j + 1))), (0, .ref 100), (1, .int x1), (2, .int x2), (3, .int x3)]) dX1_hasProof_57 rfl (nI_1 j) (by decide) rfl ?_
              refine J_goto (tgt := 3) dX1_hasProof_60 (by decide) ?_
              refine J_lv [1, 2, 3, 4, 0] rfl ?_
              exact ih (j + 1) (by omega) (by omega) (lt_s hno (by clear ih; unfold hpP; simp [c2, c3, c4, c5]))
            · refine J_iconst (x := 1) dX1_hasProof_55 (by decide) ?_
              exact J_zret dX1_hasProof_56 rfl (by decide) ⟨_, rfl, rfl, rfl, (cI_pos ⟨j, hjN, (by clear ih; unfold hpP; simp [c2, c3, c4, c5])⟩).symm⟩
theorem k_X1_hasProof {l : Launch} {I : List Nat} (hI : fr_I I) (v : fr_V) (u : fr_U) (x1 x2 x3 : Int32) (N : Nat) (hN : v 100 5 = nI N) (hN6 : N ≤ 60) : Con l mX1_hasProof I v u [.ref 100, .int x1, .int x2, .int x3] (QI v u (fun a => a = cI (∃ i, i < N ∧ hpP v x1 x2 x3 i))) := by
  refine Con.of (by decide) (Nat.le_of_ble_eq_true rfl) ?_
  show J l mX1_hasProof I v u 0 [(0, .ref 100), (1, .int x1), (2, .int x2), (3, .int x3)] [] _
  refine J_iconst (x := 0) dX1_hasProof_0 (by decide) ?_
  refine J_istore (lv' := [(4, .int 0), (0, .ref 100), (1, .int x1), (2, .int x2), (3, .int x3)]) dX1_hasProof_1 (by decide) rfl ?_
  refine J_lv [1, 2, 3, 4, 0] rfl ?_
  exact hp_L hI v u x1 x2 x3 N hN hN6 (N + 1) 0 (by omega) (by omega) lt_0
