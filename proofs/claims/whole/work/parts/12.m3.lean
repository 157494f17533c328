noncomputable def cI (p : Prop) : Int32 := @ite Int32 p (Classical.propDecidable p) 1 0
theorem cI_pos {p : Prop} (h : p) : cI p = 1 := by unfold cI; exact if_pos h
theorem cI_neg {p : Prop} (h : ¬ p) : cI p = 0 := by unfold cI; exact if_neg h
theorem cI_congr {p q : Prop} (h : p ↔ q) : cI p = cI q := by
  by_cases hp : p
  · rw [cI_pos hp, cI_pos (h.mp hp)]
  · rw [cI_neg hp, cI_neg (fun x => hp (h.mpr x))]
theorem cI_ne {p : Prop} : ¬ cI p = 0 ↔ p := by
  by_cases hp : p
  · rw [cI_pos hp]; exact ⟨fun _ => hp, fun _ => by decide⟩
  · rw [cI_neg hp]; exact ⟨fun h => absurd rfl h, fun h => absurd h hp⟩
theorem cI_eq {p : Prop} : cI p = 0 ↔ ¬ p := by
  by_cases hp : p
  · rw [cI_pos hp]; exact ⟨fun h => absurd h (by decide), fun h => absurd hp h⟩
  · rw [cI_neg hp]; exact ⟨fun _ => hp, fun _ => rfl⟩
theorem cI_nar {p : Prop} : narrow .boolean (.int (cI p)) = .int (cI p) := by
  by_cases hp : p
  · rw [cI_pos hp]; rfl
  · rw [cI_neg hp]; rfl
def kn1 (T : Nat → Int32) (k : Int32) (f0 : Nat → Int32) : Nat → Nat → Int32
  | 0 => f0
  | j + 1 => upd (kn1 T k f0 j) j (if k < T j then 0 else 1)
theorem kn1_s (T : Nat → Int32) (k : Int32) (f0 : Nat → Int32) (j : Nat) : kn1 T k f0 (j + 1) = upd (kn1 T k f0 j) j (if k < T j then 0 else 1) := rfl
def kn2 (S O : Nat → Int32) : Nat → (Nat → Int32) → Nat → Int32
  | 0, f => f
  | t + 1, f => kn2 S O t (if S t = 2 then (if f t = 0 then f else upd f (O t).toNatClampNeg 0) else f)
theorem kn2_s (S O : Nat → Int32) (t : Nat) (f : Nat → Int32) : kn2 S O (t + 1) f = kn2 S O t (if S t = 2 then (if f t = 0 then f else upd f (O t).toNatClampNeg 0) else f) := rfl
def kn3 (f0 : Nat → Int32) : Nat → Nat → Int32
  | 0 => f0
  | j + 1 => upd (kn3 f0 j) j (-1)
theorem kn3_s (f0 : Nat → Int32) (j : Nat) : kn3 f0 (j + 1) = upd (kn3 f0 j) j (-1) := rfl
def kn4 (S O H C f0 : Nat → Int32) : Nat → Nat → Int32
  | 0 => f0
  | j + 1 => if S j = 1 then (if C j = 0 then kn4 S O H C f0 j else upd (kn4 S O H C f0 j) (O j).toNatClampNeg (H j)) else kn4 S O H C f0 j
theorem kn4_s (S O H C f0 : Nat → Int32) (j : Nat) : kn4 S O H C f0 (j + 1) = if S j = 1 then (if C j = 0 then kn4 S O H C f0 j else upd (kn4 S O H C f0 j) (O j).toNatClampNeg (H j)) else kn4 S O H C f0 j := rfl
/-- what counts, and who is dead, as known in k: out of the four rows of the notes -/
def sp_cn (S O T f0 : Nat → Int32) (N : Nat) (k : Int32) : Nat → Int32 := kn2 S O N (kn1 T k f0 N)
def sp_dd (S O H C g0 : Nat → Int32) (N : Nat) : Nat → Int32 := kn4 S O H C (kn3 g0 12) N
/-- the notes' rows stand in their bounds -/
def nt_ok (S O : Nat → Int32) (N : Nat) : Prop := N ≤ 60 ∧ ∀ j, j < N → (S j = 2 → vp_in (O j) 60) ∧ (¬ S j = 2 → vp_in (O j) 12)
theorem kn_L4 {l : Launch} {I : List Nat} (hI : fr_I I) (v : fr_V) (u : fr_U) (x1 : Int32) (N : Nat) (hN : v 1100 16 = nI N) (hW : nt_ok (v 1118) (v 1119) N) (hN60 : N ≤ 60) (C g0 : Nat → Int32) : ∀ (d j : Nat) (G : Nat → Int32) (hd : N - j < d) (hj : j ≤ N) (hG : G = kn4 (v 1118) (v 1119) (v 1120) C g0 j), J l mX11_know I (upA (upA v 1145 C) 1146 G) u 108 [(0, .ref 1100), (1, .int x1), (2, .int (nI j))] [] (QN u (fun a => a = upA (upA v 1145 C) 1146 (kn4 (v 1118) (v 1119) (v 1120) C g0 N))) := by
  intro d
  induction d with
  | zero => intros; omega
  | succ d ih =>
    intro j G hd hj hG
    refine J_iload_n dX11_know_108 rfl 2 rfl ?_
    refine J_aload_n dX11_know_109 rfl 0 rfl ?_
    refine J_gete (ci := 11) (j := 16) (x := v 1100 16) dX11_know_110 fl_X11_252 (i1100 hI) rfl rfl rfl ?_
    refine J_icmp_ge (tgt := 158) dX11_know_113 (by decide) (fun c1 => ?_) (fun c1 => ?_)
    · exact J_vret dX11_know_158 rfl ⟨rfl, rfl, by have e : j = N := by {rw [hN] at c1; have := nz_le (by omega) (by omega) c1; omega}; rw [← e, hG]⟩
    · have hjN : j < N := by rw [hN] at c1; exact nz_nle (by omega) (by omega) c1
      refine J_aload_n dX11_know_116 rfl 0 rfl ?_
      refine J_getr (ci := 11) (j := 17) (t := 1118) dX11_know_117 fl_X11_40 (i1100 hI) rfl rfl rfl ?_
      refine J_iload_n dX11_know_120 rfl 2 rfl ?_
      refine J_iale (x := v 1118 j) dX11_know_121 (i1118 hI) rfl (ix_in (j := j) rfl (by omega) (by omega)) ((congrArg _ (ix_cl (j := j) rfl (by omega))).trans rfl) ?_
      refine J_iconst (x := 1) dX11_know_122 (by decide) ?_
      refine J_icmp_ne (tgt := 152) dX11_know_123 (by decide) (fun c2 => ?_) (fun c2 => ?_)
      · refine J_iinc (q := 2) (z := nI (j + 1)) (lv' := [(2, .int (nI (j + 1))), (0, .ref 1100), (1, .int x1)]) dX11_know_152 rfl (nI_1 j) (by decide) rfl ?_
        refine J_goto (tgt := 108) dX11_know_155 (by decide) ?_
        refine J_lv [1, 2, 0] rfl ?_
        exact ih (j + 1) _ (by omega) (by omega) (by rw [kn4_s, if_neg c2, hG])
      · refine J_aload_n dX11_know_126 rfl 0 rfl ?_
        refine J_getr (ci := 11) (j := 44) (t := 1145) dX11_know_127 fl_X11_93 (i1100 hI) rfl rfl rfl ?_
        refine J_iload_n dX11_know_130 rfl 2 rfl ?_
        refine J_zale (x := C j) dX11_know_131 (i1145 hI) rfl (ix_in (j := j) rfl (by omega) (by omega)) ((congrArg _ (ix_cl (j := j) rfl (by omega))).trans rfl) ?_
        refine J_if_eq (tgt := 152) dX11_know_132 (by decide) (fun c3 => ?_) (fun c3 => ?_)
        · refine J_iinc (q := 2) (z := nI (j + 1)) (lv' := [(2, .int (nI (j + 1))), (0, .ref 1100), (1, .int x1)]) dX11_know_152 rfl (nI_1 j) (by decide) rfl ?_
          refine J_goto (tgt := 108) dX11_know_155 (by decide) ?_
          refine J_lv [1, 2, 0] rfl ?_
          exact ih (j + 1) _ (by omega) (by omega) (by rw [kn4_s, if_pos c2, if_pos c3, hG])
        · refine J_aload_n dX11_know_135 rfl 0 rfl ?_
          refine J_getr (ci := 11) (j := 45) (t := 1146) dX11_know_136 fl_X11_96 (i1100 hI) rfl rfl rfl ?_
          refine J_aload_n dX11_know_139 rfl 0 rfl ?_
          refine J_getr (ci := 11) (j := 18) (t := 1119) dX11_know_140 fl_X11_43 (i1100 hI) rfl rfl rfl ?_
          refine J_iload_n dX11_know_143 rfl 2 rfl ?_
          refine J_iale (x := v 1119 j) dX11_know_144 (i1119 hI) rfl (ix_in (j := j) rfl (by omega) (by omega)) ((congrArg _ (ix_cl (j := j) rfl (by omega))).trans rfl) ?_
          refine J_aload_n dX11_know_145 rfl 0 rfl ?_
          refine J_getr (ci := 11) (j := 19) (t := 1120) dX11_know_146 fl_X11_46 (i1100 hI) rfl rfl rfl ?_
          refine J_iload_n dX11_know_149 rfl 2 rfl ?_
          refine J_iale (x := v 1120 j) dX11_know_150 (i1120 hI) rfl (ix_in (j := j) rfl (by omega) (by omega)) ((congrArg _ (ix_cl (j := j) rfl (by omega))).trans rfl) ?_
          refine J_iast dX11_know_151 (i1146 hI) rfl ((hW.2 j hjN).2 (by rw [c2]; decide)) ?_
          refine J_iinc (q := 2) (z := nI (j + 1)) (lv' := [(2, .int (nI (j + 1))), (0, .ref 1100), (1, .int x1)]) dX11_know_152 rfl (nI_1 j) (by decide) rfl ?_
          refine J_goto (tgt := 108) dX11_know_155 (by decide) ?_
          refine J_lv [1, 2, 0] rfl ?_
          rw [up2_upA]
          exact ih (j + 1) _ (by omega) (by omega) (by rw [kn4_s, if_pos c2, if_neg c3, hG])
theorem kn_L3 {l : Launch} {I : List Nat} (hI : fr_I I) (v : fr_V) (u : fr_U) (x1 : Int32) (N : Nat) (hN : v 1100 16 = nI N) (hW : nt_ok (v 1118) (v 1119) N) (hN60 : N ≤ 60) (C g0 : Nat → Int32) : ∀ (d j : Nat) (G : Nat → Int32) (hd : 12 - j < d) (hj : j ≤ 12) (hG : G = kn3 g0 j), J l mX11_know I (upA (upA v 1145 C) 1146 G) u 87 [(0, .ref 1100), (1, .int x1), (2, .int (nI j))] [] (QN u (fun a => a = upA (upA v 1145 C) 1146 (kn4 (v 1118) (v 1119) (v 1120) C (kn3 g0 12) N))) := by
  intro d
  induction d with
  | zero => intros; omega
  | succ d ih =>
    intro j G hd hj hG
    refine J_iload_n dX11_know_87 rfl 2 rfl ?_
    refine J_bipush (x := 12) dX11_know_88 (by decide) ?_
    refine J_icmp_ge (tgt := 106) dX11_know_90 (by decide) (fun c1 => ?_) (fun c1 => ?_)
    · refine J_iconst (x := 0) dX11_know_106 (by decide) ?_
      refine J_istore_n (lv' := [(2, .int 0), (0, .ref 1100), (1, .int x1)]) dX11_know_107 rfl (by decide) rfl ?_
      refine J_lv [1, 2, 0] rfl ?_
      have e : j = 12 := by have := nz_le (a := 12) (by omega) (by omega) c1; omega
      rw [hG, e]
      exact kn_L4 hI v u x1 N hN hW hN60 C _ (N + 1) 0 _ (by omega) (by omega) rfl
    · have hj12 : j < 12 := nz_nle (a := 12) (by omega) (by omega) c1
      refine J_aload_n dX11_know_93 rfl 0 rfl ?_
      refine J_getr (ci := 11) (j := 45) (t := 1146) dX11_know_94 fl_X11_96 (i1100 hI) rfl rfl rfl ?_
      refine J_iload_n dX11_know_97 rfl 2 rfl ?_
      refine J_iconst (x := (-1)) dX11_know_98 (by decide) ?_
      refine J_iase (j := j) dX11_know_99 (i1146 hI) rfl (ix_in (j := j) rfl (by omega) (by omega)) (ix_cl (j := j) rfl (by omega)) ?_
      refine J_iinc (q := 2) (z := nI (j + 1)) (lv' := [(2, .int (nI (j + 1))), (0, .ref 1100), (1, .int x1)]) dX11_know_100 rfl (nI_1 j) (by decide) rfl ?_
      refine J_goto (tgt := 87) dX11_know_103 (by decide) ?_
      refine J_lv [1, 2, 0] rfl ?_
      rw [up2_upA]
      exact ih (j + 1) _ (by omega) (by omega) (by rw [kn3_s, hG])
theorem kn_L2 {l : Launch} {I : List Nat} (hI : fr_I I) (v : fr_V) (u : fr_U) (x1 : Int32) (N : Nat) (hN : v 1100 16 = nI N) (hW : nt_ok (v 1118) (v 1119) N) (hN60 : N ≤ 60) : ∀ (t : Nat) (f : Nat → Int32) (ht : t ≤ N), J l mX11_know I (upA v 1145 f) u 44 [(0, .ref 1100), (1, .int x1), (2, .int (nI t - 1))] [] (QN u (fun a => a = upA (upA v 1145 (kn2 (v 1118) (v 1119) t f)) 1146 (kn4 (v 1118) (v 1119) (v 1120) (kn2 (v 1118) (v 1119) t f) (kn3 (v 1146) 12) N))) := by
  intro t
  induction t with
  | zero =>
    intro f ht
    refine J_iload_n dX11_know_44 rfl 2 rfl ?_
    refine J_if_lt (tgt := 85) dX11_know_45 (by decide) (fun c1 => ?_) (fun c1 => absurd dn_0 c1)
    refine J_iconst (x := 0) dX11_know_85 (by decide) ?_
    refine J_istore_n (lv' := [(2, .int 0), (0, .ref 1100), (1, .int x1)]) dX11_know_86 rfl (by decide) rfl ?_
    refine J_lv [1, 2, 0] rfl ?_
    refine J_ve (w := upA (upA v 1145 f) 1146 (v 1146)) (by funext b; unfold upA; by_cases h : b = 1146 <;> simp [h]) ?_
    exact kn_L3 hI v u x1 N hN hW hN60 f (v 1146) 13 0 _ (by omega) (by omega) rfl
  | succ s ih =>
    intro f ht
    rw [nI_pred]
    refine J_iload_n dX11_know_44 rfl 2 rfl ?_
    refine J_if_lt (tgt := 85) dX11_know_45 (by decide) (fun c1 => absurd c1 (nI_pos (by omega))) (fun c1 => ?_)
    refine J_aload_n dX11_know_48 rfl 0 rfl ?_
    refine J_getr (ci := 11) (j := 17) (t := 1118) dX11_know_49 fl_X11_40 (i1100 hI) rfl rfl rfl ?_
    refine J_iload_n dX11_know_52 rfl 2 rfl ?_
    refine J_iale (x := v 1118 s) dX11_know_53 (i1118 hI) rfl (ix_in (j := s) rfl (by omega) (by omega)) ((congrArg _ (ix_cl (j := s) rfl (by omega))).trans rfl) ?_
    refine J_iconst (x := 2) dX11_know_54 (by decide) ?_
    refine J_icmp_ne (tgt := 79) dX11_know_55 (by decide) (fun c2 => ?_) (fun c2 => ?_)
    · refine J_iinc (q := 2) (z := nI s - 1) (lv' := [(2, .int (nI s - 1)), (0, .ref 1100), (1, .int x1)]) dX11_know_79 rfl (dn_1 s) (by decide) rfl ?_
      refine J_goto (tgt := 44) dX11_know_82 (by decide) ?_
      refine J_lv [1, 2, 0] rfl ?_
      rw [kn2_s, if_neg c2]
      exact ih _ (by omega)
    · refine J_aload_n dX11_know_58 rfl 0 rfl ?_
      refine J_getr (ci := 11) (j := 44) (t := 1145) dX11_know_59 fl_X11_93 (i1100 hI) rfl rfl rfl ?_
      refine J_iload_n dX11_know_62 rfl 2 rfl ?_
      refine J_zale (x := f s) dX11_know_63 (i1145 hI) rfl (ix_in (j := s) rfl (by omega) (by omega)) ((congrArg _ (ix_cl (j := s) rfl (by omega))).trans rfl) ?_
      refine J_if_eq (tgt := 79) dX11_know_64 (by decide) (fun c3 => ?_) (fun c3 => ?_)
      · refine J_iinc (q := 2) (z := nI s - 1) (lv' := [(2, .int (nI s - 1)), (0, .ref 1100), (1, .int x1)]) dX11_know_79 rfl (dn_1 s) (by decide) rfl ?_
        refine J_goto (tgt := 44) dX11_know_82 (by decide) ?_
        refine J_lv [1, 2, 0] rfl ?_
        rw [kn2_s, if_pos c2, if_pos c3]
        exact ih _ (by omega)
      · refine J_aload_n dX11_know_67 rfl 0 rfl ?_
        refine J_getr (ci := 11) (j := 44) (t := 1145) dX11_know_68 fl_X11_93 (i1100 hI) rfl rfl rfl ?_
        refine J_aload_n dX11_know_71 rfl 0 rfl ?_
        refine J_getr (ci := 11) (j := 18) (t := 1119) dX11_know_72 fl_X11_43 (i1100 hI) rfl rfl rfl ?_
        refine J_iload_n dX11_know_75 rfl 2 rfl ?_
        refine J_iale (x := v 1119 s) dX11_know_76 (i1119 hI) rfl (ix_in (j := s) rfl (by omega) (by omega)) ((congrArg _ (ix_cl (j := s) rfl (by omega))).trans rfl) ?_
        refine J_iconst (x := 0) dX11_know_77 (by decide) ?_
        refine J_zast dX11_know_78 (i1145 hI) rfl ((hW.2 s (by omega)).1 c2) (by decide) ?_
        refine J_iinc (q := 2) (z := nI s - 1) (lv' := [(2, .int (nI s - 1)), (0, .ref 1100), (1, .int x1)]) dX11_know_79 rfl (dn_1 s) (by decide) rfl ?_
        refine J_goto (tgt := 44) dX11_know_82 (by decide) ?_
        refine J_lv [1, 2, 0] rfl ?_
        rw [up2_upA]
        rw [kn2_s, if_pos c2, if_neg c3]
        exact ih _ (by omega)
def f_know (v : fr_V) (N : Nat) (k : Int32) : fr_V := upA (upA v 1145 (sp_cn (v 1118) (v 1119) (v 1121) (v 1145) N k)) 1146 (sp_dd (v 1118) (v 1119) (v 1120) (sp_cn (v 1118) (v 1119) (v 1121) (v 1145) N k) (v 1146) N)
theorem kn_L1 {l : Launch} {I : List Nat} (hI : fr_I I) (v : fr_V) (u : fr_U) (x1 : Int32) (N : Nat) (hN : v 1100 16 = nI N) (hW : nt_ok (v 1118) (v 1119) N) (hN60 : N ≤ 60) : ∀ (d j : Nat) (F : Nat → Int32) (hd : N - j < d) (hj : j ≤ N) (hF : F = kn1 (v 1121) x1 (v 1145) j), J l mX11_know I (upA v 1145 F) u 2 [(0, .ref 1100), (1, .int x1), (2, .int (nI j))] [] (QN u (fun a => a = f_know v N x1)) := by
  intro d
  induction d with
  | zero => intros; omega
  | succ d ih =>
    intro j F hd hj hF
    refine J_iload_n dX11_know_2 rfl 2 rfl ?_
    refine J_aload_n dX11_know_3 rfl 0 rfl ?_
    refine J_gete (ci := 11) (j := 16) (x := v 1100 16) dX11_know_4 fl_X11_252 (i1100 hI) rfl rfl rfl ?_
    refine J_icmp_ge (tgt := 37) dX11_know_7 (by decide) (fun c1 => ?_) (fun c1 => ?_)
    · refine J_aload_n dX11_know_37 rfl 0 rfl ?_
      refine J_gete (ci := 11) (j := 16) (x := v 1100 16) dX11_know_38 fl_X11_252 (i1100 hI) rfl rfl rfl ?_
      refine J_iconst (x := 1) dX11_know_41 (by decide) ?_
      refine J_isub dX11_know_42 ?_
      refine J_istore_n (lv' := [(2, .int ((v 1100 16) - 1)), (0, .ref 1100), (1, .int x1)]) dX11_know_43 rfl (by decide) rfl ?_
      refine J_lv [1, 2, 0] rfl ?_
      have e : j = N := by {rw [hN] at c1; have := nz_le (by omega) (by omega) c1; omega}
      rw [hN, hF, e]
      exact kn_L2 hI v u x1 N hN hW hN60 N _ (Nat.le_refl _)
    · have hjN : j < N := by rw [hN] at c1; exact nz_nle (by omega) (by omega) c1
      refine J_aload_n dX11_know_10 rfl 0 rfl ?_
      refine J_getr (ci := 11) (j := 44) (t := 1145) dX11_know_11 fl_X11_93 (i1100 hI) rfl rfl rfl ?_
      refine J_iload_n dX11_know_14 rfl 2 rfl ?_
      refine J_aload_n dX11_know_15 rfl 0 rfl ?_
      refine J_getr (ci := 11) (j := 20) (t := 1121) dX11_know_16 fl_X11_49 (i1100 hI) rfl rfl rfl ?_
      refine J_iload_n dX11_know_19 rfl 2 rfl ?_
      refine J_iale (x := v 1121 j) dX11_know_20 (i1121 hI) rfl (ix_in (j := j) rfl (by omega) (by omega)) ((congrArg _ (ix_cl (j := j) rfl (by omega))).trans rfl) ?_
      refine J_iload_n dX11_know_21 rfl 1 rfl ?_
      refine J_icmp_gt (tgt := 29) dX11_know_22 (by decide) (fun c2 => ?_) (fun c2 => ?_)
      · refine J_iconst (x := 0) dX11_know_29 (by decide) ?_
        refine J_zase (j := j) dX11_know_30 (i1145 hI) rfl (ix_in (j := j) rfl (by omega) (by omega)) (ix_cl (j := j) rfl (by omega)) (by decide) ?_
        refine J_iinc (q := 2) (z := nI (j + 1)) (lv' := [(2, .int (nI (j + 1))), (0, .ref 1100), (1, .int x1)]) dX11_know_31 rfl (nI_1 j) (by decide) rfl ?_
        refine J_goto (tgt := 2) dX11_know_34 (by decide) ?_
        refine J_lv [1, 2, 0] rfl ?_
        rw [up2_upA]
        exact ih (j + 1) _ (by omega) (by omega) (by rw [kn1_s, if_pos c2, hF])
      · refine J_iconst (x := 1) dX11_know_25 (by decide) ?_
        refine J_goto (tgt := 30) dX11_know_26 (by decide) ?_
        refine J_zase (j := j) dX11_know_30 (i1145 hI) rfl (ix_in (j := j) rfl (by omega) (by omega)) (ix_cl (j := j) rfl (by omega)) (by decide) ?_
        refine J_iinc (q := 2) (z := nI (j + 1)) (lv' := [(2, .int (nI (j + 1))), (0, .ref 1100), (1, .int x1)]) dX11_know_31 rfl (nI_1 j) (by decide) rfl ?_
        refine J_goto (tgt := 2) dX11_know_34 (by decide) ?_
        refine J_lv [1, 2, 0] rfl ?_
        rw [up2_upA]
        exact ih (j + 1) _ (by omega) (by omega) (by rw [kn1_s, if_neg c2, hF])
theorem k_X11_know {l : Launch} {I : List Nat} (hI : fr_I I) (v : fr_V) (u : fr_U) (x1 : Int32) (N : Nat) (hN : v 1100 16 = nI N) (hW : nt_ok (v 1118) (v 1119) N) : Con l mX11_know I v u [.ref 1100, .int x1] (QN u (fun a => a = f_know v N x1)) := by
  refine Con.of (by decide) (Nat.le_of_ble_eq_true rfl) ?_
  show J l mX11_know I v u 0 [(0, .ref 1100), (1, .int x1)] [] _
  refine J_iconst (x := 0) dX11_know_0 (by decide) ?_
  refine J_istore_n (lv' := [(2, .int 0), (0, .ref 1100), (1, .int x1)]) dX11_know_1 rfl (by decide) rfl ?_
  refine J_lv [1, 2, 0] rfl ?_
  refine J_ve (w := upA v 1145 (v 1145)) (upA_id v 1145).symm ?_
  exact kn_L1 hI v u x1 N hN hW hW.1 (N + 1) 0 _ (by omega) (by omega) rfl
