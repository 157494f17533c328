theorem lnR.c {z z' v v' : fr_V} {L p : Nat} (h : lnR z v L p) (e : z' L = z L) (f : ∀ c, 1132 ≤ c → c ≤ 1138 → v' c p = v c p) : lnR z' v' L p := by
  unfold lnR at h ⊢
  rw [e, f 1132 (by omega) (by omega), f 1133 (by omega) (by omega), f 1134 (by omega) (by omega), f 1135 (by omega) (by omega), f 1136 (by omega) (by omega), f 1137 (by omega) (by omega), f 1138 (by omega) (by omega)]
  exact h
def LNS (ac m : Nat) (z v : fr_V) : Prop := ∀ i, i < m → lnR z v (lnB ac + i) (24 + i) ∧ ∃ w, w < 4 ∧ z (lnB ac + i) 0 = nI (3000 + w) ∧ v 1131 (24 + i) = nI w
def SET (ac : Nat) (z v : fr_V) : Prop := ∀ j, j < 4 → (z (ac + 3) j = (-1) ∧ v 1142 j = 0 ∧ v 1141 (4 + j) = fr_us j) ∨ ∃ n, nlo j ≤ n ∧ n ≤ nhi j ∧ z (ac + 3) j = nI n ∧ ¬ v 1142 j = 0 ∧ v 1141 (4 + j) = nI n
/-- both sides stand at the beginning of a line -/
def RA (ac E q m k : Nat) (z v : fr_V) : Prop := PB ac E q z v ∧ z 600 5 = 0 ∧ z 600 4 = nI k ∧ z ac 1 = nI m ∧ v 1100 39 = nI m ∧ m ≤ 24 ∧ LNS ac m z v ∧ SET ac z v
theorem LNS.c {ac m : Nat} {z z' v v' : fr_V} (h : LNS ac m z v) (e : ∀ i, i < m → z' (lnB ac + i) = z (lnB ac + i)) (f : ∀ c i, 1131 ≤ c → c ≤ 1138 → i < m → v' c (24 + i) = v c (24 + i)) : LNS ac m z' v' := fun i hi => by
  obtain ⟨h1, w, h2, h3, h4⟩ := h i hi
  exact ⟨h1.c (e i hi) (fun c k1 k2 => f c i (by omega) k2 hi), w, h2, by rw [e i hi]; exact h3, by rw [f 1131 i (by omega) (by omega) hi]; exact h4⟩
theorem SET.c {ac : Nat} {z z' v v' : fr_V} (h : SET ac z v) (e : z' (ac + 3) = z (ac + 3)) (f1 : v' 1141 = v 1141) (f2 : v' 1142 = v 1142) : SET ac z' v' := by
  unfold SET at h ⊢
  rw [e, f1, f2]
  exact h
section PJS
variable {ac E B : Nat}
theorem al_R : ∀ (d q m k : Nat) (z v : fr_V), RA ac E q m k z v → E - q < d → k + d ≤ B → ((f_al E d v k).1 = (-1) ∧ ERR (go ac E z) (f_al E d v k).2) ∨ ∃ m' k' vf, k' ≤ B ∧ f_al E d v k = (nI k', f_keep vf m') ∧ RA ac E E m' k' (go ac E z) vf := by
  intro d
  induction d with
  | zero => intro q m k z v _ hd _; omega
  | succ d ih =>
    intro q m k z v hRA hd hB
    obtain ⟨h, h5, h4, hm, h39, hm24, hln, hst⟩ := id hRA
    have hac := h.1
    have hL := ln_far hac
    rw [f_al_s]
    rcases Nat.lt_or_ge q E with hq | hq
    rotate_left
    · have hqE : q = E := Nat.le_antisymm h.2.2.2.2.1 hq
      subst hqE
      rw [if_pos (h.2.2.2.2.2.2.2.2.1 rfl), h39, nI_clamp (by omega)]
      exact Or.inr ⟨m, k, v, by omega, rfl, by rw [h.fin]; exact hRA⟩
    obtain ⟨t1, t2, tk⟩ := h.tt hq
    have y5 : f_tt z E q 600 5 = 0 := by rw [t2 5 (by omega)]; exact h5
    have nword : woOf (f_tt z E q) = none → ¬ v 1100 27 = 0 → ¬ v 1100 27 = 1 → ERR (go ac E z) (f_X11_wrong v 1).2 := fun e _ _ => h.eW hq (r := 1) (by rw [put_none e]; unfold f_putN; rw [y5]; rfl) (by decide) rfl
    rcases tk with ⟨w, hw15, k1, k2, k3, k4⟩ | ⟨k1, k3, -, -⟩ | ⟨k1, k3, -⟩ | ⟨k1, k3, -⟩
    rotate_left
    · have a : ¬ v 1100 27 = 0 := by rw [k1]; decide
      have b : ¬ v 1100 27 = 1 := by rw [k1]; decide
      rw [if_neg a, if_neg b]; exact Or.inl ⟨rfl, nword k3 a b⟩
    · have a : ¬ v 1100 27 = 0 := by rw [k1]; decide
      have b : ¬ v 1100 27 = 1 := by rw [k1]; decide
      rw [if_neg a, if_neg b]; exact Or.inl ⟨rfl, nword k3 a b⟩
    · have a : ¬ v 1100 27 = 0 := by rw [k1]; decide
      have b : ¬ v 1100 27 = 1 := by rw [k1]; decide
      rw [if_neg a, if_neg b]; exact Or.inl ⟨rfl, nword k3 a b⟩
    rw [if_neg (show ¬ v 1100 27 = 0 by rw [k1]; decide), if_pos k1, k2]
    rcases Nat.lt_or_ge 7 w with w8 | w7
    · rw [if_neg (show ¬ nI w ≤ (7 : Int32) from nI_ge (a := 7) w8 (by omega))]
      refine Or.inl ⟨rfl, h.eW hq (r := 1) ?_ (by decide) rfl⟩
      rw [put_some k3]
      unfold f_putW
      rw [y5, if_pos rfl]
      show (f_plw (f_tt z E q) ac (mOf (f_tt z E q) ac) w).1 = 1
      have r : ¬ wdrole w = 1 ∧ ¬ wdrole w = 0 := by
        rcases (show w = 8 ∨ w = 9 ∨ w = 10 ∨ w = 11 ∨ w = 12 ∨ w = 13 ∨ w = 14 by omega) with rfl | rfl | rfl | rfl | rfl | rfl | rfl <;> decide
      unfold f_plw
      rw [if_neg r.1, if_neg r.2]
    rw [if_pos (show nI w ≤ (7 : Int32) from nI_le (b := 7) w7 (by decide))]
    rcases Nat.lt_or_ge w 4 with w4 | w4
    · rw [if_neg (show ¬ (4 : Int32) ≤ nI w from nI_ge (b := 4) w4 (by decide)), h39, nI_clamp (show m < 2 ^ 31 by omega), nI_clamp (show w < 2 ^ 31 by omega)]
      rcases ofW_R h hq h5 hm hm24 w4 k3 with ⟨s1, s2⟩ | ⟨s1, hm', q1, z1, s2, s3, s4, s5, s6, s7, s8, s9, s10, s11, s12, s13, s14, s15⟩
      · rw [if_pos s1]; exact Or.inl ⟨rfl, s2⟩
      generalize f_ofW E v m w = S at s1 s3 s10 s12 s13 s14 s15 ⊢
      rw [if_neg (show ¬ S.1 = 0 by rw [s1]; decide), s4]
      rcases eol_R s3 (Or.inl s5) (Or.inr s6) with ⟨c, q2, z2, e1, e2, e3, e4, e5, e6, e7⟩ | ⟨c, e1⟩
      rotate_left
      · rw [if_neg c]; exact Or.inl ⟨rfl, e1⟩
      rw [if_pos c, e3]
      refine ih q2 (m + 1) (k + 1) z2 (f_tok E S.2) ⟨e4, e5, ?_, ?_, ?_, by omega, fun i hi => ?_, ?_⟩ (by omega) (by omega)
      · rw [e6, s7, h4]; exact nI_1 k
      · rw [e7 ac (by omega), s9]; exact pk_us
      · rw [tok_k (by omega)]; exact s13
      · have n600 : lnB ac + i ≠ 600 := by omega
        by_cases ei : i = m
        · subst ei
          exact ⟨s10.c (e7 _ n600) (fun c9 g1 g2 => by rw [tok_c (by omega)]), w, w4, by rw [e7 _ n600]; exact s11, by rw [tok_c (by decide)]; exact s12⟩
        · obtain ⟨o1, w9, o2, o3, o4⟩ := hln i (by omega)
          have ez : z2 (lnB ac + i) = z (lnB ac + i) := (e7 _ n600).trans (s8 _ n600 (by omega) (by omega))
          exact ⟨o1.c ez (fun c9 g1 g2 => by rw [tok_c (by omega)]; exact s14 c9 (24 + i) (by omega) (by omega)), w9, o2, by rw [ez]; exact o3, by rw [tok_c (by decide), s14 1131 (24 + i) (by decide) (by omega)]; exact o4⟩
      · refine hst.c ?_ ?_ ?_
        · exact (e7 _ (by omega)).trans (s8 _ (by omega) (by omega) (by omega))
        · rw [tok_c (by decide)]; funext i; exact s14 1141 i (by decide) (by omega)
        · rw [tok_c (by decide)]; funext i; exact s14 1142 i (by decide) (by omega)
    · rw [if_pos (show (4 : Int32) ≤ nI w from nI_le (a := 4) w4 (by omega)), nI_clamp (show w < 2 ^ 31 by omega)]
      obtain ⟨j, hj, rfl⟩ : ∃ j, j < 4 ∧ w = 4 + j := ⟨w - 4, by omega, by omega⟩
      rw [show 4 + j - 4 = j by omega]
      have hset : (z (ac + 3) j = (-1) ∧ v 1142 j = 0) ∨ (¬ z (ac + 3) j = (-1) ∧ ¬ v 1142 j = 0) := by
        rcases hst j hj with ⟨o1, o2, -⟩ | ⟨n, -, o0, o1, o2, -⟩
        · exact Or.inl ⟨o1, o2⟩
        · exact Or.inr ⟨by rw [o1]; exact nI_m1 (by have := (nk_is j hj).2.2.2.1; omega), o2⟩
      rcases ofN_R h hq h5 hj k3 hset with ⟨s1, s2⟩ | ⟨s1, q1, z1, n, s2, s3, s4, s5, s6, s7, s8, s9, s10, s11, s12, s13, s14⟩
      · rw [if_pos s1]; exact Or.inl ⟨rfl, s2⟩
      generalize f_ofN E v j = S at s1 s3 s11 s12 s13 s14 ⊢
      rw [if_neg (show ¬ S.1 = 0 by rw [s1]; decide), s4]
      rcases eol_R s3 (Or.inr s5) (Or.inl s5) with ⟨c, q2, z2, e1, e2, e3, e4, e5, e6, e7⟩ | ⟨c, e1⟩
      rotate_left
      · rw [if_neg c]; exact Or.inl ⟨rfl, e1⟩
      rw [if_pos c, e3]
      refine ih q2 m (k + 1) z2 (f_tok E S.2) ⟨e4, e5, ?_, ?_, ?_, hm24, hln.c (fun i hi => ?_) (fun c9 i g1 g2 _ => ?_), fun i hi => ?_⟩ (by omega) (by omega)
      · rw [e6, s6, h4]; exact nI_1 k
      · rw [e7 ac (by omega), s7 ac (by omega) (by omega)]; exact hm
      · rw [tok_k (by omega), s14 39 (by omega)]; exact h39
      · exact (e7 _ (by omega)).trans (s7 _ (by omega) (by omega))
      · rw [tok_c (by omega), s13 c9 (by omega) (by omega) (by omega)]
      · rw [e7 (ac + 3) (by omega), s8, tok_c (by decide), tok_c (by decide), s11, s12]
        by_cases ei : i = j
        · subst ei
          exact Or.inr ⟨n, s9, s10, pk_us, by rw [pk_us]; decide, pk_us⟩
        · rw [pk_un ei, pk_un ei, pk_un (show 4 + i ≠ 4 + j by omega)]
          exact hst i hi
end PJS
