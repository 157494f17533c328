theorem PB.f {ac E q : Nat} {z v w : fr_V} (h : PB ac E q z v) (e1 : w 1101 = v 1101) (e2 : ∀ j, 26 ≤ j → j ≤ 29 → w 1100 j = v 1100 j) : PB ac E q z w := by
  unfold PB at h ⊢
  unfold tkR at h ⊢
  rw [e1, e2 26 (by omega) (by omega), e2 27 (by omega) (by omega), e2 28 (by omega) (by omega), e2 29 (by omega) (by omega)]
  exact h
theorem ple_0 {y : fr_V} (h : y 600 11 = 2) : f_ple y = (0, up2 (up2 y 600 4 (y 600 4 + 1)) 600 5 0) := by unfold f_ple; rw [if_pos h]
theorem ple_1 {y : fr_V} (h : ¬ y 600 11 = 2) : f_ple y = (1, y) := by unfold f_ple; rw [if_neg h]
section PGS
variable {ac E q : Nat} {z v : fr_V}
/-- the end of a line -/
theorem eol_R (h : PB ac E q z v) (hs : S2 E z q ∨ z 600 5 = 8) (hno : z 600 5 = 8 ∨ (q < E → ∀ w, woOf (f_tt z E q) = some w → ¬ (8 ≤ w ∧ w ≤ 12))) :
    (v 1100 27 = 3 ∧ ∃ q' z', q < q' ∧ q' ≤ E ∧ go ac E z = go ac E z' ∧ PB ac E q' z' (f_tok E v) ∧ z' 600 5 = 0 ∧ z' 600 4 = z 600 4 + 1 ∧ ∀ c, c ≠ 600 → z' c = z c) ∨ (¬ v 1100 27 = 3 ∧ ERR (go ac E z) (f_X11_wrong v 1).2) := by
  have n0 : ¬ z 600 5 = 0 := by
    rcases hs with hs | hs
    · exact hs.n0
    · rw [hs]; decide
  rcases Nat.lt_or_ge q E with hq | hq
  rotate_left
  · have hqE : q = E := Nat.le_antisymm h.2.2.2.2.1 hq
    subst hqE
    exact Or.inr ⟨by rw [h.2.2.2.2.2.2.2.2.1 rfl]; decide, h.eE n0 rfl⟩
  obtain ⟨t1, t2, tk⟩ := h.tt hq
  have hput : (v 1100 27 = 3 → f_put6 (f_tt z E q) ac = f_ple (f_tt z E q) ∧ f_tt z E q 600 11 = 2) ∧ (¬ v 1100 27 = 3 → (f_put6 (f_tt z E q) ac).1 = 1) := by
    have k11 : v 1100 27 = 3 ↔ f_tt z E q 600 11 = 2 := by
      rcases tk with ⟨w, -, k1, -, -, k2⟩ | ⟨k1, -, k2, -⟩ | ⟨k1, -, k2⟩ | ⟨k1, -, k2⟩
      · rw [k1, k2]; exact ⟨fun e => absurd e (by decide), fun e => absurd e (by decide)⟩
      · rw [k1, k2]; exact ⟨fun e => absurd e (by decide), fun e => absurd e (by decide)⟩
      · rw [k1, k2]; exact ⟨fun _ => rfl, fun _ => rfl⟩
      · rw [k1]
        rcases k2 with k2 | k2 <;> rw [k2] <;> exact ⟨fun e => absurd e (by decide), fun e => absurd e (by decide)⟩
    by_cases s8 : z 600 5 = 8
    · have p8 := pt_8 (ac := ac) (y := f_tt z E q) (by rw [t2 5 (by omega)]; exact s8)
      exact ⟨fun e => ⟨p8, k11.mp e⟩, fun e => by rw [p8, ple_1 (fun w => e (k11.mpr w))]⟩
    · have hs2 := hs.resolve_right s8
      have hno2 := hno.resolve_left s8 hq
      cases hw : woOf (f_tt z E q) with
      | none =>
        have p2 := pt_2n (ac := ac) (y := f_tt z E q) (by rw [t2 5 (by omega)]; exact hs2.elim Or.inl (fun k => Or.inr k.1)) hw
        refine ⟨fun e => ⟨?_, k11.mp e⟩, fun e => ?_⟩
        · rw [p2]; unfold f_pwhN; rw [if_pos (k11.mp e)]
        · rw [p2]; unfold f_pwhN; rw [if_neg (fun w => e (k11.mpr w))]
      | some w =>
        have hw15 : w < 15 ∧ f_tt z E q 600 11 = 0 := by
          rcases tk with ⟨w', k0, -, -, k3, k4⟩ | ⟨-, k3, -, -⟩ | ⟨-, k3, -⟩ | ⟨-, k3, -⟩
          · rw [hw] at k3; rw [Option.some.inj k3]; exact ⟨k0, k4⟩
          · rw [hw] at k3; cases k3
          · rw [hw] at k3; cases k3
          · rw [hw] at k3; cases k3
        have p2 := pt_2s (ac := ac) (y := f_tt z E q) (by
          rw [t2 5 (by omega)]
          refine hs2.elim Or.inl (fun k => Or.inr ⟨k.1, fun e => k.2 hq ?_⟩)
          rw [hw, e]) hw
        have n2 : ¬ f_tt z E q 600 11 = 2 := by rw [hw15.2]; decide
        refine ⟨fun e => absurd (k11.mp e) n2, fun _ => ?_⟩
        rw [p2]
        unfold f_pwh
        rw [if_neg n2, if_neg (fun e => hno2 w hw ((role_in w hw15.1).mp e))]
  by_cases c : v 1100 27 = 3
  · obtain ⟨p1, p2⟩ := hput.1 c
    have p3 : f_put6 (f_tt z E q) ac = (0, up2 (up2 (f_tt z E q) 600 4 (f_tt z E q 600 4 + 1)) 600 5 0) := by rw [p1, ple_0 p2]
    obtain ⟨q1, q01, q1E, g1, h1⟩ := h.adv hq (by rw [p3]) (v' := v) rfl rfl
    rw [p3] at g1 h1
    dsimp only at g1 h1
    refine Or.inl ⟨c, q1, _, q01, q1E, g1, h1, ?_, ?_, fun c9 k9 => ?_⟩
    · rw [u6 (by decide), u6 (by decide), u6s]
    · rw [u6 (by decide), u6 (by decide), u6 (by decide), u6s, t2 4 (by omega)]
    · rw [up2_ne k9, up2_ne k9, up2_ne k9, up2_ne k9]; exact t1 c9 k9
  · exact Or.inr ⟨c, h.eW hq (hput.2 c) (by decide) rfl⟩
def nlo (k : Nat) : Nat := ([0, 0, 2, 1] : List Nat).getD k 0
def nhi (k : Nat) : Nat := ([40, 9, 99, 3] : List Nat).getD k 0
theorem nk_is : ∀ k, k < 4 → wdleast (4 + k) = nI (nlo k) ∧ wdmost (4 + k) = nI (nhi k) ∧ nlo k ≤ 9999 ∧ nhi k ≤ 9999 ∧ wdrole (4 + k) = 1 ∧ (wdslot (4 + k)).toNatClampNeg = k := by decide +kernel
theorem ofN_is {k : Nat} (hk : k < 4) : f_ofN E v k = if v 1142 k = 0 then (if (f_X11_isNumber (f_tok E (up2 v 1142 k 1)) (nI (nlo k)) (nI (nhi k))).1 = 0 then (0, (f_X11_isNumber (f_tok E (up2 v 1142 k 1)) (nI (nlo k)) (nI (nhi k))).2) else (1, f_tok E (up2 (f_tok E (up2 v 1142 k 1)) 1141 (4 + k) (f_tok E (up2 v 1142 k 1) 1100 28)))) else (0, (f_X11_wrong v 3).2) := by
  unfold f_ofN
  have e0 : ¬ nI 0 = (2 : Int32) := by decide
  have e1 : ¬ nI 0 = (3 : Int32) := by decide
  have e2 : nI 0 = (0 : Int32) := by decide
  have f0 : ¬ nI 1 = (2 : Int32) := by decide
  have f1 : ¬ nI 1 = (3 : Int32) := by decide
  have f2 : ¬ nI 1 = (0 : Int32) := by decide
  have f3 : nI 1 = (1 : Int32) := by decide
  have g0 : nI 2 = (2 : Int32) := by decide
  have g1 : ¬ nI 2 = (0 : Int32) := by decide
  have g2 : ¬ nI 2 = (1 : Int32) := by decide
  have h0 : ¬ nI 3 = (2 : Int32) := by decide
  have h1 : nI 3 = (3 : Int32) := by decide
  have h2 : ¬ nI 3 = (0 : Int32) := by decide
  have h3 : ¬ nI 3 = (1 : Int32) := by decide
  rcases (show k = 0 ∨ k = 1 ∨ k = 2 ∨ k = 3 by omega) with rfl | rfl | rfl | rfl
  · rw [if_neg e0, if_neg e1, if_pos e2]; rfl
  · rw [if_neg f0, if_neg f1, if_neg f2, if_pos f3]; rfl
  · rw [if_pos g0, if_neg g1, if_neg g2, if_pos g0]; rfl
  · rw [if_neg h0, if_pos h1, if_neg h2, if_neg h3, if_neg h0]; rfl
theorem ofN_R (h : PB ac E q z v) (hq : q < E) (h5 : z 600 5 = 0) {k : Nat} (hk : k < 4) (hw : woOf (f_tt z E q) = some (4 + k)) (hset : (z (ac + 3) k = (-1) ∧ v 1142 k = 0) ∨ (¬ z (ac + 3) k = (-1) ∧ ¬ v 1142 k = 0)) :
    ((f_ofN E v k).1 = 0 ∧ ERR (go ac E z) (f_ofN E v k).2) ∨
    ((f_ofN E v k).1 = 1 ∧ ∃ q' z' n, q < q' ∧ PB ac E q' z' (f_ofN E v k).2 ∧ go ac E z = go ac E z' ∧ z' 600 5 = 8 ∧ z' 600 4 = z 600 4 ∧ (∀ c, c ≠ 600 → c ≠ ac + 3 → z' c = z c) ∧ z' (ac + 3) = upd (z (ac + 3)) k (nI n) ∧ nlo k ≤ n ∧ n ≤ nhi k ∧ (f_ofN E v k).2 1142 = upd (v 1142) k 1 ∧ (f_ofN E v k).2 1141 = upd (v 1141) (4 + k) (nI n) ∧ (∀ c, c ≠ 1100 → c ≠ 1141 → c ≠ 1142 → (f_ofN E v k).2 c = v c) ∧ ∀ j, j < 26 ∨ 29 < j → (f_ofN E v k).2 1100 j = v 1100 j) := by
  obtain ⟨w1, w2, w3, w4, w5, w6⟩ := nk_is k hk
  have hac3 : ac + 3 ≠ 600 := by rcases h.1 with e | e <;> omega
  obtain ⟨t1, t2, -⟩ := h.tt hq
  generalize hy : f_tt z E q = y at t1 t2 hw
  have hput : f_put6 y ac = if y (ac + 3) k = (-1) then (0, up2 (up2 y 600 6 (nI (3000 + (4 + k)))) 600 5 1) else (3, up2 (up2 y 600 6 (nI (3000 + (4 + k)))) 600 5 1) := by
    rw [put_some hw]
    unfold f_putW
    rw [t2 5 (by omega), h5, if_pos rfl]
    show f_plw y ac (mOf y ac) (4 + k) = _
    unfold f_plw
    rw [if_pos w5, w6]
  rw [t1 (ac + 3) hac3] at hput
  rw [ofN_is hk]
  rcases hset with ⟨s1, s2⟩ | ⟨s1, s2⟩
  rotate_left
  · rw [if_neg s2]
    exact Or.inl ⟨rfl, h.eW hq (r := 3) (by rw [hy, hput, if_neg s1]) (by decide) rfl⟩
  rw [if_pos s2]
  rw [if_pos s1] at hput
  obtain ⟨q1, q01, q1E, g1, h1⟩ := h.adv hq (by rw [hy, hput]) (v' := up2 v 1142 k 1) (up2_ne (by decide)) (by rw [up2_ne (by decide)])
  rw [hy, hput] at g1 h1
  dsimp only at g1 h1
  generalize hz1 : up2 (up2 (up2 (up2 y 600 6 (nI (3000 + (4 + k)))) 600 5 1) 600 14 0) 600 9 (nI q1) = z1 at g1 h1
  have v1k : ∀ j, j < 26 ∨ 29 < j → f_tok E (up2 v 1142 k 1) 1100 j = v 1100 j := fun j hj => by rw [tok_k hj, up2_ne (by decide)]
  have v1c : ∀ c, c ≠ 1100 → f_tok E (up2 v 1142 k 1) c = up2 v 1142 k 1 c := fun c hc => tok_c hc
  generalize hv1 : f_tok E (up2 v 1142 k 1) = v1 at h1 v1k v1c
  have a5 : z1 600 5 = 1 := by rw [← hz1, u6 (by decide), u6 (by decide), u6s]
  have ao : owOf z1 = 4 + k := by unfold owOf; rw [← hz1, u6 (by decide), u6 (by decide), u6 (by decide), u6s, nI_clamp (by omega)]; omega
  have a4 : z1 600 4 = z 600 4 := by rw [← hz1, u6 (by decide), u6 (by decide), u6 (by decide), u6 (by decide)]; exact t2 4 (by omega)
  have acc : ∀ c, c ≠ 600 → z1 c = z c := fun c hc => by rw [← hz1, up2_ne hc, up2_ne hc, up2_ne hc, up2_ne hc]; exact t1 c hc
  rw [g1]
  rcases Nat.lt_or_ge q1 E with hq1 | hq1
  rotate_left
  · have hqE : q1 = E := Nat.le_antisymm q1E hq1
    subst hqE
    have e := h1.nmE (nI (nlo k)) (nI (nhi k))
    rw [if_pos (by rw [e])]
    refine Or.inl ⟨rfl, ?_⟩
    show ERR _ (f_X11_isNumber v1 (nI (nlo k)) (nI (nhi k))).2
    rw [e]
    exact h1.eE (by rw [a5]; decide) rfl
  obtain ⟨r1, r2, -⟩ := h1.tt hq1
  generalize hy1 : f_tt z1 E q1 = y1 at r1 r2
  have hp1 : f_put6 y1 ac = f_pam y1 ac (rlOf y1 ac) (4 + k) := by rw [pt_1 (by rw [r2 5 (by omega)]; exact a5), ow_c (r2 6 (by omega)), ao]
  rcases h1.num hq1 (y := y1) (by rw [hy1]) (by rw [hy1]) w1 w2 w3 w4 with ⟨n0, n1, n, hn1, hn2, e12, e28⟩ | ⟨n0, n1⟩
  rotate_left
  · rw [if_pos (by rw [n1])]
    refine Or.inl ⟨rfl, ?_⟩
    show ERR _ (f_X11_isNumber v1 (nI (nlo k)) (nI (nhi k))).2
    rw [n1]
    refine h1.eW hq1 ?_ n0 rfl
    rw [hy1, hp1]
    unfold f_pam
    rw [if_neg n0]
  rw [if_neg (show ¬ (f_X11_isNumber v1 (nI (nlo k)) (nI (nhi k))).1 = 0 by rw [n1]; exact n10), e28]
  have hp2 : f_put6 y1 ac = (0, up2 (up2 y1 (ac + 3) k (nI n)) 600 5 8) := by
    rw [hp1]
    unfold f_pam
    rw [if_pos n0, if_pos w5, w6, e12]
  obtain ⟨q2, q12, q2E, g2, h2⟩ := h1.adv hq1 (by rw [hy1, hp2]) (v' := up2 v1 1141 (4 + k) (nI n)) (up2_ne (by decide)) (by rw [up2_ne (by decide)])
  rw [hy1, hp2] at g2 h2
  dsimp only at g2 h2
  rw [g2]
  refine Or.inr ⟨rfl, q2, _, n, by omega, h2, rfl, ?_, ?_, fun c k1 k2 => ?_, ?_, hn1, hn2, ?_, ?_, fun c k1 k2 k3 => ?_, fun j hj => ?_⟩
  · rw [u6 (by decide), u6 (by decide), u6s]
  · rw [u6 (by decide), u6 (by decide), u6 (by decide), up2_ne (Ne.symm hac3), r2 4 (by omega)]; exact a4
  · rw [up2_ne k1, up2_ne k1, up2_ne k1, up2_ne k2, r1 c k1]; exact acc c k1
  · rw [up2_ne hac3, up2_ne hac3, up2_ne hac3, up2_self, r1 _ hac3, acc _ hac3]
  · show f_tok E (up2 v1 1141 (4 + k) (nI n)) 1142 = _
    rw [tok_c (by decide), up2_ne (by decide), v1c 1142 (by decide), up2_self]
  · show f_tok E (up2 v1 1141 (4 + k) (nI n)) 1141 = _
    rw [tok_c (by decide), up2_self, v1c 1141 (by decide), up2_ne (by decide)]
  · show f_tok E (up2 v1 1141 (4 + k) (nI n)) c = _
    rw [tok_c k1, up2_ne k2, v1c c k1, up2_ne k3]
  · show f_tok E (up2 v1 1141 (4 + k) (nI n)) 1100 j = _
    rw [tok_k hj, up2_ne (by decide)]; exact v1k j hj
end PGS
