noncomputable def ofV (v : fr_V) (m w : Nat) : fr_V := up2 (up2 v 1131 (24 + m) (nI w)) 1132 (24 + m) 0
section PIS
variable {ac E q : Nat} {z v : fr_V}
theorem ofW_24 {w : Nat} : f_ofW E v 24 w = (0, (f_X11_wrong v 2).2) := by
  unfold f_ofW
  rw [if_pos (show nI 24 = (24 : Int32) by decide)]
theorem ofW_a {m w : Nat} (hm : m < 24) (hw : w ≤ 1) : f_ofW E v m w = if (f_whom E (f_tok E (ofV v m w)) (24 + m)).1 = 0 then (0, (f_whom E (f_tok E (ofV v m w)) (24 + m)).2) else (1, up2 (f_whom E (f_tok E (ofV v m w)) (24 + m)).2 1100 39 (nI m + 1)) := by
  unfold f_ofW ofV
  rw [if_neg (show ¬ nI m = (24 : Int32) from fun e => by have := (nI_eq (a := m) (b := 24) (by omega) (by decide)).mp e; omega), if_pos (show nI w ≤ (1 : Int32) from nI_le (b := 1) hw (by decide))]
def wlo (w : Nat) : Nat := if w = 2 then 1 else 0
def whi (w : Nat) : Nat := if w = 2 then 9999 else 200
theorem ofW_b {m w : Nat} (hm : m < 24) (hw : w = 2 ∨ w = 3) {v1 : fr_V} (e : f_tok E (ofV v m w) = v1) : f_ofW E v m w = if (f_X11_isNumber v1 (nI (wlo w)) (nI (whi w))).1 = 0 then (0, (f_X11_isNumber v1 (nI (wlo w)) (nI (whi w))).2) else if (f_whom E (f_tok E (up2 v1 1132 (24 + m) (v1 1100 28))) (24 + m)).1 = 0 then (0, (f_whom E (f_tok E (up2 v1 1132 (24 + m) (v1 1100 28))) (24 + m)).2) else (1, up2 (f_whom E (f_tok E (up2 v1 1132 (24 + m) (v1 1100 28))) (24 + m)).2 1100 39 (nI m + 1)) := by
  subst e
  unfold f_ofW ofV
  rw [if_neg (show ¬ nI m = (24 : Int32) from fun e => by have := (nI_eq (a := m) (b := 24) (by omega) (by decide)).mp e; omega)]
  rcases hw with rfl | rfl
  · rw [if_neg (show ¬ nI 2 ≤ (1 : Int32) by decide), if_pos (show nI 2 = (2 : Int32) by decide)]; rfl
  · rw [if_neg (show ¬ nI 3 ≤ (1 : Int32) by decide), if_neg (show ¬ nI 3 = (2 : Int32) by decide)]; rfl
theorem ofW_R (h : PB ac E q z v) (hq : q < E) (h5 : z 600 5 = 0) {m w : Nat} (hm : z ac 1 = nI m) (hm24 : m ≤ 24) (hw4 : w < 4) (hw : woOf (f_tt z E q) = some w) :
    ((f_ofW E v m w).1 = 0 ∧ ERR (go ac E z) (f_ofW E v m w).2) ∨
    ((f_ofW E v m w).1 = 1 ∧ m < 24 ∧ ∃ q' z', q < q' ∧ PB ac E q' z' (f_ofW E v m w).2 ∧ go ac E z = go ac E z' ∧ S2 E z' q' ∧ (q' < E → ∀ w, woOf (f_tt z' E q') = some w → ¬ (8 ≤ w ∧ w ≤ 12)) ∧ z' 600 4 = z 600 4 ∧ (∀ c, c ≠ 600 → c ≠ ac → c ≠ lnB ac + m → z' c = z c) ∧ z' ac = upd (z ac) 1 (nI (m + 1)) ∧ lnR z' (f_ofW E v m w).2 (lnB ac + m) (24 + m) ∧ z' (lnB ac + m) 0 = nI (3000 + w) ∧ (f_ofW E v m w).2 1131 (24 + m) = nI w ∧ (f_ofW E v m w).2 1100 39 = nI (m + 1) ∧ (∀ c i, c ≠ 1100 → (i ≠ 24 + m ∨ c < 1131 ∨ 1138 < c) → (f_ofW E v m w).2 c i = v c i) ∧ ∀ j, (j < 23 ∨ j = 25 ∨ (29 < j ∧ j < 39) ∨ (39 < j ∧ j < 42) ∨ 43 < j) → (f_ofW E v m w).2 1100 j = v 1100 j) := by
  have hL := ln_far h.1
  have hac := h.1
  obtain ⟨t1, t2, -⟩ := h.tt hq
  generalize hy : f_tt z E q = y at t1 t2 hw
  have acn : ac ≠ 600 := by omega
  have hput : f_put6 y ac = f_plw y ac m w := by
    rw [put_some hw]
    unfold f_putW
    rw [t2 5 (by omega), h5, if_pos rfl]
    have em : mOf y ac = m := by unfold mOf; rw [t1 ac acn, hm, nI_clamp (by omega)]
    rw [em]
  rw [plw_is hw4 hm24] at hput
  by_cases m24 : m = 24
  · subst m24
    rw [if_pos rfl] at hput
    rw [ofW_24]
    exact Or.inl ⟨rfl, h.eW hq (r := 2) (by rw [hy, hput]) (by decide) rfl⟩
  have hm' : m < 24 := by omega
  rw [if_neg m24] at hput
  have hLn : lnB ac + m ≠ 600 := by omega
  have hLa : lnB ac + m ≠ ac := by omega
  have fin : ∀ (qx : Nat) (zx vx : fr_V), q < qx → PB ac E qx zx vx → go ac E z = go ac E zx → zx 600 5 = 2 → zx 600 4 = z 600 4 → zx 600 7 = nI (lnB ac + m) → (∀ c, c ≠ 600 → c ≠ ac → c ≠ lnB ac + m → zx c = z c) → zx ac = upd (z ac) 1 (nI (m + 1)) → zx (lnB ac + m) 0 = nI (3000 + w) → vx 1132 (24 + m) = zx (lnB ac + m) 1 → zx (lnB ac + m) 2 = (-1) → zx (lnB ac + m) 4 = 0 → zx (lnB ac + m) 5 = (-1) → zx (lnB ac + m) 7 = 0 → vx 1131 (24 + m) = nI w → (∀ c i, c ≠ 1100 → (i ≠ 24 + m ∨ c < 1131 ∨ 1138 < c) → vx c i = v c i) → (∀ j, (j < 23 ∨ j = 25 ∨ (29 < j ∧ j < 42) ∨ 43 < j) → vx 1100 j = v 1100 j) → f_ofW E v m w = (if (f_whom E vx (24 + m)).1 = 0 then (0, (f_whom E vx (24 + m)).2) else (1, up2 (f_whom E vx (24 + m)).2 1100 39 (nI m + 1))) →
      ((f_ofW E v m w).1 = 0 ∧ ERR (go ac E z) (f_ofW E v m w).2) ∨
      ((f_ofW E v m w).1 = 1 ∧ m < 24 ∧ ∃ q' z', q < q' ∧ PB ac E q' z' (f_ofW E v m w).2 ∧ go ac E z = go ac E z' ∧ S2 E z' q' ∧ (q' < E → ∀ w, woOf (f_tt z' E q') = some w → ¬ (8 ≤ w ∧ w ≤ 12)) ∧ z' 600 4 = z 600 4 ∧ (∀ c, c ≠ 600 → c ≠ ac → c ≠ lnB ac + m → z' c = z c) ∧ z' ac = upd (z ac) 1 (nI (m + 1)) ∧ lnR z' (f_ofW E v m w).2 (lnB ac + m) (24 + m) ∧ z' (lnB ac + m) 0 = nI (3000 + w) ∧ (f_ofW E v m w).2 1131 (24 + m) = nI w ∧ (f_ofW E v m w).2 1100 39 = nI (m + 1) ∧ (∀ c i, c ≠ 1100 → (i ≠ 24 + m ∨ c < 1131 ∨ 1138 < c) → (f_ofW E v m w).2 c i = v c i) ∧ ∀ j, (j < 23 ∨ j = 25 ∨ (29 < j ∧ j < 39) ∨ (39 < j ∧ j < 42) ∨ 43 < j) → (f_ofW E v m w).2 1100 j = v 1100 j) := by
    intro qx zx vx hqx hpb hgo x5 x4 x7 xc xa x0 y1 y2 y4 y5 y7 v31 vc vf hof
    have er : lnB ac + rlOf zx ac = lnB ac + m := by
      unfold rlOf
      rw [x7, nI_clamp (by omega)]
      omega
    have W := whom_R (p := 24 + m) hpb x5 (by rw [er]; exact y1) (by rw [er]; exact y2) (by rw [er]; exact y4) (by rw [er]; exact y5) (by rw [er]; exact y7)
    rw [er] at W
    rw [hof, hgo]
    rcases W with ⟨r1, r2⟩ | ⟨r1, q3, z3, r2, r3, r4, r5, r6, ⟨r7, r8⟩, r9, r10, r11, r12⟩
    · rw [if_pos r1]; exact Or.inl ⟨rfl, r2⟩
    · rw [if_neg (show ¬ (f_whom E vx (24 + m)).1 = 0 by rw [r1]; decide)]
      refine Or.inr ⟨rfl, hm', q3, z3, by omega, ?_, r4, r5, r6, r7.trans x4, fun c k1 k2 k3 => (r9 c k1 k3).trans (xc c k1 k2 k3), ?_, r10, r11.trans x0, ?_, ?_, fun c i k1 k2 => ?_, fun j hj => ?_⟩
      · show PB ac E q3 z3 (up2 (f_whom E vx (24 + m)).2 1100 39 (nI m + 1))
        refine r3.f ?_ (fun j k1 k2 => ?_)
        · rw [up2_ne (show (1101 : Nat) ≠ 1100 by decide)]
        · have k3 : j ≠ 39 := by omega
          rw [u6 k3]
      · rw [r9 ac acn (Ne.symm hLa)]; exact xa
      · show up2 (f_whom E vx (24 + m)).2 1100 39 (nI m + 1) 1131 (24 + m) = nI w
        rw [up2_ne (by decide), r12.1 1131 (24 + m) (by decide) (by omega)]; exact v31
      · show up2 (f_whom E vx (24 + m)).2 1100 39 (nI m + 1) 1100 39 = nI (m + 1)
        rw [u6s]; exact nI_1 m
      · show up2 (f_whom E vx (24 + m)).2 1100 39 (nI m + 1) c i = v c i
        rw [up2_ne k1, r12.1 c i k1 (by omega)]; exact vc c i k1 k2
      · show up2 (f_whom E vx (24 + m)).2 1100 39 (nI m + 1) 1100 j = v 1100 j
        rw [u6 (by omega), r12.2 j (by omega)]; exact vf j (by omega)
  obtain ⟨pL, pc, pa, p6⟩ := plV_is (y := y) (w := w) hac hm'
  obtain ⟨q1, q01, q1E, g1, h1⟩ := h.adv hq (by rw [hy, hput]) (v' := ofV v m w) (by unfold ofV; rw [up2_ne (by decide), up2_ne (by decide)]) (by unfold ofV; rw [up2_ne (by decide), up2_ne (by decide)])
  rw [hy, hput] at g1 h1
  dsimp only at g1 h1
  generalize hz1 : up2 (up2 (up2 (plV y ac m w) 600 5 (if w ≤ 1 then 2 else 1)) 600 14 0) 600 9 (nI q1) = z1 at g1 h1
  have zc : ∀ c, c ≠ 600 → z1 c = plV y ac m w c := fun c hc => by rw [← hz1, up2_ne hc, up2_ne hc, up2_ne hc]
  have z6 : ∀ j, j ≠ 5 → j ≠ 9 → j ≠ 14 → z1 600 j = plV y ac m w 600 j := fun j k1 k2 k3 => by rw [← hz1, u6 k2, u6 k3, u6 k1]
  have a5 : z1 600 5 = if w ≤ 1 then 2 else 1 := by rw [← hz1, u6 (by decide), u6 (by decide), u6s]
  have a4 : z1 600 4 = z 600 4 := by rw [z6 4 (by decide) (by decide) (by decide), p6]; exact t2 4 (by omega)
  have a7 : z1 600 7 = nI (lnB ac + m) := by rw [z6 7 (by decide) (by decide) (by decide), p6]; exact pk_us
  have a6 : z1 600 6 = nI (3000 + w) := by rw [z6 6 (by decide) (by decide) (by decide), p6]; rfl
  have aa : z1 ac = upd (z ac) 1 (nI (m + 1)) := by rw [zc ac acn, pa, t1 ac acn, nI_1]
  have acc : ∀ c, c ≠ 600 → c ≠ ac → c ≠ lnB ac + m → z1 c = z c := fun c k1 k2 k3 => by rw [zc c k1, pc c k1 k2 k3]; exact t1 c k1
  have aL : z1 (lnB ac + m) = upd (upd (upd (upd (upd (upd (upd (upd (y (lnB ac + m)) 0 (nI (3000 + w))) 1 0) 2 (-1)) 3 (-1)) 4 0) 5 (-1)) 6 (-1)) 7 0 := by rw [zc _ hLn, pL]
  have ve : ∀ c i, c ≠ 1100 → (i ≠ 24 + m ∨ c < 1131 ∨ 1138 < c) → f_tok E (ofV v m w) c i = v c i := fun c i k1 k2 => by
    rw [tok_c k1]
    unfold ofV
    by_cases e1 : c = 1132
    · subst e1; rw [u6 (by omega), up2_ne (by decide)]
    · rw [up2_ne e1]
      by_cases e2 : c = 1131
      · subst e2; rw [u6 (by omega)]
      · rw [up2_ne e2]
  have v31 : f_tok E (ofV v m w) 1131 (24 + m) = nI w := by rw [tok_c (by decide)]; unfold ofV; rw [up2_ne (by decide), u6s]
  have v32 : f_tok E (ofV v m w) 1132 (24 + m) = 0 := by rw [tok_c (by decide)]; unfold ofV; rw [u6s]
  have vf : ∀ j, (j < 23 ∨ j = 25 ∨ (29 < j ∧ j < 42) ∨ 43 < j) → f_tok E (ofV v m w) 1100 j = v 1100 j := fun j hj => by rw [tok_k (by omega)]; unfold ofV; rw [up2_ne (by decide), up2_ne (by decide)]
  by_cases w1 : w ≤ 1
  · rw [if_pos w1] at a5
    exact fin q1 z1 _ q01 h1 g1 a5 a4 a7 acc aa (by rw [aL]; rfl) (by rw [v32, aL]; rfl) (by rw [aL]; rfl) (by rw [aL]; rfl) (by rw [aL]; rfl) (by rw [aL]; rfl) v31 ve vf (ofW_a hm' w1)
  rw [if_neg w1] at a5
  have w23 : w = 2 ∨ w = 3 := by omega
  have wn : wdleast w = nI (wlo w) ∧ wdmost w = nI (whi w) ∧ wlo w ≤ 9999 ∧ whi w ≤ 9999 ∧ ¬ wdrole w = 1 := by rcases w23 with rfl | rfl <;> decide
  generalize hv1 : f_tok E (ofV v m w) = v1 at h1 ve v31 v32 vf
  have hof := ofW_b (E := E) (v := v) hm' w23 hv1
  have ao : owOf z1 = w := by unfold owOf; rw [a6, nI_clamp (by omega)]; omega
  have ar : rlOf z1 ac = m := by unfold rlOf; rw [a7, nI_clamp (by omega)]; omega
  rcases Nat.lt_or_ge q1 E with hq1 | hq1
  rotate_left
  · have hqE : q1 = E := Nat.le_antisymm q1E hq1
    subst hqE
    have e := h1.nmE (nI (wlo w)) (nI (whi w))
    rw [if_pos (by rw [e])] at hof
    rw [hof, g1]
    refine Or.inl ⟨rfl, ?_⟩
    show ERR _ (f_X11_isNumber v1 (nI (wlo w)) (nI (whi w))).2
    rw [e]
    exact h1.eE (by rw [a5]; decide) rfl
  obtain ⟨r1, r2, -⟩ := h1.tt hq1
  generalize hy1 : f_tt z1 E q1 = y1 at r1 r2
  have hp1 : f_put6 y1 ac = f_pam y1 ac m w := by rw [pt_1 (by rw [r2 5 (by omega)]; exact a5), ow_c (r2 6 (by omega)), ao, rl_c (r2 7 (by omega)), ar]
  rcases h1.num hq1 (y := y1) (by rw [hy1]) (by rw [hy1]) wn.1 wn.2.1 wn.2.2.1 wn.2.2.2.1 with ⟨n0, n1, n, hn1, hn2, e12, e28⟩ | ⟨n0, n1⟩
  rotate_left
  · rw [if_pos (by rw [n1])] at hof
    rw [hof, g1]
    refine Or.inl ⟨rfl, ?_⟩
    show ERR _ (f_X11_isNumber v1 (nI (wlo w)) (nI (whi w))).2
    rw [n1]
    refine h1.eW hq1 ?_ n0 rfl
    rw [hy1, hp1]
    unfold f_pam
    rw [if_neg n0]
  rw [if_neg (show ¬ (f_X11_isNumber v1 (nI (wlo w)) (nI (whi w))).1 = 0 by rw [n1]; exact n10), e28] at hof
  have hp2 : f_put6 y1 ac = (0, up2 (up2 y1 (lnB ac + m) 1 (nI n)) 600 5 2) := by
    rw [hp1]
    unfold f_pam
    rw [if_pos n0, if_neg wn.2.2.2.2, e12]
  obtain ⟨q2, q12, q2E, g2, h2⟩ := h1.adv hq1 (by rw [hy1, hp2]) (v' := up2 v1 1132 (24 + m) (nI n)) (up2_ne (by decide)) (by rw [up2_ne (by decide)])
  rw [hy1, hp2] at g2 h2
  dsimp only at g2 h2
  generalize hz2 : up2 (up2 (up2 (up2 y1 (lnB ac + m) 1 (nI n)) 600 5 2) 600 14 0) 600 9 (nI q2) = z2 at g2 h2
  have bc : ∀ c, c ≠ 600 → c ≠ lnB ac + m → z2 c = z1 c := fun c k1 k2 => by rw [← hz2, up2_ne k1, up2_ne k1, up2_ne k1, up2_ne k2]; exact r1 c k1
  have bj : ∀ j, j = 4 ∨ j = 7 → z2 600 j = z1 600 j := fun j hj => by rw [← hz2, u6 (by omega), u6 (by omega), u6 (by omega), up2_ne (Ne.symm hLn)]; exact r2 j (by omega)
  have b5 : z2 600 5 = 2 := by rw [← hz2, u6 (by decide), u6 (by decide), u6s]
  have bL : z2 (lnB ac + m) = upd (z1 (lnB ac + m)) 1 (nI n) := by rw [← hz2, up2_ne hLn, up2_ne hLn, up2_ne hLn, up2_self, r1 _ hLn]
  refine fin q2 z2 (f_tok E (up2 v1 1132 (24 + m) (nI n))) (by omega) h2 (g1.trans g2) b5 ((bj 4 (by omega)).trans a4) ((bj 7 (by omega)).trans a7) (fun c k1 k2 k3 => (bc c k1 k3).trans (acc c k1 k2 k3)) ((bc ac acn (Ne.symm hLa)).trans aa) (by rw [bL, aL]; rfl) (by rw [bL, tok_c (by decide), u6s]; rfl) (by rw [bL, aL]; rfl) (by rw [bL, aL]; rfl) (by rw [bL, aL]; rfl) (by rw [bL, aL]; rfl) (by rw [tok_c (by decide), up2_ne (by decide)]; exact v31) (fun c i k1 k2 => ?_) (fun j hj => ?_) hof
  · rw [tok_c k1]
    by_cases e1 : c = 1132
    · subst e1; rw [u6 (by omega)]; exact ve 1132 i k1 k2
    · rw [up2_ne e1]; exact ve c i k1 k2
  · rw [tok_k (by omega), up2_ne (by decide)]; exact vf j hj
end PIS
