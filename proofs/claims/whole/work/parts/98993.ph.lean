noncomputable def wh0 (v : fr_V) (p : Nat) : fr_V := up2 (up2 (up2 (up2 (up2 (up2 v 1133 p 0) 1134 p 1000) 1135 p 0) 1136 p 0) 1137 p 1000) 1138 p 0
def plV (y : fr_V) (ac m w : Nat) : fr_V := up2 (up2 (up2 (up2 (up2 (up2 (up2 (up2 (up2 (up2 (up2 y 600 6 (nI (3000 + w))) 600 7 (nI (lnB ac + m))) (lnB ac + m) 0 (nI (3000 + w))) (lnB ac + m) 1 0) (lnB ac + m) 2 (-1)) (lnB ac + m) 3 (-1)) (lnB ac + m) 4 0) (lnB ac + m) 5 (-1)) (lnB ac + m) 6 (-1)) (lnB ac + m) 7 0) ac 1 ((nI m) + 1)
section PHS
variable {ac E q : Nat} {z v : fr_V}
theorem plV_is {y : fr_V} {m w : Nat} (hac : ac = 10 ∨ ac = 20) (hm : m < 24) : plV y ac m w (lnB ac + m) = upd (upd (upd (upd (upd (upd (upd (upd (y (lnB ac + m)) 0 (nI (3000 + w))) 1 0) 2 (-1)) 3 (-1)) 4 0) 5 (-1)) 6 (-1)) 7 0 ∧ (∀ c, c ≠ 600 → c ≠ ac → c ≠ lnB ac + m → plV y ac m w c = y c) ∧ plV y ac m w ac = upd (y ac) 1 (nI m + 1) ∧ plV y ac m w 600 = upd (upd (y 600) 6 (nI (3000 + w))) 7 (nI (lnB ac + m)) := by
  have hL := ln_far hac
  have h1 : lnB ac + m ≠ ac := by omega
  have h2 : lnB ac + m ≠ 600 := by omega
  have h3 : ac ≠ 600 := by omega
  unfold plV
  refine ⟨?_, fun c k1 k2 k3 => ?_, ?_, ?_⟩
  · rw [up2_ne h1, up2_self, up2_self, up2_self, up2_self, up2_self, up2_self, up2_self, up2_self, up2_ne h2, up2_ne h2]
  · rw [up2_ne k2, up2_ne k3, up2_ne k3, up2_ne k3, up2_ne k3, up2_ne k3, up2_ne k3, up2_ne k3, up2_ne k3, up2_ne k1, up2_ne k1]
  · rw [up2_self, up2_ne (Ne.symm h1), up2_ne (Ne.symm h1), up2_ne (Ne.symm h1), up2_ne (Ne.symm h1), up2_ne (Ne.symm h1), up2_ne (Ne.symm h1), up2_ne (Ne.symm h1), up2_ne (Ne.symm h1), up2_ne h3, up2_ne h3]
  · rw [up2_ne (Ne.symm h3), up2_ne (Ne.symm h2), up2_ne (Ne.symm h2), up2_ne (Ne.symm h2), up2_ne (Ne.symm h2), up2_ne (Ne.symm h2), up2_ne (Ne.symm h2), up2_ne (Ne.symm h2), up2_ne (Ne.symm h2), up2_self, up2_self]
theorem plw_is {y : fr_V} {m w : Nat} (hw : w < 4) (hm : m ≤ 24) : f_plw y ac m w = if m = 24 then (2, up2 y 600 6 (nI (3000 + w))) else (0, up2 (plV y ac m w) 600 5 (if w ≤ 1 then 2 else 1)) := by
  have r : ¬ wdrole w = 1 ∧ wdrole w = 0 ∧ (wdmost w ≤ 0 ↔ w ≤ 1) := by
    rcases (show w = 0 ∨ w = 1 ∨ w = 2 ∨ w = 3 by omega) with rfl | rfl | rfl | rfl <;> decide
  unfold f_plw
  rw [if_neg r.1, if_pos r.2.1]
  by_cases e : m = 24
  · subst e
    rw [if_neg (show ¬ nI 24 < (24 : Int32) by decide), if_pos rfl]
  · rw [if_pos (show nI m < (24 : Int32) from nI_lt (b := 24) (by omega) (by decide)), if_neg e]
    by_cases c : w ≤ 1
    · rw [if_pos (r.2.2.mpr c), if_pos c]; rfl
    · rw [if_neg (fun k => c (r.2.2.mp k)), if_neg c]; rfl
/-- whom, from a new line on -/
theorem whom_R {p : Nat} (h : PB ac E q z v) (h5 : z 600 5 = 2) (e1 : v 1132 p = z (lnB ac + rlOf z ac) 1) (e2 : z (lnB ac + rlOf z ac) 2 = (-1)) (e4 : z (lnB ac + rlOf z ac) 4 = 0) (e5 : z (lnB ac + rlOf z ac) 5 = (-1)) (e7 : z (lnB ac + rlOf z ac) 7 = 0) :
    ((f_whom E v p).1 = 0 ∧ ERR (go ac E z) (f_whom E v p).2) ∨
    ((f_whom E v p).1 = 1 ∧ ∃ q' z', q ≤ q' ∧ PB ac E q' z' (f_whom E v p).2 ∧ go ac E z = go ac E z' ∧ S2 E z' q' ∧ (q' < E → ∀ w, woOf (f_tt z' E q') = some w → ¬ (8 ≤ w ∧ w ≤ 12)) ∧ (z' 600 4 = z 600 4 ∧ z' 600 7 = z 600 7) ∧ (∀ c, c ≠ 600 → c ≠ lnB ac + rlOf z ac → z' c = z c) ∧ lnR z' (f_whom E v p).2 (lnB ac + rlOf z ac) p ∧ z' (lnB ac + rlOf z ac) 0 = z (lnB ac + rlOf z ac) 0 ∧ fvl p v (f_whom E v p).2) := by
  have ew : f_whom E v p = f_wh E p (E + 2) (wh0 v p) 0 0 := rfl
  have fv0 : fvl p v (wh0 v p) := by
    unfold wh0
    exact (((((fvl.rf.r (by omega)).r (by omega)).r (by omega)).r (by omega)).r (by omega)).r (by omega)
  have hpb : PB ac E q z (wh0 v p) := h.c (by unfold wh0; rw [up2_ne (by decide), up2_ne (by decide), up2_ne (by decide), up2_ne (by decide), up2_ne (by decide), up2_ne (by decide)]) (by unfold wh0; rw [up2_ne (by decide), up2_ne (by decide), up2_ne (by decide), up2_ne (by decide), up2_ne (by decide), up2_ne (by decide)])
  have hln : lnP z (wh0 v p) (lnB ac + rlOf z ac) p 0 0 := by
    refine ⟨?_, Or.inl ⟨rfl, e2, ?_, ?_⟩, ⟨0, by omega, e4, ?_⟩, Or.inl ⟨rfl, e5, ?_, ?_⟩, Or.inl ⟨e7, ?_⟩⟩
    · unfold wh0; rw [up2_ne (by decide), up2_ne (by decide), up2_ne (by decide), up2_ne (by decide), up2_ne (by decide), up2_ne (by decide)]; exact e1
    · unfold wh0; rw [up2_ne (by decide), up2_ne (by decide), up2_ne (by decide), up2_ne (by decide), up2_ne (by decide), u6s]
    · unfold wh0; rw [up2_ne (by decide), up2_ne (by decide), up2_ne (by decide), up2_ne (by decide), u6s]
    · unfold wh0; rw [up2_ne (by decide), up2_ne (by decide), up2_ne (by decide), u6s]; rfl
    · unfold wh0; rw [up2_ne (by decide), up2_ne (by decide), u6s]
    · unfold wh0; rw [up2_ne (by decide), u6s]
    · unfold wh0; rw [u6s]
  have hR := wh_R (p := p) (E + 2) q 0 0 z (wh0 v p) hpb (Or.inl h5) hln (by omega)
  rw [← ew] at hR
  rcases hR with ⟨r1, r2, -⟩ | ⟨r1, q3, z3, r2, r3, r4, r5, r6, r7, r9, r10, r11, r12⟩
  · exact Or.inl ⟨r1, r2⟩
  · exact Or.inr ⟨r1, q3, z3, r2, r3, r4, r5, r6, r7, r9, r10, r11, fv0.tr r12⟩
end PHS
