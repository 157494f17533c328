theorem ln_far {ac : Nat} (hac : ac = 10 ∨ ac = 20) : lnB ac = 400 ∨ lnB ac = 430 := by
  rcases hac with rfl | rfl
  · exact Or.inl rfl
  · exact Or.inr rfl
theorem put_601 {ac E q : Nat} {z : fr_V} (hac : ac = 10 ∨ ac = 20) (h : rd6 ac E z) (hq : z 600 9 = nI q) (hqE : q < E) : (f_put6 (f_tt z E q) ac).2 601 = z 601 := by
  have hy := tt_ok hac h hq hqE
  have hp := put6_pp hy.1 hac (fun w hw => (hy.2.1.2 w hw).1)
  have hl := ln_far hac
  rw [hp.2.1 601 (by omega) (by omega) (by omega) (fun i hi => by omega), hy.2.2.2.2.1 601 (by decide)]
theorem rdt_is {ac E q : Nat} {z : fr_V} (hac : ac = 10 ∨ ac = 20) (hE : E ≤ 500) (h : rd6 ac E z) (hq : z 600 9 = nI q) (hqE : q < E) :
    ((f_put6 (f_tt z E q) ac).1 ≠ 0 → rd_t ac E z = up2 (f_put6 (f_tt z E q) ac).2 600 14 (f_put6 (f_tt z E q) ac).1 ∧ rd_t ac E z 600 9 = nI q ∧ rd6 ac E (rd_t ac E z)) ∧
    ((f_put6 (f_tt z E q) ac).1 = 0 → ∃ b q', q < b ∧ b ≤ q' ∧ q' ≤ E ∧ f_tt z E q 600 10 = nI b ∧ q' = sc (isBl (z 601)) E (E - b) ∧ rd_t ac E z = up2 (up2 (f_put6 (f_tt z E q) ac).2 600 14 0) 600 9 (nI q') ∧ rd6 ac E (rd_t ac E z)) := by
  have hy := tt_ok hac h hq hqE
  have hp := put6_pp hy.1 hac (fun w hw => (hy.2.1.2 w hw).1)
  obtain ⟨b, b1, b2, b3⟩ := hy.2.2.1
  have e601 : (f_put6 (f_tt z E q) ac).2 601 = z 601 := by
    have hl := ln_far hac
    rw [hp.2.1 601 (by omega) (by omega) (by omega) (fun i hi => by omega), hy.2.2.2.2.1 601 (by decide)]
  have e9 : (f_put6 (f_tt z E q) ac).2 600 9 = nI q := by rw [hp.2.2 9 (by omega)]; exact hy.2.2.2.1
  unfold rd_t
  rw [hq, nI_clamp (by omega), b3, nI_clamp (by omega)]
  refine ⟨fun c => ?_, fun c => ?_⟩
  · rw [if_neg c]
    exact ⟨rfl, by rw [u6 (by decide)]; exact e9, hp.1.u hac (by decide)⟩
  · rw [if_pos c, c]
    have hs := sc_le (isBl (z 601)) E (E - b) (by omega)
    refine ⟨b, sc (isBl (z 601)) E (E - b), b1, by omega, hs.2, rfl, rfl, ?_, (hp.1.u hac (by decide)).u hac (by decide)⟩
    unfold f_skip
    rw [up2_ne (show (601 : Nat) ≠ 600 by decide), e601]
theorem rdF_end {ac E : Nat} {z : fr_V} (h : z 600 9 = nI E) : ∀ d, rdF ac E d z = z := by
  intro d
  cases d with
  | zero => rfl
  | succ d => rw [rdF_s, if_pos (by rw [h]; exact Int32.le_refl _)]
theorem rdF_err {ac E : Nat} {z : fr_V} (h : ¬ z 600 14 = 0) : ∀ d, rdF ac E d z = z := by
  intro d
  cases d with
  | zero => rfl
  | succ d => rw [rdF_s, if_neg h]; exact ite_self _
theorem rdF_f {ac E : Nat} (hac : ac = 10 ∨ ac = 20) (hE : E ≤ 500) : ∀ (n d d' q : Nat) (z : fr_V), rd6 ac E z → q ≤ E → z 600 9 = nI q → E - q ≤ n → E - q ≤ d → E - q ≤ d' → rdF ac E d z = rdF ac E d' z := by
  intro n
  induction n with
  | zero =>
    intro d d' q z _ hq h9 hn _ _
    have e : q = E := by omega
    rw [e] at h9
    rw [rdF_end h9, rdF_end h9]
  | succ n ih =>
    intro d d' q z h6 hq h9 hn hd hd'
    by_cases e : q = E
    · rw [e] at h9
      rw [rdF_end h9, rdF_end h9]
    · obtain ⟨d1, rfl⟩ : ∃ d1, d = d1 + 1 := ⟨d - 1, by omega⟩
      obtain ⟨d2, rfl⟩ : ∃ d2, d' = d2 + 1 := ⟨d' - 1, by omega⟩
      have hlt : ¬ nI E ≤ z 600 9 := by rw [h9]; exact nI_ge (by omega) (by omega)
      rw [rdF_s, rdF_s, if_neg hlt, if_neg hlt]
      by_cases c : z 600 14 = 0
      · rw [if_pos c, if_pos c]
        have ht := rdt_is hac hE h6 h9 (by omega)
        by_cases p : (f_put6 (f_tt z E q) ac).1 = 0
        · obtain ⟨b, q', g1, g2, g3, -, -, g6, g7⟩ := ht.2 p
          refine ih d1 d2 q' _ g7 g3 ?_ (by omega) (by omega) (by omega)
          rw [g6, u6s]
        · obtain ⟨g1, -, -⟩ := ht.1 p
          have ne : ¬ rd_t ac E z 600 14 = 0 := by rw [g1, u6s]; exact p
          rw [rdF_err ne, rdF_err ne]
      · rw [if_neg c, if_neg c]
noncomputable def go (ac E : Nat) (z : fr_V) : fr_V := rdF ac E (E - (z 600 9).toNatClampNeg) z
/-- the class stands before the token at q, the reference has just taken it -/
def PB (ac E q : Nat) (z v : fr_V) : Prop := (ac = 10 ∨ ac = 20) ∧ E ≤ 500 ∧ rd6 ac E z ∧ z 600 14 = 0 ∧ q ≤ E ∧ z 600 9 = nI q ∧ (∀ i, i < E → z 601 i = v 1101 i) ∧ v 1100 29 = nI q ∧ (q = E → v 1100 27 = 0) ∧ (q < E → tkR (f_tt z E q) v ∧ ∃ b, q < b ∧ b ≤ E ∧ f_tt z E q 600 10 = nI b ∧ v 1100 26 = nI b)
theorem PB.start {ac E q : Nat} {z v : fr_V} (hac : ac = 10 ∨ ac = 20) (hE : E ≤ 500) (h6 : rd6 ac E z) (h14 : z 600 14 = 0) (hq : q ≤ E) (h9 : z 600 9 = nI q) (hW : ∀ i, i < E → z 601 i = v 1101 i) : PB ac E q z (f_tk v E q) := by
  have e : f_tk v E q 1101 = v 1101 := tk_f.1 1101 (by decide)
  by_cases c : q = E
  · subst c
    exact ⟨hac, hE, h6, h14, hq, h9, by rw [e]; exact hW, tk_E.2, fun _ => tk_E.1, fun q => absurd q (Nat.lt_irrefl _)⟩
  · have q1 : q < E := by omega
    have t := tk_R (z := z) (v := v) hE q1 hW
    exact ⟨hac, hE, h6, h14, hq, h9, by rw [e]; exact hW, t.2.2, fun q => absurd q c, fun _ => ⟨t.1, t.2.1⟩⟩
section PBS
variable {ac E q : Nat} {z v : fr_V}
theorem PB.fin (h : PB ac E E z v) : go ac E z = z := rdF_end h.2.2.2.2.2.1 _
theorem PB.err (h : PB ac E q z v) (hq : q < E) (h0 : ¬ (f_put6 (f_tt z E q) ac).1 = 0) : go ac E z = up2 (f_put6 (f_tt z E q) ac).2 600 14 (f_put6 (f_tt z E q) ac).1 ∧ go ac E z 600 9 = nI q ∧ go ac E z 600 14 = (f_put6 (f_tt z E q) ac).1 := by
  obtain ⟨hac, hE, h6, h14, -, h9, -⟩ := h
  have ht := (rdt_is hac hE h6 h9 hq).1 h0
  have e : go ac E z = rd_t ac E z := by
    unfold go
    rw [h9, nI_clamp (by omega)]
    obtain ⟨d1, hd⟩ : ∃ d1, E - q = d1 + 1 := ⟨E - q - 1, by omega⟩
    rw [hd, rdF_s, if_neg (by rw [h9]; exact nI_ge (by omega) (by omega)), if_pos h14]
    exact rdF_err (by rw [ht.1, u6s]; exact h0) d1
  rw [e]
  exact ⟨ht.1, ht.2.1, by rw [ht.1, u6s]⟩
theorem PB.adv (h : PB ac E q z v) (hq : q < E) (h0 : (f_put6 (f_tt z E q) ac).1 = 0) {v' : fr_V} (e1 : v' 1101 = v 1101) (e2 : v' 1100 26 = v 1100 26) : ∃ q', q < q' ∧ q' ≤ E ∧ go ac E z = go ac E (up2 (up2 (f_put6 (f_tt z E q) ac).2 600 14 0) 600 9 (nI q')) ∧ PB ac E q' (up2 (up2 (f_put6 (f_tt z E q) ac).2 600 14 0) 600 9 (nI q')) (f_tok E v') := by
  obtain ⟨hac, hE, h6, h14, -, h9, hW, -, -, htk⟩ := h
  obtain ⟨b, q', g1, g2, g3, g4, g5, g6, g7⟩ := (rdt_is hac hE h6 h9 hq).2 h0
  obtain ⟨-, b', -, hb2, e3, e4⟩ := htk hq
  have e601 := put_601 hac h6 h9 hq
  have k1 : b' < 2 ^ 31 := by omega
  have k2 : b < 2 ^ 31 := by omega
  have hbb : b' = b := (nI_eq k1 k2).mp (e3.symm.trans g4)
  have eW : ∀ i, i < E → (isBl (z 601) i ↔ isBl (v' 1101) i) := fun i hi => by unfold isBl; rw [e1, hW i hi]
  have et : f_tok E v' = f_tk v' E q' := by
    unfold f_tok f_take
    rw [e2, e4, nI_clamp (by omega), hbb, g5, sc_c eW _ (by omega)]
  refine ⟨q', by omega, g3, ?_, ?_⟩
  · rw [← g6]
    unfold go
    have n9 : rd_t ac E z 600 9 = nI q' := by rw [g6, u6s]
    rw [h9, nI_clamp (by omega), n9, nI_clamp (by omega)]
    obtain ⟨d1, hd⟩ : ∃ d1, E - q = d1 + 1 := ⟨E - q - 1, by omega⟩
    rw [hd, rdF_s, if_neg (by rw [h9]; exact nI_ge (by omega) (by omega)), if_pos h14]
    exact rdF_f hac hE (E - q') d1 (E - q') q' _ g7 g3 n9 (Nat.le_refl _) (by omega) (Nat.le_refl _)
  · rw [et]
    refine PB.start hac hE (by rw [← g6]; exact g7) (by rw [u6 (by decide), u6s]) g3 (by rw [u6s]) (fun i hi => ?_)
    rw [up2_ne (show (601 : Nat) ≠ 600 by decide), up2_ne (show (601 : Nat) ≠ 600 by decide), e601, e1]
    exact hW i hi
/-- what the token holds besides -/
theorem PB.tt (h : PB ac E q z v) (hq : q < E) : (∀ c, c ≠ 600 → f_tt z E q c = z c) ∧ (∀ j, (j < 10 ∨ 13 < j) → f_tt z E q 600 j = z 600 j) ∧ tkR (f_tt z E q) v := by
  have hy := tt_ok h.1 h.2.2.1 h.2.2.2.2.2.1 hq
  exact ⟨hy.2.2.2.2.1, hy.2.2.2.2.2, (h.2.2.2.2.2.2.2.2.2 hq).1⟩
end PBS
