theorem kbt {z : fr_V} {j c i : Nat} : kp_b_t j z c i = if 1131 ≤ c ∧ c ≤ 1138 ∧ i = j then z c (24 + j) else z c i := by
  unfold kp_b_t
  by_cases hc : 1131 ≤ c ∧ c ≤ 1138
  · by_cases e : i = j
    · subst e
      rw [if_pos ⟨hc.1, hc.2, rfl⟩]
      rcases (show c = 1131 ∨ c = 1132 ∨ c = 1133 ∨ c = 1134 ∨ c = 1135 ∨ c = 1136 ∨ c = 1137 ∨ c = 1138 by omega) with rfl | rfl | rfl | rfl | rfl | rfl | rfl | rfl <;> simp [up2, upd]
    · rw [if_neg (fun k => e k.2.2)]
      rcases (show c = 1131 ∨ c = 1132 ∨ c = 1133 ∨ c = 1134 ∨ c = 1135 ∨ c = 1136 ∨ c = 1137 ∨ c = 1138 by omega) with rfl | rfl | rfl | rfl | rfl | rfl | rfl | rfl <;> simp [up2, upd, e]
  · rw [if_neg (fun k => hc ⟨k.1, k.2.1⟩), up2_ne (by omega), up2_ne (by omega), up2_ne (by omega), up2_ne (by omega), up2_ne (by omega), up2_ne (by omega), up2_ne (by omega), up2_ne (by omega)]
theorem kpb_is {w0 : fr_V} {c i : Nat} : ∀ j, j ≤ 24 → kp_b w0 j c i = if 1131 ≤ c ∧ c ≤ 1138 ∧ i < j then w0 c (24 + i) else w0 c i := by
  intro j
  induction j generalizing i with
  | zero => intro _; rw [if_neg (fun k => Nat.not_lt_zero _ k.2.2)]; rfl
  | succ j ih =>
    intro hj
    rw [kp_b_s, kbt, ih (by omega), ih (by omega)]
    by_cases hc : 1131 ≤ c ∧ c ≤ 1138
    · by_cases e : i = j
      · subst e
        rw [if_pos ⟨hc.1, hc.2, rfl⟩, if_neg (fun k => by omega), if_pos ⟨hc.1, hc.2, by omega⟩]
      · rw [if_neg (fun k => e k.2.2)]
        by_cases l : i < j
        · rw [if_pos ⟨hc.1, hc.2, l⟩, if_pos ⟨hc.1, hc.2, by omega⟩]
        · rw [if_neg (fun k => l k.2.2), if_neg (fun k => by omega)]
    · rw [if_neg (fun k => hc ⟨k.1, k.2.1⟩), if_neg (fun k => hc ⟨k.1, k.2.1⟩), if_neg (fun k => hc ⟨k.1, k.2.1⟩)]
theorem ka_is {w0 : fr_V} : (∀ c, c ≠ 1141 → kp_a w0 4 c = w0 c) ∧ ∀ j, j < 4 → kp_a w0 4 1141 j = w0 1141 (4 + j) := by
  have e : kp_a w0 4 = kp_a_t 3 (kp_a_t 2 (kp_a_t 1 (kp_a_t 0 w0))) := rfl
  rw [e]
  unfold kp_a_t
  refine ⟨fun c hc => by rw [up2_ne hc, up2_ne hc, up2_ne hc, up2_ne hc], fun j hj => ?_⟩
  rcases (show j = 0 ∨ j = 1 ∨ j = 2 ∨ j = 3 by omega) with rfl | rfl | rfl | rfl
  · rw [u6 (by decide), u6 (by decide), u6 (by decide), u6s]
  · rw [u6 (by decide), u6 (by decide), u6s, u6 (by decide)]
  · rw [u6 (by decide), u6s, u6 (by decide), u6 (by decide)]
  · rw [u6s, u6 (by decide), u6 (by decide), u6 (by decide)]
/-- the reference keeps what it has read -/
theorem keep_is {v : fr_V} {m : Nat} (hm : m ≤ 24) : (∀ c i, 1131 ≤ c → c ≤ 1138 → i < m → f_keep v m c i = v c (24 + i)) ∧ (∀ j, j < 4 → f_keep v m 1141 j = v 1141 (4 + j)) ∧ f_keep v m 1100 38 = v 1100 39 ∧ (∀ j, j ≠ 38 → f_keep v m 1100 j = v 1100 j) ∧ ∀ c, (c < 1131 ∨ 1138 < c) → c ≠ 1141 → c ≠ 1100 → f_keep v m c = v c := by
  unfold f_keep
  refine ⟨fun c i k1 k2 k3 => ?_, fun j hj => ?_, ?_, fun j hj => ?_, fun c k1 k2 k3 => ?_⟩
  · rw [kpb_is m hm, if_pos ⟨k1, k2, k3⟩, up2_ne (by omega), ka_is.1 c (by omega)]
  · rw [kpb_is m hm, if_neg (fun k => by omega), up2_ne (by decide)]; exact ka_is.2 j hj
  · rw [kpb_is m hm, if_neg (fun k => by omega), u6s, ka_is.1 1100 (by decide)]
  · rw [kpb_is m hm, if_neg (fun k => by omega), u6 hj, ka_is.1 1100 (by decide)]
  · funext i
    rw [kpb_is m hm, if_neg (fun k => by omega), up2_ne k3, ka_is.1 c k2]
