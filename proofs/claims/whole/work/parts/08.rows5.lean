theorem ix_in {e : Int32} {j n : Nat} (he : e = nI j) (h : j < n) (hn : n < 2 ^ 31) : vp_in e n := by rw [he]; exact vp_in_nI h hn
theorem ix_cl {e : Int32} {j : Nat} (he : e = nI j) (h : j < 2 ^ 31) : e.toNatClampNeg = j := by rw [he]; exact nI_clamp h
def upA (v : fr_V) (k : Nat) (f : Nat → Int32) : fr_V := fun a => if a = k then f else v a
theorem upA_self (v : fr_V) (k : Nat) (f : Nat → Int32) : upA v k f k = f := if_pos rfl
theorem upA_ne {v : fr_V} {k a : Nat} {f : Nat → Int32} (h : a ≠ k) : upA v k f a = v a := if_neg h
theorem up2_A (v : fr_V) (k i : Nat) (x : Int32) : up2 v k i x = upA v k (upd (v k) i x) := rfl
theorem upA_A (v : fr_V) (k : Nat) (f g : Nat → Int32) : upA (upA v k f) k g = upA v k g := by
  funext a; unfold upA; split <;> rfl
theorem upA_id (v : fr_V) (k : Nat) : upA v k (v k) = v := by
  funext a; unfold upA; split
  · next h => rw [h]
  · rfl
theorem up2_upA (v : fr_V) (k i : Nat) (f : Nat → Int32) (x : Int32) : up2 (upA v k f) k i x = upA v k (upd f i x) := by
  rw [up2_A, upA_self, upA_A]
theorem upA_swap (v : fr_V) {k a : Nat} (f g : Nat → Int32) (h : k ≠ a) : upA (upA v k f) a g = upA (upA v a g) k f := by
  funext b; unfold upA
  by_cases h1 : b = a
  · rw [if_pos h1, if_neg (fun e => h (e.symm.trans h1)), if_pos h1]
  · by_cases h2 : b = k
    · rw [if_neg h1, if_pos h2, if_pos h2]
    · rw [if_neg h1, if_neg h2, if_neg h2, if_neg h1]
section FRF
variable {l : Launch} {y : fr_M} {I : List Nat} {v : fr_V} {u : fr_U} {Q : Option Value → fr_V → fr_U → Prop} {pc : Nat} {lv : List (Nat × Value)} {st : List Value}
theorem J_iase {k n j : Nat} {i x : Int32} (d : decode y.2.1 pc = .ok (.iastore, 1)) (hk : k ∈ I) (hs : sh k = (20, n)) (hin : vp_in i n) (hj : i.toNatClampNeg = j) (kk : J l y I (up2 v k j x) u (pc + 1) lv st Q) : J l y I v u pc lv (.int x :: .int i :: .ref k :: st) Q := by
  subst hj; exact J_iast d hk hs hin kk
theorem J_zase {k n j : Nat} {i x : Int32} (d : decode y.2.1 pc = .ok (.bastore, 1)) (hk : k ∈ I) (hs : sh k = (21, n)) (hin : vp_in i n) (hj : i.toNatClampNeg = j) (hx : vp_nar .boolean x = x) (kk : J l y I (up2 v k j x) u (pc + 1) lv st Q) : J l y I v u pc lv (.int x :: .int i :: .ref k :: st) Q := by
  subst hj; exact J_zast d hk hs hin hx kk
end FRF
theorem nz_le {a b : Nat} (ha : a < 2 ^ 31) (hb : b < 2 ^ 31) (h : nI a ≤ nI b) : a ≤ b := (nI_leI ha hb).mp h
theorem nz_nle {a b : Nat} (ha : a < 2 ^ 31) (hb : b < 2 ^ 31) (h : ¬ nI a ≤ nI b) : b < a := Nat.lt_of_not_le (fun q => h ((nI_leI ha hb).mpr q))
theorem vz_of {x : Int32} {n : Nat} (h : vp_in x n) (hn : n < 2 ^ 31) : x.toNatClampNeg < n := by
  obtain ⟨j, hj, rfl⟩ := vp_in_of h hn
  rw [nI_clamp (by omega)]; exact hj
theorem dn_1 (s : Nat) : nI s + Int32.ofInt (-1) = nI s - 1 := by
  show nI s + (-1) = nI s - 1
  exact (Int32.sub_eq_add_neg (a := nI s) (b := 1)).symm
theorem dn_lt {t : Nat} (h0 : 0 < t) (ht : t < 2 ^ 31) : ¬ nI t - 1 < 0 := by
  obtain ⟨s, rfl⟩ : ∃ s, t = s + 1 := ⟨t - 1, by omega⟩
  rw [nI_pred]; exact nI_pos (by omega)
theorem dn_0 : nI 0 - 1 < 0 := by decide
theorem J_post {l : Launch} {y : fr_M} {I : List Nat} {v : fr_V} {u : fr_U} {Q Q2 : Option Value → fr_V → fr_U → Prop} {pc : Nat} {lv : List (Nat × Value)} {st : List Value} (h : ∀ r v' u', Q r v' u' → Q2 r v' u') (k : J l y I v u pc lv st Q) : J l y I v u pc lv st Q2 := by
  intro L cA D p e s m args below meth c H locs ls C hP hD hS hl T hT X
  obtain ⟨t, a1, o, b1, b2, ⟨⟨r, v1, u1, e1, e2, e3⟩, e4⟩, e5⟩ := k L cA D p e s m args below meth c H locs ls C hP hD hS hl T hT X
  exact ⟨t, a1, o, b1, b2, ⟨⟨r, v1, u1, e1, h r v1 u1 e2, e3⟩, e4⟩, e5⟩
