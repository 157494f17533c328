section FRS
variable {l : Launch} {y : fr_M} {I : List Nat} {v : fr_V} {u : fr_U} {Q : Option Value → fr_V → fr_U → Prop} {pc : Nat} {lv : List (Nat × Value)} {st : List Value}
theorem J_gets {idx : Nat} {C9 n9 d9 : String} {x : Value} (dd : decode y.2.1 pc = .ok (.getstatic idx, 3)) (hw : Cond.fieldLink y.1.cls idx C9 n9 d9 ∈ gt) (hz : ∀ (L : Nat → Nat) (A : Nat → Prop) (U : State) (H : Heap), fr_X L A U H → va_Z C9 n9 d9 (cv L x) A U H) (kk : J l y I v u (pc + 3) lv (x :: st) Q) : J l y I v u pc lv st Q := by
  intro L cA D p e s m args below meth c H locs ls C hP hD hS hl
  exact va_gets C.1 C.2.1 (hz L _ s s.heap C.2.2.2.2.2.2.2.1) hS C.2.2.2.2.1 (C.2.2.2.2.2.2.1 _ hw) (fun _ h9 => h9) dd (kk L cA D p e s m args below meth c H locs ls C hP hD hS hl)
/-- an int field of the Word w -/
theorem J_getW {idx w : Nat} {q : String × String × String × List Int32} (dd : decode y.2.1 pc = .ok (.getfield idx, 3)) (hq : q ∈ fr_F) (hw : Cond.fieldLink y.1.cls idx q.1 q.2.1 q.2.2.1 ∈ gt) (hw9 : w < 15) (kk : J l y I v u (pc + 3) lv (.int (q.2.2.2.getD w 0) :: st) Q) : J l y I v u pc lv (.ref (3000 + w) :: st) Q := by
  intro L cA D p e s m args below meth c H locs ls C hP hD hS hl
  exact va_getE (ad := fun i => L (3000 + i)) C.1 C.2.1 C.2.2.2.2.2.2.2.1.1 hw9 hS C.2.2.2.2.1 hq (C.2.2.2.2.2.2.1 _ hw) (fun _ h9 => h9) dd (kk L cA D p e s m args below meth c H locs ls C hP hD hS hl)
/-- the usual settings -/
theorem J_tald {i : Int32} (dd : decode y.2.1 pc = .ok (.iaload, 1)) (hin : vp_in i 4) (kk : J l y I v u (pc + 1) lv (.int (fr_us i.toNatClampNeg) :: st) Q) : J l y I v u pc lv (.int i :: .ref 3200 :: st) Q := by
  intro L cA D p e s m args below meth c H locs ls C hP hD hS hl
  obtain ⟨cell, h1, h2, h3, h4, h5, h6, h7⟩ := C.2.2.2.2.2.2.2.1.2.2.2.1.kept hS.2.1
  obtain ⟨j, hj, rfl⟩ := vp_in_of hin (by omega)
  have ej : (nI j).toNatClampNeg = j := nI_clamp (by omega)
  refine W.iald (v := .int (fr_us (nI j).toNatClampNeg)) C.1 C.2.1 h1 h2 h3 ?_ ?_ rfl rfl dd (kk L cA D p e s m args below meth c H locs ls C hP hD hS hl)
  · rw [ej]; exact fun q => q.elim (nI_pos (by omega)) (fun q => by omega)
  · rw [ej]; exact h6 j hj
theorem L_word {L : Nat → Nat} {A : Nat → Prop} {U : State} {H : Heap} (h : fr_X L A U H) {i j : Nat} (hi : i < 15) (hj : j < 15) : (some (L (3000 + i)) = some (L (3000 + j))) ↔ i = j := ⟨fun e => h.1.2 i j hi hj (Option.some.inj e), fun e => by rw [e]⟩
theorem J_acmpW_eq {i j tgt : Nat} {off : Int} (d : decode y.2.1 pc = .ok (.if_acmp .eq off, 3)) (ht : (pc : Int) + off = (tgt : Int)) (hi : i < 15) (hj : j < 15) (kt : i = j → J l y I v u tgt lv st Q) (kf : ¬ i = j → J l y I v u (pc + 3) lv st Q) : J l y I v u pc lv (.ref (3000 + j) :: .ref (3000 + i) :: st) Q := by
  intro L cA D p e s m args below meth c H locs ls C hP hD hS hl
  exact lv_acmp_eq (rx := some (L (3000 + i))) (ry := some (L (3000 + j))) C.1 C.2.1 d ht (fun h => kt ((L_word C.2.2.2.2.2.2.2.1 hi hj).mp h) L cA D p e s m args below meth c H locs ls C hP hD hS hl) (fun h => kf (fun q => h ((L_word C.2.2.2.2.2.2.2.1 hi hj).mpr q)) L cA D p e s m args below meth c H locs ls C hP hD hS hl)
theorem J_acmpW_ne {i j tgt : Nat} {off : Int} (d : decode y.2.1 pc = .ok (.if_acmp .ne off, 3)) (ht : (pc : Int) + off = (tgt : Int)) (hi : i < 15) (hj : j < 15) (kt : ¬ i = j → J l y I v u tgt lv st Q) (kf : i = j → J l y I v u (pc + 3) lv st Q) : J l y I v u pc lv (.ref (3000 + j) :: .ref (3000 + i) :: st) Q := by
  intro L cA D p e s m args below meth c H locs ls C hP hD hS hl
  exact lv_acmp_ne (rx := some (L (3000 + i))) (ry := some (L (3000 + j))) C.1 C.2.1 d ht (fun h => kt (fun q => h ((L_word C.2.2.2.2.2.2.2.1 hi hj).mpr q)) L cA D p e s m args below meth c H locs ls C hP hD hS hl) (fun h => kf ((L_word C.2.2.2.2.2.2.2.1 hi hj).mp h) L cA D p e s m args below meth c H locs ls C hP hD hS hl)
end FRS
theorem x_us (L : Nat → Nat) (A : Nat → Prop) (U : State) (H : Heap) (h : fr_X L A U H) : va_Z "LifeRents" "USUAL_SETTINGS" "[I" (cv L (.ref 3200)) A U H := h.2.2.1
theorem x_words (L : Nat → Nat) (A : Nat → Prop) (U : State) (H : Heap) (h : fr_X L A U H) : va_Z "LifeRents" "WORDS" "[LLifeRents$Word;" (cv L (.ref 3201)) A U H := h.2.2.2.2.1
theorem x_word (w : Nat) (hw : w < 15) (L : Nat → Nat) (A : Nat → Prop) (U : State) (H : Heap) (h : fr_X L A U H) : va_Z "LifeRents$Word" (fr_nm.getD w "") "LLifeRents$Word;" (cv L (.ref (3000 + w))) A U H := (h.1.1 w hw).1
