def QI (v : fr_V) (u : fr_U) (P : Int32 → Prop) : Option Value → fr_V → fr_U → Prop := fun r v' u' => ∃ x : Int32, r = some (.int x) ∧ v' = v ∧ u' = u ∧ P x
def QL (v : fr_V) (u : fr_U) (P : Int64 → Prop) : Option Value → fr_V → fr_U → Prop := fun r v' u' => ∃ x : Int64, r = some (.long x) ∧ v' = v ∧ u' = u ∧ P x
def QN (u : fr_U) (P : fr_V → Prop) : Option Value → fr_V → fr_U → Prop := fun r v' u' => r = none ∧ u' = u ∧ P v'
def QX (u : fr_U) (P : Int32 → fr_V → Prop) : Option Value → fr_V → fr_U → Prop := fun r v' u' => ∃ x : Int32, r = some (.int x) ∧ u' = u ∧ P x v'
def QY (u : fr_U) (P : Int64 → fr_V → Prop) : Option Value → fr_V → fr_U → Prop := fun r v' u' => ∃ x : Int64, r = some (.long x) ∧ u' = u ∧ P x v'
section FRC
variable {l : Launch} {y : fr_M} {I : List Nat} {v : fr_V} {u : fr_U} {Q : Option Value → fr_V → fr_U → Prop} {pc : Nat} {lv : List (Nat × Value)} {st : List Value}
variable {z : fr_M} {idx o ci n : Nat} {As rest : List Value}
theorem J_putz {idx ci j k : Nat} {x : Int32} (d : decode y.2.1 pc = .ok (.putfield idx, 3)) (hf : FL y.1.cls idx ci j) (hk : k ∈ I) (hs : (sh k).1 = ci) (h0 : fk ci j = 0) (hfin : ∀ q : vw_C, fr_cls[ci]? = some q → (q.2.1 j).2.2.2 = false) (hty : fr_ty ci j = .boolean) (hx : narrow .boolean (.int x) = .int x ∧ fits .boolean (.int x) = true) (kk : J l y I (up2 v k j x) u (pc + 3) lv st Q) : J l y I v u pc lv (.int x :: .ref k :: st) Q :=
  J_putf (x := .int x) (z := x) d hf hk hs (fun L => by simp [fv, h0, cv]) hfin (fun L => by rw [hty]; exact hx.1) (fun L => by rw [hty]; exact hx.2) kk
theorem J_cVI {P : Int32 → Prop} (d : decode y.2.1 pc = .ok (.invokevirtual idx, 3)) (hw : Cond.methodLink y.1.cls idx z.1 ∈ gt) (hz : MOK z n) (hv : Cond.instanceMethod z.1 ∈ gt ∧ Cond.selects z.1.cls z.1 z.1 ∈ gt) (hR : z.2.2.2.2.1 + 1 ≤ y.2.2.2.2.1 ∧ 8 + (z.2.2.1 + 11) + z.2.2.2.2.2 ≤ y.2.2.2.2.2) (ho : o ∈ I) (hs : (sh o).1 = ci) (hc : (fr_cls[ci]?).map (fun q => q.1) = some z.1.cls) (hst : st = As.reverse ++ .ref o :: rest) (hn : As.length = n) (hsum : (rest.map fun x => x.category).sum ≤ 8) (hC : Con l z I v u (.ref o :: As) (QI v u P)) (k : ∀ x : Int32, P x → J l y I v u (pc + 3) lv (.int x :: rest) Q) : J l y I v u pc lv st Q := by
  refine J_callV d hw hz hv hR ho hs hc hst hn hsum hC (fun r v' u' hq => ?_)
  obtain ⟨x, rfl, rfl, rfl, hp⟩ := hq
  exact k x hp
theorem J_cVL {P : Int64 → Prop} (d : decode y.2.1 pc = .ok (.invokevirtual idx, 3)) (hw : Cond.methodLink y.1.cls idx z.1 ∈ gt) (hz : MOK z n) (hv : Cond.instanceMethod z.1 ∈ gt ∧ Cond.selects z.1.cls z.1 z.1 ∈ gt) (hR : z.2.2.2.2.1 + 1 ≤ y.2.2.2.2.1 ∧ 8 + (z.2.2.1 + 11) + z.2.2.2.2.2 ≤ y.2.2.2.2.2) (ho : o ∈ I) (hs : (sh o).1 = ci) (hc : (fr_cls[ci]?).map (fun q => q.1) = some z.1.cls) (hst : st = As.reverse ++ .ref o :: rest) (hn : As.length = n) (hsum : (rest.map fun x => x.category).sum ≤ 8) (hC : Con l z I v u (.ref o :: As) (QL v u P)) (k : ∀ x : Int64, P x → J l y I v u (pc + 3) lv (.long x :: rest) Q) : J l y I v u pc lv st Q := by
  refine J_callV d hw hz hv hR ho hs hc hst hn hsum hC (fun r v' u' hq => ?_)
  obtain ⟨x, rfl, rfl, rfl, hp⟩ := hq
  exact k x hp
theorem J_cVN {P : fr_V → Prop} (d : decode y.2.1 pc = .ok (.invokevirtual idx, 3)) (hw : Cond.methodLink y.1.cls idx z.1 ∈ gt) (hz : MOK z n) (hv : Cond.instanceMethod z.1 ∈ gt ∧ Cond.selects z.1.cls z.1 z.1 ∈ gt) (hR : z.2.2.2.2.1 + 1 ≤ y.2.2.2.2.1 ∧ 8 + (z.2.2.1 + 11) + z.2.2.2.2.2 ≤ y.2.2.2.2.2) (ho : o ∈ I) (hs : (sh o).1 = ci) (hc : (fr_cls[ci]?).map (fun q => q.1) = some z.1.cls) (hst : st = As.reverse ++ .ref o :: rest) (hn : As.length = n) (hsum : (rest.map fun x => x.category).sum ≤ 8) (hC : Con l z I v u (.ref o :: As) (QN u P)) (k : ∀ v' : fr_V, P v' → J l y I v' u (pc + 3) lv rest Q) : J l y I v u pc lv st Q := by
  refine J_callV d hw hz hv hR ho hs hc hst hn hsum hC (fun r v' u' hq => ?_)
  obtain ⟨rfl, rfl, hp⟩ := hq
  exact k v' hp
theorem J_cVX {P : Int32 → fr_V → Prop} (d : decode y.2.1 pc = .ok (.invokevirtual idx, 3)) (hw : Cond.methodLink y.1.cls idx z.1 ∈ gt) (hz : MOK z n) (hv : Cond.instanceMethod z.1 ∈ gt ∧ Cond.selects z.1.cls z.1 z.1 ∈ gt) (hR : z.2.2.2.2.1 + 1 ≤ y.2.2.2.2.1 ∧ 8 + (z.2.2.1 + 11) + z.2.2.2.2.2 ≤ y.2.2.2.2.2) (ho : o ∈ I) (hs : (sh o).1 = ci) (hc : (fr_cls[ci]?).map (fun q => q.1) = some z.1.cls) (hst : st = As.reverse ++ .ref o :: rest) (hn : As.length = n) (hsum : (rest.map fun x => x.category).sum ≤ 8) (hC : Con l z I v u (.ref o :: As) (QX u P)) (k : ∀ (x : Int32) (v' : fr_V), P x v' → J l y I v' u (pc + 3) lv (.int x :: rest) Q) : J l y I v u pc lv st Q := by
  refine J_callV d hw hz hv hR ho hs hc hst hn hsum hC (fun r v' u' hq => ?_)
  obtain ⟨x, rfl, rfl, hp⟩ := hq
  exact k x v' hp
theorem J_cSI {P : Int32 → Prop} (d : decode y.2.1 pc = .ok (.invokestatic idx, 3)) (hw : Cond.methodLink y.1.cls idx z.1 ∈ gt) (hz : MOK z n) (hv : Cond.static z.1 ∈ gt) (hR : z.2.2.2.2.1 + 1 ≤ y.2.2.2.2.1 ∧ 8 + (z.2.2.1 + 11) + z.2.2.2.2.2 ≤ y.2.2.2.2.2) (hst : st = As.reverse ++ rest) (hn : As.length = n) (hsum : (rest.map fun x => x.category).sum ≤ 8) (hC : Con l z I v u As (QI v u P)) (k : ∀ x : Int32, P x → J l y I v u (pc + 3) lv (.int x :: rest) Q) : J l y I v u pc lv st Q := by
  refine J_callS d hw hz hv hR hst hn hsum hC (fun r v' u' hq => ?_)
  obtain ⟨x, rfl, rfl, rfl, hp⟩ := hq
  exact k x hp
theorem J_cSL {P : Int64 → Prop} (d : decode y.2.1 pc = .ok (.invokestatic idx, 3)) (hw : Cond.methodLink y.1.cls idx z.1 ∈ gt) (hz : MOK z n) (hv : Cond.static z.1 ∈ gt) (hR : z.2.2.2.2.1 + 1 ≤ y.2.2.2.2.1 ∧ 8 + (z.2.2.1 + 11) + z.2.2.2.2.2 ≤ y.2.2.2.2.2) (hst : st = As.reverse ++ rest) (hn : As.length = n) (hsum : (rest.map fun x => x.category).sum ≤ 8) (hC : Con l z I v u As (QL v u P)) (k : ∀ x : Int64, P x → J l y I v u (pc + 3) lv (.long x :: rest) Q) : J l y I v u pc lv st Q := by
  refine J_callS d hw hz hv hR hst hn hsum hC (fun r v' u' hq => ?_)
  obtain ⟨x, rfl, rfl, rfl, hp⟩ := hq
  exact k x hp
theorem J_cSN {P : fr_V → Prop} (d : decode y.2.1 pc = .ok (.invokestatic idx, 3)) (hw : Cond.methodLink y.1.cls idx z.1 ∈ gt) (hz : MOK z n) (hv : Cond.static z.1 ∈ gt) (hR : z.2.2.2.2.1 + 1 ≤ y.2.2.2.2.1 ∧ 8 + (z.2.2.1 + 11) + z.2.2.2.2.2 ≤ y.2.2.2.2.2) (hst : st = As.reverse ++ rest) (hn : As.length = n) (hsum : (rest.map fun x => x.category).sum ≤ 8) (hC : Con l z I v u As (QN u P)) (k : ∀ v' : fr_V, P v' → J l y I v' u (pc + 3) lv rest Q) : J l y I v u pc lv st Q := by
  refine J_callS d hw hz hv hR hst hn hsum hC (fun r v' u' hq => ?_)
  obtain ⟨rfl, rfl, hp⟩ := hq
  exact k v' hp
theorem J_cSX {P : Int32 → fr_V → Prop} (d : decode y.2.1 pc = .ok (.invokestatic idx, 3)) (hw : Cond.methodLink y.1.cls idx z.1 ∈ gt) (hz : MOK z n) (hv : Cond.static z.1 ∈ gt) (hR : z.2.2.2.2.1 + 1 ≤ y.2.2.2.2.1 ∧ 8 + (z.2.2.1 + 11) + z.2.2.2.2.2 ≤ y.2.2.2.2.2) (hst : st = As.reverse ++ rest) (hn : As.length = n) (hsum : (rest.map fun x => x.category).sum ≤ 8) (hC : Con l z I v u As (QX u P)) (k : ∀ (x : Int32) (v' : fr_V), P x v' → J l y I v' u (pc + 3) lv (.int x :: rest) Q) : J l y I v u pc lv st Q := by
  refine J_callS d hw hz hv hR hst hn hsum hC (fun r v' u' hq => ?_)
  obtain ⟨x, rfl, rfl, hp⟩ := hq
  exact k x v' hp
end FRC
