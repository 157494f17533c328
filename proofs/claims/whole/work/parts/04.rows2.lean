theorem fsl_get {L : Nat → Nat} {k ci j : Nat} {f : Nat → Int32} (h : j < nfd ci) : (fsl L k ci f)[j]? = some (fv L k ci j (f j)) := by
  simp [fsl, h]
theorem fsl_set {L : Nat → Nat} {k ci j : Nat} {f : Nat → Int32} {x : Int32} (h : j < nfd ci) : (fsl L k ci f).set j (fv L k ci j x) = fsl L k ci (upd f j x) := by
  apply List.ext_getElem?
  intro i
  by_cases hi : j = i
  · subst hi
    rw [List.getElem?_set_self (by simpa [fsl] using h), fsl_get h]
    simp [upd]
  · rw [List.getElem?_set_ne hi]
    by_cases hl : i < nfd ci
    · rw [fsl_get hl, fsl_get hl]
      have : upd f j x i = f i := by unfold upd; rw [if_neg (fun e => hi e.symm)]
      rw [this]
    · rw [List.getElem?_eq_none (by simpa [fsl] using hl), List.getElem?_eq_none (by simpa [fsl] using hl)]
theorem up2_self (v : fr_V) (k i : Nat) (x : Int32) : up2 v k i x k = upd (v k) i x := by simp [up2]
theorem up2_ne {v : fr_V} {k i a : Nat} {x : Int32} (h : a ≠ k) : up2 v k i x a = v a := by simp [up2, h]
theorem up3_self (v : fr_U) (k i : Nat) (x : Int64) : up3 v k i x k = vp_updL (v k) i x := by simp [up3]
theorem up3_ne {v : fr_U} {k i a : Nat} {x : Int64} (h : a ≠ k) : up3 v k i x a = v a := by simp [up3, h]
theorem ent_o {L : Nat → Nat} {cA : Nat → ClassId} {k ci : Nat} {f : Nat → Int32} {g : Nat → Int64} (h : (sh k).1 = ci) (hc : ci < 20) : ent L cA k f g = .inr (ci, fsl L k ci f) := by
  subst h
  unfold ent
  rw [if_neg (by omega), if_neg (by omega), if_neg (by omega), if_neg (by omega), if_neg (by omega), if_neg (by omega)]
theorem ent_i {L : Nat → Nat} {cA : Nat → ClassId} {k n : Nat} {f : Nat → Int32} {g : Nat → Int64} (h : sh k = (20, n)) : ent L cA k f g = .inl (cA 0, n, .inl f) := by simp [ent, h]
theorem ent_z {L : Nat → Nat} {cA : Nat → ClassId} {k n : Nat} {f : Nat → Int32} {g : Nat → Int64} (h : sh k = (21, n)) : ent L cA k f g = .inl (cA 1, n, .inl f) := by simp [ent, h]
theorem ent_l {L : Nat → Nat} {cA : Nat → ClassId} {k n : Nat} {f : Nat → Int32} {g : Nat → Int64} (h : sh k = (22, n)) : ent L cA k f g = .inl (cA 2, n, .inr (.inl g)) := by simp [ent, h]
/-- a field's link: the pool's place idx of the code of 'own' names the field j of the kind ci -/
def FL (own : String) (idx ci j : Nat) : Prop := ∃ q : vw_C, fr_cls[ci]? = some q ∧ j < q.2.2 ∧ Cond.fieldLink own idx (q.2.1 j).1 (q.2.1 j).2.1 (q.2.1 j).2.2.1 ∈ gt
theorem FL.of {own : String} {idx ci j : Nat} {q : vw_C} (h : fr_cls[ci]? = some q) (hj : j < q.2.2) (hw : Cond.fieldLink own idx (q.2.1 j).1 (q.2.1 j).2.1 (q.2.1 j).2.2.1 ∈ lw_tbl) : FL own idx ci j := ⟨q, h, hj, gt_mem hw rfl⟩
section FRH
variable {l : Launch} {y : fr_M} {I : List Nat} {v : fr_V} {u : fr_U} {Q : Option Value → fr_V → fr_U → Prop} {pc : Nat} {lv : List (Nat × Value)} {st : List Value}
theorem J_getf {idx ci j k : Nat} {x : Value} (d : decode y.2.1 pc = .ok (.getfield idx, 3)) (hf : FL y.1.cls idx ci j) (hk : k ∈ I) (hs : (sh k).1 = ci) (hx : ∀ L : Nat → Nat, fv L k ci j (v k j) = cv L x) (kk : J l y I v u (pc + 3) lv (x :: st) Q) : J l y I v u pc lv (.ref k :: st) Q := by
  intro L cA D p e s m args below meth c H locs ls C hP hD hS hl
  obtain ⟨q, hc, hj, hw⟩ := hf
  have hci : ci < 12 := (List.getElem?_eq_some_iff.mp hc).1
  have hn : nfd ci = q.2.2 := by unfold nfd; rw [hc]
  obtain ⟨q0, -, hq0⟩ := mw_get (L := L) (cA := cA) (v := v) (u := u) hk
  rw [ent_o hs (by omega)] at hq0
  exact va_get (C := q.1) (T := q.2.1) (N := q.2.2) C.1 C.2.1 C.2.2.2.2.2.2.1 (fr_in hc) C.2.2.2.2.1 C.2.2.2.2.2.2.2.2 hP q0 hq0 hc j hj (C.2.2.2.2.2.2.1 _ hw) (fun _ h9 => h9) (by rw [fsl_get (by rw [hn]; exact hj), hx L]) d (kk L cA D p e s m args below meth c H locs ls C hP hD hS hl)
/-- a number -/
theorem J_geti {idx ci j k : Nat} (d : decode y.2.1 pc = .ok (.getfield idx, 3)) (hf : FL y.1.cls idx ci j) (hk : k ∈ I) (hs : (sh k).1 = ci) (h0 : fk ci j = 0) (kk : J l y I v u (pc + 3) lv (.int (v k j) :: st) Q) : J l y I v u pc lv (.ref k :: st) Q :=
  J_getf (x := .int (v k j)) d hf hk hs (fun L => by simp [fv, h0, cv]) kk
/-- a fixed cell -/
theorem J_getr {idx ci j k t : Nat} (d : decode y.2.1 pc = .ok (.getfield idx, 3)) (hf : FL y.1.cls idx ci j) (hk : k ∈ I) (hs : (sh k).1 = ci) (h0 : fk ci j = 1) (ht : sref k j = t) (kk : J l y I v u (pc + 3) lv (.ref t :: st) Q) : J l y I v u pc lv (.ref k :: st) Q :=
  J_getf (x := .ref t) d hf hk hs (fun L => by simp [fv, h0, cv, ht]) kk
/-- a cell that may change -/
theorem J_getd {idx ci j k t : Nat} (d : decode y.2.1 pc = .ok (.getfield idx, 3)) (hf : FL y.1.cls idx ci j) (hk : k ∈ I) (hs : (sh k).1 = ci) (h0 : fk ci j = 2) (ht : ¬ v k j < 0) (ht2 : (v k j).toNatClampNeg = t) (kk : J l y I v u (pc + 3) lv (.ref t :: st) Q) : J l y I v u pc lv (.ref k :: st) Q :=
  J_getf (x := .ref t) d hf hk hs (fun L => by simp [fv, h0, cv, rq, ht, ht2, va_rf]) kk
theorem J_getn {idx ci j k : Nat} (d : decode y.2.1 pc = .ok (.getfield idx, 3)) (hf : FL y.1.cls idx ci j) (hk : k ∈ I) (hs : (sh k).1 = ci) (h0 : fk ci j = 2) (ht : v k j < 0) (kk : J l y I v u (pc + 3) lv (.null :: st) Q) : J l y I v u pc lv (.ref k :: st) Q :=
  J_getf (x := .null) d hf hk hs (fun L => by simp [fv, h0, cv, rq, ht, va_rf]) kk
theorem J_putf {idx ci j k : Nat} {x : Value} {z : Int32} (d : decode y.2.1 pc = .ok (.putfield idx, 3)) (hf : FL y.1.cls idx ci j) (hk : k ∈ I) (hs : (sh k).1 = ci) (hx : ∀ L : Nat → Nat, cv L x = fv L k ci j z) (hfin : ∀ q : vw_C, fr_cls[ci]? = some q → (q.2.1 j).2.2.2 = false) (hn : ∀ L : Nat → Nat, narrow (fr_ty ci j) (cv L x) = cv L x) (hfit : ∀ L : Nat → Nat, fits (fr_ty ci j) (cv L x) = true) (kk : J l y I (up2 v k j z) u (pc + 3) lv st Q) : J l y I v u pc lv (x :: .ref k :: st) Q := by
  intro L cA D p e s m args below meth c H locs ls C hP hD hS hl
  obtain ⟨q, hc, hj, hw⟩ := hf
  have hci : ci < 12 := (List.getElem?_eq_some_iff.mp hc).1
  have hnf : nfd ci = q.2.2 := by unfold nfd; rw [hc]
  obtain ⟨q0, hi0, hq0⟩ := mw_get (L := L) (cA := cA) (v := v) (u := u) hk
  rw [ent_o hs (by omega)] at hq0
  refine va_put (C := q.1) (T := q.2.1) (N := q.2.2) (ty := fr_ty ci j) C.1 C.2.1 C.2.2.2.2.2.2.1 (fr_in hc) (fr_ty ci) (fr_tn hc).1 (fr_tn hc).2 C.2.2.2.2.1 C.2.2.2.2.2.2.2.2 hP hD hS q0 hq0 hc j hj (C.2.2.2.2.2.2.1 _ hw) (fun _ h9 => h9) (hfin q hc) ((fr_tn hc).1 j hj) (hn L) (hfit L) (by simp [fsl, hnf, hj]) d (fun H1 locs1 hP1 hD1 hS1 => ?_)
  have hset : (mw L cA I v u).set q0 (L k, .inr (ci, (fsl L k ci (v k)).set j (cv L x))) = mw L cA I (up2 v k j z) u :=
    mw_set hD hi0 (by rw [ent_o hs (by omega), up2_self, hx L, fsl_set (by rw [hnf]; exact hj)]) (fun a ha => up2_ne ha) (fun a ha => rfl)
  rw [hset] at hP1 hD1
  exact kk L cA D p e s m args below meth c H1 locs1 ls C hP1 hD1 hS1 hl
theorem J_puti {idx ci j k : Nat} {x : Int32} (d : decode y.2.1 pc = .ok (.putfield idx, 3)) (hf : FL y.1.cls idx ci j) (hk : k ∈ I) (hs : (sh k).1 = ci) (h0 : fk ci j = 0) (hfin : ∀ q : vw_C, fr_cls[ci]? = some q → (q.2.1 j).2.2.2 = false) (hty : fr_ty ci j = .int) (kk : J l y I (up2 v k j x) u (pc + 3) lv st Q) : J l y I v u pc lv (.int x :: .ref k :: st) Q :=
  J_putf (x := .int x) (z := x) d hf hk hs (fun L => by simp [fv, h0, cv]) hfin (fun L => by rw [hty]; rfl) (fun L => by rw [hty]; rfl) kk
theorem J_iald {k n : Nat} {i : Int32} (d : decode y.2.1 pc = .ok (.iaload, 1)) (hk : k ∈ I) (hs : sh k = (20, n)) (hin : vp_in i n) (kk : J l y I v u (pc + 1) lv (.int (v k i.toNatClampNeg) :: st) Q) : J l y I v u pc lv (.int i :: .ref k :: st) Q := by
  intro L cA D p e s m args below meth c H locs ls C hP hD hS hl
  obtain ⟨q0, -, hq0⟩ := mw_get (L := L) (cA := cA) (v := v) (u := u) hk
  rw [ent_i hs] at hq0
  exact va_iald C.1 C.2.1 C.2.2.2.2.2.2.2.2 hP q0 0 hq0 rfl hin d (kk L cA D p e s m args below meth c H locs ls C hP hD hS hl)
theorem J_zald {k n : Nat} {i : Int32} (d : decode y.2.1 pc = .ok (.baload, 1)) (hk : k ∈ I) (hs : sh k = (21, n)) (hin : vp_in i n) (kk : J l y I v u (pc + 1) lv (.int (v k i.toNatClampNeg) :: st) Q) : J l y I v u pc lv (.int i :: .ref k :: st) Q := by
  intro L cA D p e s m args below meth c H locs ls C hP hD hS hl
  obtain ⟨q0, -, hq0⟩ := mw_get (L := L) (cA := cA) (v := v) (u := u) hk
  rw [ent_z hs] at hq0
  exact va_zald C.1 C.2.1 C.2.2.2.2.2.2.2.2 hP q0 1 hq0 rfl hin d (kk L cA D p e s m args below meth c H locs ls C hP hD hS hl)
theorem J_lald {k n : Nat} {i : Int32} (d : decode y.2.1 pc = .ok (.laload, 1)) (hk : k ∈ I) (hs : sh k = (22, n)) (hin : vp_in i n) (kk : J l y I v u (pc + 1) lv (.long (u k i.toNatClampNeg) :: st) Q) : J l y I v u pc lv (.int i :: .ref k :: st) Q := by
  intro L cA D p e s m args below meth c H locs ls C hP hD hS hl
  obtain ⟨q0, -, hq0⟩ := mw_get (L := L) (cA := cA) (v := v) (u := u) hk
  rw [ent_l hs] at hq0
  exact va_lald C.1 C.2.1 C.2.2.2.2.2.2.2.2 hP q0 2 hq0 rfl hin d (kk L cA D p e s m args below meth c H locs ls C hP hD hS hl)
theorem J_iast {k n : Nat} {i x : Int32} (d : decode y.2.1 pc = .ok (.iastore, 1)) (hk : k ∈ I) (hs : sh k = (20, n)) (hin : vp_in i n) (kk : J l y I (up2 v k i.toNatClampNeg x) u (pc + 1) lv st Q) : J l y I v u pc lv (.int x :: .int i :: .ref k :: st) Q := by
  intro L cA D p e s m args below meth c H locs ls C hP hD hS hl
  obtain ⟨q0, hi0, hq0⟩ := mw_get (L := L) (cA := cA) (v := v) (u := u) hk
  rw [ent_i hs] at hq0
  refine va_iast C.1 C.2.1 C.2.2.2.2.2.2.2.2 hP hD hS q0 0 hq0 rfl hin d (fun H1 locs1 hP1 hD1 hS1 => ?_)
  have hset : (mw L cA I v u).set q0 (L k, .inl (cA 0, n, .inl (upd (v k) i.toNatClampNeg x))) = mw L cA I (up2 v k i.toNatClampNeg x) u :=
    mw_set hD hi0 (by rw [ent_i hs, up2_self]) (fun a ha => up2_ne ha) (fun a ha => rfl)
  rw [hset] at hP1 hD1
  exact kk L cA D p e s m args below meth c H1 locs1 ls C hP1 hD1 hS1 hl
theorem J_zast {k n : Nat} {i x : Int32} (d : decode y.2.1 pc = .ok (.bastore, 1)) (hk : k ∈ I) (hs : sh k = (21, n)) (hin : vp_in i n) (hx : vp_nar .boolean x = x) (kk : J l y I (up2 v k i.toNatClampNeg x) u (pc + 1) lv st Q) : J l y I v u pc lv (.int x :: .int i :: .ref k :: st) Q := by
  intro L cA D p e s m args below meth c H locs ls C hP hD hS hl
  obtain ⟨q0, hi0, hq0⟩ := mw_get (L := L) (cA := cA) (v := v) (u := u) hk
  rw [ent_z hs] at hq0
  refine va_zast C.1 C.2.1 C.2.2.2.2.2.2.2.2 hP hD hS q0 1 hq0 rfl hin d (fun H1 locs1 hP1 hD1 hS1 => ?_)
  have hset : (mw L cA I v u).set q0 (L k, .inl (cA 1, n, .inl (upd (v k) i.toNatClampNeg (vp_nar .boolean x)))) = mw L cA I (up2 v k i.toNatClampNeg x) u :=
    mw_set hD hi0 (by rw [ent_z hs, up2_self, hx]) (fun a ha => up2_ne ha) (fun a ha => rfl)
  rw [hset] at hP1 hD1
  exact kk L cA D p e s m args below meth c H1 locs1 ls C hP1 hD1 hS1 hl
theorem J_last {k n : Nat} {i : Int32} {x : Int64} (d : decode y.2.1 pc = .ok (.lastore, 1)) (hk : k ∈ I) (hs : sh k = (22, n)) (hin : vp_in i n) (kk : J l y I v (up3 u k i.toNatClampNeg x) (pc + 1) lv st Q) : J l y I v u pc lv (.long x :: .int i :: .ref k :: st) Q := by
  intro L cA D p e s m args below meth c H locs ls C hP hD hS hl
  obtain ⟨q0, hi0, hq0⟩ := mw_get (L := L) (cA := cA) (v := v) (u := u) hk
  rw [ent_l hs] at hq0
  refine va_last C.1 C.2.1 C.2.2.2.2.2.2.2.2 hP hD hS q0 2 hq0 rfl hin d (fun H1 locs1 hP1 hD1 hS1 => ?_)
  have hset : (mw L cA I v u).set q0 (L k, .inl (cA 2, n, .inr (.inl (vp_updL (u k) i.toNatClampNeg x)))) = mw L cA I v (up3 u k i.toNatClampNeg x) :=
    mw_set hD hi0 (by rw [ent_l hs, up3_self]) (fun a ha => rfl) (fun a ha => up3_ne ha)
  rw [hset] at hP1 hD1
  exact kk L cA D p e s m args below meth c H1 locs1 ls C hP1 hD1 hS1 hl
theorem J_alen {k n : Nat} {x : Int32} (d : decode y.2.1 pc = .ok (.arraylength, 1)) (hk : k ∈ I) (hs : sh k = (20, n)) (hx : Int32.ofNat n = x) (kk : J l y I v u (pc + 1) lv (.int x :: st) Q) : J l y I v u pc lv (.ref k :: st) Q := by
  intro L cA D p e s m args below meth c H locs ls C hP hD hS hl
  obtain ⟨q0, -, hq0⟩ := mw_get (L := L) (cA := cA) (v := v) (u := u) hk
  rw [ent_i hs] at hq0
  exact va_alen C.1 C.2.1 C.2.2.2.2.2.2.2.2 hP q0 0 hq0 rfl hx d (kk L cA D p e s m args below meth c H locs ls C hP hD hS hl)
theorem J_iret {x : Int32} (d : decode y.2.1 pc = .ok (.ireturn, 1)) (hr : y.2.2.2.1 = some .int) (hq : Q (some (.int x)) v u) : J l y I v u pc lv [.int x] Q := by
  intro L cA D p e s m args below meth c H locs ls C hP hD hS hl
  exact W.iret (v := x) C.1 C.2.1 (C.2.2.1.trans hr) (fun t ht hW => ⟨⟨some (.int x), v, u, rfl, hq, by rw [ht]; exact hP, va_K.moved hW.alike C.2.2.2.2.2.2.2.2⟩, hS.F ht⟩) hS.2.2 d C.2.2.2.2.2.1
theorem J_zret {x : Int32} (d : decode y.2.1 pc = .ok (.ireturn, 1)) (hr : y.2.2.2.1 = some .boolean) (hx : narrow .boolean (.int x) = .int x) (hq : Q (some (.int x)) v u) : J l y I v u pc lv [.int x] Q := by
  intro L cA D p e s m args below meth c H locs ls C hP hD hS hl
  exact W.zret (v := x) C.1 C.2.1 (C.2.2.1.trans hr) hx (fun t ht hW => ⟨⟨some (.int x), v, u, rfl, hq, by rw [ht]; exact hP, va_K.moved hW.alike C.2.2.2.2.2.2.2.2⟩, hS.F ht⟩) hS.2.2 d C.2.2.2.2.2.1
theorem J_lret {x : Int64} (d : decode y.2.1 pc = .ok (.lreturn, 1)) (hr : y.2.2.2.1 = some .long) (hq : Q (some (.long x)) v u) : J l y I v u pc lv [.long x] Q := by
  intro L cA D p e s m args below meth c H locs ls C hP hD hS hl
  exact W.lret (v := x) C.1 C.2.1 (C.2.2.1.trans hr) (fun t ht hW => ⟨⟨some (.long x), v, u, rfl, hq, by rw [ht]; exact hP, va_K.moved hW.alike C.2.2.2.2.2.2.2.2⟩, hS.F ht⟩) hS.2.2 d C.2.2.2.2.2.1
theorem J_vret (d : decode y.2.1 pc = .ok (.return_, 1)) (hr : y.2.2.2.1 = none) (hq : Q none v u) : J l y I v u pc lv [] Q := by
  intro L cA D p e s m args below meth c H locs ls C hP hD hS hl
  exact W.vret C.1 C.2.1 (C.2.2.1.trans hr) (fun t ht hW => ⟨⟨none, v, u, rfl, hq, by rw [ht]; exact hP, va_K.moved hW.alike C.2.2.2.2.2.2.2.2⟩, hS.F ht⟩) hS.2.2 d C.2.2.2.2.2.1
theorem J_aret {x : Value} (d : decode y.2.1 pc = .ok (.areturn, 1)) {C9 : String} (hr : y.2.2.2.1 = some (.object C9)) (hx : x = .null ∨ ∃ a, x = .ref a) (hq : Q (some x) v u) : J l y I v u pc lv [x] Q := by
  intro L cA D p e s m args below meth c H locs ls C hP hD hS hl
  exact W.aret (v := cv L x) C.1 C.2.1 (C.2.2.1.trans hr) (Or.inl ⟨_, rfl⟩) (hx.elim (fun h => Or.inl (by rw [h]; rfl)) (fun ⟨a, h⟩ => Or.inr ⟨L a, by rw [h]; rfl⟩)) (fun t ht hW => ⟨⟨some x, v, u, rfl, hq, by rw [ht]; exact hP, va_K.moved hW.alike C.2.2.2.2.2.2.2.2⟩, hS.F ht⟩) hS.2.2 d C.2.2.2.2.2.1
/-- what the tables say of a method that is called: n its number of arguments -/
def MOK (z : fr_M) (n : Nat) : Prop := Cond.code z.1 z.2.1 z.2.2.1 z.2.2.2.1 ∈ gt ∧ Cond.initialized z.1.cls ∈ gt ∧ (z.1.cls ≠ "java/lang/invoke/MethodHandle" ∧ z.1.cls ≠ "java/lang/invoke/VarHandle" ∧ (parseMethodDescriptor z.1.desc).map (fun d => d.parameters.length) = some n)
theorem fr_good {z : fr_M} {n : Nat} (h : MOK z n) : GoodIn gt (fr_ws z) := fun w hw => by
  rcases List.mem_cons.mp hw with rfl | hw
  · exact ⟨h.1, gt_good h.1⟩
  · exact ⟨hw, gt_good hw⟩
theorem fr_blind {L : Nat → Nat} {cA : Nat → ClassId} {D : va_G} {av : List Value} : FrameBlind (va_Pc av (fr_P L cA D I v u)) := by
  intro a U g mk q
  obtain ⟨q0, qP, qK, qD, qX⟩ := q
  exact ⟨q0, qP, va_K.moved (u := U) (U := U.calling g mk a) (Vm.Alike.refl U.vm) qK, qD, fr_X.same (u := U) (U := U.calling g mk a) rfl qX⟩
theorem fr_pre {L : Nat → Nat} {cA : Nat → ClassId} {D : va_G} {av : List Value} {s : State} {H : Heap} {locs : List Loc} (hP : va_P D fr_cls (mw L cA I v u) H) (hD : va_D (Aw L I) (mw L cA I v u)) (hS : va_S (Aw L I) s.heap H locs) (hK : va_K D fr_cls (fr_tys cA) s) (hX : fr_X L (Aw L I) s s.heap) : ∀ U : State, U.heap = H → s.WarmedH U.vm → va_Pc av (fr_P L cA D I v u) av.toArray U := by
  intro U hU hW
  refine ⟨rfl, by rw [hU]; exact hP, va_K.moved hW.alike hK, hD, ?_⟩
  rw [hU]
  exact fr_X.warm hW (hX.kept hS.2.1)
theorem J_back {z : fr_M} {L : Nat → Nat} {cA : Nat → ClassId} {D : va_G} {p : Program} {e : Env} {s : State} {m : MethodId} {args : Array Value} {below : List Frame} {meth : Method} {c : Code} {H : Heap} {locs : List Loc} {ls : Array Slot} {a9 : Array Value} {st0 rest : List Value} {Qz : Option Value → fr_V → fr_U → Prop}
    (hr : va_Run p l e (fr_rm y) s m args below meth c H locs 0 0 0 0 (F0 m pc ls st0) (rest.map (cv L)) (fr_Q L cA D I Qz a9) (Aw L I)) (C : fr_C L cA D I y p s m args meth c) (hD : va_D (Aw L I) (mw L cA I v u)) (hS : va_S (Aw L I) s.heap H locs) (hl : lv_has ls y.2.2.1 (lv.map (cvp L)))
    (k : ∀ r v' u', Qz r v' u' → J l y I v' u' (pc + 3) lv (r.toList ++ rest) Q) : W p l e (fr_rm y) s m args below meth c H locs 0 0 (MQ below (fr_Q L cA D I Q) args s 0 0 (Aw L I)) (F0 m pc ls st0) := by
  intro T hT X
  obtain ⟨r9, st₀, t, T', L9, h0, X', hL9, e1, e2, ⟨⟨r, v', u', hv, hq, hP', hK'⟩, hz, hk⟩, stp⟩ := hr T hT X
  have hv2 : r9 = r.map (cv L) := Outcome.returned.inj hv
  subst hv2
  rw [h0] at hz hk
  have hS1 : va_S (Aw L I) s.heap T'.heap (locs ++ L9) := ⟨Nat.le_trans hS.1 (by rw [e1]; exact hz), fun q h1 h2 => by rw [e1, hk q (Nat.lt_of_lt_of_le h1 hS.1) h2]; exact hS.2.1 q h1 h2, fun q hq => by
      rcases List.mem_append.mp hq with h | h
      · exact hS.2.2 q h
      · exact hL9 q h⟩
  have hW := k r v' u' hq L cA D p e s m args below meth c T'.heap (locs ++ L9) ls C (by rw [e1]; exact hP') (mw_D hD) hS1 hl
  obtain ⟨t2, a1, b1⟩ := hW T' rfl X'
  refine ⟨t2, stp t2 ?_, b1⟩
  have he : (r.toList ++ rest).map (cv L) = (r.map (cv L)).toList ++ rest.map (cv L) := by cases r <;> simp
  rw [he] at a1
  exact a1
theorem J_callV {z : fr_M} {idx o ci n : Nat} {As rest : List Value} {Qz : Option Value → fr_V → fr_U → Prop} (d : decode y.2.1 pc = .ok (.invokevirtual idx, 3)) (hw : Cond.methodLink y.1.cls idx z.1 ∈ gt) (hz : MOK z n) (hv : Cond.instanceMethod z.1 ∈ gt ∧ Cond.selects z.1.cls z.1 z.1 ∈ gt) (hR : z.2.2.2.2.1 + 1 ≤ y.2.2.2.2.1 ∧ 8 + (z.2.2.1 + 11) + z.2.2.2.2.2 ≤ y.2.2.2.2.2)
    (ho : o ∈ I) (hs : (sh o).1 = ci) (hc : (fr_cls[ci]?).map (fun q => q.1) = some z.1.cls) (hst : st = As.reverse ++ .ref o :: rest) (hn : As.length = n) (hsum : (rest.map fun x => x.category).sum ≤ 8) (hC : Con l z I v u (.ref o :: As) Qz)
    (k : ∀ r v' u', Qz r v' u' → J l y I v' u' (pc + 3) lv (r.toList ++ rest) Q) : J l y I v u pc lv st Q := by
  intro L cA D p e s m args below meth c H locs ls C hP hD hS hl
  subst hst
  obtain ⟨q, hcq, hq1⟩ : ∃ q : vw_C, fr_cls[ci]? = some q ∧ q.1 = z.1.cls := by
    cases h : fr_cls[ci]? with
    | none => rw [h] at hc; cases hc
    | some q => rw [h] at hc; exact ⟨q, rfl, Option.some.inj hc⟩
  have hci : ci < 12 := (List.getElem?_eq_some_iff.mp hcq).1
  obtain ⟨q0, -, hq0⟩ := mw_get (L := L) (cA := cA) (v := v) (u := u) ho
  rw [ent_o hs (by omega)] at hq0
  have hT := C.2.2.2.2.2.2.1
  have cb : CallB (fr_rm y) s args y.1.cls idx z.1 z.2.1 z.2.2.1 z.2.2.2.1 (fr_ws z) (fr_rm z) 0 0 n := callB_of n hT (fr_good hz) rfl rfl rfl (hT _ hz.2.1) (hT _ hw) hz.2.2 hR
  have hrun := va_runV (l := l) (e := e) (below := below) (meth := meth) (H := H) (locs := locs) (cells := 0) (slots := 0) (b := L o) (As := As.map (cv L)) (rest := rest.map (cv L)) (g := F0 m pc ls ((As.reverse ++ .ref o :: rest).map (cv L))) ⟨C.1, C.2.1, C.2.2.2.1, C.2.2.2.2.1, hT⟩ (hC L cA D) (C := z.1.cls) ⟨cb, hT _ hv.1, hT _ hv.2⟩
    ⟨fr_blind, by have hrc := va_recv C.2.2.2.2.2.2.2.2 hP hcq hq0; rw [hq1] at hrc; exact hrc, fr_pre (av := (Value.ref o :: As).map (cv L)) hP hD hS C.2.2.2.2.2.2.2.2 C.2.2.2.2.2.2.2.1⟩ rfl (by rw [List.length_map]; exact hn) hl.1 (by simp [cv, List.map_reverse]) (lv_room (by rw [cv_sum]; exact hsum)) d ⟨Nat.le_refl _, Nat.le_refl _⟩
  exact J_back (z := z) (v := v) (u := u) hrun C hD hS hl k
theorem J_callS {z : fr_M} {idx n : Nat} {As rest : List Value} {Qz : Option Value → fr_V → fr_U → Prop} (d : decode y.2.1 pc = .ok (.invokestatic idx, 3)) (hw : Cond.methodLink y.1.cls idx z.1 ∈ gt) (hz : MOK z n) (hv : Cond.static z.1 ∈ gt) (hR : z.2.2.2.2.1 + 1 ≤ y.2.2.2.2.1 ∧ 8 + (z.2.2.1 + 11) + z.2.2.2.2.2 ≤ y.2.2.2.2.2)
    (hst : st = As.reverse ++ rest) (hn : As.length = n) (hsum : (rest.map fun x => x.category).sum ≤ 8) (hC : Con l z I v u As Qz)
    (k : ∀ r v' u', Qz r v' u' → J l y I v' u' (pc + 3) lv (r.toList ++ rest) Q) : J l y I v u pc lv st Q := by
  intro L cA D p e s m args below meth c H locs ls C hP hD hS hl
  subst hst
  have hT := C.2.2.2.2.2.2.1
  have cb : CallB (fr_rm y) s args y.1.cls idx z.1 z.2.1 z.2.2.1 z.2.2.2.1 (fr_ws z) (fr_rm z) 0 0 n := callB_of n hT (fr_good hz) rfl rfl rfl (hT _ hz.2.1) (hT _ hw) hz.2.2 hR
  have hrun := va_runS (l := l) (e := e) (below := below) (meth := meth) (H := H) (locs := locs) (cells := 0) (slots := 0) (As := As.map (cv L)) (rest := rest.map (cv L)) (g := F0 m pc ls ((As.reverse ++ rest).map (cv L))) ⟨C.1, C.2.1, C.2.2.2.1, C.2.2.2.2.1, hT⟩ (hC L cA D) ⟨cb, hT _ hv⟩
    ⟨fr_blind, fr_pre (av := As.map (cv L)) hP hD hS C.2.2.2.2.2.2.2.2 C.2.2.2.2.2.2.2.1⟩ rfl (by rw [List.length_map]; exact hn) hl.1 (by simp [List.map_reverse]) (lv_room (by rw [cv_sum]; exact hsum)) d ⟨Nat.le_refl _, Nat.le_refl _⟩
  exact J_back (z := z) (v := v) (u := u) hrun C hD hS hl k
end FRH
