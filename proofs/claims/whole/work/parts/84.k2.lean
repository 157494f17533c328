def upM (M : Nat → Nat → Bool) (k j : Nat) : Nat → Nat → Bool := fun a => if a = k then (fun b => if b = j then true else M k b) else M a
theorem upM_ne {M : Nat → Nat → Bool} {k j a : Nat} (h : a ≠ k) : upM M k j a = M a := by unfold upM; rw [if_neg h]
theorem upM_self {M : Nat → Nat → Bool} {k j : Nat} : upM M k j k j = true := by unfold upM; rw [if_pos rfl, if_pos rfl]
theorem upM_oth {M : Nat → Nat → Bool} {k j b : Nat} (h : b ≠ j) : upM M k j k b = M k b := by unfold upM; rw [if_pos rfl, if_neg h]
theorem upM_mono {M : Nat → Nat → Bool} {k j a b : Nat} (h : M a b = true) : upM M k j a b = true := by
  by_cases e : a = k
  · subst e
    by_cases f : b = j
    · subst f; exact upM_self
    · rw [upM_oth f]; exact h
  · rw [upM_ne e]; exact h
theorem fslK_get {L : Nat → Nat} {b : Nat → Bool} {k ci j : Nat} {f : Nat → Int32} (h : j < nfd ci) : (fslK L b k ci f)[j]? = some (fvK L (b j) k ci j (f j)) := by
  simp [fslK, h]
theorem fslK_len {L : Nat → Nat} {b : Nat → Bool} {k ci : Nat} {f : Nat → Int32} : (fslK L b k ci f).length = nfd ci := by simp [fslK]
theorem fslK_set {L : Nat → Nat} {b b' : Nat → Bool} {k ci j : Nat} {f f' : Nat → Int32} {x : Value} (h : j < nfd ci) (hx : x = fvK L (b' j) k ci j (f' j)) (hb : ∀ i, i ≠ j → b' i = b i) (hf : ∀ i, i ≠ j → f' i = f i) : (fslK L b k ci f).set j x = fslK L b' k ci f' := by
  apply List.ext_getElem?
  intro i
  by_cases hi : j = i
  · subst hi
    rw [List.getElem?_set_self (by rw [fslK_len]; exact h), fslK_get h, hx]
  · rw [List.getElem?_set_ne hi]
    by_cases hl : i < nfd ci
    · rw [fslK_get hl, fslK_get hl, hb i (fun e => hi e.symm), hf i (fun e => hi e.symm)]
    · rw [List.getElem?_eq_none (by rw [fslK_len]; omega), List.getElem?_eq_none (by rw [fslK_len]; omega)]
theorem entK_o {L : Nat → Nat} {cA : Nat → ClassId} {b : Nat → Bool} {k ci : Nat} {f : Nat → Int32} {g : Nat → Int64} (h : (sh k).1 = ci) (hc : ci < 20) : entK L cA b k f g = .inr (ci, fslK L b k ci f) := by
  subst h; unfold entK; rw [if_pos hc]
theorem entK_i {L : Nat → Nat} {cA : Nat → ClassId} {b : Nat → Bool} {k n : Nat} {f : Nat → Int32} {g : Nat → Int64} (h : sh k = (20, n)) : entK L cA b k f g = .inl (cA 0, n, .inl f) := by
  unfold entK; rw [if_neg (by rw [h]; simp), if_neg (by rw [h]; simp), ent_i h]
theorem entK_z {L : Nat → Nat} {cA : Nat → ClassId} {b : Nat → Bool} {k n : Nat} {f : Nat → Int32} {g : Nat → Int64} (h : sh k = (21, n)) : entK L cA b k f g = .inl (cA 1, n, .inl f) := by
  unfold entK; rw [if_neg (by rw [h]; simp), if_neg (by rw [h]; simp), ent_z h]
theorem entK_l {L : Nat → Nat} {cA : Nat → ClassId} {b : Nat → Bool} {k n : Nat} {f : Nat → Int32} {g : Nat → Int64} (h : sh k = (22, n)) : entK L cA b k f g = .inl (cA 2, n, .inr (.inl g)) := by
  unfold entK; rw [if_neg (by rw [h]; simp), if_neg (by rw [h]; simp), ent_l h]
theorem entK_L {L : Nat → Nat} {cA : Nat → ClassId} {b : Nat → Bool} {k n : Nat} {f : Nat → Int32} {g : Nat → Int64} (h : sh k = (23, n)) : entK L cA b k f g = .inl (cA 3, n, .inr (.inr (.inr (.inr (fun i => if b i = true then some (L (shb k + i)) else none))))) := by
  unfold entK; rw [if_neg (by rw [h]; simp), if_pos (by rw [h]), h]
theorem entK_R {L : Nat → Nat} {cA : Nat → ClassId} {b : Nat → Bool} {k n : Nat} {f : Nat → Int32} {g : Nat → Int64} (h : sh k = (24, n)) : entK L cA b k f g = .inl (cA 4, n, .inr (.inr (.inr (.inr (fun i => rq L (f i)))))) := by
  unfold entK; rw [if_neg (by rw [h]; simp), if_neg (by rw [h]; simp)]
  simp [ent, h]
theorem entK_T {L : Nat → Nat} {cA : Nat → ClassId} {b : Nat → Bool} {k n : Nat} {f : Nat → Int32} {g : Nat → Int64} (h : sh k = (25, n)) : entK L cA b k f g = .inl (cA 5, n, .inr (.inr (.inr (.inr (fun i => some (L (shb k + i))))))) := by
  unfold entK; rw [if_neg (by rw [h]; simp), if_neg (by rw [h]; simp)]
  simp [ent, h]
def okty (ci j : Nat) : Bool := if fk ci j = 0 then (fr_ty ci j == .int || fr_ty ci j == .boolean) else (match fr_ty ci j with | .object _ => true | .array _ => true | _ => false)
theorem okty_all : (List.range 12).all (fun ci => ci == 9 || (List.range (nfd ci)).all (fun j => okty ci j)) = true := by decide +kernel
theorem okty_at {ci j : Nat} (hc : ci < 12) (h9 : ¬ ci = 9) (hj : j < nfd ci) : okty ci j = true := by
  have h := List.all_eq_true.mp okty_all ci (List.mem_range.mpr hc)
  rcases (Bool.or_eq_true _ _).mp h with h | h
  · exact absurd (eq_of_beq h) h9
  · exact List.all_eq_true.mp h j (List.mem_range.mpr hj)
theorem dv_ok {ci j : Nat} (hc : ci < 12) (h9 : ¬ ci = 9) (hj : j < nfd ci) : defaultValue (fr_ty ci j) = if fk ci j = 0 then .int 0 else .null := by
  have h := okty_at hc h9 hj
  unfold okty at h
  by_cases e : fk ci j = 0
  · rw [if_pos e] at h ⊢
    rcases Bool.or_eq_true _ _ ▸ h with h | h
    · rw [eq_of_beq h]; rfl
    · rw [eq_of_beq h]; rfl
  · rw [if_neg e] at h ⊢
    cases ht : fr_ty ci j <;> rw [ht] at h <;> first | rfl | cases h
theorem ite_le2 {c : Prop} [Decidable c] {a b : Nat} (ha : a ≤ 2) (hb : b ≤ 2) : (if c then a else b) ≤ 2 := by
  by_cases h : c
  · rw [if_pos h]; exact ha
  · rw [if_neg h]; exact hb
theorem fk_le (ci j : Nat) : fk ci j ≤ 2 := by
  unfold fk
  repeat' (first | exact ite_le2 (by decide) (by decide) | refine ite_le2 ?_ ?_)
  all_goals decide
theorem fk_three {ci j : Nat} (h0 : ¬ fk ci j = 0) (h1 : ¬ fk ci j = 1) : fk ci j = 2 := by
  have h := fk_le ci j
  omega
section KFH
variable {l : Launch} {R : Room} {y : fr_M} {L : Nat → Nat} {cA : Nat → ClassId} {D : va_G} {A0 : Nat → Prop} {p : Program} {e : Env} {s : State} {m : MethodId} {args : Array Value} {below : List Frame} {meth : Method} {c : Code} {Z : State → Prop} {ce sl : Nat} {T I : List Nat} {M : Nat → Nat → Bool} {v : fr_V} {u : fr_U} {pc : Nat} {lv : List (Nat × Value)} {st : List Value}
theorem K_getf (C : KC L cA D A0 y p s m args meth c) {idx ci j k : Nat} {x : Value} (d : decode y.2.1 pc = .ok (.getfield idx, 3)) (hf : FL y.1.cls idx ci j) (hk : k ∈ I) (hs : (sh k).1 = ci) (hx : fvK L (M k j) k ci j (v k j) = cv L x) (kk : KJ l R y L cA D A0 p e s m args below meth c Z ce sl T I M v u (pc + 3) lv (x :: st)) : KJ l R y L cA D A0 p e s m args below meth c Z ce sl T I M v u pc lv (.ref k :: st) := by
  intro H locs ls hP hD hS hT hl
  obtain ⟨q, hc, hj, hw⟩ := hf
  have hci : ci < 12 := (List.getElem?_eq_some_iff.mp hc).1
  have hn : nfd ci = q.2.2 := by unfold nfd; rw [hc]
  obtain ⟨q0, -, hq0⟩ := mwK_get (L := L) (cA := cA) (M := M) (v := v) (u := u) hk
  rw [entK_o hs (by omega)] at hq0
  exact va_get (C := q.1) (T := q.2.1) (N := q.2.2) C.1 C.2.1 C.2.2.2.2.2.2.1 (fr_in hc) C.2.2.2.2.1 C.2.2.2.2.2.2.2.2.1 hP q0 hq0 hc j hj (C.2.2.2.2.2.2.1 _ hw) (fun _ h9 => h9) (by rw [fslK_get (by rw [hn]; exact hj), hx]) d (kk H locs ls hP hD hS hT hl)
theorem K_geti (C : KC L cA D A0 y p s m args meth c) {idx ci j k : Nat} {x : Int32} (d : decode y.2.1 pc = .ok (.getfield idx, 3)) (hf : FL y.1.cls idx ci j) (hk : k ∈ I) (hs : (sh k).1 = ci) (h0 : fk ci j = 0) (hx : v k j = x) (kk : KJ l R y L cA D A0 p e s m args below meth c Z ce sl T I M v u (pc + 3) lv (.int x :: st)) : KJ l R y L cA D A0 p e s m args below meth c Z ce sl T I M v u pc lv (.ref k :: st) :=
  K_getf C (x := .int x) d hf hk hs (by subst hx; simp [fvK, fv, h0, cv]) kk
theorem K_getr (C : KC L cA D A0 y p s m args meth c) {idx ci j k t : Nat} (d : decode y.2.1 pc = .ok (.getfield idx, 3)) (hf : FL y.1.cls idx ci j) (hk : k ∈ I) (hs : (sh k).1 = ci) (h0 : fk ci j = 1) (hm : M k j = true) (ht : sref k j = t) (kk : KJ l R y L cA D A0 p e s m args below meth c Z ce sl T I M v u (pc + 3) lv (.ref t :: st)) : KJ l R y L cA D A0 p e s m args below meth c Z ce sl T I M v u pc lv (.ref k :: st) :=
  K_getf C (x := .ref t) d hf hk hs (by simp [fvK, h0, cv, ht, hm]) kk
theorem K_putg (C : KC L cA D A0 y p s m args meth c) {idx ci j k : Nat} {x : Value} {M' : Nat → Nat → Bool} {v' : fr_V} (d : decode y.2.1 pc = .ok (.putfield idx, 3)) (hf : FL y.1.cls idx ci j) (hk : k ∈ I) (hs : (sh k).1 = ci) (hx : cv L x = fvK L (M' k j) k ci j (v' k j)) (hb : ∀ i, i ≠ j → M' k i = M k i) (hg : ∀ i, i ≠ j → v' k i = v k i) (hM : ∀ a, a ≠ k → M' a = M a) (hv : ∀ a, a ≠ k → v' a = v a) (hfin : (∀ q : vw_C, fr_cls[ci]? = some q → (q.2.1 j).2.2.2 = false) ∨ (y.1.name = "<init>" ∧ ∀ q : vw_C, fr_cls[ci]? = some q → (q.2.1 j).2.2.2 = true ∧ (q.2.1 j).1 = y.1.cls)) (hn : narrow (fr_ty ci j) (cv L x) = cv L x) (hfit : fits (fr_ty ci j) (cv L x) = true) (kk : KJ l R y L cA D A0 p e s m args below meth c Z ce sl T I M' v' u (pc + 3) lv st) : KJ l R y L cA D A0 p e s m args below meth c Z ce sl T I M v u pc lv (x :: .ref k :: st) := by
  intro H locs ls hP hD hS hT hl
  obtain ⟨q, hc, hj, hw⟩ := hf
  have hci : ci < 12 := (List.getElem?_eq_some_iff.mp hc).1
  have hnf : nfd ci = q.2.2 := by unfold nfd; rw [hc]
  obtain ⟨q0, hi0, hq0⟩ := mwK_get (L := L) (cA := cA) (M := M) (v := v) (u := u) hk
  rw [entK_o hs (by omega)] at hq0
  have hset : (mwK L cA I M v u).set q0 (L k, .inr (ci, (fslK L (M k) k ci (v k)).set j (cv L x))) = mwK L cA I M' v' u :=
    mwK_set hD hi0 (by rw [entK_o hs (by omega), fslK_set (by rw [hnf]; exact hj) hx hb hg]) hM hv (fun a ha => rfl)
  have fin : ∀ (H1 : Heap) (locs1 : List Loc), va_P D fr_cls ((mwK L cA I M v u).set q0 (L k, .inr (ci, (fslK L (M k) k ci (v k)).set j (cv L x)))) H1 → va_D A0 ((mwK L cA I M v u).set q0 (L k, .inr (ci, (fslK L (M k) k ci (v k)).set j (cv L x)))) → va_S A0 s.heap H1 locs1 → W p l e R s m args below meth c H1 locs1 ce sl Z (F0 m (pc + 3) ls (st.map (cv L))) := by
    intro H1 locs1 hP1 hD1 hS1
    rw [hset] at hP1 hD1
    exact kk H1 locs1 ls hP1 hD1 hS1 hT hl
  rcases hfin with hfin | ⟨hnm, hfin⟩
  · exact va_put (C := q.1) (T := q.2.1) (N := q.2.2) (ty := fr_ty ci j) C.1 C.2.1 C.2.2.2.2.2.2.1 (fr_in hc) (fr_ty ci) (fr_tn hc).1 (fr_tn hc).2 C.2.2.2.2.1 C.2.2.2.2.2.2.2.2.1 hP hD hS q0 hq0 hc j hj (C.2.2.2.2.2.2.1 _ hw) (fun _ h9 => h9) (hfin q hc) ((fr_tn hc).1 j hj) hn hfit (by rw [fslK_len, hnf]; exact hj) d fin
  · exact va_putF (C := q.1) (T := q.2.1) (N := q.2.2) (ty := fr_ty ci j) C.1 C.2.1 C.2.2.2.2.2.2.1 (fr_in hc) (fr_ty ci) (fr_tn hc).1 (fr_tn hc).2 C.2.2.2.2.1 C.2.2.2.2.2.2.2.2.1 hP hD hS q0 hq0 hc j hj (C.2.2.2.2.2.2.1 _ hw) (fun _ h9 => h9) (hfin q hc).1 (C.2.2.2.2.2.2.2.2.2.1.trans hnm) (hfin q hc).2 ((fr_tn hc).1 j hj) hn hfit (by rw [fslK_len, hnf]; exact hj) d fin
/-- a number, in a field that isn't final -/
theorem K_puti (C : KC L cA D A0 y p s m args meth c) {idx ci j k : Nat} {x : Int32} (d : decode y.2.1 pc = .ok (.putfield idx, 3)) (hf : FL y.1.cls idx ci j) (hk : k ∈ I) (hs : (sh k).1 = ci) (h0 : fk ci j = 0) (hfin : (∀ q : vw_C, fr_cls[ci]? = some q → (q.2.1 j).2.2.2 = false) ∨ (y.1.name = "<init>" ∧ ∀ q : vw_C, fr_cls[ci]? = some q → (q.2.1 j).2.2.2 = true ∧ (q.2.1 j).1 = y.1.cls)) (hty : fr_ty ci j = .int) (kk : KJ l R y L cA D A0 p e s m args below meth c Z ce sl T I M (up2 v k j x) u (pc + 3) lv st) : KJ l R y L cA D A0 p e s m args below meth c Z ce sl T I M v u pc lv (.int x :: .ref k :: st) :=
  K_putg C (x := .int x) (M' := M) (v' := up2 v k j x) d hf hk hs (by rw [up2_self]; simp [fvK, fv, h0, cv, upd]) (fun _ _ => rfl) (fun i hi => by rw [up2_self]; unfold upd; rw [if_neg hi]) (fun _ _ => rfl) (fun a ha => up2_ne ha) hfin (by rw [hty]; rfl) (by rw [hty]; rfl) kk
/-- a fixed cell, in a final field -/
theorem K_putr (C : KC L cA D A0 y p s m args meth c) {idx ci j k t : Nat} (d : decode y.2.1 pc = .ok (.putfield idx, 3)) (hf : FL y.1.cls idx ci j) (hk : k ∈ I) (hs : (sh k).1 = ci) (h0 : fk ci j = 1) (ht : sref k j = t) (hfin : y.1.name = "<init>" ∧ ∀ q : vw_C, fr_cls[ci]? = some q → (q.2.1 j).2.2.2 = true ∧ (q.2.1 j).1 = y.1.cls) (hn : narrow (fr_ty ci j) (.ref (L t)) = .ref (L t)) (hfit : fits (fr_ty ci j) (.ref (L t)) = true) (kk : KJ l R y L cA D A0 p e s m args below meth c Z ce sl T I (upM M k j) v u (pc + 3) lv st) : KJ l R y L cA D A0 p e s m args below meth c Z ce sl T I M v u pc lv (.ref t :: .ref k :: st) :=
  K_putg C (x := .ref t) (M' := upM M k j) (v' := v) d hf hk hs (by rw [upM_self]; simp [fvK, h0, cv, ht]) (fun i hi => upM_oth hi) (fun _ _ => rfl) (fun a ha => upM_ne ha) (fun _ _ => rfl) (Or.inr hfin) hn hfit kk
/-- a cell that may change -/
theorem K_putd (C : KC L cA D A0 y p s m args meth c) {idx ci j k t : Nat} {x : Int32} (d : decode y.2.1 pc = .ok (.putfield idx, 3)) (hf : FL y.1.cls idx ci j) (hk : k ∈ I) (hs : (sh k).1 = ci) (h0 : fk ci j = 2) (ht : ¬ x < 0) (ht2 : x.toNatClampNeg = t) (hfin : ∀ q : vw_C, fr_cls[ci]? = some q → (q.2.1 j).2.2.2 = false) (hn : narrow (fr_ty ci j) (.ref (L t)) = .ref (L t)) (hfit : fits (fr_ty ci j) (.ref (L t)) = true) (kk : KJ l R y L cA D A0 p e s m args below meth c Z ce sl T I M (up2 v k j x) u (pc + 3) lv st) : KJ l R y L cA D A0 p e s m args below meth c Z ce sl T I M v u pc lv (.ref t :: .ref k :: st) :=
  K_putg C (x := .ref t) (M' := M) (v' := up2 v k j x) d hf hk hs (by rw [up2_self]; simp [fvK, fv, h0, cv, upd, rq, ht, ht2, va_rf]) (fun _ _ => rfl) (fun i hi => by rw [up2_self]; unfold upd; rw [if_neg hi]) (fun _ _ => rfl) (fun a ha => up2_ne ha) (Or.inl hfin) hn hfit kk
theorem K_iast (C : KC L cA D A0 y p s m args meth c) {k n : Nat} {i x : Int32} (d : decode y.2.1 pc = .ok (.iastore, 1)) (hk : k ∈ I) (hs : sh k = (20, n)) (hin : vp_in i n) (kk : KJ l R y L cA D A0 p e s m args below meth c Z ce sl T I M (up2 v k i.toNatClampNeg x) u (pc + 1) lv st) : KJ l R y L cA D A0 p e s m args below meth c Z ce sl T I M v u pc lv (.int x :: .int i :: .ref k :: st) := by
  intro H locs ls hP hD hS hT hl
  obtain ⟨q0, hi0, hq0⟩ := mwK_get (L := L) (cA := cA) (M := M) (v := v) (u := u) hk
  rw [entK_i hs] at hq0
  refine va_iast C.1 C.2.1 C.2.2.2.2.2.2.2.2.1 hP hD hS q0 0 hq0 rfl hin d (fun H1 locs1 hP1 hD1 hS1 => ?_)
  have hset : (mwK L cA I M v u).set q0 (L k, .inl (cA 0, n, .inl (upd (v k) i.toNatClampNeg x))) = mwK L cA I M (up2 v k i.toNatClampNeg x) u :=
    mwK_set hD hi0 (by rw [entK_i hs, up2_self]) (fun _ _ => rfl) (fun a ha => up2_ne ha) (fun a ha => rfl)
  rw [hset] at hP1 hD1
  exact kk H1 locs1 ls hP1 hD1 hS1 hT hl
/-- the Line of the place i, laid there -/
theorem K_astL (C : KC L cA D A0 y p s m args meth c) {k n : Nat} {i : Int32} (d : decode y.2.1 pc = .ok (.aastore, 1)) (hk : k ∈ I) (hs : sh k = (23, n)) (hin : vp_in i n) (ht : shb k + i.toNatClampNeg ∈ I) (hs2 : (sh (shb k + i.toNatClampNeg)).1 = 4) (kk : KJ l R y L cA D A0 p e s m args below meth c Z ce sl T I (upM M k i.toNatClampNeg) v u (pc + 1) lv st) : KJ l R y L cA D A0 p e s m args below meth c Z ce sl T I M v u pc lv (.ref (shb k + i.toNatClampNeg) :: .int i :: .ref k :: st) := by
  intro H locs ls hP hD hS hT hl
  obtain ⟨q0, hi0, hq0⟩ := mwK_get (L := L) (cA := cA) (M := M) (v := v) (u := u) hk
  rw [entK_L hs] at hq0
  obtain ⟨q1, -, hq1⟩ := mwK_get (L := L) (cA := cA) (M := M) (v := v) (u := u) ht
  rw [entK_o hs2 (by decide)] at hq1
  refine va_astq C.1 C.2.1 C.2.2.2.2.2.2.2.2.1 hP hD hS q0 3 q1 4 (r := (RX4, TX4, 8)) hq0 rfl hq1 rfl hin d (fun H1 locs1 hP1 hD1 hS1 => ?_)
  have hset : (mwK L cA I M v u).set q0 (L k, .inl (cA 3, n, .inr (.inr (.inr (.inr (va_up (fun i => if M k i = true then some (L (shb k + i)) else none) i.toNatClampNeg (some (L (shb k + i.toNatClampNeg))))))))) = mwK L cA I (upM M k i.toNatClampNeg) v u := by
    refine mwK_set hD hi0 ?_ (fun a ha => upM_ne ha) (fun a ha => rfl) (fun a ha => rfl)
    rw [entK_L hs]
    congr 7
    funext j
    by_cases hj : j = i.toNatClampNeg
    · subst hj; rw [va_up_self, upM_self, if_pos rfl]
    · rw [va_up_ne _ _ hj, upM_oth hj]
  rw [hset] at hP1 hD1
  exact kk H1 locs1 ls hP1 hD1 hS1 hT hl
/-- a Rent, laid into the ledger's row -/
theorem K_astR (C : KC L cA D A0 y p s m args meth c) {k n t : Nat} {i x : Int32} (d : decode y.2.1 pc = .ok (.aastore, 1)) (hk : k ∈ I) (hs : sh k = (24, n)) (hin : vp_in i n) (ht : t ∈ I) (hs2 : (sh t).1 = 7) (hx : ¬ x < 0) (hx2 : x.toNatClampNeg = t) (kk : KJ l R y L cA D A0 p e s m args below meth c Z ce sl T I M (up2 v k i.toNatClampNeg x) u (pc + 1) lv st) : KJ l R y L cA D A0 p e s m args below meth c Z ce sl T I M v u pc lv (.ref t :: .int i :: .ref k :: st) := by
  intro H locs ls hP hD hS hT hl
  obtain ⟨q0, hi0, hq0⟩ := mwK_get (L := L) (cA := cA) (M := M) (v := v) (u := u) hk
  rw [entK_R hs] at hq0
  obtain ⟨q1, -, hq1⟩ := mwK_get (L := L) (cA := cA) (M := M) (v := v) (u := u) ht
  rw [entK_o hs2 (by decide)] at hq1
  refine va_astq C.1 C.2.1 C.2.2.2.2.2.2.2.2.1 hP hD hS q0 4 q1 7 (r := (RX7, TX7, 7)) hq0 rfl hq1 rfl hin d (fun H1 locs1 hP1 hD1 hS1 => ?_)
  have hset : (mwK L cA I M v u).set q0 (L k, .inl (cA 4, n, .inr (.inr (.inr (.inr (va_up (fun i => rq L (v k i)) i.toNatClampNeg (some (L t)))))))) = mwK L cA I M (up2 v k i.toNatClampNeg x) u := by
    refine mwK_set hD hi0 ?_ (fun _ _ => rfl) (fun a ha => up2_ne ha) (fun a ha => rfl)
    rw [entK_R hs, up2_self]
    congr 7
    funext j
    by_cases hj : j = i.toNatClampNeg
    · subst hj; rw [va_up_self]; simp [upd, rq, hx, hx2]
    · rw [va_up_ne _ _ hj]; unfold upd; rw [if_neg hj]
  rw [hset] at hP1 hD1
  exact kk H1 locs1 ls hP1 hD1 hS1 hT hl
theorem K_size {k : Nat} {H : Heap} {locs : List Loc} (hP : va_P D fr_cls (mwK L cA I M v u) H) (hS : va_S A0 s.heap H locs) (hT : KT L I s ce (k :: T)) {X : State} (hX : X.heap = H) (st9 : Stand p l e R s m args below meth c X locs ce sl) : H.size = s.heap.size + ce ∧ L k = H.size := by
  have h0 := hT 0 k rfl
  have hu := st9.heapSize
  rw [hX] at hu
  have hlo : s.heap.size + ce ≤ H.size := by
    rcases h0.2 with h | ⟨k0, h1, h2⟩
    · rw [h]; exact hS.1
    · obtain ⟨q0, -, hq0⟩ := mwK_get (L := L) (cA := cA) (M := M) (v := v) (u := u) h1
      have := (hP q0 _ hq0).lt
      dsimp only at this
      omega
  exact ⟨by omega, by omega⟩
theorem K_push {k : Nat} {H H1 : Heap} {locs : List Loc} (hP : va_P D fr_cls (mwK L cA I M v u) H) (hD : va_D A0 (mwK L cA I M v u)) (hS : va_S A0 s.heap H locs) (hA : ∀ q, s.heap.size ≤ q → A0 q) (hL : L k = H.size) (z1 : H1.size = H.size + 1) (o1 : ∀ q, q < H.size → H1[q]? = H[q]?) (he : va_at D fr_cls (L k, entK L cA (M k) k (v k) (u k)) H1) : va_P D fr_cls (mwK L cA (I ++ [k]) M v u) H1 ∧ va_D A0 (mwK L cA (I ++ [k]) M v u) ∧ va_S A0 s.heap H1 locs := by
  have hw : mwK L cA (I ++ [k]) M v u = mwK L cA I M v u ++ [(L k, entK L cA (M k) k (v k) (u k))] := by unfold mwK; rw [List.map_append]; rfl
  have hk : ∀ (k9 : Nat) (x : Nat × va_E), (mwK L cA I M v u)[k9]? = some x → H1[x.1]? = H[x.1]? := fun k9 x hx => o1 x.1 ((hP k9 x hx).lt)
  rw [hw]
  refine ⟨(hP.kept hk).app (fun k9 x hx => ?_), hD.push hP hL (hA _ (by rw [hL]; exact hS.1)), ⟨Nat.le_trans hS.1 (by omega), fun x h1 h2 => (o1 x (Nat.lt_of_lt_of_le h1 hS.1)).trans (hS.2.1 x h1 h2), hS.2.2⟩⟩
  have hz : k9 < 1 := (List.getElem?_eq_some_iff.mp hx).1
  rw [show k9 = 0 by omega] at hx
  cases hx
  exact he
theorem KT_next {k : Nat} (hT : KT L I s ce (k :: T)) (ha : L k = s.heap.size + ce) : KT L (I ++ [k]) s (ce + 1) T := by
  intro i k9 h9
  have h := hT (i + 1) k9 (by rw [List.getElem?_cons_succ]; exact h9)
  exact ⟨by omega, Or.inr ⟨k, List.mem_append_right _ (List.mem_singleton.mpr rfl), by omega⟩⟩
theorem K_new (C : KC L cA D A0 y p s m args meth c) {idx k ci n ce' sl' : Nat} {q : vw_C} (d : decode y.2.1 pc = .ok (.new idx, 3)) (hq : fr_cls[ci]? = some q) (hw : Cond.classLink y.1.cls idx q.1 ∈ gt) (hi : Cond.instantiable q.1 q.2.2 ∈ gt) (hini : Cond.initialized q.1 ∈ gt) (h9 : ¬ ci = 9) (hs : (sh k).1 = ci) (hm : ∀ j, j < nfd ci → fk ci j = 1 → M k j = false) (hv : ∀ j, v k j = ini k j) (hn : q.2.2 = n) (hce : ce + 1 = ce') (hsl : sl + n = sl') (hR : ce' ≤ R.cells ∧ sl' ≤ R.slots) (kk : KJ l R y L cA D A0 p e s m args below meth c Z ce' sl' T (I ++ [k]) M v u (pc + 3) lv (.ref k :: st)) : KJ l R y L cA D A0 p e s m args below meth c Z ce sl (k :: T) I M v u pc lv st := by
  subst hce; subst hsl; subst hn
  intro H locs ls hP hD hS hT hl X hX st9
  obtain ⟨hz, hL⟩ := K_size hP hS hT hX st9
  have hci : ci < 12 := (List.getElem?_eq_some_iff.mp hq).1
  have hnf : nfd ci = q.2.2 := by unfold nfd; rw [hq]
  have hKn := C.2.2.2.2.2.2.2.2.1.1 ci _ hq
  refine W.newcK C.1 C.2.1 C.2.2.2.2.1 (C.2.2.2.2.2.2.1 _ hw) (C.2.2.2.2.2.2.1 _ hi) (C.2.2.2.2.2.2.1 _ hini) (g := F0 m pc ls (st.map (cv L))) rfl d hR.1 hR.2 hKn.2.1 hL.symm (fun H1 kC hkC e1 z1 o1 => ?_) X hX st9
  have hat : va_at D fr_cls (L k, entK L cA (M k) k (v k) (u k)) H1 := by
    rw [entK_o hs (by omega)]
    refine ⟨q, hq, (u_born (fr_ty ci) C.2.2.2.2.2.2.1 (fr_in hq) hKn hkC e1 (fr_tn hq).1).to (fun j hj => ?_)⟩
    have hj' : j < nfd ci := by rw [hnf]; exact hj
    show defaultValue (fr_ty ci j) = (fslK L (M k) k ci (v k)).getD j .null
    rw [List.getD_eq_getElem?_getD, fslK_get hj', Option.getD_some, dv_ok hci h9 hj', hv j]
    have hsm : (sh k).1 < 20 := by omega
    have hi9 : ini k j = if fk ci j = 2 then -1 else 0 := by unfold ini; rw [if_neg (show ¬ (sh k).1 = 24 by omega), if_pos hsm, hs]
    rw [hi9]
    unfold fvK fv
    by_cases h0 : fk ci j = 0
    · rw [if_pos h0, if_neg (show ¬ fk ci j = 1 by omega), if_pos h0, if_neg (show ¬ fk ci j = 2 by omega)]
    · rw [if_neg h0]
      by_cases h1 : fk ci j = 1
      · rw [if_pos h1, hm j hj' h1]; rfl
      · rw [if_neg h1, if_neg h0, if_neg h1, if_pos (fk_three h0 h1)]; rfl
  obtain ⟨g1, g2, g3⟩ := K_push (M := M) (v := v) (u := u) hP hD hS C.2.2.2.2.2.2.2.2.2.2.1 hL (by omega) (fun q9 h9 => o1 q9 (by omega)) hat
  exact kk H1 locs ls g1 g2 g3 (KT_next hT (by omega)) hl
theorem K_newa_int (C : KC L cA D A0 y p s m args meth c) {k n ce' sl' : Nat} {x : Int32} (d : decode y.2.1 pc = .ok (.newarray .int, 2)) (hw : Cond.arrayClass .int ∈ gt) (hs : sh k = (20, n)) (hv : ∀ j, v k j = 0) (hx : ¬ x < 0) (hx2 : x.toNatClampNeg = n) (hb : n * componentBytes .int ≤ 536870912) (hce : ce + 1 = ce') (hsl : sl + n = sl') (hR : ce' ≤ R.cells ∧ sl' ≤ R.slots) (kk : KJ l R y L cA D A0 p e s m args below meth c Z ce' sl' T (I ++ [k]) M v u (pc + 2) lv (.ref k :: st)) : KJ l R y L cA D A0 p e s m args below meth c Z ce sl (k :: T) I M v u pc lv (.int x :: st) := by
  subst hce; subst hsl
  intro H locs ls hP hD hS hT hl X hX st9
  obtain ⟨hz, hL⟩ := K_size hP hS hT hX st9
  refine va_newaK C.1 C.2.1 (atype := .int) (C.2.2.2.2.2.2.1 _ hw) (g := F0 m pc ls (.int x :: st.map (cv L))) rfl d rfl hx hx2 hb hR.1 hR.2 hL.symm (fun H1 cB e1 z1 o1 hAr hNm => ?_) X hX st9
  have hc : cB = cA 0 := Option.some.inj (hNm.symm.trans (C.2.2.2.2.2.2.2.2.1.2 0 _ rfl).2)
  subst hc
  have hat : va_at D fr_cls (L k, entK L cA (M k) k (v k) (u k)) H1 := by
    rw [entK_i hs]
    show H1[L k]? = some (vp_cell _ _)
    rw [e1]
    have hf : v k = fun _ => 0 := funext hv
    rw [hf]; rfl
  obtain ⟨g1, g2, g3⟩ := K_push (M := M) (v := v) (u := u) hP hD hS C.2.2.2.2.2.2.2.2.2.2.1 hL (by omega) (fun q9 h9 => o1 q9 (by omega)) hat
  exact kk H1 locs ls g1 g2 g3 (KT_next hT (by omega)) hl
theorem K_newa_boolean (C : KC L cA D A0 y p s m args meth c) {k n ce' sl' : Nat} {x : Int32} (d : decode y.2.1 pc = .ok (.newarray .boolean, 2)) (hw : Cond.arrayClass .boolean ∈ gt) (hs : sh k = (21, n)) (hv : ∀ j, v k j = 0) (hx : ¬ x < 0) (hx2 : x.toNatClampNeg = n) (hb : n * componentBytes .boolean ≤ 536870912) (hce : ce + 1 = ce') (hsl : sl + n = sl') (hR : ce' ≤ R.cells ∧ sl' ≤ R.slots) (kk : KJ l R y L cA D A0 p e s m args below meth c Z ce' sl' T (I ++ [k]) M v u (pc + 2) lv (.ref k :: st)) : KJ l R y L cA D A0 p e s m args below meth c Z ce sl (k :: T) I M v u pc lv (.int x :: st) := by
  subst hce; subst hsl
  intro H locs ls hP hD hS hT hl X hX st9
  obtain ⟨hz, hL⟩ := K_size hP hS hT hX st9
  refine va_newaK C.1 C.2.1 (atype := .boolean) (C.2.2.2.2.2.2.1 _ hw) (g := F0 m pc ls (.int x :: st.map (cv L))) rfl d rfl hx hx2 hb hR.1 hR.2 hL.symm (fun H1 cB e1 z1 o1 hAr hNm => ?_) X hX st9
  have hc : cB = cA 1 := Option.some.inj (hNm.symm.trans (C.2.2.2.2.2.2.2.2.1.2 1 _ rfl).2)
  subst hc
  have hat : va_at D fr_cls (L k, entK L cA (M k) k (v k) (u k)) H1 := by
    rw [entK_z hs]
    show H1[L k]? = some (vp_cell _ _)
    rw [e1]
    have hf : v k = fun _ => 0 := funext hv
    rw [hf]; rfl
  obtain ⟨g1, g2, g3⟩ := K_push (M := M) (v := v) (u := u) hP hD hS C.2.2.2.2.2.2.2.2.2.2.1 hL (by omega) (fun q9 h9 => o1 q9 (by omega)) hat
  exact kk H1 locs ls g1 g2 g3 (KT_next hT (by omega)) hl
theorem K_newa_long (C : KC L cA D A0 y p s m args meth c) {k n ce' sl' : Nat} {x : Int32} (d : decode y.2.1 pc = .ok (.newarray .long, 2)) (hw : Cond.arrayClass .long ∈ gt) (hs : sh k = (22, n)) (hv : ∀ j, u k j = 0) (hx : ¬ x < 0) (hx2 : x.toNatClampNeg = n) (hb : n * componentBytes .long ≤ 536870912) (hce : ce + 1 = ce') (hsl : sl + n = sl') (hR : ce' ≤ R.cells ∧ sl' ≤ R.slots) (kk : KJ l R y L cA D A0 p e s m args below meth c Z ce' sl' T (I ++ [k]) M v u (pc + 2) lv (.ref k :: st)) : KJ l R y L cA D A0 p e s m args below meth c Z ce sl (k :: T) I M v u pc lv (.int x :: st) := by
  subst hce; subst hsl
  intro H locs ls hP hD hS hT hl X hX st9
  obtain ⟨hz, hL⟩ := K_size hP hS hT hX st9
  refine va_newaK C.1 C.2.1 (atype := .long) (C.2.2.2.2.2.2.1 _ hw) (g := F0 m pc ls (.int x :: st.map (cv L))) rfl d rfl hx hx2 hb hR.1 hR.2 hL.symm (fun H1 cB e1 z1 o1 hAr hNm => ?_) X hX st9
  have hc : cB = cA 2 := Option.some.inj (hNm.symm.trans (C.2.2.2.2.2.2.2.2.1.2 2 _ rfl).2)
  subst hc
  have hat : va_at D fr_cls (L k, entK L cA (M k) k (v k) (u k)) H1 := by
    rw [entK_l hs]
    show H1[L k]? = some (vp_cell _ _)
    rw [e1]
    have hf : u k = fun _ => 0 := funext hv
    rw [hf]; rfl
  obtain ⟨g1, g2, g3⟩ := K_push (M := M) (v := v) (u := u) hP hD hS C.2.2.2.2.2.2.2.2.2.2.1 hL (by omega) (fun q9 h9 => o1 q9 (by omega)) hat
  exact kk H1 locs ls g1 g2 g3 (KT_next hT (by omega)) hl
theorem K_anew_L (C : KC L cA D A0 y p s m args meth c) {idx k n ce' sl' : Nat} {x : Int32} (d : decode y.2.1 pc = .ok (.anewarray idx, 3)) (hw : Cond.classLink y.1.cls idx RX4 ∈ gt) (hs : sh k = (23, n)) (hv : ∀ j, j < n → M k j = false) (hx : ¬ x < 0) (hx2 : x.toNatClampNeg = n) (hb : n * 4 ≤ 536870912) (hce : ce + 1 = ce') (hsl : sl + n = sl') (hR : ce' ≤ R.cells ∧ sl' ≤ R.slots) (kk : KJ l R y L cA D A0 p e s m args below meth c Z ce' sl' T (I ++ [k]) M v u (pc + 3) lv (.ref k :: st)) : KJ l R y L cA D A0 p e s m args below meth c Z ce sl (k :: T) I M v u pc lv (.int x :: st) := by
  subst hce; subst hsl; subst hx2
  intro H locs ls hP hD hS hT hl X hX st9
  obtain ⟨hz, hL⟩ := K_size hP hS hT hX st9
  refine W.anew C.1 C.2.1 C.2.2.2.2.1 (C.2.2.2.2.2.2.1 _ hw) (va_AO.use C.2.2.2.2.2.2.2.2.2.2.2.1) (g := F0 m pc ls (.int x :: st.map (cv L))) rfl d rfl hx hb hR.1 hR.2 (fun cB kB comp f1 f2 f3 f4 => ?_) X hX st9
  have hc : cB = cA 3 := by
    obtain ⟨_, _, _, _, _, h9⟩ := (C.2.2.2.2.2.2.2.2.1.2 3 _ rfl).2
    exact Option.some.inj (f1.symm.trans h9)
  subst hc
  generalize hH1 : H.push ({ cls := cA 3, slots := Array.replicate x.toNatClampNeg .null, vm := .none } : Cell) = H1
  have z1 : H1.size = H.size + 1 := by rw [← hH1, Array.size_push]
  have o1 : ∀ q : Nat, q < H.size → H1[q]? = H[q]? := fun q hq => by rw [← hH1, Array.getElem?_push, if_neg (Nat.ne_of_lt hq)]
  have hat : va_at D fr_cls (L k, entK L cA (M k) k (v k) (u k)) H1 := by
    rw [entK_L hs]
    show H1[L k]? = some (vp_cell _ _)
    rw [hL, ← hH1, Array.getElem?_push_size, arrV_new, vp_cell_q]
    refine congrArg some ?_
    unfold arrV
    congr 2
    funext j
    show Value.null = va_rf (if M k j.val = true then some (L (shb k + j.val)) else none)
    rw [hv j.val j.isLt]; rfl
  obtain ⟨g1, g2, g3⟩ := K_push (M := M) (v := v) (u := u) hP hD hS C.2.2.2.2.2.2.2.2.2.2.1 hL z1 o1 hat
  have g4 := kk H1 locs ls g1 g2 g3 (KT_next hT (by omega)) hl
  rw [← hL]
  exact g4
theorem K_anew_R (C : KC L cA D A0 y p s m args meth c) {idx k n ce' sl' : Nat} {x : Int32} (d : decode y.2.1 pc = .ok (.anewarray idx, 3)) (hw : Cond.classLink y.1.cls idx RX7 ∈ gt) (hs : sh k = (24, n)) (hv : ∀ j, v k j = -1) (hx : ¬ x < 0) (hx2 : x.toNatClampNeg = n) (hb : n * 4 ≤ 536870912) (hce : ce + 1 = ce') (hsl : sl + n = sl') (hR : ce' ≤ R.cells ∧ sl' ≤ R.slots) (kk : KJ l R y L cA D A0 p e s m args below meth c Z ce' sl' T (I ++ [k]) M v u (pc + 3) lv (.ref k :: st)) : KJ l R y L cA D A0 p e s m args below meth c Z ce sl (k :: T) I M v u pc lv (.int x :: st) := by
  subst hce; subst hsl; subst hx2
  intro H locs ls hP hD hS hT hl X hX st9
  obtain ⟨hz, hL⟩ := K_size hP hS hT hX st9
  refine W.anew C.1 C.2.1 C.2.2.2.2.1 (C.2.2.2.2.2.2.1 _ hw) (va_AO.use C.2.2.2.2.2.2.2.2.2.2.2.2.1) (g := F0 m pc ls (.int x :: st.map (cv L))) rfl d rfl hx hb hR.1 hR.2 (fun cB kB comp f1 f2 f3 f4 => ?_) X hX st9
  have hc : cB = cA 4 := by
    obtain ⟨_, _, _, _, _, h9⟩ := (C.2.2.2.2.2.2.2.2.1.2 4 _ rfl).2
    exact Option.some.inj (f1.symm.trans h9)
  subst hc
  generalize hH1 : H.push ({ cls := cA 4, slots := Array.replicate x.toNatClampNeg .null, vm := .none } : Cell) = H1
  have z1 : H1.size = H.size + 1 := by rw [← hH1, Array.size_push]
  have o1 : ∀ q : Nat, q < H.size → H1[q]? = H[q]? := fun q hq => by rw [← hH1, Array.getElem?_push, if_neg (Nat.ne_of_lt hq)]
  have hat : va_at D fr_cls (L k, entK L cA (M k) k (v k) (u k)) H1 := by
    rw [entK_R hs]
    show H1[L k]? = some (vp_cell _ _)
    rw [hL, ← hH1, Array.getElem?_push_size, arrV_new]
    have hf : (fun i => rq L (v k i)) = fun _ => none := by funext i; rw [hv i]; rfl
    rw [hf, vp_cell_q]
    rfl
  obtain ⟨g1, g2, g3⟩ := K_push (M := M) (v := v) (u := u) hP hD hS C.2.2.2.2.2.2.2.2.2.2.1 hL z1 o1 hat
  have g4 := kk H1 locs ls g1 g2 g3 (KT_next hT (by omega)) hl
  rw [← hL]
  exact g4
end KFH
