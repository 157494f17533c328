/-- what a new cell holds -/
def ini (k j : Nat) : Int32 := if (sh k).1 = 24 then -1 else if (sh k).1 < 20 then (if fk (sh k).1 j = 2 then -1 else 0) else 0
def fvK (L : Nat → Nat) (b : Bool) (k ci j : Nat) (x : Int32) : Value := if fk ci j = 1 then (if b = true then .ref (L (sref k j)) else .null) else fv L k ci j x
def fslK (L : Nat → Nat) (b : Nat → Bool) (k ci : Nat) (f : Nat → Int32) : List Value := (List.range (nfd ci)).map (fun j => fvK L (b j) k ci j (f j))
def entK (L : Nat → Nat) (cA : Nat → ClassId) (b : Nat → Bool) (k : Nat) (f : Nat → Int32) (g : Nat → Int64) : va_E :=
  if (sh k).1 < 20 then .inr ((sh k).1, fslK L b k (sh k).1 f)
  else if (sh k).1 = 23 then .inl (cA 3, (sh k).2, .inr (.inr (.inr (.inr (fun i => if b i = true then some (L (shb k + i)) else none)))))
  else ent L cA k f g
def mwK (L : Nat → Nat) (cA : Nat → ClassId) (I : List Nat) (M : Nat → Nat → Bool) (v : fr_V) (u : fr_U) : va_W := I.map (fun k => (L k, entK L cA (M k) k (v k) (u k)))
theorem fslK_full {L : Nat → Nat} {b : Nat → Bool} {k ci : Nat} {f : Nat → Int32} (h : ∀ j, b j = true) : fslK L b k ci f = fsl L k ci f := by
  unfold fslK fsl
  congr 1
  funext j
  unfold fvK
  rw [h j, if_pos rfl]
  by_cases e : fk ci j = 1
  · rw [if_pos e]; unfold fv; rw [if_neg (by omega), if_pos e]
  · rw [if_neg e]
theorem entK_full {L : Nat → Nat} {cA : Nat → ClassId} {b : Nat → Bool} {k : Nat} {f : Nat → Int32} {g : Nat → Int64} (h : ∀ j, b j = true) : entK L cA b k f g = ent L cA k f g := by
  unfold entK
  by_cases h1 : (sh k).1 < 20
  · rw [if_pos h1, fslK_full h, ent_o rfl h1]
  · rw [if_neg h1]
    by_cases h2 : (sh k).1 = 23
    · rw [if_pos h2]
      unfold ent
      rw [if_neg (by omega), if_neg (by omega), if_neg (by omega), if_pos h2]
      simp only [h, if_true]
    · rw [if_neg h2]
theorem mwK_full {L : Nat → Nat} {cA : Nat → ClassId} {I : List Nat} {M : Nat → Nat → Bool} {v : fr_V} {u : fr_U} (h : ∀ k ∈ I, ∀ j, M k j = true) : mwK L cA I M v u = mw L cA I v u :=
  List.map_congr_left (fun k hk => by rw [entK_full (h k hk)])
theorem mwK_get {L : Nat → Nat} {cA : Nat → ClassId} {I : List Nat} {M : Nat → Nat → Bool} {v : fr_V} {u : fr_U} {k : Nat} (h : k ∈ I) : ∃ q : Nat, I[q]? = some k ∧ (mwK L cA I M v u)[q]? = some (L k, entK L cA (M k) k (v k) (u k)) := by
  obtain ⟨q, hq⟩ := List.getElem?_of_mem h
  exact ⟨q, hq, by simp [mwK, hq]⟩
theorem mwK_nd {L : Nat → Nat} {cA : Nat → ClassId} {I : List Nat} {M : Nat → Nat → Bool} {v : fr_V} {u : fr_U} {A : Nat → Prop} (hD : va_D A (mwK L cA I M v u)) {i j k : Nat} (hi : I[i]? = some k) (hj : I[j]? = some k) : i = j :=
  hD.1 i j (L k, entK L cA (M k) k (v k) (u k)) (L k, entK L cA (M k) k (v k) (u k)) (by simp [mwK, hi]) (by simp [mwK, hj]) rfl
theorem mwK_inj {L : Nat → Nat} {cA : Nat → ClassId} {I : List Nat} {M : Nat → Nat → Bool} {v : fr_V} {u : fr_U} {A : Nat → Prop} (hD : va_D A (mwK L cA I M v u)) {a b : Nat} (ha : a ∈ I) (hb : b ∈ I) (h : L a = L b) : a = b := by
  obtain ⟨i, hi, hi2⟩ := mwK_get (L := L) (cA := cA) (M := M) (v := v) (u := u) ha
  obtain ⟨j, hj, hj2⟩ := mwK_get (L := L) (cA := cA) (M := M) (v := v) (u := u) hb
  have e := hD.1 i j _ _ hi2 hj2 h
  subst e
  exact Option.some.inj (hi.symm.trans hj)
theorem mwK_set {L : Nat → Nat} {cA : Nat → ClassId} {I : List Nat} {M M' : Nat → Nat → Bool} {v v' : fr_V} {u u' : fr_U} {A : Nat → Prop} (hD : va_D A (mwK L cA I M v u)) {q k : Nat} {e : va_E} (hq : I[q]? = some k) (hk : entK L cA (M' k) k (v' k) (u' k) = e) (hM : ∀ a, a ≠ k → M' a = M a) (hv : ∀ a, a ≠ k → v' a = v a) (hu : ∀ a, a ≠ k → u' a = u a) : (mwK L cA I M v u).set q (L k, e) = mwK L cA I M' v' u' :=
  ml_set hq (fun i hi => mwK_nd hD hq hi) (by rw [hk]) (fun a ha => by rw [hM a ha, hv a ha, hu a ha])
theorem mwK_D {L : Nat → Nat} {cA : Nat → ClassId} {I : List Nat} {M M' : Nat → Nat → Bool} {v v' : fr_V} {u u' : fr_U} {A : Nat → Prop} (hD : va_D A (mwK L cA I M v u)) : va_D A (mwK L cA I M' v' u') := by
  have h : ∀ (i : Nat) (p : Nat × va_E), (mwK L cA I M' v' u')[i]? = some p → ∃ e, (mwK L cA I M v u)[i]? = some (p.1, e) := by
    intro i p hp
    simp only [mwK, List.getElem?_map] at hp ⊢
    cases ha : I[i]? with
    | none => rw [ha] at hp; cases hp
    | some a =>
      rw [ha] at hp
      cases hp
      exact ⟨_, rfl⟩
  refine ⟨fun i j p q hp hq hpq => ?_, fun k q hq => ?_⟩
  · obtain ⟨e1, h1⟩ := h i p hp
    obtain ⟨e2, h2⟩ := h j q hq
    exact hD.1 i j _ _ h1 h2 hpq
  · obtain ⟨e1, h1⟩ := h k q hq
    exact hD.2 k (q.1, e1) h1
def va_AOA (U : State) : Prop := (Cond.arrayOver (.array .int)).before #[] U = true
theorem va_AOA.moved {u U : State} (hvm : u.vm.Alike U.vm) (h : va_AOA u) : va_AOA U := by
  obtain ⟨comp, c, k, h1, h2, h3, h4, h5⟩ := arrayOverA_spec (t := .int) h
  obtain ⟨k', hk', he⟩ := hvm.2.2 _ _ h3
  have hi : (U.vm.classes.findIdx? fun (x : Class) => match x.kind with | .array component _ => component == comp | _ => false) = some c := by
    rw [hvm.findIdx?_eq _ (fun _ => rfl)]; exact h2
  have hkind : k'.kind = .array comp (.array .int) := by rw [he]; exact h4
  have f1 : U.vm.findClass (FieldType.array .int).toString = some comp := by rw [hvm.findClass]; exact h1
  have f2 : U.vm.findClass ("[" ++ (FieldType.array .int).toString) = some c := by rw [hvm.findClass]; exact h5
  unfold va_AOA Cond.before Cond.holds
  simp only [Cond.value]
  rw [f1, Option.bind_some]
  refine (congrArg (fun o : Option Nat => (o.bind (fun c => (U.vm.classes[c]?).map fun (k : Class) => match k.kind with | .array _ ty => decide (ty = FieldType.array .int) && decide (U.vm.findClass ("[" ++ (FieldType.array .int).toString) = some c) | _ => false) == some true)) hi).trans ?_
  simp [hk', hkind, f2]
/-- the words on arrays of references -/
def kw (U : State) : Prop := va_AO RX4 U ∧ va_AO RX7 U ∧ va_AOA U
theorem kw.moved {u U : State} (hvm : u.vm.Alike U.vm) (h : kw u) : kw U := ⟨h.1.moved hvm, h.2.1.moved hvm, h.2.2.moved hvm⟩
def KC (L : Nat → Nat) (cA : Nat → ClassId) (D : va_G) (A0 : Nat → Prop) (y : fr_M) (p : Program) (s : State) (m : MethodId) (args : Array Value) (meth : Method) (c : Code) : Prop :=
  p.tables.exec = Jvm.exec ∧ c.code = y.2.1 ∧ meth.sig.returnType = y.2.2.2.1 ∧ c.maxLocals = y.2.2.1 ∧ s.vm.findClass y.1.cls = some m.cls ∧ meth.locks = false ∧ (∀ w ∈ gt, w.before args s = true) ∧ fr_X L A0 s s.heap ∧ va_K D fr_cls (fr_tys cA) s ∧ meth.name = y.1.name ∧ (∀ q, s.heap.size ≤ q → A0 q) ∧ kw s
/-- the cells still to be made, in their order: their addresses are known ahead -/
def KT (L : Nat → Nat) (I : List Nat) (s : State) (ce : Nat) (T : List Nat) : Prop := ∀ (i k : Nat), T[i]? = some k → L k = s.heap.size + ce + i ∧ (ce = 0 ∨ ∃ k0, k0 ∈ I ∧ L k0 + 1 = s.heap.size + ce)
def KJ (l : Launch) (R : Room) (y : fr_M) (L : Nat → Nat) (cA : Nat → ClassId) (D : va_G) (A0 : Nat → Prop) (p : Program) (e : Env) (s : State) (m : MethodId) (args : Array Value) (below : List Frame) (meth : Method) (c : Code) (Z : State → Prop) (ce sl : Nat) (T I : List Nat) (M : Nat → Nat → Bool) (v : fr_V) (u : fr_U) (pc : Nat) (lv : List (Nat × Value)) (st : List Value) : Prop :=
  ∀ (H : Heap) (locs : List Loc) (ls : Array Slot), va_P D fr_cls (mwK L cA I M v u) H → va_D A0 (mwK L cA I M v u) → va_S A0 s.heap H locs → KT L I s ce T → lv_has ls y.2.2.1 (lv.map (cvp L)) →
    W p l e R s m args below meth c H locs ce sl Z (F0 m pc ls (st.map (cv L)))
section KFR
variable {l : Launch} {R : Room} {y : fr_M} {L : Nat → Nat} {cA : Nat → ClassId} {D : va_G} {A0 : Nat → Prop} {p : Program} {e : Env} {s : State} {m : MethodId} {args : Array Value} {below : List Frame} {meth : Method} {c : Code} {Z : State → Prop} {ce sl : Nat} {T I : List Nat} {M : Nat → Nat → Bool} {v : fr_V} {u : fr_U} {pc : Nat} {lv : List (Nat × Value)} {st : List Value}
theorem K_iconst (C : KC L cA D A0 y p s m args meth c) {n : Int} {x : Int32} (d : decode y.2.1 pc = .ok (.iconst n, 1)) (h : Int32.ofInt n = x) (k : KJ l R y L cA D A0 p e s m args below meth c Z ce sl T I M v u (pc + 1) lv (.int x :: st)) : KJ l R y L cA D A0 p e s m args below meth c Z ce sl T I M v u pc lv (st) :=
  fun H locs ls hP hD hS hT hl => lv_iconst C.1 C.2.1 d h (k H locs ls hP hD hS hT hl)
theorem K_bipush (C : KC L cA D A0 y p s m args meth c) {n : Int} {x : Int32} (d : decode y.2.1 pc = .ok (.bipush n, 2)) (h : (Int8.ofInt n).toInt32 = x) (k : KJ l R y L cA D A0 p e s m args below meth c Z ce sl T I M v u (pc + 2) lv (.int x :: st)) : KJ l R y L cA D A0 p e s m args below meth c Z ce sl T I M v u pc lv (st) :=
  fun H locs ls hP hD hS hT hl => lv_bipush C.1 C.2.1 d h (k H locs ls hP hD hS hT hl)
theorem K_sipush (C : KC L cA D A0 y p s m args meth c) {n : Int} {x : Int32} (d : decode y.2.1 pc = .ok (.sipush n, 3)) (h : (Int16.ofInt n).toInt32 = x) (k : KJ l R y L cA D A0 p e s m args below meth c Z ce sl T I M v u (pc + 3) lv (.int x :: st)) : KJ l R y L cA D A0 p e s m args below meth c Z ce sl T I M v u pc lv (st) :=
  fun H locs ls hP hD hS hT hl => lv_sipush C.1 C.2.1 d h (k H locs ls hP hD hS hT hl)
theorem K_iadd (C : KC L cA D A0 y p s m args meth c) {a b : Int32} (d : decode y.2.1 pc = .ok (.iadd, 1))  (k : KJ l R y L cA D A0 p e s m args below meth c Z ce sl T I M v u (pc + 1) lv (.int (a + b) :: st)) : KJ l R y L cA D A0 p e s m args below meth c Z ce sl T I M v u pc lv (.int b :: .int a :: st) :=
  fun H locs ls hP hD hS hT hl => lv_iadd C.1 C.2.1 d  (k H locs ls hP hD hS hT hl)
theorem K_isub (C : KC L cA D A0 y p s m args meth c) {a b : Int32} (d : decode y.2.1 pc = .ok (.isub, 1))  (k : KJ l R y L cA D A0 p e s m args below meth c Z ce sl T I M v u (pc + 1) lv (.int (a - b) :: st)) : KJ l R y L cA D A0 p e s m args below meth c Z ce sl T I M v u pc lv (.int b :: .int a :: st) :=
  fun H locs ls hP hD hS hT hl => lv_isub C.1 C.2.1 d  (k H locs ls hP hD hS hT hl)
theorem K_imul (C : KC L cA D A0 y p s m args meth c) {a b : Int32} (d : decode y.2.1 pc = .ok (.imul, 1))  (k : KJ l R y L cA D A0 p e s m args below meth c Z ce sl T I M v u (pc + 1) lv (.int (a * b) :: st)) : KJ l R y L cA D A0 p e s m args below meth c Z ce sl T I M v u pc lv (.int b :: .int a :: st) :=
  fun H locs ls hP hD hS hT hl => lv_imul C.1 C.2.1 d  (k H locs ls hP hD hS hT hl)
theorem K_iand (C : KC L cA D A0 y p s m args meth c) {a b : Int32} (d : decode y.2.1 pc = .ok (.iand, 1))  (k : KJ l R y L cA D A0 p e s m args below meth c Z ce sl T I M v u (pc + 1) lv (.int (a &&& b) :: st)) : KJ l R y L cA D A0 p e s m args below meth c Z ce sl T I M v u pc lv (.int b :: .int a :: st) :=
  fun H locs ls hP hD hS hT hl => lv_iand C.1 C.2.1 d  (k H locs ls hP hD hS hT hl)
theorem K_lcmp (C : KC L cA D A0 y p s m args meth c) {a b : Int64} (d : decode y.2.1 pc = .ok (.lcmp, 1))  (k : KJ l R y L cA D A0 p e s m args below meth c Z ce sl T I M v u (pc + 1) lv (.int (lg_cmp a b) :: st)) : KJ l R y L cA D A0 p e s m args below meth c Z ce sl T I M v u pc lv (.long b :: .long a :: st) :=
  fun H locs ls hP hD hS hT hl => W.lcmp C.1 C.2.1 d  (k H locs ls hP hD hS hT hl)
theorem K_dup (C : KC L cA D A0 y p s m args meth c) {a : Value} (d : decode y.2.1 pc = .ok (.dup, 1)) (h : a.category = 1) (k : KJ l R y L cA D A0 p e s m args below meth c Z ce sl T I M v u (pc + 1) lv (a :: a :: st)) : KJ l R y L cA D A0 p e s m args below meth c Z ce sl T I M v u pc lv (a :: st) :=
  fun H locs ls hP hD hS hT hl => lv_dup C.1 C.2.1 d ((cv_cat L a).trans h) (k H locs ls hP hD hS hT hl)
theorem K_pop (C : KC L cA D A0 y p s m args meth c) {a : Value} (d : decode y.2.1 pc = .ok (.pop, 1)) (h : a.category = 1) (k : KJ l R y L cA D A0 p e s m args below meth c Z ce sl T I M v u (pc + 1) lv st) : KJ l R y L cA D A0 p e s m args below meth c Z ce sl T I M v u pc lv (a :: st) :=
  fun H locs ls hP hD hS hT hl => lv_pop C.1 C.2.1 d ((cv_cat L a).trans h) (k H locs ls hP hD hS hT hl)
theorem K_iload_n (C : KC L cA D A0 y p s m args meth c) {n : Fin 4} {i : Nat} {x : Int32} (d : decode y.2.1 pc = .ok (.iload_n n, 1)) (hi : (n : Nat) = i) (q : Nat) (h : lv[q]? = some (i, .int x)) (k : KJ l R y L cA D A0 p e s m args below meth c Z ce sl T I M v u (pc + 1) lv (.int x :: st)) : KJ l R y L cA D A0 p e s m args below meth c Z ce sl T I M v u pc lv st :=
  fun H locs ls hP hD hS hT hl => lv_iload_n C.1 C.2.1 d hi (lv_atJ hl q h) (k H locs ls hP hD hS hT hl)
theorem K_iload (C : KC L cA D A0 y p s m args meth c) {i : Nat} {x : Int32} (d : decode y.2.1 pc = .ok (.iload i, 2)) (q : Nat) (h : lv[q]? = some (i, .int x)) (k : KJ l R y L cA D A0 p e s m args below meth c Z ce sl T I M v u (pc + 2) lv (.int x :: st)) : KJ l R y L cA D A0 p e s m args below meth c Z ce sl T I M v u pc lv st :=
  fun H locs ls hP hD hS hT hl => lv_iload C.1 C.2.1 d (lv_atJ hl q h) (k H locs ls hP hD hS hT hl)
theorem K_aload_n (C : KC L cA D A0 y p s m args meth c) {n : Fin 4} {i : Nat} {x : Nat} (d : decode y.2.1 pc = .ok (.aload_n n, 1)) (hi : (n : Nat) = i) (q : Nat) (h : lv[q]? = some (i, .ref x)) (k : KJ l R y L cA D A0 p e s m args below meth c Z ce sl T I M v u (pc + 1) lv (.ref x :: st)) : KJ l R y L cA D A0 p e s m args below meth c Z ce sl T I M v u pc lv st :=
  fun H locs ls hP hD hS hT hl => lv_aload_n C.1 C.2.1 d hi (lv_atJ hl q h) (k H locs ls hP hD hS hT hl)
theorem K_aload (C : KC L cA D A0 y p s m args meth c) {i : Nat} {x : Nat} (d : decode y.2.1 pc = .ok (.aload i, 2)) (q : Nat) (h : lv[q]? = some (i, .ref x)) (k : KJ l R y L cA D A0 p e s m args below meth c Z ce sl T I M v u (pc + 2) lv (.ref x :: st)) : KJ l R y L cA D A0 p e s m args below meth c Z ce sl T I M v u pc lv st :=
  fun H locs ls hP hD hS hT hl => lv_aload C.1 C.2.1 d (lv_atJ hl q h) (k H locs ls hP hD hS hT hl)
theorem K_lload_n (C : KC L cA D A0 y p s m args meth c) {n : Fin 4} {i : Nat} {x : Int64} (d : decode y.2.1 pc = .ok (.lload_n n, 1)) (hi : (n : Nat) = i) (q : Nat) (h : lv[q]? = some (i, .long x)) (k : KJ l R y L cA D A0 p e s m args below meth c Z ce sl T I M v u (pc + 1) lv (.long x :: st)) : KJ l R y L cA D A0 p e s m args below meth c Z ce sl T I M v u pc lv st :=
  fun H locs ls hP hD hS hT hl => lv_lload_n C.1 C.2.1 d hi (lv_atJ hl q h) (k H locs ls hP hD hS hT hl)
theorem K_lload (C : KC L cA D A0 y p s m args meth c) {i : Nat} {x : Int64} (d : decode y.2.1 pc = .ok (.lload i, 2)) (q : Nat) (h : lv[q]? = some (i, .long x)) (k : KJ l R y L cA D A0 p e s m args below meth c Z ce sl T I M v u (pc + 2) lv (.long x :: st)) : KJ l R y L cA D A0 p e s m args below meth c Z ce sl T I M v u pc lv st :=
  fun H locs ls hP hD hS hT hl => lv_lload C.1 C.2.1 d (lv_atJ hl q h) (k H locs ls hP hD hS hT hl)
theorem K_istore_n (C : KC L cA D A0 y p s m args meth c) {n : Fin 4} {i : Nat} {x : Int32} {lv' : List (Nat × Value)} (d : decode y.2.1 pc = .ok (.istore_n n, 1)) (hi : (n : Nat) = i) (hn : i < y.2.2.1) (h : (i, Value.int x) :: lv.filter (fun q => !(q.1 == i) && !(q.1 + 1 == i && q.2.category == 2)) = lv') (k : KJ l R y L cA D A0 p e s m args below meth c Z ce sl T I M v u (pc + 1) lv' st) : KJ l R y L cA D A0 p e s m args below meth c Z ce sl T I M v u pc lv (.int x :: st) := by
  subst h
  exact fun H locs ls hP hD hS hT hl => lv_istore_n (lv' := (((i, Value.int x) :: lv.filter (fun q => !(q.1 == i) && !(q.1 + 1 == i && q.2.category == 2))).map (cvp L))) C.1 C.2.1 d hi hl hn (congrArg (List.cons _) (cvp_filter L (fun a b => !(a == i) && !(a + 1 == i && b == 2)) lv)) (fun ls hl => k H locs ls hP hD hS hT hl)
theorem K_istore (C : KC L cA D A0 y p s m args meth c) {i : Nat} {x : Int32} {lv' : List (Nat × Value)} (d : decode y.2.1 pc = .ok (.istore i, 2)) (hn : i < y.2.2.1) (h : (i, Value.int x) :: lv.filter (fun q => !(q.1 == i) && !(q.1 + 1 == i && q.2.category == 2)) = lv') (k : KJ l R y L cA D A0 p e s m args below meth c Z ce sl T I M v u (pc + 2) lv' st) : KJ l R y L cA D A0 p e s m args below meth c Z ce sl T I M v u pc lv (.int x :: st) := by
  subst h
  exact fun H locs ls hP hD hS hT hl => lv_istore (lv' := (((i, Value.int x) :: lv.filter (fun q => !(q.1 == i) && !(q.1 + 1 == i && q.2.category == 2))).map (cvp L))) C.1 C.2.1 d hl hn (congrArg (List.cons _) (cvp_filter L (fun a b => !(a == i) && !(a + 1 == i && b == 2)) lv)) (fun ls hl => k H locs ls hP hD hS hT hl)
theorem K_astore_n (C : KC L cA D A0 y p s m args meth c) {n : Fin 4} {i : Nat} {x : Nat} {lv' : List (Nat × Value)} (d : decode y.2.1 pc = .ok (.astore_n n, 1)) (hi : (n : Nat) = i) (hn : i < y.2.2.1) (h : (i, Value.ref x) :: lv.filter (fun q => !(q.1 == i) && !(q.1 + 1 == i && q.2.category == 2)) = lv') (k : KJ l R y L cA D A0 p e s m args below meth c Z ce sl T I M v u (pc + 1) lv' st) : KJ l R y L cA D A0 p e s m args below meth c Z ce sl T I M v u pc lv (.ref x :: st) := by
  subst h
  exact fun H locs ls hP hD hS hT hl => lv_astore_n (lv' := (((i, Value.ref x) :: lv.filter (fun q => !(q.1 == i) && !(q.1 + 1 == i && q.2.category == 2))).map (cvp L))) C.1 C.2.1 d hi hl hn (congrArg (List.cons _) (cvp_filter L (fun a b => !(a == i) && !(a + 1 == i && b == 2)) lv)) (fun ls hl => k H locs ls hP hD hS hT hl)
theorem K_astore (C : KC L cA D A0 y p s m args meth c) {i : Nat} {x : Nat} {lv' : List (Nat × Value)} (d : decode y.2.1 pc = .ok (.astore i, 2)) (hn : i < y.2.2.1) (h : (i, Value.ref x) :: lv.filter (fun q => !(q.1 == i) && !(q.1 + 1 == i && q.2.category == 2)) = lv') (k : KJ l R y L cA D A0 p e s m args below meth c Z ce sl T I M v u (pc + 2) lv' st) : KJ l R y L cA D A0 p e s m args below meth c Z ce sl T I M v u pc lv (.ref x :: st) := by
  subst h
  exact fun H locs ls hP hD hS hT hl => lv_astore (lv' := (((i, Value.ref x) :: lv.filter (fun q => !(q.1 == i) && !(q.1 + 1 == i && q.2.category == 2))).map (cvp L))) C.1 C.2.1 d hl hn (congrArg (List.cons _) (cvp_filter L (fun a b => !(a == i) && !(a + 1 == i && b == 2)) lv)) (fun ls hl => k H locs ls hP hD hS hT hl)
theorem K_lstore_n (C : KC L cA D A0 y p s m args meth c) {n : Fin 4} {i : Nat} {x : Int64} {lv' : List (Nat × Value)} (d : decode y.2.1 pc = .ok (.lstore_n n, 1)) (hi : (n : Nat) = i) (hn : i + 1 < y.2.2.1) (h : (i, Value.long x) :: lv.filter (fun q => !(q.1 == i) && (!(q.1 == i + 1) && !(q.1 + 1 == i && q.2.category == 2))) = lv') (k : KJ l R y L cA D A0 p e s m args below meth c Z ce sl T I M v u (pc + 1) lv' st) : KJ l R y L cA D A0 p e s m args below meth c Z ce sl T I M v u pc lv (.long x :: st) := by
  subst h
  exact fun H locs ls hP hD hS hT hl => lv_lstore_n (lv' := (((i, Value.long x) :: lv.filter (fun q => !(q.1 == i) && (!(q.1 == i + 1) && !(q.1 + 1 == i && q.2.category == 2)))).map (cvp L))) C.1 C.2.1 d hi hl hn (congrArg (List.cons _) (cvp_filter L (fun a b => !(a == i) && (!(a == i + 1) && !(a + 1 == i && b == 2))) lv)) (fun ls hl => k H locs ls hP hD hS hT hl)
theorem K_lstore (C : KC L cA D A0 y p s m args meth c) {i : Nat} {x : Int64} {lv' : List (Nat × Value)} (d : decode y.2.1 pc = .ok (.lstore i, 2)) (hn : i + 1 < y.2.2.1) (h : (i, Value.long x) :: lv.filter (fun q => !(q.1 == i) && (!(q.1 == i + 1) && !(q.1 + 1 == i && q.2.category == 2))) = lv') (k : KJ l R y L cA D A0 p e s m args below meth c Z ce sl T I M v u (pc + 2) lv' st) : KJ l R y L cA D A0 p e s m args below meth c Z ce sl T I M v u pc lv (.long x :: st) := by
  subst h
  exact fun H locs ls hP hD hS hT hl => lv_lstore (lv' := (((i, Value.long x) :: lv.filter (fun q => !(q.1 == i) && (!(q.1 == i + 1) && !(q.1 + 1 == i && q.2.category == 2)))).map (cvp L))) C.1 C.2.1 d hl hn (congrArg (List.cons _) (cvp_filter L (fun a b => !(a == i) && (!(a == i + 1) && !(a + 1 == i && b == 2))) lv)) (fun ls hl => k H locs ls hP hD hS hT hl)
theorem K_iinc (C : KC L cA D A0 y p s m args meth c) {i q : Nat} {n : Int} {x z : Int32} {lv' : List (Nat × Value)} (d : decode y.2.1 pc = .ok (.iinc i n, 3)) (hq : lv[q]? = some (i, .int x)) (hz : x + Int32.ofInt n = z) (hn : i < y.2.2.1) (h : (i, Value.int z) :: lv.filter (fun q => !(q.1 == i) && !(q.1 + 1 == i && q.2.category == 2)) = lv') (k : KJ l R y L cA D A0 p e s m args below meth c Z ce sl T I M v u (pc + 3) lv' st) : KJ l R y L cA D A0 p e s m args below meth c Z ce sl T I M v u pc lv st := by
  subst h
  exact fun H locs ls hP hD hS hT hl => lv_iinc (k := q) (v := z) (lv' := (((i, Value.int z) :: lv.filter (fun q => !(q.1 == i) && !(q.1 + 1 == i && q.2.category == 2))).map (cvp L))) C.1 C.2.1 d hl (by rw [List.getElem?_map, hq]; rfl) hz hn (congrArg (List.cons _) (cvp_filter L (fun a b => !(a == i) && !(a + 1 == i && b == 2)) lv)) (fun ls hl => k H locs ls hP hD hS hT hl)
theorem K_lv {lv' : List (Nat × Value)} (ks : List Nat) (h : lv_pick lv ks = lv') (k : KJ l R y L cA D A0 p e s m args below meth c Z ce sl T I M v u pc lv' st) : KJ l R y L cA D A0 p e s m args below meth c Z ce sl T I M v u pc lv st := by
  subst h
  refine fun H locs ls hP hD hS hT hl => k H locs ls hP hD hS hT (lv_sub hl ks ?_)
  unfold lv_pick
  rw [List.map_filterMap]
  congr 1
  funext i
  rw [List.getElem?_map]
theorem K_icmp_eq (C : KC L cA D A0 y p s m args meth c) {a b : Int32} {off : Int} {tgt : Nat} (d : decode y.2.1 pc = .ok (.if_icmp .eq off, 3)) (ht : (pc : Int) + off = (tgt : Int)) (kt : a = b → KJ l R y L cA D A0 p e s m args below meth c Z ce sl T I M v u tgt lv st) (kf : ¬ (a = b) → KJ l R y L cA D A0 p e s m args below meth c Z ce sl T I M v u (pc + 3) lv st) : KJ l R y L cA D A0 p e s m args below meth c Z ce sl T I M v u pc lv (.int b :: .int a :: st) :=
  fun H locs ls hP hD hS hT hl => lv_icmp_eq C.1 C.2.1 d ht (fun h => kt h H locs ls hP hD hS hT hl) (fun h => kf h H locs ls hP hD hS hT hl)
theorem K_if_eq (C : KC L cA D A0 y p s m args meth c) {a : Int32} {off : Int} {tgt : Nat} (d : decode y.2.1 pc = .ok (.ifCond .eq off, 3)) (ht : (pc : Int) + off = (tgt : Int)) (kt : a = 0 → KJ l R y L cA D A0 p e s m args below meth c Z ce sl T I M v u tgt lv st) (kf : ¬ (a = 0) → KJ l R y L cA D A0 p e s m args below meth c Z ce sl T I M v u (pc + 3) lv st) : KJ l R y L cA D A0 p e s m args below meth c Z ce sl T I M v u pc lv (.int a :: st) :=
  fun H locs ls hP hD hS hT hl => lv_if_eq C.1 C.2.1 d ht (fun h => kt h H locs ls hP hD hS hT hl) (fun h => kf h H locs ls hP hD hS hT hl)
theorem K_icmp_ne (C : KC L cA D A0 y p s m args meth c) {a b : Int32} {off : Int} {tgt : Nat} (d : decode y.2.1 pc = .ok (.if_icmp .ne off, 3)) (ht : (pc : Int) + off = (tgt : Int)) (kt : ¬ a = b → KJ l R y L cA D A0 p e s m args below meth c Z ce sl T I M v u tgt lv st) (kf : a = b → KJ l R y L cA D A0 p e s m args below meth c Z ce sl T I M v u (pc + 3) lv st) : KJ l R y L cA D A0 p e s m args below meth c Z ce sl T I M v u pc lv (.int b :: .int a :: st) :=
  fun H locs ls hP hD hS hT hl => lv_icmp_ne C.1 C.2.1 d ht (fun h => kt h H locs ls hP hD hS hT hl) (fun h => kf h H locs ls hP hD hS hT hl)
theorem K_if_ne (C : KC L cA D A0 y p s m args meth c) {a : Int32} {off : Int} {tgt : Nat} (d : decode y.2.1 pc = .ok (.ifCond .ne off, 3)) (ht : (pc : Int) + off = (tgt : Int)) (kt : ¬ a = 0 → KJ l R y L cA D A0 p e s m args below meth c Z ce sl T I M v u tgt lv st) (kf : a = 0 → KJ l R y L cA D A0 p e s m args below meth c Z ce sl T I M v u (pc + 3) lv st) : KJ l R y L cA D A0 p e s m args below meth c Z ce sl T I M v u pc lv (.int a :: st) :=
  fun H locs ls hP hD hS hT hl => lv_if_ne C.1 C.2.1 d ht (fun h => kt h H locs ls hP hD hS hT hl) (fun h => kf h H locs ls hP hD hS hT hl)
theorem K_icmp_lt (C : KC L cA D A0 y p s m args meth c) {a b : Int32} {off : Int} {tgt : Nat} (d : decode y.2.1 pc = .ok (.if_icmp .lt off, 3)) (ht : (pc : Int) + off = (tgt : Int)) (kt : a < b → KJ l R y L cA D A0 p e s m args below meth c Z ce sl T I M v u tgt lv st) (kf : ¬ (a < b) → KJ l R y L cA D A0 p e s m args below meth c Z ce sl T I M v u (pc + 3) lv st) : KJ l R y L cA D A0 p e s m args below meth c Z ce sl T I M v u pc lv (.int b :: .int a :: st) :=
  fun H locs ls hP hD hS hT hl => lv_icmp_lt C.1 C.2.1 d ht (fun h => kt h H locs ls hP hD hS hT hl) (fun h => kf h H locs ls hP hD hS hT hl)
theorem K_if_lt (C : KC L cA D A0 y p s m args meth c) {a : Int32} {off : Int} {tgt : Nat} (d : decode y.2.1 pc = .ok (.ifCond .lt off, 3)) (ht : (pc : Int) + off = (tgt : Int)) (kt : a < 0 → KJ l R y L cA D A0 p e s m args below meth c Z ce sl T I M v u tgt lv st) (kf : ¬ (a < 0) → KJ l R y L cA D A0 p e s m args below meth c Z ce sl T I M v u (pc + 3) lv st) : KJ l R y L cA D A0 p e s m args below meth c Z ce sl T I M v u pc lv (.int a :: st) :=
  fun H locs ls hP hD hS hT hl => lv_if_lt C.1 C.2.1 d ht (fun h => kt h H locs ls hP hD hS hT hl) (fun h => kf h H locs ls hP hD hS hT hl)
theorem K_icmp_ge (C : KC L cA D A0 y p s m args meth c) {a b : Int32} {off : Int} {tgt : Nat} (d : decode y.2.1 pc = .ok (.if_icmp .ge off, 3)) (ht : (pc : Int) + off = (tgt : Int)) (kt : b ≤ a → KJ l R y L cA D A0 p e s m args below meth c Z ce sl T I M v u tgt lv st) (kf : ¬ (b ≤ a) → KJ l R y L cA D A0 p e s m args below meth c Z ce sl T I M v u (pc + 3) lv st) : KJ l R y L cA D A0 p e s m args below meth c Z ce sl T I M v u pc lv (.int b :: .int a :: st) :=
  fun H locs ls hP hD hS hT hl => lv_icmp_ge C.1 C.2.1 d ht (fun h => kt h H locs ls hP hD hS hT hl) (fun h => kf h H locs ls hP hD hS hT hl)
theorem K_if_ge (C : KC L cA D A0 y p s m args meth c) {a : Int32} {off : Int} {tgt : Nat} (d : decode y.2.1 pc = .ok (.ifCond .ge off, 3)) (ht : (pc : Int) + off = (tgt : Int)) (kt : 0 ≤ a → KJ l R y L cA D A0 p e s m args below meth c Z ce sl T I M v u tgt lv st) (kf : ¬ (0 ≤ a) → KJ l R y L cA D A0 p e s m args below meth c Z ce sl T I M v u (pc + 3) lv st) : KJ l R y L cA D A0 p e s m args below meth c Z ce sl T I M v u pc lv (.int a :: st) :=
  fun H locs ls hP hD hS hT hl => lv_if_ge C.1 C.2.1 d ht (fun h => kt h H locs ls hP hD hS hT hl) (fun h => kf h H locs ls hP hD hS hT hl)
theorem K_icmp_gt (C : KC L cA D A0 y p s m args meth c) {a b : Int32} {off : Int} {tgt : Nat} (d : decode y.2.1 pc = .ok (.if_icmp .gt off, 3)) (ht : (pc : Int) + off = (tgt : Int)) (kt : b < a → KJ l R y L cA D A0 p e s m args below meth c Z ce sl T I M v u tgt lv st) (kf : ¬ (b < a) → KJ l R y L cA D A0 p e s m args below meth c Z ce sl T I M v u (pc + 3) lv st) : KJ l R y L cA D A0 p e s m args below meth c Z ce sl T I M v u pc lv (.int b :: .int a :: st) :=
  fun H locs ls hP hD hS hT hl => lv_icmp_gt C.1 C.2.1 d ht (fun h => kt h H locs ls hP hD hS hT hl) (fun h => kf h H locs ls hP hD hS hT hl)
theorem K_if_gt (C : KC L cA D A0 y p s m args meth c) {a : Int32} {off : Int} {tgt : Nat} (d : decode y.2.1 pc = .ok (.ifCond .gt off, 3)) (ht : (pc : Int) + off = (tgt : Int)) (kt : 0 < a → KJ l R y L cA D A0 p e s m args below meth c Z ce sl T I M v u tgt lv st) (kf : ¬ (0 < a) → KJ l R y L cA D A0 p e s m args below meth c Z ce sl T I M v u (pc + 3) lv st) : KJ l R y L cA D A0 p e s m args below meth c Z ce sl T I M v u pc lv (.int a :: st) :=
  fun H locs ls hP hD hS hT hl => lv_if_gt C.1 C.2.1 d ht (fun h => kt h H locs ls hP hD hS hT hl) (fun h => kf h H locs ls hP hD hS hT hl)
theorem K_icmp_le (C : KC L cA D A0 y p s m args meth c) {a b : Int32} {off : Int} {tgt : Nat} (d : decode y.2.1 pc = .ok (.if_icmp .le off, 3)) (ht : (pc : Int) + off = (tgt : Int)) (kt : a ≤ b → KJ l R y L cA D A0 p e s m args below meth c Z ce sl T I M v u tgt lv st) (kf : ¬ (a ≤ b) → KJ l R y L cA D A0 p e s m args below meth c Z ce sl T I M v u (pc + 3) lv st) : KJ l R y L cA D A0 p e s m args below meth c Z ce sl T I M v u pc lv (.int b :: .int a :: st) :=
  fun H locs ls hP hD hS hT hl => lv_icmp_le C.1 C.2.1 d ht (fun h => kt h H locs ls hP hD hS hT hl) (fun h => kf h H locs ls hP hD hS hT hl)
theorem K_if_le (C : KC L cA D A0 y p s m args meth c) {a : Int32} {off : Int} {tgt : Nat} (d : decode y.2.1 pc = .ok (.ifCond .le off, 3)) (ht : (pc : Int) + off = (tgt : Int)) (kt : a ≤ 0 → KJ l R y L cA D A0 p e s m args below meth c Z ce sl T I M v u tgt lv st) (kf : ¬ (a ≤ 0) → KJ l R y L cA D A0 p e s m args below meth c Z ce sl T I M v u (pc + 3) lv st) : KJ l R y L cA D A0 p e s m args below meth c Z ce sl T I M v u pc lv (.int a :: st) :=
  fun H locs ls hP hD hS hT hl => lv_if_le C.1 C.2.1 d ht (fun h => kt h H locs ls hP hD hS hT hl) (fun h => kf h H locs ls hP hD hS hT hl)
theorem K_goto (C : KC L cA D A0 y p s m args meth c) {off : Int} {tgt : Nat} (d : decode y.2.1 pc = .ok (.goto off, 3)) (ht : (pc : Int) + off = (tgt : Int)) (k : KJ l R y L cA D A0 p e s m args below meth c Z ce sl T I M v u tgt lv st) : KJ l R y L cA D A0 p e s m args below meth c Z ce sl T I M v u pc lv st :=
  fun H locs ls hP hD hS hT hl => lv_goto C.1 C.2.1 d ht (k H locs ls hP hD hS hT hl)
theorem K_tableOut (C : KC L cA D A0 y p s m args meth c) {dflt lo hi : Int} {offs : Array Int} {len : Nat} {x : Int32} {tgt : Nat} (d : decode y.2.1 pc = .ok (.tableswitch dflt lo hi offs, len)) (h : x.toInt < lo ∨ hi < x.toInt) (ht : (pc : Int) + dflt = (tgt : Int)) (k : KJ l R y L cA D A0 p e s m args below meth c Z ce sl T I M v u tgt lv st) : KJ l R y L cA D A0 p e s m args below meth c Z ce sl T I M v u pc lv (.int x :: st) :=
  fun H locs ls hP hD hS hT hl => lv_tableOut C.1 C.2.1 d h ht (k H locs ls hP hD hS hT hl)
theorem K_tableIn (C : KC L cA D A0 y p s m args meth c) {dflt lo hi : Int} {offs : Array Int} {len : Nat} {x : Int32} {off : Int} {tgt : Nat} (d : decode y.2.1 pc = .ok (.tableswitch dflt lo hi offs, len)) (h1 : ¬ x.toInt < lo) (h2 : ¬ hi < x.toInt) (ho : offs[(x.toInt - lo).toNat]? = some off) (ht : (pc : Int) + off = (tgt : Int)) (k : KJ l R y L cA D A0 p e s m args below meth c Z ce sl T I M v u tgt lv st) : KJ l R y L cA D A0 p e s m args below meth c Z ce sl T I M v u pc lv (.int x :: st) :=
  fun H locs ls hP hD hS hT hl => lv_tableIn C.1 C.2.1 d h1 h2 ho ht (k H locs ls hP hD hS hT hl)
theorem K_pc {pc2 : Nat} (h : pc = pc2) (k : KJ l R y L cA D A0 p e s m args below meth c Z ce sl T I M v u pc2 lv st) : KJ l R y L cA D A0 p e s m args below meth c Z ce sl T I M v u pc lv st := by subst h; exact k
theorem K_ve {w : fr_V} (h : v = w) (k : KJ l R y L cA D A0 p e s m args below meth c Z ce sl T I M w u pc lv st) : KJ l R y L cA D A0 p e s m args below meth c Z ce sl T I M v u pc lv st := by subst h; exact k
end KFR
