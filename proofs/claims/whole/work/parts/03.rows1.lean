def fr_nm : List String := ["MAY", "BAR", "PRICE", "LUMP", "ARREARS", "WAIT", "RATE", "CAP", "AGE", "CLASS", "HALF", "JOINT", "SINGLE", "TO", "OR"]
def fr_F : List (String × String × String × List Int32) := [("LifeRents$Word", "role", "I", [0,0,0,0,1,1,1,1,2,2,2,2,2,3,3]), ("LifeRents$Word", "least", "I", [0,0,1,0,0,0,2,1,0,0,0,0,0,0,0]), ("LifeRents$Word", "most", "I", [0,0,9999,200,40,9,99,3,130,3,79,0,0,0,0]), ("LifeRents$Word", "slot", "I", [-1,-1,-1,-1,0,1,2,3,-1,-1,-1,-1,-1,-1,-1])]
def fr_us (j : Nat) : Int32 := if j = 0 then 4 else if j = 1 then 0 else if j = 2 then 20 else 3
def fr_len : List Nat := [3,3,5,4,7,4,4,3,3,5,4,5,6,2,2]
def fr_byt : List (List Int32) := [[109,97,121],[98,97,114],[112,114,105,99,101],[108,117,109,112],[97,114,114,101,97,114,115],[119,97,105,116],[114,97,116,101],[99,97,112],[97,103,101],[99,108,97,115,115],[104,97,108,102],[106,111,105,110,116],[115,105,110,103,108,101],[116,111],[111,114]]
def fr_N (U : State) : Prop := va_Nw (.methodLinkNest "LifeRents" 9 ⟨"LifeRents$Reader", "<init>", "()V"⟩ "LifeRents") U ∧ va_Nw (.fieldLinkNest "LifeRents$Acts" 17 "LifeRents" "USUAL_SETTINGS" "[I" "LifeRents") U ∧ va_Nw (.methodLinkNest "LifeRents$Acts" 24 ⟨"LifeRents$Line", "<init>", "()V"⟩ "LifeRents") U ∧ va_Nw (.methodLinkNest "LifeRents" 28 ⟨"LifeRents$People", "<init>", "()V"⟩ "LifeRents") U ∧ va_Nw (.methodLinkNest "LifeRents" 62 ⟨"LifeRents$Buyer", "<init>", "()V"⟩ "LifeRents") U ∧ va_Nw (.fieldLinkNest "LifeRents$Reader" 104 "LifeRents" "WORDS" "[LLifeRents$Word;" "LifeRents") U ∧ va_Nw (.methodLinkNest "LifeRents$Tables" 95 ⟨"LifeRents", "groupOf", "(I)I"⟩ "LifeRents") U
theorem fr_N.warm {s U : State} (hW : s.WarmedH U.vm) (h : fr_N s) : fr_N U := ⟨va_Nw.warmM hW h.1, va_Nw.warmF hW h.2.1, va_Nw.warmM hW h.2.2.1, va_Nw.warmM hW h.2.2.2.1, va_Nw.warmM hW h.2.2.2.2.1, va_Nw.warmF hW h.2.2.2.2.2.1, va_Nw.warmM hW h.2.2.2.2.2.2⟩
theorem fr_N.same {u U : State} (e : u.vm = U.vm) (h : fr_N u) : fr_N U := ⟨va_Nw.same rfl e h.1, va_Nw.same rfl e h.2.1, va_Nw.same rfl e h.2.2.1, va_Nw.same rfl e h.2.2.2.1, va_Nw.same rfl e h.2.2.2.2.1, va_Nw.same rfl e h.2.2.2.2.2.1, va_Nw.same rfl e h.2.2.2.2.2.2⟩
def fr_X (L : Nat → Nat) (A : Nat → Prop) (U : State) (H : Heap) : Prop :=
  va_En "LifeRents$Word" "LLifeRents$Word;" fr_nm fr_F (fun i => L (3000 + i)) A U H ∧ va_Ef 15 "LifeRents$Word" "text" "Ljava/lang/String;" (fun i => .ref (L (3100 + i))) (fun i => L (3000 + i)) A U H ∧
  va_Z "LifeRents" "USUAL_SETTINGS" "[I" (.ref (L 3200)) A U H ∧ va_T .int (L 3200) 4 (fun j => .int (fr_us j)) A U H ∧
  va_Z "LifeRents" "WORDS" "[LLifeRents$Word;" (.ref (L 3201)) A U H ∧ va_T (.object "LifeRents$Word") (L 3201) 15 (fun j => .ref (L (3000 + j))) A U H ∧
  vk_S 15 fr_len fr_byt (fun i => L (3100 + i)) (fun i => L (3300 + i)) A U H ∧ va_Z "java/lang/String" "COMPACT_STRINGS" "Z" (.int 1) A U H ∧ va_Zq "jdk/internal/util/Preconditions" "SIOOBE_FORMATTER" "Ljava/util/function/BiFunction;" A U H ∧ fr_N U
theorem fr_X.moved {L : Nat → Nat} {A : Nat → Prop} {u U : State} {H : Heap} (hvm : u.vm.Alike U.vm) (hN : fr_N U) (h : fr_X L A u H) : fr_X L A U H :=
  ⟨va_En.moved hvm h.1, va_Ef.moved hvm h.2.1, va_Z.moved hvm h.2.2.1, va_T.moved hvm h.2.2.2.1, va_Z.moved hvm h.2.2.2.2.1, va_T.moved hvm h.2.2.2.2.2.1, vk_S.moved hvm h.2.2.2.2.2.2.1, va_Z.moved hvm h.2.2.2.2.2.2.2.1, va_Zq.moved hvm h.2.2.2.2.2.2.2.2.1, hN⟩
theorem fr_X.warm {L : Nat → Nat} {A : Nat → Prop} {u U : State} {H : Heap} (hW : u.WarmedH U.vm) (h : fr_X L A u H) : fr_X L A U H := h.moved hW.alike (h.2.2.2.2.2.2.2.2.2.warm hW)
theorem fr_X.same {L : Nat → Nat} {A : Nat → Prop} {u U : State} {H : Heap} (e : u.vm = U.vm) (h : fr_X L A u H) : fr_X L A U H := h.moved (e ▸ Vm.Alike.refl u.vm) (h.2.2.2.2.2.2.2.2.2.same e)
theorem fr_X.kept {L : Nat → Nat} {A : Nat → Prop} {U : State} {H H1 : Heap} (h : fr_X L A U H) (hq : ∀ a : Nat, a < H.size → ¬ A a → H1[a]? = H[a]?) : fr_X L A U H1 :=
  ⟨h.1.kept hq, h.2.1.kept hq, h.2.2.1.kept hq, h.2.2.2.1.kept hq, h.2.2.2.2.1.kept hq, h.2.2.2.2.2.1.kept hq, h.2.2.2.2.2.2.1.kept hq, h.2.2.2.2.2.2.2.1.kept hq, h.2.2.2.2.2.2.2.2.1.elim (fun z => Or.inl (z.kept hq)) (fun ⟨t, z⟩ => Or.inr ⟨t, z.kept hq⟩), h.2.2.2.2.2.2.2.2.2⟩
def cv (L : Nat → Nat) : Value → Value
  | .ref a => .ref (L a)
  | x => x
def cvp (L : Nat → Nat) (q : Nat × Value) : Nat × Value := (q.1, cv L q.2)
theorem cv_cat (L : Nat → Nat) (x : Value) : (cv L x).category = x.category := by cases x <;> rfl
theorem cv_sl (L : Nat → Nat) (xs : List Value) : (lg_sl (xs.map (cv L))).length = (lg_sl xs).length := by
  induction xs with
  | nil => rfl
  | cons a t ih =>
    simp only [lg_sl, List.map_cons, List.flatMap_cons, List.length_append, cv_cat] at ih ⊢
    rw [ih]
    split <;> rfl
theorem cv_args (L : Nat → Nat) (xs : List Value) : ∀ i, lv_args i (xs.map (cv L)) = (lv_args i xs).map (cvp L) := by
  induction xs with
  | nil => intro i; rfl
  | cons a t ih =>
    intro i
    simp only [lv_args, List.map_cons, cv_cat, ih]
    rfl
theorem cv_sum (L : Nat → Nat) (xs : List Value) : ((xs.map (cv L)).map fun v => v.category).sum = (xs.map fun v => v.category).sum := by
  induction xs with
  | nil => rfl
  | cons a t ih => simp only [List.map_cons, List.sum_cons, cv_cat, ih]
theorem cvp_filter (L : Nat → Nat) (f : Nat → Nat → Bool) (lv : List (Nat × Value)) : (lv.map (cvp L)).filter (fun q => f q.1 q.2.category) = (lv.filter (fun q => f q.1 q.2.category)).map (cvp L) := by
  induction lv with
  | nil => rfl
  | cons a t ih =>
    have h : f (cvp L a).1 (cvp L a).2.category = f a.1 a.2.category := by simp only [cvp, cv_cat]
    simp only [List.map_cons, List.filter_cons, h]
    split
    · rw [List.map_cons, ih]
    · exact ih
/-- a method: its name, its code, its locals, what it answers, the frames and the words of locals below it -/
abbrev fr_M : Type := MethodName × ByteArray × Nat × Option FieldType × Nat × Nat
def fr_rm (y : fr_M) : Room := { frames := y.2.2.2.2.1, cells := 0, slots := 0, locals := y.2.2.2.2.2 }
def fr_ws (y : fr_M) : List Cond := Cond.code y.1 y.2.1 y.2.2.1 y.2.2.2.1 :: gt
def fr_C (L : Nat → Nat) (cA : Nat → ClassId) (D : va_G) (I : List Nat) (y : fr_M) (p : Program) (s : State) (m : MethodId) (args : Array Value) (meth : Method) (c : Code) : Prop :=
  p.tables.exec = Jvm.exec ∧ c.code = y.2.1 ∧ meth.sig.returnType = y.2.2.2.1 ∧ c.maxLocals = y.2.2.1 ∧ s.vm.findClass y.1.cls = some m.cls ∧ meth.locks = false ∧ (∀ w ∈ gt, w.before args s = true) ∧ fr_X L (Aw L I) s s.heap ∧ va_K D fr_cls (fr_tys cA) s
def fr_P (L : Nat → Nat) (cA : Nat → ClassId) (D : va_G) (I : List Nat) (v : fr_V) (u : fr_U) (U : State) : Prop :=
  va_P D fr_cls (mw L cA I v u) U.heap ∧ va_K D fr_cls (fr_tys cA) U ∧ va_D (Aw L I) (mw L cA I v u) ∧ fr_X L (Aw L I) U U.heap
def fr_Q (L : Nat → Nat) (cA : Nat → ClassId) (D : va_G) (I : List Nat) (Q : Option Value → fr_V → fr_U → Prop) : Array Value → State → Outcome → State → Prop := fun _ st oc t =>
  (∃ (r : Option Value) (v : fr_V) (u : fr_U), oc = .returned (r.map (cv L)) ∧ Q r v u ∧ va_P D fr_cls (mw L cA I v u) t.heap ∧ va_K D fr_cls (fr_tys cA) t) ∧ va_F (Aw L I) st t
def J (l : Launch) (y : fr_M) (I : List Nat) (v : fr_V) (u : fr_U) (pc : Nat) (lv : List (Nat × Value)) (st : List Value) (Q : Option Value → fr_V → fr_U → Prop) : Prop :=
  ∀ (L : Nat → Nat) (cA : Nat → ClassId) (D : va_G) (p : Program) (e : Env) (s : State) (m : MethodId) (args : Array Value) (below : List Frame) (meth : Method) (c : Code) (H : Heap) (locs : List Loc) (ls : Array Slot),
    fr_C L cA D I y p s m args meth c → va_P D fr_cls (mw L cA I v u) H → va_D (Aw L I) (mw L cA I v u) → va_S (Aw L I) s.heap H locs → lv_has ls y.2.2.1 (lv.map (cvp L)) →
    W p l e (fr_rm y) s m args below meth c H locs 0 0 (MQ below (fr_Q L cA D I Q) args s 0 0 (Aw L I)) (F0 m pc ls (st.map (cv L)))
def Con (l : Launch) (y : fr_M) (I : List Nat) (v : fr_V) (u : fr_U) (args : List Value) (Q : Option Value → fr_V → fr_U → Prop) : Prop :=
  ∀ (L : Nat → Nat) (cA : Nat → ClassId) (D : va_G), Met l y.1 (fr_ws y) (fr_rm y) (va_Pc (args.map (cv L)) (fr_P L cA D I v u)) (fr_Q L cA D I Q) 0 0 (Aw L I)
section FRJ
variable {l : Launch} {y : fr_M} {I : List Nat} {v : fr_V} {u : fr_U} {Q : Option Value → fr_V → fr_U → Prop}
theorem Con.of {args : List Value} (hy : plainName y.1.cls = true) (hn : (lg_sl args).length ≤ y.2.2.1) (h : J l y I v u 0 (lv_args 0 args) [] Q) : Con l y I v u args Q := by
  intro L cA D
  refine Met.ofW (cc := y.2.1) (maxL := y.2.2.1) (ret := y.2.2.2.1) hy rfl ?_
  intro p e s m args' below meth c s₁ B hml hv
  obtain ⟨rfl, hP, hK, hD, hX⟩ := hv
  have hts := atoms_spec (ws := fr_ws y) B.pre
  have hl := lv_entry (args.map (cv L)) (n := y.2.2.1) (by rw [cv_sl]; exact hn)
  rw [lg_entry_eq]
  rw [cv_args] at hl
  exact h L cA D p e s m _ below meth c s.heap [] _ ⟨B.exec, B.bytes, B.returns, hml, findClass_of_methodNamed B.named, B.notSynchronized, fun w hw => hts w (List.mem_cons_of_mem _ hw), hX, hK⟩ hP hD va_S.rf hl
theorem Con.mono {args : List Value} {Q' : Option Value → fr_V → fr_U → Prop} (h : Con l y I v u args Q) (hq : ∀ r v' u', Q r v' u' → Q' r v' u') : Con l y I v u args Q' := by
  intro L cA D
  have hM := h L cA D
  intro p e ha hc hk s m as below hf hfit hheap hpre
  obtain ⟨k, o, h1, h2, h3, ⟨⟨r, v', u', e1, e2, e3⟩, e4⟩, e5⟩ := hM p e ha hc hk s m as below hf hfit hheap hpre
  exact ⟨k, o, h1, h2, h3, ⟨⟨r, v', u', e1, hq r v' u' e2, e3⟩, e4⟩, e5⟩
variable {pc : Nat} {lv : List (Nat × Value)} {st : List Value}
theorem J_iconst {n : Int} {x : Int32} (d : decode y.2.1 pc = .ok (.iconst n, 1)) (h : Int32.ofInt n = x) (k : J l y I v u (pc + 1) lv (.int x :: st) Q) : J l y I v u pc lv (st) Q :=
  fun L cA D p e s m args below meth c H locs ls C hP hD hS hl => lv_iconst C.1 C.2.1 d h (k L cA D p e s m args below meth c H locs ls C hP hD hS hl)
theorem J_bipush {n : Int} {x : Int32} (d : decode y.2.1 pc = .ok (.bipush n, 2)) (h : (Int8.ofInt n).toInt32 = x) (k : J l y I v u (pc + 2) lv (.int x :: st) Q) : J l y I v u pc lv (st) Q :=
  fun L cA D p e s m args below meth c H locs ls C hP hD hS hl => lv_bipush C.1 C.2.1 d h (k L cA D p e s m args below meth c H locs ls C hP hD hS hl)
theorem J_sipush {n : Int} {x : Int32} (d : decode y.2.1 pc = .ok (.sipush n, 3)) (h : (Int16.ofInt n).toInt32 = x) (k : J l y I v u (pc + 3) lv (.int x :: st) Q) : J l y I v u pc lv (st) Q :=
  fun L cA D p e s m args below meth c H locs ls C hP hD hS hl => lv_sipush C.1 C.2.1 d h (k L cA D p e s m args below meth c H locs ls C hP hD hS hl)
theorem J_lconst {n : Fin 2} {x : Int64} (d : decode y.2.1 pc = .ok (.lconst n, 1)) (h : Int64.ofNat (n : Nat) = x) (k : J l y I v u (pc + 1) lv (.long x :: st) Q) : J l y I v u pc lv (st) Q :=
  fun L cA D p e s m args below meth c H locs ls C hP hD hS hl => lv_lconst C.1 C.2.1 d h (k L cA D p e s m args below meth c H locs ls C hP hD hS hl)
theorem J_null  (d : decode y.2.1 pc = .ok (.aconst_null, 1))  (k : J l y I v u (pc + 1) lv (.null :: st) Q) : J l y I v u pc lv (st) Q :=
  fun L cA D p e s m args below meth c H locs ls C hP hD hS hl => lv_null C.1 C.2.1 d  (k L cA D p e s m args below meth c H locs ls C hP hD hS hl)
theorem J_iadd {a b : Int32} (d : decode y.2.1 pc = .ok (.iadd, 1))  (k : J l y I v u (pc + 1) lv (.int (a + b) :: st) Q) : J l y I v u pc lv (.int b :: .int a :: st) Q :=
  fun L cA D p e s m args below meth c H locs ls C hP hD hS hl => lv_iadd C.1 C.2.1 d  (k L cA D p e s m args below meth c H locs ls C hP hD hS hl)
theorem J_isub {a b : Int32} (d : decode y.2.1 pc = .ok (.isub, 1))  (k : J l y I v u (pc + 1) lv (.int (a - b) :: st) Q) : J l y I v u pc lv (.int b :: .int a :: st) Q :=
  fun L cA D p e s m args below meth c H locs ls C hP hD hS hl => lv_isub C.1 C.2.1 d  (k L cA D p e s m args below meth c H locs ls C hP hD hS hl)
theorem J_imul {a b : Int32} (d : decode y.2.1 pc = .ok (.imul, 1))  (k : J l y I v u (pc + 1) lv (.int (a * b) :: st) Q) : J l y I v u pc lv (.int b :: .int a :: st) Q :=
  fun L cA D p e s m args below meth c H locs ls C hP hD hS hl => lv_imul C.1 C.2.1 d  (k L cA D p e s m args below meth c H locs ls C hP hD hS hl)
theorem J_iand {a b : Int32} (d : decode y.2.1 pc = .ok (.iand, 1))  (k : J l y I v u (pc + 1) lv (.int (a &&& b) :: st) Q) : J l y I v u pc lv (.int b :: .int a :: st) Q :=
  fun L cA D p e s m args below meth c H locs ls C hP hD hS hl => lv_iand C.1 C.2.1 d  (k L cA D p e s m args below meth c H locs ls C hP hD hS hl)
theorem J_ior {a b : Int32} (d : decode y.2.1 pc = .ok (.ior, 1))  (k : J l y I v u (pc + 1) lv (.int (a ||| b) :: st) Q) : J l y I v u pc lv (.int b :: .int a :: st) Q :=
  fun L cA D p e s m args below meth c H locs ls C hP hD hS hl => lv_ior C.1 C.2.1 d  (k L cA D p e s m args below meth c H locs ls C hP hD hS hl)
theorem J_idiv {a b : Int32} (d : decode y.2.1 pc = .ok (.idiv, 1)) (h : ¬ b = 0) (k : J l y I v u (pc + 1) lv (.int (a / b) :: st) Q) : J l y I v u pc lv (.int b :: .int a :: st) Q :=
  fun L cA D p e s m args below meth c H locs ls C hP hD hS hl => lv_idiv C.1 C.2.1 d h (k L cA D p e s m args below meth c H locs ls C hP hD hS hl)
theorem J_lmul {a b : Int64} (d : decode y.2.1 pc = .ok (.lmul, 1))  (k : J l y I v u (pc + 1) lv (.long (a * b) :: st) Q) : J l y I v u pc lv (.long b :: .long a :: st) Q :=
  fun L cA D p e s m args below meth c H locs ls C hP hD hS hl => lv_lmul C.1 C.2.1 d  (k L cA D p e s m args below meth c H locs ls C hP hD hS hl)
theorem J_ldiv {a b : Int64} (d : decode y.2.1 pc = .ok (.ldiv, 1)) (h : ¬ b = 0) (k : J l y I v u (pc + 1) lv (.long (a / b) :: st) Q) : J l y I v u pc lv (.long b :: .long a :: st) Q :=
  fun L cA D p e s m args below meth c H locs ls C hP hD hS hl => lv_ldiv C.1 C.2.1 d h (k L cA D p e s m args below meth c H locs ls C hP hD hS hl)
theorem J_i2l {a : Int32} (d : decode y.2.1 pc = .ok (.i2l, 1))  (k : J l y I v u (pc + 1) lv (.long a.toInt64 :: st) Q) : J l y I v u pc lv (.int a :: st) Q :=
  fun L cA D p e s m args below meth c H locs ls C hP hD hS hl => lv_i2l C.1 C.2.1 d rfl (k L cA D p e s m args below meth c H locs ls C hP hD hS hl)
theorem J_lcmp {a b : Int64} (d : decode y.2.1 pc = .ok (.lcmp, 1))  (k : J l y I v u (pc + 1) lv (.int (lg_cmp a b) :: st) Q) : J l y I v u pc lv (.long b :: .long a :: st) Q :=
  fun L cA D p e s m args below meth c H locs ls C hP hD hS hl => W.lcmp C.1 C.2.1 d  (k L cA D p e s m args below meth c H locs ls C hP hD hS hl)
theorem J_ishl {a b : Int32} (d : decode y.2.1 pc = .ok (.ishl, 1))  (k : J l y I v u (pc + 1) lv (.int (a <<< (b &&& 31)) :: st) Q) : J l y I v u pc lv (.int b :: .int a :: st) Q :=
  fun L cA D p e s m args below meth c H locs ls C hP hD hS hl => lv_ishl C.1 C.2.1 d  (k L cA D p e s m args below meth c H locs ls C hP hD hS hl)
theorem J_ishr {a b : Int32} (d : decode y.2.1 pc = .ok (.ishr, 1))  (k : J l y I v u (pc + 1) lv (.int (a >>> (b &&& 31)) :: st) Q) : J l y I v u pc lv (.int b :: .int a :: st) Q :=
  fun L cA D p e s m args below meth c H locs ls C hP hD hS hl => lv_ishr C.1 C.2.1 d  (k L cA D p e s m args below meth c H locs ls C hP hD hS hl)
theorem J_iushr {a b : Int32} (d : decode y.2.1 pc = .ok (.iushr, 1))  (k : J l y I v u (pc + 1) lv (.int ((a.toUInt32 >>> (b.toUInt32 &&& Int32.toUInt32 31)).toInt32) :: st) Q) : J l y I v u pc lv (.int b :: .int a :: st) Q :=
  fun L cA D p e s m args below meth c H locs ls C hP hD hS hl => lv_iushr C.1 C.2.1 d rfl (k L cA D p e s m args below meth c H locs ls C hP hD hS hl)
theorem J_dup {a : Value} (d : decode y.2.1 pc = .ok (.dup, 1)) (h : a.category = 1) (k : J l y I v u (pc + 1) lv (a :: a :: st) Q) : J l y I v u pc lv (a :: st) Q :=
  fun L cA D p e s m args below meth c H locs ls C hP hD hS hl => lv_dup C.1 C.2.1 d ((cv_cat L a).trans h) (k L cA D p e s m args below meth c H locs ls C hP hD hS hl)
theorem J_dup2 {a b : Value} (d : decode y.2.1 pc = .ok (.dup2, 1)) (h : a.category = 1) (h2 : b.category = 1) (k : J l y I v u (pc + 1) lv (a :: b :: a :: b :: st) Q) : J l y I v u pc lv (a :: b :: st) Q :=
  fun L cA D p e s m args below meth c H locs ls C hP hD hS hl => lv_dup2_11 C.1 C.2.1 d ((cv_cat L a).trans h) ((cv_cat L b).trans h2) (k L cA D p e s m args below meth c H locs ls C hP hD hS hl)
theorem J_pop {a : Value} (d : decode y.2.1 pc = .ok (.pop, 1)) (h : a.category = 1) (k : J l y I v u (pc + 1) lv st Q) : J l y I v u pc lv (a :: st) Q :=
  fun L cA D p e s m args below meth c H locs ls C hP hD hS hl => lv_pop C.1 C.2.1 d ((cv_cat L a).trans h) (k L cA D p e s m args below meth c H locs ls C hP hD hS hl)
theorem lv_atJ {L : Nat → Nat} {ls : Array Slot} {nL i : Nat} {x : Value} (h : lv_has ls nL (lv.map (cvp L))) (q : Nat) (hq : lv[q]? = some (i, x)) : ls[i]? = some (.val (cv L x)) := lv_at h q (by rw [List.getElem?_map, hq]; rfl)
theorem J_iload_n {n : Fin 4} {i : Nat} {x : Int32} (d : decode y.2.1 pc = .ok (.iload_n n, 1)) (hi : (n : Nat) = i) (q : Nat) (h : lv[q]? = some (i, .int x)) (k : J l y I v u (pc + 1) lv (.int x :: st) Q) : J l y I v u pc lv st Q :=
  fun L cA D p e s m args below meth c H locs ls C hP hD hS hl => lv_iload_n C.1 C.2.1 d hi (lv_atJ hl q h) (k L cA D p e s m args below meth c H locs ls C hP hD hS hl)
theorem J_iload {i : Nat} {x : Int32} (d : decode y.2.1 pc = .ok (.iload i, 2)) (q : Nat) (h : lv[q]? = some (i, .int x)) (k : J l y I v u (pc + 2) lv (.int x :: st) Q) : J l y I v u pc lv st Q :=
  fun L cA D p e s m args below meth c H locs ls C hP hD hS hl => lv_iload C.1 C.2.1 d (lv_atJ hl q h) (k L cA D p e s m args below meth c H locs ls C hP hD hS hl)
theorem J_aload_n {n : Fin 4} {i : Nat} {x : Nat} (d : decode y.2.1 pc = .ok (.aload_n n, 1)) (hi : (n : Nat) = i) (q : Nat) (h : lv[q]? = some (i, .ref x)) (k : J l y I v u (pc + 1) lv (.ref x :: st) Q) : J l y I v u pc lv st Q :=
  fun L cA D p e s m args below meth c H locs ls C hP hD hS hl => lv_aload_n C.1 C.2.1 d hi (lv_atJ hl q h) (k L cA D p e s m args below meth c H locs ls C hP hD hS hl)
theorem J_aload {i : Nat} {x : Nat} (d : decode y.2.1 pc = .ok (.aload i, 2)) (q : Nat) (h : lv[q]? = some (i, .ref x)) (k : J l y I v u (pc + 2) lv (.ref x :: st) Q) : J l y I v u pc lv st Q :=
  fun L cA D p e s m args below meth c H locs ls C hP hD hS hl => lv_aload C.1 C.2.1 d (lv_atJ hl q h) (k L cA D p e s m args below meth c H locs ls C hP hD hS hl)
theorem J_lload_n {n : Fin 4} {i : Nat} {x : Int64} (d : decode y.2.1 pc = .ok (.lload_n n, 1)) (hi : (n : Nat) = i) (q : Nat) (h : lv[q]? = some (i, .long x)) (k : J l y I v u (pc + 1) lv (.long x :: st) Q) : J l y I v u pc lv st Q :=
  fun L cA D p e s m args below meth c H locs ls C hP hD hS hl => lv_lload_n C.1 C.2.1 d hi (lv_atJ hl q h) (k L cA D p e s m args below meth c H locs ls C hP hD hS hl)
theorem J_lload {i : Nat} {x : Int64} (d : decode y.2.1 pc = .ok (.lload i, 2)) (q : Nat) (h : lv[q]? = some (i, .long x)) (k : J l y I v u (pc + 2) lv (.long x :: st) Q) : J l y I v u pc lv st Q :=
  fun L cA D p e s m args below meth c H locs ls C hP hD hS hl => lv_lload C.1 C.2.1 d (lv_atJ hl q h) (k L cA D p e s m args below meth c H locs ls C hP hD hS hl)
theorem J_aload_nN {n : Fin 4} {i : Nat} (d : decode y.2.1 pc = .ok (.aload_n n, 1)) (hi : (n : Nat) = i) (q : Nat) (h : lv[q]? = some (i, .null)) (k : J l y I v u (pc + 1) lv (.null :: st) Q) : J l y I v u pc lv st Q :=
  fun L cA D p e s m args below meth c H locs ls C hP hD hS hl => lv_aload_nN C.1 C.2.1 d hi (lv_atJ hl q h) (k L cA D p e s m args below meth c H locs ls C hP hD hS hl)
theorem J_istore_n {n : Fin 4} {i : Nat} {x : Int32} {lv' : List (Nat × Value)} (d : decode y.2.1 pc = .ok (.istore_n n, 1)) (hi : (n : Nat) = i) (hn : i < y.2.2.1) (h : (i, Value.int x) :: lv.filter (fun q => !(q.1 == i) && !(q.1 + 1 == i && q.2.category == 2)) = lv') (k : J l y I v u (pc + 1) lv' st Q) : J l y I v u pc lv (.int x :: st) Q := by
  subst h
  exact fun L cA D p e s m args below meth c H locs ls C hP hD hS hl => lv_istore_n (lv' := (((i, Value.int x) :: lv.filter (fun q => !(q.1 == i) && !(q.1 + 1 == i && q.2.category == 2))).map (cvp L))) C.1 C.2.1 d hi hl hn (congrArg (List.cons _) (cvp_filter L (fun a b => !(a == i) && !(a + 1 == i && b == 2)) lv)) (fun ls hl => k L cA D p e s m args below meth c H locs ls C hP hD hS hl)
theorem J_istore {i : Nat} {x : Int32} {lv' : List (Nat × Value)} (d : decode y.2.1 pc = .ok (.istore i, 2)) (hn : i < y.2.2.1) (h : (i, Value.int x) :: lv.filter (fun q => !(q.1 == i) && !(q.1 + 1 == i && q.2.category == 2)) = lv') (k : J l y I v u (pc + 2) lv' st Q) : J l y I v u pc lv (.int x :: st) Q := by
  subst h
  exact fun L cA D p e s m args below meth c H locs ls C hP hD hS hl => lv_istore (lv' := (((i, Value.int x) :: lv.filter (fun q => !(q.1 == i) && !(q.1 + 1 == i && q.2.category == 2))).map (cvp L))) C.1 C.2.1 d hl hn (congrArg (List.cons _) (cvp_filter L (fun a b => !(a == i) && !(a + 1 == i && b == 2)) lv)) (fun ls hl => k L cA D p e s m args below meth c H locs ls C hP hD hS hl)
theorem J_astore_n {n : Fin 4} {i : Nat} {x : Nat} {lv' : List (Nat × Value)} (d : decode y.2.1 pc = .ok (.astore_n n, 1)) (hi : (n : Nat) = i) (hn : i < y.2.2.1) (h : (i, Value.ref x) :: lv.filter (fun q => !(q.1 == i) && !(q.1 + 1 == i && q.2.category == 2)) = lv') (k : J l y I v u (pc + 1) lv' st Q) : J l y I v u pc lv (.ref x :: st) Q := by
  subst h
  exact fun L cA D p e s m args below meth c H locs ls C hP hD hS hl => lv_astore_n (lv' := (((i, Value.ref x) :: lv.filter (fun q => !(q.1 == i) && !(q.1 + 1 == i && q.2.category == 2))).map (cvp L))) C.1 C.2.1 d hi hl hn (congrArg (List.cons _) (cvp_filter L (fun a b => !(a == i) && !(a + 1 == i && b == 2)) lv)) (fun ls hl => k L cA D p e s m args below meth c H locs ls C hP hD hS hl)
theorem J_astore {i : Nat} {x : Nat} {lv' : List (Nat × Value)} (d : decode y.2.1 pc = .ok (.astore i, 2)) (hn : i < y.2.2.1) (h : (i, Value.ref x) :: lv.filter (fun q => !(q.1 == i) && !(q.1 + 1 == i && q.2.category == 2)) = lv') (k : J l y I v u (pc + 2) lv' st Q) : J l y I v u pc lv (.ref x :: st) Q := by
  subst h
  exact fun L cA D p e s m args below meth c H locs ls C hP hD hS hl => lv_astore (lv' := (((i, Value.ref x) :: lv.filter (fun q => !(q.1 == i) && !(q.1 + 1 == i && q.2.category == 2))).map (cvp L))) C.1 C.2.1 d hl hn (congrArg (List.cons _) (cvp_filter L (fun a b => !(a == i) && !(a + 1 == i && b == 2)) lv)) (fun ls hl => k L cA D p e s m args below meth c H locs ls C hP hD hS hl)
theorem J_lstore_n {n : Fin 4} {i : Nat} {x : Int64} {lv' : List (Nat × Value)} (d : decode y.2.1 pc = .ok (.lstore_n n, 1)) (hi : (n : Nat) = i) (hn : i + 1 < y.2.2.1) (h : (i, Value.long x) :: lv.filter (fun q => !(q.1 == i) && (!(q.1 == i + 1) && !(q.1 + 1 == i && q.2.category == 2))) = lv') (k : J l y I v u (pc + 1) lv' st Q) : J l y I v u pc lv (.long x :: st) Q := by
  subst h
  exact fun L cA D p e s m args below meth c H locs ls C hP hD hS hl => lv_lstore_n (lv' := (((i, Value.long x) :: lv.filter (fun q => !(q.1 == i) && (!(q.1 == i + 1) && !(q.1 + 1 == i && q.2.category == 2)))).map (cvp L))) C.1 C.2.1 d hi hl hn (congrArg (List.cons _) (cvp_filter L (fun a b => !(a == i) && (!(a == i + 1) && !(a + 1 == i && b == 2))) lv)) (fun ls hl => k L cA D p e s m args below meth c H locs ls C hP hD hS hl)
theorem J_lstore {i : Nat} {x : Int64} {lv' : List (Nat × Value)} (d : decode y.2.1 pc = .ok (.lstore i, 2)) (hn : i + 1 < y.2.2.1) (h : (i, Value.long x) :: lv.filter (fun q => !(q.1 == i) && (!(q.1 == i + 1) && !(q.1 + 1 == i && q.2.category == 2))) = lv') (k : J l y I v u (pc + 2) lv' st Q) : J l y I v u pc lv (.long x :: st) Q := by
  subst h
  exact fun L cA D p e s m args below meth c H locs ls C hP hD hS hl => lv_lstore (lv' := (((i, Value.long x) :: lv.filter (fun q => !(q.1 == i) && (!(q.1 == i + 1) && !(q.1 + 1 == i && q.2.category == 2)))).map (cvp L))) C.1 C.2.1 d hl hn (congrArg (List.cons _) (cvp_filter L (fun a b => !(a == i) && (!(a == i + 1) && !(a + 1 == i && b == 2))) lv)) (fun ls hl => k L cA D p e s m args below meth c H locs ls C hP hD hS hl)
theorem J_iinc {i q : Nat} {n : Int} {x z : Int32} {lv' : List (Nat × Value)} (d : decode y.2.1 pc = .ok (.iinc i n, 3)) (hq : lv[q]? = some (i, .int x)) (hz : x + Int32.ofInt n = z) (hn : i < y.2.2.1) (h : (i, Value.int z) :: lv.filter (fun q => !(q.1 == i) && !(q.1 + 1 == i && q.2.category == 2)) = lv') (k : J l y I v u (pc + 3) lv' st Q) : J l y I v u pc lv st Q := by
  subst h
  exact fun L cA D p e s m args below meth c H locs ls C hP hD hS hl => lv_iinc (k := q) (v := z) (lv' := (((i, Value.int z) :: lv.filter (fun q => !(q.1 == i) && !(q.1 + 1 == i && q.2.category == 2))).map (cvp L))) C.1 C.2.1 d hl (by rw [List.getElem?_map, hq]; rfl) hz hn (congrArg (List.cons _) (cvp_filter L (fun a b => !(a == i) && !(a + 1 == i && b == 2)) lv)) (fun ls hl => k L cA D p e s m args below meth c H locs ls C hP hD hS hl)
theorem J_lv {lv' : List (Nat × Value)} (ks : List Nat) (h : lv_pick lv ks = lv') (k : J l y I v u pc lv' st Q) : J l y I v u pc lv st Q := by
  subst h
  refine fun L cA D p e s m args below meth c H locs ls C hP hD hS hl => k L cA D p e s m args below meth c H locs ls C hP hD hS (lv_sub hl ks ?_)
  unfold lv_pick
  rw [List.map_filterMap]
  congr 1
  funext i
  rw [List.getElem?_map]
theorem J_icmp_eq {a b : Int32} {off : Int} {tgt : Nat} (d : decode y.2.1 pc = .ok (.if_icmp .eq off, 3)) (ht : (pc : Int) + off = (tgt : Int)) (kt : a = b → J l y I v u tgt lv st Q) (kf : ¬ (a = b) → J l y I v u (pc + 3) lv st Q) : J l y I v u pc lv (.int b :: .int a :: st) Q :=
  fun L cA D p e s m args below meth c H locs ls C hP hD hS hl => lv_icmp_eq C.1 C.2.1 d ht (fun h => kt h L cA D p e s m args below meth c H locs ls C hP hD hS hl) (fun h => kf h L cA D p e s m args below meth c H locs ls C hP hD hS hl)
theorem J_if_eq {a : Int32} {off : Int} {tgt : Nat} (d : decode y.2.1 pc = .ok (.ifCond .eq off, 3)) (ht : (pc : Int) + off = (tgt : Int)) (kt : a = 0 → J l y I v u tgt lv st Q) (kf : ¬ (a = 0) → J l y I v u (pc + 3) lv st Q) : J l y I v u pc lv (.int a :: st) Q :=
  fun L cA D p e s m args below meth c H locs ls C hP hD hS hl => lv_if_eq C.1 C.2.1 d ht (fun h => kt h L cA D p e s m args below meth c H locs ls C hP hD hS hl) (fun h => kf h L cA D p e s m args below meth c H locs ls C hP hD hS hl)
theorem J_icmp_ne {a b : Int32} {off : Int} {tgt : Nat} (d : decode y.2.1 pc = .ok (.if_icmp .ne off, 3)) (ht : (pc : Int) + off = (tgt : Int)) (kt : ¬ a = b → J l y I v u tgt lv st Q) (kf : a = b → J l y I v u (pc + 3) lv st Q) : J l y I v u pc lv (.int b :: .int a :: st) Q :=
  fun L cA D p e s m args below meth c H locs ls C hP hD hS hl => lv_icmp_ne C.1 C.2.1 d ht (fun h => kt h L cA D p e s m args below meth c H locs ls C hP hD hS hl) (fun h => kf h L cA D p e s m args below meth c H locs ls C hP hD hS hl)
theorem J_if_ne {a : Int32} {off : Int} {tgt : Nat} (d : decode y.2.1 pc = .ok (.ifCond .ne off, 3)) (ht : (pc : Int) + off = (tgt : Int)) (kt : ¬ a = 0 → J l y I v u tgt lv st Q) (kf : a = 0 → J l y I v u (pc + 3) lv st Q) : J l y I v u pc lv (.int a :: st) Q :=
  fun L cA D p e s m args below meth c H locs ls C hP hD hS hl => lv_if_ne C.1 C.2.1 d ht (fun h => kt h L cA D p e s m args below meth c H locs ls C hP hD hS hl) (fun h => kf h L cA D p e s m args below meth c H locs ls C hP hD hS hl)
theorem J_icmp_lt {a b : Int32} {off : Int} {tgt : Nat} (d : decode y.2.1 pc = .ok (.if_icmp .lt off, 3)) (ht : (pc : Int) + off = (tgt : Int)) (kt : a < b → J l y I v u tgt lv st Q) (kf : ¬ (a < b) → J l y I v u (pc + 3) lv st Q) : J l y I v u pc lv (.int b :: .int a :: st) Q :=
  fun L cA D p e s m args below meth c H locs ls C hP hD hS hl => lv_icmp_lt C.1 C.2.1 d ht (fun h => kt h L cA D p e s m args below meth c H locs ls C hP hD hS hl) (fun h => kf h L cA D p e s m args below meth c H locs ls C hP hD hS hl)
theorem J_if_lt {a : Int32} {off : Int} {tgt : Nat} (d : decode y.2.1 pc = .ok (.ifCond .lt off, 3)) (ht : (pc : Int) + off = (tgt : Int)) (kt : a < 0 → J l y I v u tgt lv st Q) (kf : ¬ (a < 0) → J l y I v u (pc + 3) lv st Q) : J l y I v u pc lv (.int a :: st) Q :=
  fun L cA D p e s m args below meth c H locs ls C hP hD hS hl => lv_if_lt C.1 C.2.1 d ht (fun h => kt h L cA D p e s m args below meth c H locs ls C hP hD hS hl) (fun h => kf h L cA D p e s m args below meth c H locs ls C hP hD hS hl)
theorem J_icmp_ge {a b : Int32} {off : Int} {tgt : Nat} (d : decode y.2.1 pc = .ok (.if_icmp .ge off, 3)) (ht : (pc : Int) + off = (tgt : Int)) (kt : b ≤ a → J l y I v u tgt lv st Q) (kf : ¬ (b ≤ a) → J l y I v u (pc + 3) lv st Q) : J l y I v u pc lv (.int b :: .int a :: st) Q :=
  fun L cA D p e s m args below meth c H locs ls C hP hD hS hl => lv_icmp_ge C.1 C.2.1 d ht (fun h => kt h L cA D p e s m args below meth c H locs ls C hP hD hS hl) (fun h => kf h L cA D p e s m args below meth c H locs ls C hP hD hS hl)
theorem J_if_ge {a : Int32} {off : Int} {tgt : Nat} (d : decode y.2.1 pc = .ok (.ifCond .ge off, 3)) (ht : (pc : Int) + off = (tgt : Int)) (kt : 0 ≤ a → J l y I v u tgt lv st Q) (kf : ¬ (0 ≤ a) → J l y I v u (pc + 3) lv st Q) : J l y I v u pc lv (.int a :: st) Q :=
  fun L cA D p e s m args below meth c H locs ls C hP hD hS hl => lv_if_ge C.1 C.2.1 d ht (fun h => kt h L cA D p e s m args below meth c H locs ls C hP hD hS hl) (fun h => kf h L cA D p e s m args below meth c H locs ls C hP hD hS hl)
theorem J_icmp_gt {a b : Int32} {off : Int} {tgt : Nat} (d : decode y.2.1 pc = .ok (.if_icmp .gt off, 3)) (ht : (pc : Int) + off = (tgt : Int)) (kt : b < a → J l y I v u tgt lv st Q) (kf : ¬ (b < a) → J l y I v u (pc + 3) lv st Q) : J l y I v u pc lv (.int b :: .int a :: st) Q :=
  fun L cA D p e s m args below meth c H locs ls C hP hD hS hl => lv_icmp_gt C.1 C.2.1 d ht (fun h => kt h L cA D p e s m args below meth c H locs ls C hP hD hS hl) (fun h => kf h L cA D p e s m args below meth c H locs ls C hP hD hS hl)
theorem J_if_gt {a : Int32} {off : Int} {tgt : Nat} (d : decode y.2.1 pc = .ok (.ifCond .gt off, 3)) (ht : (pc : Int) + off = (tgt : Int)) (kt : 0 < a → J l y I v u tgt lv st Q) (kf : ¬ (0 < a) → J l y I v u (pc + 3) lv st Q) : J l y I v u pc lv (.int a :: st) Q :=
  fun L cA D p e s m args below meth c H locs ls C hP hD hS hl => lv_if_gt C.1 C.2.1 d ht (fun h => kt h L cA D p e s m args below meth c H locs ls C hP hD hS hl) (fun h => kf h L cA D p e s m args below meth c H locs ls C hP hD hS hl)
theorem J_icmp_le {a b : Int32} {off : Int} {tgt : Nat} (d : decode y.2.1 pc = .ok (.if_icmp .le off, 3)) (ht : (pc : Int) + off = (tgt : Int)) (kt : a ≤ b → J l y I v u tgt lv st Q) (kf : ¬ (a ≤ b) → J l y I v u (pc + 3) lv st Q) : J l y I v u pc lv (.int b :: .int a :: st) Q :=
  fun L cA D p e s m args below meth c H locs ls C hP hD hS hl => lv_icmp_le C.1 C.2.1 d ht (fun h => kt h L cA D p e s m args below meth c H locs ls C hP hD hS hl) (fun h => kf h L cA D p e s m args below meth c H locs ls C hP hD hS hl)
theorem J_if_le {a : Int32} {off : Int} {tgt : Nat} (d : decode y.2.1 pc = .ok (.ifCond .le off, 3)) (ht : (pc : Int) + off = (tgt : Int)) (kt : a ≤ 0 → J l y I v u tgt lv st Q) (kf : ¬ (a ≤ 0) → J l y I v u (pc + 3) lv st Q) : J l y I v u pc lv (.int a :: st) Q :=
  fun L cA D p e s m args below meth c H locs ls C hP hD hS hl => lv_if_le C.1 C.2.1 d ht (fun h => kt h L cA D p e s m args below meth c H locs ls C hP hD hS hl) (fun h => kf h L cA D p e s m args below meth c H locs ls C hP hD hS hl)
theorem J_goto {off : Int} {tgt : Nat} (d : decode y.2.1 pc = .ok (.goto off, 3)) (ht : (pc : Int) + off = (tgt : Int)) (k : J l y I v u tgt lv st Q) : J l y I v u pc lv st Q :=
  fun L cA D p e s m args below meth c H locs ls C hP hD hS hl => lv_goto C.1 C.2.1 d ht (k L cA D p e s m args below meth c H locs ls C hP hD hS hl)
theorem J_tableOut {dflt lo hi : Int} {offs : Array Int} {len : Nat} {x : Int32} {tgt : Nat} (d : decode y.2.1 pc = .ok (.tableswitch dflt lo hi offs, len)) (h : x.toInt < lo ∨ hi < x.toInt) (ht : (pc : Int) + dflt = (tgt : Int)) (k : J l y I v u tgt lv st Q) : J l y I v u pc lv (.int x :: st) Q :=
  fun L cA D p e s m args below meth c H locs ls C hP hD hS hl => lv_tableOut C.1 C.2.1 d h ht (k L cA D p e s m args below meth c H locs ls C hP hD hS hl)
theorem J_tableIn {dflt lo hi : Int} {offs : Array Int} {len : Nat} {x : Int32} {off : Int} {tgt : Nat} (d : decode y.2.1 pc = .ok (.tableswitch dflt lo hi offs, len)) (h1 : ¬ x.toInt < lo) (h2 : ¬ hi < x.toInt) (ho : offs[(x.toInt - lo).toNat]? = some off) (ht : (pc : Int) + off = (tgt : Int)) (k : J l y I v u tgt lv st Q) : J l y I v u pc lv (.int x :: st) Q :=
  fun L cA D p e s m args below meth c H locs ls C hP hD hS hl => lv_tableIn C.1 C.2.1 d h1 h2 ho ht (k L cA D p e s m args below meth c H locs ls C hP hD hS hl)
theorem J_ldc {idx : Nat} {x : Int32} (d : decode y.2.1 pc = .ok (.ldc idx, 2)) (hw : Cond.constant y.1.cls idx x ∈ gt) (k : J l y I v u (pc + 2) lv (.int x :: st) Q) : J l y I v u pc lv st Q :=
  fun L cA D p e s m args below meth c H locs ls C hP hD hS hl => lv_ldc C.1 C.2.1 C.2.2.2.2.1 (C.2.2.2.2.2.2.1 _ hw) d (k L cA D p e s m args below meth c H locs ls C hP hD hS hl)
theorem J_ldc2 {idx : Nat} {x : Int64} (d : decode y.2.1 pc = .ok (.ldc2_w idx, 3)) (hw : Cond.constantLong y.1.cls idx x ∈ gt) (k : J l y I v u (pc + 3) lv (.long x :: st) Q) : J l y I v u pc lv st Q :=
  fun L cA D p e s m args below meth c H locs ls C hP hD hS hl => lv_ldc2 C.1 C.2.1 C.2.2.2.2.1 (C.2.2.2.2.2.2.1 _ hw) d (k L cA D p e s m args below meth c H locs ls C hP hD hS hl)
theorem J_topi {a : Int32} (k : ∀ z : Int32, z = a → J l y I v u pc lv (.int z :: st) Q) : J l y I v u pc lv (.int a :: st) Q := k a rfl
theorem J_pc {pc2 : Nat} (h : pc = pc2) (k : J l y I v u pc2 lv st Q) : J l y I v u pc lv st Q := by subst h; exact k
theorem J_topl {a : Int64} (k : ∀ z : Int64, z = a → J l y I v u pc lv (.long z :: st) Q) : J l y I v u pc lv (.long a :: st) Q := k a rfl
theorem J_vn (k : ∀ w : fr_V, w = v → J l y I w u pc lv st Q) : J l y I v u pc lv st Q := k v rfl
theorem J_un (k : ∀ w : fr_U, w = u → J l y I v w pc lv st Q) : J l y I v u pc lv st Q := k u rfl
theorem J_irem {a b : Int32} (d : decode y.2.1 pc = .ok (.irem, 1)) (h : ¬ b = 0) (k : J l y I v u (pc + 1) lv (.int (a - a / b * b) :: st) Q) : J l y I v u pc lv (.int b :: .int a :: st) Q :=
  fun L cA D p e s m args below meth c H locs ls C hP hD hS hl => lv_irem C.1 C.2.1 d h (k L cA D p e s m args below meth c H locs ls C hP hD hS hl)
end FRJ
