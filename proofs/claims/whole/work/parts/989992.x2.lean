/-! 'throw new X("text")' where X's own constructor calls its super Y by the entry ix, and Y and those above it do by 7 (java.util.NoSuchElementException: ix = 13). The library's laws are named; what they want of the words is put together here. -/
section NX
/-- the fields of Throwable that a cell of X lays -/
def nx_fs : List (String × String) := [("cause", "Ljava/lang/Throwable;"), ("stackTrace", Bundle.steD), ("suppressedExceptions", Bundle.listD), ("detailMessage", "Ljava/lang/String;"), ("backtrace", "Ljava/lang/Object;")]
/-- the words of X itself -/
def nx_own (own : String) (ic : Nat) (X : String) : List Cond :=
  Cond.methodLink own ic (Bundle.initS X) :: Cond.instantiable X 6 :: Cond.selects X Bundle.tFill0 Bundle.tFill0 :: Cond.selects X Bundle.tFill Bundle.tFill ::
  Cond.isRef (.static Bundle.tN "UNASSIGNED_STACK" Bundle.steD) :: Cond.isRef (.static Bundle.tN "SUPPRESSED_SENTINEL" Bundle.listD) ::
  Cond.fieldLink Bundle.tN 198 Bundle.tN "backtrace" "Ljava/lang/Object;" :: Cond.lays Bundle.tN Bundle.tN "backtrace" "Ljava/lang/Object;" :: nx_fs.map (fun f => Cond.lays X Bundle.tN f.1 f.2)
def nx_ws (own : String) (ic : Nat) (X Y : String) (ix : Nat) (rx : ByteArray) (up : List String) : List Cond :=
  Bundle.throwableAtoms ++ (Bundle.throwableSAtoms ++ (Bundle.passSAtoms X Y ix rx ++ (Bundle.chainSAtoms Y up ++ nx_own own ic X)))
theorem nx_split {args : Array Value} {s : State} {own X Y : String} {ic ix : Nat} {rx : ByteArray} {up : List String} (h : ∀ w ∈ nx_ws own ic X Y ix rx up, w.before args s = true) :
    (∀ w ∈ Bundle.throwableAtoms, w.before args s = true) ∧ (∀ w ∈ Bundle.throwableSAtoms, w.before args s = true) ∧ (∀ w ∈ Bundle.passSAtoms X Y ix rx, w.before args s = true) ∧ (∀ w ∈ Bundle.chainSAtoms Y up, w.before args s = true) ∧ ∀ w ∈ nx_own own ic X, w.before args s = true := by
  unfold nx_ws at h
  obtain ⟨h1, h⟩ := List.forall_mem_append.mp h
  obtain ⟨h2, h⟩ := List.forall_mem_append.mp h
  obtain ⟨h3, h⟩ := List.forall_mem_append.mp h
  obtain ⟨h4, h⟩ := List.forall_mem_append.mp h
  exact ⟨h1, h2, h3, h4, h⟩
/-- the word at the i-th place -/
theorem nx_at {args : Array Value} {s : State} {L : List Cond} (h : ∀ w ∈ L, w.before args s = true) (i : Nat) {w : Cond} (e : L[i]? = some w) : w.before args s = true := h w (List.mem_of_getElem? e)
/-- the row of constructors, X first -/
theorem nx_row {args : Array Value} {s : State} {pl : Platform} {top : MethodId} {X Y : String} {ix : Nat} {rx : ByteArray} {up : List String} (hpl : pl.magicAccessors = ({} : Platform).magicAccessors) (ht : s.methodNamed? (Bundle.initS Bundle.tN) = some top)
    (hx : decode rx 0 = .ok (.aload_n 0, 1) ∧ decode rx 1 = .ok (.aload_n 1, 1) ∧ decode rx 2 = .ok (.invokespecial ix, 3) ∧ decode rx 5 = .ok (.return_, 1)) (fX : Bundle.fit X = true) (fY : Bundle.fit Y = true) (fU : ∀ n ∈ up, Bundle.fit n = true)
    (h1 : ∀ w ∈ Bundle.passSAtoms X Y ix rx, w.before args s = true) (h2 : ∀ w ∈ Bundle.chainSAtoms Y up, w.before args s = true) :
    ∃ (P : PassC) (Qs : List PassC), s.methodNamed? (Bundle.initS X) = some P.m ∧ Qs.length = up.length + 1 ∧ (∀ q, q ∈ P :: Qs → q.LinksS pl s) ∧ PassesOn top ((P :: Qs).map (fun q => q.toPassT)) := by
  obtain ⟨Q, Qs, hn, kQ, kQs, mQ, e1, e2⟩ := Bundle.chainS hpl ht up Y fY fU h2
  obtain ⟨P, kP, mP, mS⟩ := PassC.ofS_atoms hpl (Bundle.fit_spec fX).1 (Bundle.fit_spec fY).2 hx.1 hx.2.1 hx.2.2.1 hx.2.2.2 h1
  have e0 : P.sup = Q.m := Option.some.inj (mS.symm.trans mQ)
  exact ⟨P, Q :: Qs, mP, congrArg Nat.succ hn, List.forall_mem_cons.mpr ⟨kP, List.forall_mem_cons.mpr ⟨kQ, kQs⟩⟩, e0, e1, e2⟩
/-- cX lays the field f -/
def nx_L (s : State) (cX : ClassId) (k : Class) (f : Field) : Prop := k.instanceTypes[f.slot]? = some f.type ∧ ∃ d, Jmm.declares? s.vm f.slot (cX + 1) cX = some d ∧ d.2.name = f.name
theorem nx_L.ne {s : State} {cX : ClassId} {k : Class} {f g : Field} (hf : nx_L s cX k f) (hg : nx_L s cX k g) (h : f.name ≠ g.name) : f.slot ≠ g.slot := by
  obtain ⟨-, d1, a1, b1⟩ := hf
  obtain ⟨-, d2, a2, b2⟩ := hg
  exact Cond.laysApart a1 a2 b1 b2 h
/-- what the three stores of Throwable's constructor leave alone -/
theorem nx_prep (T : ThrowableT) (x : Cell) (a : Addr) (u0 sen : RefV) {j : Nat} (h1 : T.fCause.slot ≠ j) (h2 : T.fStack.slot ≠ j) (h3 : T.fSupp.slot ≠ j) : (preparedCellV T x a u0 sen).slots[j]? = x.slots[j]? := by
  show (((x.slots.setIfInBounds T.fCause.slot (.ref a)).setIfInBounds T.fStack.slot u0.v).setIfInBounds T.fSupp.slot sen.v)[j]? = _
  rw [Array.getElem?_setIfInBounds_ne h3, Array.getElem?_setIfInBounds_ne h2, Array.getElem?_setIfInBounds_ne h1]
theorem nx_base {a : Addr} (js : List Nat) : ∀ x ∈ js.map (fun j => (⟨a, j⟩ : Loc)), x.base = a := by
  intro x hx
  obtain ⟨j, -, e⟩ := List.mem_map.mp hx
  rw [← e]
variable {p : Program} {l : Launch} {e : Env} {R : Room} {s : State} {m : MethodId} {args : Array Value} {below : List Frame} {meth : Method} {c : Code} {W : State} {cells slots : Nat}
/-- an old cell stands as it was, where nothing old was written -/
theorem nx_keep (X : Stand p l e R s m args below meth c W [] cells slots) {q : Addr} {x : Cell} (h : s.heap[q]? = some x) : W.heap[q]? = some x := by
  obtain ⟨y, hy, e1, -, e3⟩ := X.same.2.2.2.2.2 q x h
  have e4 : y.slots = x.slots := Array.ext_getElem? (fun i => e3 i List.not_mem_nil)
  exact hy.trans (congrArg some (e1.trans (congrArg (fun z => ({ x with slots := z } : Cell)) e4)))
/-- X's word 'selects' for a method of Throwable -/
theorem nx_sel {X : String} {cX : ClassId} {t : MethodName} {r : MethodId} (ha : l.admits e) (hX : s.vm.findClass X = some cX) (ht : s.methodNamed? t = some r) (hn : t.cls ≠ "java/lang/invoke/MethodHandle" ∧ t.cls ≠ "java/lang/invoke/VarHandle") (h : (Cond.selects X t t).before args s = true) : selectMethod e.platform s.vm cX r = .method r := by
  obtain ⟨c', r', m', a1, a2, a3, a4, -⟩ := Cond.selects_spec h
  have e1 : cX = c' := Option.some.inj (hX.symm.trans a1)
  have e2 : r = r' := Option.some.inj ((State.methodFound?_of_named ht hn).symm.trans a2)
  have e3 : r = m' := Option.some.inj (ht.symm.trans a3)
  rw [Launch.admits_selectMethod ha]
  subst e1 e2 e3
  exact a4
theorem nx_throw (X : Stand p l e R s m args below meth c W [] cells slots) (hexec : p.tables.exec = Jvm.exec) (htr : e.platform.stackTraces = false) {own cls sup : String} {up : List String} {ic ix : Nat} {rx : ByteArray}
    (hx : decode rx 0 = .ok (.aload_n 0, 1) ∧ decode rx 1 = .ok (.aload_n 1, 1) ∧ decode rx 2 = .ok (.invokespecial ix, 3) ∧ decode rx 5 = .ok (.return_, 1)) (hown : s.vm.findClass own = some m.cls) (fX : Bundle.fit cls = true) (fY : Bundle.fit sup = true) (fU : ∀ n ∈ up, Bundle.fit n = true)
    (h : ∀ w ∈ nx_ws own ic cls sup ix rx up, w.before args s = true) {a sa : Addr} {cX : ClassId} {k : Class} (hX : s.vm.findClass cls = some cX) (hk : s.vm.classes[cX]? = some k) (hcell : W.heap[a]? = some (freshCell cX k)) (hnew : s.heap.size ≤ a)
    {pc : Nat} {ls : Array Slot} {rest : List Value} (hsize : ls.size = c.maxLocals) (d1 : decode c.code pc = .ok (.invokespecial ic, 3)) (d2 : decode c.code (pc + 3) = .ok (.athrow, 1)) (hout : ∀ x ∈ c.exceptionTable.toList, covers x (pc + 3) = false)
    (hF : up.length + 4 < R.frames) (hL : (rest.map fun v => v.category).sum + (13 * (up.length + 2) + 43) ≤ R.locals) (hlocks : meth.locks = false) :
    ∃ U : State, Steps p.tables e below (W.setTop (F0 m pc ls (.ref sa :: .ref a :: .ref a :: rest))) U ∧ U.status = .running ∧ Ended U below (.threw a) ∧ s.WarmedH U.vm ∧ s.sameButNew ({ U with vm := s.vm } : State) [] cells slots ∧
      ∃ ce, U.heap[a]? = some ce ∧ ce.vm = .none ∧ s.vm.findClass cls = some ce.cls := by
  have hpf := X.admits.platform
  have hpl : e.platform.magicAccessors = ({} : Platform).magicAccessors := by rw [hpf]
  obtain ⟨wT, wS, wP, wC, wO⟩ := nx_split h
  -- Throwable, its constructor, and the row of constructors below it
  obtain ⟨T, Z0, kT, -, Y⟩ := ThrowableC.of_atoms (by rw [hpf]) (by rw [hpf]) hpl wT
  obtain ⟨Z, M, kZ, kM, nZ⟩ := Init0T.ofS_atoms hpl kT Y wS
  obtain ⟨P, Qs, mP, nQ, kQ, oQ⟩ := nx_row hpl nZ hx fX fY fU wP wC
  -- the cell
  obtain ⟨c1, k1, g1, g2, hord, -, -, -⟩ := Cond.instantiable_spec (nx_at wO 1 rfl)
  rw [hX] at g1
  rw [← Option.some.inj g1, hk] at g2
  rw [← Option.some.inj g2] at hord
  obtain ⟨ci, i, fB, b1, b2, b3, b4, -, nB, tB, sB⟩ := Cond.ownField (t := .object "java/lang/Object") Y.found kT.cls (by decide +kernel) (nx_at wO 6 rfl) (nx_at wO 7 rfl) e.platform hpl
  obtain ⟨iM, sM⟩ := Y.msg
  have lC : nx_L s cX k T.fCause := Cond.laysAt hX hk Y.cause (nx_at wO 8 rfl)
  have lS : nx_L s cX k T.fStack := Cond.laysAt hX hk Y.stack (nx_at wO 9 rfl)
  have lP : nx_L s cX k T.fSupp := Cond.laysAt hX hk Y.supp (nx_at wO 10 rfl)
  have lM : nx_L s cX k T.fMsg := Cond.laysAt hX hk sM (nx_at wO 11 rfl)
  have lB : nx_L s cX k fB := Cond.laysAt hX hk sB (nx_at wO 12 rfl)
  -- the statics of Throwable
  obtain ⟨x0, hx0, hst⟩ := Y.statics
  obtain ⟨u0, hu⟩ := Cond.staticRefV Y.unassigned kT.unassignedStatic kT.statics hx0 hst (nx_at wO 4 rfl)
  obtain ⟨sen, hn⟩ := Cond.staticRefV Y.sentinel kT.sentinelStatic kT.statics hx0 hst (nx_at wO 5 rfl)
  have hne : T.aS ≠ a := Nat.ne_of_lt (Nat.lt_of_lt_of_le (Array.getElem?_eq_some_iff.mp hx0).1 hnew)
  have hun : x0.vm ≠ .unknown := fun q => by rw [q] at hst; cases hst
  have hskip : SkipFacts T e.platform s (fun u => u) u0 ((preparedCellV T.toThrowableT (freshCell cX k) a u0 sen).withEntry W.cur) := by
    refine ⟨⟨ci, i, fB⟩, ⟨b1, b2, b3, b4⟩, ?_, fun _ _ => rfl⟩
    show (preparedCellV T.toThrowableT (freshCell cX k) a u0 sen).slots[fB.slot]? = _
    rw [nx_prep _ _ _ _ _ (lC.ne lB (by rw [Y.causeName, nB]; decide)) (lS.ne lB (by rw [Y.stackName, nB]; decide)) (lP.ne lB (by rw [Y.suppName, nB]; decide)), fresh_default lB.1, tB]
    rfl
  -- the call of X's constructor
  obtain ⟨tm, me0, cd0, k0, V, nT, -, -, -, -, -, -, -, hV, call⟩ := Steps.initColdS (U := W) X.here hexec X.warmed hpl hown (t := Bundle.initS cls) rfl rfl (Bundle.fit_spec fX).2 (nx_at wO 0 rfl) (nx_at wP 0 rfl) (bytes := rx) (maxL := 2) (nx_at wP 1 rfl)
    (f := F0 m pc ls (.ref sa :: .ref a :: .ref a :: rest)) rfl (a := a) (msg := .ref sa) (rest := .ref a :: rest) rfl d1
  have eT : tm = P.m := Option.some.inj (nT.symm.trans mP)
  subst eT
  obtain ⟨V2, X2, back⟩ := (X.noted hV).ctorMessageOffV hexec (g := F0 m pc ls (.ref a :: rest)) rfl hsize T kT Z kZ M kM (P :: Qs) kQ oQ (u0 := u0) (sen := sen) (self := a) (msg := .ref sa) rfl (cell := freshCell cX k) (cellS := x0) hcell
    (by intro _ q; simp at q) (by intro q; simp at q) rfl rfl (nx_sel X.admits hX Y.fill0 (by decide) (nx_at wO 2 rfl)) (nx_sel X.admits hX Y.fill (by decide) (nx_at wO 3 rfl)) (nx_keep X hx0) hne hun hu hn
    (Takes.of_laid hk hord lC.1 (by rw [Y.causeType]; rfl)) (Takes.of_laid hk hord lS.1 (by rw [Y.stackType]; exact fits_refV_array _ u0)) (Takes.of_laid hk hord lP.1 (by rw [Y.suppType]; exact fits_refV_object _ sen)) (Takes.of_laid hk hord lM.1 (by rw [Y.msgType]; rfl))
    Y.objLocals hskip htr [] d1 (by show Qs.length + 1 + 2 < _; omega) (by show 2 * 0 + (1 + (rest.map fun v => v.category).sum) + (13 * (Qs.length + 1) + 42) ≤ _; omega)
  -- athrow
  obtain ⟨go, r1, r2, r3, r4⟩ := X2.athrowLeaves hexec (g := F0 m (pc + 3) ls (.ref a :: rest)) rfl rfl rfl hout (a := a) (rest := rest) rfl d2 hlocks
  refine ⟨_, call _ (fun acts => by rw [doInvoke_state]; exact back _ go), r1, r2, r3, r4.weaken (fun x q1 q2 => ?_) (Nat.le_refl _) (Nat.le_refl _), _, heapAt_setCell_self (s := (W.setVm V).setVm V2) _ (Array.getElem?_eq_some_iff.mp hcell).1, rfl, hX⟩
  have q3 : x.base = a := nx_base [T.fCause.slot, T.fStack.slot, T.fSupp.slot, T.fStack.slot, T.fMsg.slot] x q1
  exact absurd (q3 ▸ q2) (Nat.not_lt.mpr hnew)
end NX
def nx_wn (own : String) (ic : Nat) (X Y : String) (ix : Nat) (rx : ByteArray) (up : List String) : List Cond := (nx_ws own ic X Y ix rx up).filter vx_no
section CXE
variable {p : Program} {l : Launch} {e : Env} {R : Room} {s : State} {m : MethodId} {args : Array Value} {below : List Frame} {meth : Method} {c : Code} {H : Heap} {locs : List Loc} {cells slots : Nat} {Q : State → Prop}
variable {mc ms : Nat} {free : Addr → Prop} {A0 A1 : Nat → Prop} {H0 : Heap} {a : Array Value} {ls : Array Slot} {st0 rest : List Value}
variable {Qc : Array Value → State → Outcome → State → Prop} {XC : String → State → State → Prop}
theorem nx_throwW {cc : ByteArray} {pc : Nat} (hexec : p.tables.exec = Jvm.exec) (hb : c.code = cc) (hl : l.stackTraces = false) {own cls sup text : String} {up : List String} {ix : Nat} {rx : ByteArray} {ik is ic mc ms sa : Nat} {A : Nat → Prop}
    (hrx : decode rx 0 = .ok (.aload_n 0, 1) ∧ decode rx 1 = .ok (.aload_n 1, 1) ∧ decode rx 2 = .ok (.invokespecial ix, 3) ∧ decode rx 5 = .ok (.return_, 1)) (hown : s.vm.findClass own = some m.cls) (fX : Bundle.fit cls = true) (fY : Bundle.fit sup = true) (fU : ∀ n ∈ up, Bundle.fit n = true)
    (hk : (Cond.classLink own ik cls).before args s = true) (hini : (Cond.initialized cls).before args s = true) (hstr : vk_R own is text sa s) (hat : ∀ w ∈ nx_wn own ic cls sup ix rx up, w.before args s = true)
    (hgood : ∀ w ∈ Cond.classLink own ik cls :: Cond.initialized cls :: nx_wn own ic cls sup ix rx up, vx_ot w = true)
    (hU : vx_Zq Bundle.tN "UNASSIGNED_STACK" Bundle.steD A s s.heap) (hN : vx_Zq Bundle.tN "SUPPRESSED_SENTINEL" Bundle.listD A s s.heap) (hS : va_S A s.heap H locs) (hsize : ls.size = c.maxLocals)
    (d0 : decode cc pc = .ok (.new ik, 3)) (d3 : decode cc (pc + 3) = .ok (.dup, 1)) (d4 : decode cc (pc + 4) = .ok (.ldc_w is, 3)) (d7 : decode cc (pc + 7) = .ok (.invokespecial ic, 3)) (d10 : decode cc (pc + 10) = .ok (.athrow, 1))
    (hout : ∀ x ∈ c.exceptionTable.toList, covers x (pc + 10) = false)
    (hRframes : up.length + 4 < R.frames) (hRlocals : (rest.map fun v => v.category).sum + (13 * (up.length + 2) + 43) ≤ R.locals) (hRcells : cells + 1 ≤ R.cells) (hRslots : slots + 6 ≤ R.slots) (hlocks : meth.locks = false)
    (hx : ∀ t : State, s.vm.Alike t.vm → H.size ≤ t.heap.size → (∀ q : Nat, q < H.size → t.heap[q]? = H[q]?) → XC cls s t)
    (hf : ∀ z ∈ locs, free z.base) (hc : cells + 1 ≤ mc) (hs : slots + 6 ≤ ms) :
    W p l e R s m args below meth c H locs cells slots (vx_MQ below Qc XC args s mc ms free) (F0 m pc ls rest) := by
  intro T hT X
  have htr : e.platform.stackTraces = false := (show e.platform.stackTraces = l.stackTraces by rw [X.admits.platform]).trans hl
  have Y := vx_rebase X (R' := { frames := R.frames, locals := R.locals, cells := 1, slots := 6 }) (Nat.le_refl _) (Nat.le_refl _) hRcells hRslots
  obtain ⟨s', hA⟩ : ∃ z, z = (T.setVm s.vm).setFrames (.invoking m args :: below) := ⟨_, rfl⟩
  rw [← hA] at Y
  have hvm : s'.vm = s.vm := by rw [hA]; rfl
  have hhp : s'.heap = H := by rw [hA]; exact hT
  have hW0 : s.WarmedH s'.vm := by rw [hvm]; exact State.WarmedH.refl s
  have hat' : ∀ w ∈ nx_wn own ic cls sup ix rx up, w.before args s' = true := fun w hw => vx_ot_at hW0 hvm.symm (hgood w (List.mem_cons_of_mem _ (List.mem_cons_of_mem _ hw))) (hat w hw)
  have hk' : (Cond.classLink own ik cls).before args s' = true := vx_ot_at hW0 hvm.symm (hgood _ List.mem_cons_self) hk
  have hini' : (Cond.initialized cls).before args s' = true := vx_ot_at hW0 hvm.symm (hgood _ (List.mem_cons_of_mem _ List.mem_cons_self)) hini
  have hU' : vx_Zq Bundle.tN "UNASSIGNED_STACK" Bundle.steD A s' s'.heap := by rw [hhp]; exact vx_Zq.moved hW0.alike (hU.kept hS.2.1)
  have hN' : vx_Zq Bundle.tN "SUPPRESSED_SENTINEL" Bundle.listD A s' s'.heap := by rw [hhp]; exact vx_Zq.moved hW0.alike (hN.kept hS.2.1)
  have h : ∀ w ∈ nx_ws own ic cls sup ix rx up, w.before args s' = true := vx_own hat' (vx_isRefq hU'.1) (vx_isRefq hN'.1) hU'.2.word hN'.2.word
  have hown' : s'.vm.findClass own = some m.cls := by rw [hvm]; exact hown
  have hins : (Cond.instantiable cls 6).before args s' = true := nx_at (nx_split h).2.2.2.2 1 rfl
  obtain ⟨vm₁, cX, kX, hfX, hkX, -, -, X₁, st1⟩ := Y.newCold hexec (own := own) (C := cls) (index := ik) (n := 6) hown' hk' hins hini'
    (g := F0 m pc ls rest) rfl (by rw [hb]; exact d0) (Nat.le_refl _) (Nat.le_refl _)
  generalize hT1 : (T.setVm vm₁).pushCell { cls := cX, slots := kX.instanceTypes.map defaultValue, vm := .none } = T1 at X₁ st1
  have hcellA : T1.heap[T.heap.size]? = some (freshCell cX kX) := by rw [← hT1]; exact State.heap_pushCell_size _ _
  have d3' : decode c.code (pc + 3) = .ok (.dup, 1) := by rw [hb]; exact d3
  have d4' : decode c.code (pc + 4) = .ok (.ldc_w is, 3) := by rw [hb]; exact d4
  have hstr' : vk_R own is text sa s' := vk_R.warm hW0 hstr
  obtain ⟨U, hsteps, hrun, hend, hW, hsame, ce, hce, hO1, hO2⟩ := nx_throw X₁ hexec htr hrx hown' fX fY fU h (sa := sa) (pc := pc + 7) (rest := rest) hfX hkX hcellA (by rw [hhp, hT]; exact Nat.le_refl _) hsize (by rw [hb]; exact d7) (by rw [hb]; exact d10) hout hRframes hRlocals hlocks
  obtain ⟨f1, f2⟩ := vx_frame hsame
  rw [hhp] at f1 f2
  have hWs : s.WarmedH U.vm := State.WarmedH.trans hW0 hW
  have hcl : s.vm.findClass cls = some ce.cls := by
    have h9 := hO2
    rw [hvm] at h9
    exact h9
  have hall : s.sameButNew ({ U with vm := s.vm } : State) locs mc ms := by
    subst hA
    obtain ⟨e1, e2⟩ := hsame
    rw [State.setFrames_setFrames] at e1
    have h2 : (T.setVm s.vm).sameButNew ({ U with vm := s.vm } : State) [] (0 + 1) (0 + 6) := ⟨e1, e2⟩
    have h3 := X.same.trans h2
    rw [List.append_nil] at h3
    exact h3.mono hc hs
  refine ⟨U, ?_, .threw T.heap.size, hrun, hend, Or.inr ⟨T.heap.size, rfl, cls, ce, locs, hx U hWs.alike f1 (fun q hq => f2 q hq (fun z hz => nomatch hz)), hce, hO1, hcl, hWs, hall, hf⟩⟩
  refine st1 _ ?_
  show Steps p.tables e below (T1.setTop { method := m, pc := pc + 3, locals := ls, stack := .ref T.heap.size :: rest, locked := none }) _
  jvm_step X₁.here [X₁.here.top, hexec, d3', Value.category]
  exact X₁.ldcStringW hexec (own := own) (text := text) (index := is) (a := sa) hown' hstr'.1 hstr'.2
    (g := { method := m, pc := pc + 4, locals := ls, stack := .ref T.heap.size :: .ref T.heap.size :: rest, locked := none }) rfl d4' _ hsteps
end CXE
theorem hat_of {args : Array Value} {s : State} {L B : List Cond} (h1 : ∀ w ∈ L.filter goodWord, w.before args s = true) (h2 : ∀ w ∈ L.filter (fun w => !goodWord w), w ∈ B) (h3 : ∀ w ∈ B, w.before args s = true) : ∀ w ∈ L, w.before args s = true := by
  intro w hw
  by_cases g : goodWord w = true
  · exact h1 w (List.mem_filter.mpr ⟨hw, g⟩)
  · refine h3 w (h2 w (List.mem_filter.mpr ⟨hw, ?_⟩))
    show (!goodWord w) = true
    cases hgw : goodWord w
    · rfl
    · exact absurd hgw g
