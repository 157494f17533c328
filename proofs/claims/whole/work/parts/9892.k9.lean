theorem kl_X8_9 : Cond.classLink RX8 9 "[[I" ∈ gt := gt_mem (tb2 _ (List.mem_of_getElem? (i := 38) (by decide +kernel))) rfl

def mo (a : ClassId) (h i : Nat) : Cell := arrV a 4 (fun j => if j < i then .ref (h + 1 + j) else .null)
def mi (b : ClassId) : Cell := arrV b 10 (fun _ => .int 0)
theorem mo_set (a : ClassId) (h i : Nat) : (mo a h i).setSlot i (.ref (h + 1 + i)) = mo a h (i + 1) := by
  unfold mo
  rw [arrV_store]
  congr 1
  funext j
  show (if j = i then Value.ref (h + 1 + i) else (if j < i then Value.ref (h + 1 + j) else Value.null)) = (if j < i + 1 then Value.ref (h + 1 + j) else Value.null)
  by_cases e : j = i
  · subst e; rw [if_pos rfl, if_pos (Nat.lt_succ_self j)]
  · rw [if_neg e]
    by_cases q : j < i
    · rw [if_pos q, if_pos (by omega)]
    · rw [if_neg q, if_neg (by omega)]
theorem mo_0 (a : ClassId) (h : Nat) : mo a h 0 = ({ cls := a, slots := Array.replicate 4 .null, vm := .none } : Cell) := by
  rw [arrV_new]
  unfold mo
  congr 1
def mt (T : State) (a b : ClassId) : Nat → State
  | 0 => T.pushCell (mo a T.heap.size 0)
  | i + 1 => ((mt T a b i).pushCell (mi b)).setCell T.heap.size (mo a T.heap.size (i + 1))
theorem mt_is (T : State) (a b : ClassId) (i : Nat) : (mt T a b i).heap.size = T.heap.size + 1 + i ∧ (mt T a b i).heap[T.heap.size]? = some (mo a T.heap.size i) ∧ (mt T a b i).vm = T.vm ∧ (mt T a b i).slotsUsed = T.slotsUsed + 4 + 10 * i ∧ (∀ q, q < T.heap.size → (mt T a b i).heap[q]? = T.heap[q]?) ∧ (∀ j, j < i → (mt T a b i).heap[T.heap.size + 1 + j]? = some (mi b)) := by
  induction i with
  | zero =>
    refine ⟨?_, ?_, rfl, ?_, fun q hq => ?_, fun j hj => absurd hj (Nat.not_lt_zero j)⟩
    · show (T.heap.push _).size = _; rw [Array.size_push]
    · show (T.heap.push _)[T.heap.size]? = _; rw [Array.getElem?_push_size]
    · show T.slotsUsed + (arrV a 4 _).slots.size = _; rw [arrV_size]
    · show (T.heap.push _)[q]? = _; rw [Array.getElem?_push, if_neg (Nat.ne_of_lt hq)]
  | succ i ih =>
    obtain ⟨h1, h2, h3, h4, h5, h6⟩ := ih
    have g : ∀ q, ¬ q = T.heap.size → (mt T a b (i + 1)).heap[q]? = if q = T.heap.size + 1 + i then some (mi b) else (mt T a b i).heap[q]? := by
      intro q hq
      show (((mt T a b i).heap.push (mi b)).setIfInBounds T.heap.size _)[q]? = _
      rw [Array.getElem?_setIfInBounds, if_neg (fun e => hq e.symm), Array.getElem?_push, h1]
    refine ⟨?_, ?_, h3, ?_, fun q hq => ?_, fun j hj => ?_⟩
    · show (((mt T a b i).heap.push (mi b)).setIfInBounds T.heap.size _).size = _
      rw [Array.size_setIfInBounds, Array.size_push, h1]
      omega
    · show (((mt T a b i).heap.push (mi b)).setIfInBounds T.heap.size _)[T.heap.size]? = _
      rw [Array.getElem?_setIfInBounds, if_pos rfl, if_pos (by rw [Array.size_push, h1]; omega)]
    · show (mt T a b i).slotsUsed + (arrV b 10 _).slots.size = _
      rw [arrV_size, h4]; omega
    · rw [g q (by omega), if_neg (by omega)]; exact h5 q hq
    · rw [g _ (by omega)]
      by_cases e : j = i
      · rw [if_pos (by omega)]
      · rw [if_neg (by omega)]; exact h6 j (by omega)
theorem mt_top (T : State) (f : JFrame) (a b : ClassId) (i : Nat) : mt (T.setTop f) a b i = (mt T a b i).setTop f := by
  induction i with
  | zero => rfl
  | succ i ih => show ((mt (T.setTop f) a b i).pushCell (mi b)).setCell T.heap.size (mo a T.heap.size (i + 1)) = _; rw [ih]; rfl
section MARR
variable {p : Program} {l : Launch} {e : Env} {R : Room} {s : State} {m : MethodId} {args : Array Value} {below : List Frame} {meth : Method} {c : Code} {H : Heap} {locs : List Loc} {cells slots : Nat} {Q : State → Prop}
theorem mt_stand {T : State} (X : Stand p l e R s m args below meth c T locs cells slots) (a b : ClassId) (i : Nat) : ∃ L9 : List Loc, (∀ q ∈ L9, q.base = T.heap.size) ∧ Stand p l e R s m args below meth c (mt T a b i) (locs ++ L9) (cells + 1 + i) (slots + 4 + 10 * i) := by
  induction i with
  | zero =>
    have h := X.pushed (mo a T.heap.size 0)
    rw [show (mo a T.heap.size 0).slots.size = 4 from arrV_size a 4 _] at h
    exact ⟨[], fun _ h => absurd h List.not_mem_nil, by rw [List.append_nil]; exact h⟩
  | succ i ih =>
    obtain ⟨L9, hL, Xi⟩ := ih
    obtain ⟨h1, h2, -, -, -, -⟩ := mt_is T a b i
    have hc : ((mt T a b i).pushCell (mi b)).heap[T.heap.size]? = some (mo a T.heap.size i) := by
      show ((mt T a b i).heap.push (mi b))[T.heap.size]? = _
      rw [Array.getElem?_push, if_neg (by omega)]; exact h2
    have h := (Xi.pushed (mi b)).stored hc i (.ref (T.heap.size + 1 + i))
    rw [show (mi b).slots.size = 10 from arrV_size b 10 _, mo_set] at h
    refine ⟨L9 ++ [⟨T.heap.size, i⟩], fun q hq => ?_, ?_⟩
    · rcases List.mem_append.mp hq with q1 | q1
      · exact hL q q1
      · rw [List.mem_singleton.mp q1]
    · rw [← List.append_assoc, show slots + 4 + 10 * (i + 1) = slots + 4 + 10 * i + 10 by omega]
      exact h
theorem mt_wp {E : CtlPost} {e : Env} {d : Bool} {acts : List Action} {s : State} {a b cc : ClassId} {k kc : Class} (hk : s.vm.classes[a]? = some k) (hkind : k.kind = .array b (.array .int)) (hkc : s.vm.classes[b]? = some kc) (hkindc : kc.kind = .array cc .int)
    (hl : ¬ 10 > e.platform.arrayLengthLimit) (hh : ¬ 40 > e.platform.maxHeapBytes) (h1 : s.heap.size + 5 ≤ e.platform.maxCells) (h2 : s.slotsUsed + 44 ≤ e.platform.maxSlots) {Q : Addr → Pre} (hq : ∀ d' acts', Q s.heap.size d' acts' (mt s a b 4)) :
    wp (multianewarray.make a [4, 10]) Q E e d acts s := by
  have e4 : (4 : Int32).toNatClampNeg = 4 := by decide
  have e10 : (10 : Int32).toNatClampNeg = 10 := by decide
  have n4 : ¬ (4 : Int32) < 0 := by decide
  have n10 : ¬ (10 : Int32) < 0 := by decide
  have hfind : ([(10 : Int32)].find? (· < 0)) = none := by decide
  rw [multianewarray.make]
  simp only [wp_bind', W.ite, n4, if_false, wp_pure', W.theClass, hk, hkind, Option.some.injEq, exists_eq_left', e4]
  refine W.newArray_of hk hkind (by omega) (by show ¬ 4 * 4 > _; omega) (by omega) (by omega) rfl (fun acts' => ?_)
  simp only [hfind]
  rw [ite_self, wp_bind', Std.Legacy.Range.forIn_eq_forIn_range']
  show wp (forIn [0, 1, 2, 3] PUnit.unit _) _ E e d acts' _
  refine wp_forIn_inv (fun rest s' => ∃ i, i ≤ 4 ∧ rest = [0, 1, 2, 3].drop i ∧ s' = mt s a b i) _ _ ⟨0, Nat.zero_le _, rfl, ?_⟩ ?_ ?_
  · show s.pushCell _ = s.pushCell _
    rw [mo_0]
  · rintro x rest s' d' acts' Q' ⟨i, hi, hr, rfl⟩ hnext
    have hxi : i < 4 ∧ x = i ∧ rest = [0, 1, 2, 3].drop (i + 1) := by
      rcases (show i = 0 ∨ i = 1 ∨ i = 2 ∨ i = 3 ∨ i = 4 by omega) with rfl | rfl | rfl | rfl | rfl
      all_goals first | exact ⟨by omega, (List.cons.inj hr).1, (List.cons.inj hr).2⟩ | cases hr
    obtain ⟨hi4, rfl, hrest⟩ := hxi
    obtain ⟨f1, f2, f3, f4, -, -⟩ := mt_is s a b x
    rw [wp_bind', multianewarray.make]
    simp only [wp_bind', W.ite, n10, if_false, wp_pure', W.theClass, f3, hkc, hkindc, Option.some.injEq, exists_eq_left', e10]
    refine W.newArray_of (by rw [f3]; exact hkc) hkindc (by omega) (by show ¬ 10 * 4 > _; omega) (by omega) (by omega) rfl (fun acts2 => ?_)
    rw [show ({ cls := b, slots := Array.replicate 10 (defaultValue .int) } : Cell) = mi b from arrV_new b 10 (.int 0)]
    refine ⟨mo a s.heap.size x, ?_, (fun h => by cases h), ?_, ?_, hnext _ _ _ ⟨x + 1, by omega, hrest, ?_⟩⟩
    · show ((mt s a b x).heap.push (mi b))[s.heap.size]? = _
      rw [Array.getElem?_push, if_neg (by omega)]; exact f2
    · rw [show (mo a s.heap.size x).slots.size = 4 from arrV_size a 4 _]; exact hi4
    · show State.fitsSlot _ a .none x _ = true
      simp [State.fitsSlot, State.slotType?, f3, hk, hkind, fits]
    · rw [f1, mo_set]; rfl
  · rintro s' d' acts2 ⟨i, hi, hr, rfl⟩
    have : i = 4 := by
      rcases (show i = 0 ∨ i = 1 ∨ i = 2 ∨ i = 3 ∨ i = 4 by omega) with rfl | rfl | rfl | rfl | rfl
      all_goals first | rfl | cases hr
    subst this
    simp only [wp_pure']
    exact hq _ _
/-- a is int[][] and b is int[] in the tables -/
def maK (vm : Vm) (a b : ClassId) : Prop := (∃ k : Class, vm.classes[a]? = some k ∧ k.kind = .array b (.array .int)) ∧ ∃ (k : Class) (cc : ClassId), vm.classes[b]? = some k ∧ k.kind = .array cc .int
theorem maK.of {args : Array Value} {s : State} (h1 : (Cond.arrayOver (.array .int)).before args s = true) (h2 : (Cond.arrayClass .int).before args s = true) : ∃ a b : ClassId, s.vm.findClass "[[I" = some a ∧ s.vm.findClass "[I" = some b ∧ maK s.vm a b := by
  obtain ⟨b, a, k, nb, -, q1, q2, na⟩ := arrayOverA_spec (t := .int) h1
  obtain ⟨b2, kb, cc, nb2, q3, q4⟩ := Cond.arrayClass_spec h2
  rw [Option.some.inj (nb2.symm.trans nb)] at q3
  exact ⟨a, b, na, nb, ⟨k, q1, q2⟩, kb, cc, q3, q4⟩
theorem maK.alike {v w : Vm} {a b : ClassId} (h : v.Alike w) (hk : maK v a b) : maK w a b := by
  obtain ⟨⟨k, q1, q2⟩, kb, cc, q3, q4⟩ := hk
  obtain ⟨k2, r1, r2⟩ := h.2.2 a k q1
  obtain ⟨kb2, r3, r4⟩ := h.2.2 b kb q3
  exact ⟨⟨k2, r1, by rw [r2]; exact q2⟩, kb2, cc, r3, by rw [r4]; exact q4⟩
theorem W_marr {cc : ByteArray} (hexec : p.tables.exec = Jvm.exec) (hb : c.code = cc) {own : String} {index : Nat} (hown : s.vm.findClass own = some m.cls) (hclink : (Cond.classLink own index "[[I").before args s = true) (hover : (Cond.arrayOver (.array .int)).before args s = true) (harr : (Cond.arrayClass .int).before args s = true)
    {g : JFrame} (hg : g.method = m) (hdg : decode cc g.pc = .ok (.multianewarray index 2, 4)) {rest : List Value} (hstack : g.stack = .int 10 :: .int 4 :: rest) (hcells : cells + 5 ≤ R.cells) (hslots : slots + 44 ≤ R.slots)
    (kk : ∀ (a b : ClassId), s.vm.findClass "[[I" = some a → s.vm.findClass "[I" = some b → ∀ (H1 : Heap) (L9 : List Loc), (∀ q ∈ L9, q.base = H.size) → H1.size = H.size + 5 → (∀ q, q < H.size → H1[q]? = H[q]?) → H1[H.size]? = some (mo a H.size 4) → (∀ j, j < 4 → H1[H.size + 1 + j]? = some (mi b)) →
      W p l e R s m args below meth c H1 (locs ++ L9) (cells + 5) (slots + 44) Q { g with pc := g.pc + 4, stack := .ref H.size :: rest }) : W p l e R s m args below meth c H locs cells slots Q g := by
  intro S hS X
  subst hS hb hg
  obtain ⟨a, b, na, nb, hk⟩ := maK.of hover harr
  obtain ⟨a2, na2, hlink⟩ := Cond.classLink_spec hown hclink e.platform (by rw [X.admits.platform])
  rw [Option.some.inj (na2.symm.trans na)] at hlink
  -- the machine with the entry noted
  obtain ⟨hgives, hwarm, -⟩ := State.classEntry (e := e) X.warmed hlink
  obtain ⟨V, hV⟩ : ∃ V, V = S.vm.noted g.method.cls index (.cls a) := ⟨_, rfl⟩
  rw [← hV] at hgives hwarm
  obtain ⟨⟨ka, y1, y2⟩, kb, ci, y3, y4⟩ := hk.alike hwarm.alike
  -- the five cells, and what stands behind the instruction
  obtain ⟨L9, hL9, XN⟩ := mt_stand (X.noted hwarm) a b 4
  obtain ⟨z1, z2, -, -, z5, z6⟩ := mt_is (S.setVm V) a b 4
  obtain ⟨t, hgo, hQ⟩ := kk a b na nb (mt (S.setVm V) a b 4).heap L9 hL9 z1 z5 z2 z6 (mt (S.setVm V) a b 4) rfl XN
  refine ⟨t, ?_, hQ⟩
  -- the instruction
  have room := X.roomAbove hcells hslots
  have lim := Launch.admits_arrayLengthLimit X.admits
  have byt := Launch.admits_maxHeapBytes X.admits
  have htop := X.here.top
  have hpop := State.topJava?_setTop' (s := S.setVm V) g htop
  have same : ((S.setTop g).setVm V).setTop { g with stack := rest } = (S.setVm V).setTop { g with stack := rest } := State.setTop_setTop (S.setVm V) g _
  jvm_step X.here [hexec, hdg]
  simp only [multianewarray.sem, wp_bind', W.resolveClassAt_links (State.method?_setTop g htop) hgives]
  rw [W.popN, if_neg (by decide)]
  refine ⟨g, hpop, [.int 4, .int 10], rest, rfl, hstack, ?_⟩
  simp only [List.mapM_cons, List.mapM_nil, wp_bind', wp_pure']
  refine mt_wp (s := ((S.setTop g).setVm V).setTop { g with stack := rest }) y1 y2 y3 y4 (by omega) (by omega) room.1 room.2 (fun _ _ => ?_)
  rw [same, mt_top]
  have hpush := XN.here.top
  simp only [wp_bind', W.mark, W.pushRef, State.topJava?_setTop' _ hpush, Option.some.injEq, exists_eq_left', State.setTop_setTop, State.heap_setTop]
  intro _
  simp [jvm, hpush]
  exact hgo
end MARR
section KMA
variable {l : Launch} {R : Room} {y : fr_M} {L : Nat → Nat} {cA : Nat → ClassId} {D : va_G} {A0 : Nat → Prop} {p : Program} {e : Env} {s : State} {m : MethodId} {args : Array Value} {below : List Frame} {meth : Method} {c : Code} {Z : State → Prop} {ce sl : Nat} {T I : List Nat} {M : Nat → Nat → Bool} {v : fr_V} {u : fr_U} {pc : Nat} {lv : List (Nat × Value)} {st : List Value}
theorem K_aldM (C : KC L cA D A0 y p s m args meth c) {k n t : Nat} {i : Int32} (d : decode y.2.1 pc = .ok (.aaload, 1)) (hk : k ∈ I) (hs : sh k = (25, n)) (hin : vp_in i n) (ht : shb k + i.toNatClampNeg = t) (kk : KJ l R y L cA D A0 p e s m args below meth c Z ce sl T I M v u (pc + 1) lv (.ref t :: st)) : KJ l R y L cA D A0 p e s m args below meth c Z ce sl T I M v u pc lv (.int i :: .ref k :: st) := by
  intro H locs ls hP hD hS hT hl
  obtain ⟨q0, -, hq0⟩ := mwK_get (L := L) (cA := cA) (M := M) (v := v) (u := u) hk
  rw [entK_T hs] at hq0
  have he : va_rf ((fun i => some (L (shb k + i))) i.toNatClampNeg) = .ref (L t) := by simp [ht, va_rf]
  have hlt : i.toNatClampNeg < n := Nat.not_le.mp fun q => hin (Or.inr q)
  refine W.aald (v := va_rf ((fun i => some (L (shb k + i))) i.toNatClampNeg)) (ty := .array .int) C.1 C.2.1 (hP q0 _ hq0) ((C.2.2.2.2.2.2.2.2.1.2 5 _ rfl).1 n (fun j => va_rf ((fun i => some (L (shb k + i))) j))) rfl (fun q => by cases q) (by show ¬ (i < 0 ∨ (arrV _ _ _).slots.size ≤ _); rw [arrV_size]; exact hin) (by show (arrV _ _ _).slots[_]? = _; rw [arrV_read _ _ hlt]) rfl rfl d ?_
  rw [he]
  exact kk H locs ls hP hD hS hT hl
theorem K_many {T1 : List Nat} {H H1 : Heap} {locs L9 : List Loc} (hP : va_P D fr_cls (mwK L cA I M v u) H) (hD : va_D A0 (mwK L cA I M v u)) (hS : va_S A0 s.heap H locs) (hA : ∀ q, s.heap.size ≤ q → A0 q) (z1 : H.size ≤ H1.size) (o1 : ∀ q, q < H.size → H1[q]? = H[q]?) (hL : ∀ (i k : Nat), T1[i]? = some k → L k = H.size + i) (he : ∀ (k : Nat), k ∈ T1 → va_at D fr_cls (L k, entK L cA (M k) k (v k) (u k)) H1) (hL9 : ∀ q ∈ L9, q.base = H.size) : va_P D fr_cls (mwK L cA (I ++ T1) M v u) H1 ∧ va_D A0 (mwK L cA (I ++ T1) M v u) ∧ va_S A0 s.heap H1 (locs ++ L9) := by
  have hw : mwK L cA (I ++ T1) M v u = mwK L cA I M v u ++ mwK L cA T1 M v u := by unfold mwK; rw [List.map_append]
  have ht : ∀ (i : Nat) (x : Nat × va_E), (mwK L cA T1 M v u)[i]? = some x → ∃ k, T1[i]? = some k ∧ x = (L k, entK L cA (M k) k (v k) (u k)) := by
    intro i x hx
    unfold mwK at hx
    rw [List.getElem?_map] at hx
    obtain ⟨k, h1, h2⟩ := Option.map_eq_some_iff.mp hx
    exact ⟨k, h1, h2.symm⟩
  have key : ∀ (i : Nat) (x : Nat × va_E), (mwK L cA I M v u ++ mwK L cA T1 M v u)[i]? = some x → ((mwK L cA I M v u)[i]? = some x ∧ x.1 < H.size) ∨ ((mwK L cA I M v u).length ≤ i ∧ x.1 = H.size + (i - (mwK L cA I M v u).length)) := by
    intro i x hx
    rcases Nat.lt_or_ge i (mwK L cA I M v u).length with q | q
    · rw [List.getElem?_append_left q] at hx
      exact Or.inl ⟨hx, (hP i x hx).lt⟩
    · rw [List.getElem?_append_right q] at hx
      obtain ⟨k, h1, h2⟩ := ht _ x hx
      refine Or.inr ⟨q, ?_⟩
      rw [h2]
      exact hL _ k h1
  rw [hw]
  refine ⟨(hP.kept (fun k9 x hx => o1 x.1 ((hP k9 x hx).lt))).app (fun k9 x hx => ?_), ⟨fun i j a b ha hb hab => ?_, fun i a ha => ?_⟩, Nat.le_trans hS.1 z1, fun q h1 h2 => (o1 q (Nat.lt_of_lt_of_le h1 hS.1)).trans (hS.2.1 q h1 h2), fun q hq => ?_⟩
  · obtain ⟨k, h1, h2⟩ := ht _ x hx
    rw [h2]
    exact he k (List.mem_of_getElem? h1)
  · rcases key i a ha with ⟨h1, h2⟩ | ⟨h1, h2⟩
    · rcases key j b hb with ⟨h3, h4⟩ | ⟨h3, h4⟩
      · exact hD.1 i j a b h1 h3 hab
      · omega
    · rcases key j b hb with ⟨h3, h4⟩ | ⟨h3, h4⟩
      · omega
      · omega
  · rcases key i a ha with ⟨h1, h2⟩ | ⟨h1, h2⟩
    · exact hD.2 i a h1
    · exact hA _ (by rw [h2]; have := hS.1; omega)
  · rcases List.mem_append.mp hq with h1 | h1
    · exact hS.2.2 q h1
    · rw [hL9 q h1]; exact hA _ hS.1
theorem K_marr (C : KC L cA D A0 y p s m args meth c) {idx ce' sl' : Nat} (d : decode y.2.1 pc = .ok (.multianewarray idx 2, 4)) (hw : Cond.classLink y.1.cls idx "[[I" ∈ gt) (hv : ∀ k ∈ [910, 911, 912, 913], ∀ j, v k j = ini k j) (hce : ce + 5 = ce') (hsl : sl + 44 = sl') (hR : ce' ≤ R.cells ∧ sl' ≤ R.slots) (kk : KJ l R y L cA D A0 p e s m args below meth c Z ce' sl' T (I ++ [903, 910, 911, 912, 913]) M v u (pc + 4) lv (.ref 903 :: st)) : KJ l R y L cA D A0 p e s m args below meth c Z ce sl (903 :: 910 :: 911 :: 912 :: 913 :: T) I M v u pc lv (.int 10 :: .int 4 :: st) := by
  subst hce; subst hsl
  intro H locs ls hP hD hS hT hl X hX st9
  obtain ⟨hz, hL⟩ := K_size hP hS hT hX st9
  have hA := C.2.2.2.2.2.2.2.2.2.2.1
  have hL0 := (hT 1 910 rfl).1
  have hL1 := (hT 2 911 rfl).1
  have hL2 := (hT 3 912 rfl).1
  have hL3 := (hT 4 913 rfl).1
  refine W_marr C.1 C.2.1 C.2.2.2.2.1 (C.2.2.2.2.2.2.1 _ hw) C.2.2.2.2.2.2.2.2.2.2.2.2.2 (C.2.2.2.2.2.2.1 _ aw_int) (g := F0 m pc ls (.int 10 :: .int 4 :: st.map (cv L))) rfl d rfl hR.1 hR.2 (fun a b fa fb H1 L9 hL9 z1 o1 e0 e1 => ?_) X hX st9
  have ea : a = cA 5 := by
    exact Option.some.inj (fa.symm.trans (C.2.2.2.2.2.2.2.2.1.2 5 _ rfl).2)
  have eb : b = cA 0 := by
    exact Option.some.inj (fb.symm.trans (C.2.2.2.2.2.2.2.2.1.2 0 _ rfl).2)
  subst ea; subst eb
  have a0 : va_at D fr_cls (L 903, entK L cA (M 903) 903 (v 903) (u 903)) H1 := by
    rw [entK_T (n := 4) rfl]
    show H1[L 903]? = some (vp_cell _ _)
    rw [hL, e0, vp_cell_q]
    refine congrArg some ?_
    unfold mo arrV
    congr 2
    funext j
    show (if j.val < 4 then Value.ref (H.size + 1 + j.val) else Value.null) = .ref (L (910 + j.val))
    have h7 : H.size + 1 + j.val = s.heap.size + ce + (1 + j.val) := by omega
    rw [if_pos j.isLt, h7, (hT (1 + j.val) (910 + j.val) (by rcases (show j.val = 0 ∨ j.val = 1 ∨ j.val = 2 ∨ j.val = 3 by omega) with h | h | h | h <;> rw [h] <;> rfl)).1]
  have ai : ∀ (k i : Nat), k ∈ [910, 911, 912, 913] → i < 4 → L k = H.size + 1 + i → va_at D fr_cls (L k, entK L cA (M k) k (v k) (u k)) H1 := by
    intro k i hk hi hLk
    have hs : sh k = (20, 10) := by
      rcases List.mem_cons.mp hk with rfl | hk
      · rfl
      rcases List.mem_cons.mp hk with rfl | hk
      · rfl
      rcases List.mem_cons.mp hk with rfl | hk
      · rfl
      rw [List.mem_singleton.mp hk]; rfl
    rw [entK_i hs]
    show H1[L k]? = some (vp_cell _ _)
    rw [hLk, e1 i hi]
    have hf : v k = fun _ => 0 := by
      funext j
      rw [hv k hk j]
      unfold ini
      rw [hs]; rfl
    rw [hf]; rfl
  have hLi : ∀ (i k : Nat), [903, 910, 911, 912, 913][i]? = some k → L k = H.size + i := by
    intro i k h9
    have h8 : i < 5 := (List.getElem?_eq_some_iff.mp h9).1
    have h0 := (hT i k (by rcases (show i = 0 ∨ i = 1 ∨ i = 2 ∨ i = 3 ∨ i = 4 by omega) with rfl | rfl | rfl | rfl | rfl <;> exact h9)).1
    omega
  have hat : ∀ (k : Nat), k ∈ [903, 910, 911, 912, 913] → va_at D fr_cls (L k, entK L cA (M k) k (v k) (u k)) H1 := by
    intro k hk
    rcases List.mem_cons.mp hk with rfl | hk
    · exact a0
    rcases List.mem_cons.mp hk with rfl | hk
    · exact ai 910 0 (by decide) (by omega) (by omega)
    rcases List.mem_cons.mp hk with rfl | hk
    · exact ai 911 1 (by decide) (by omega) (by omega)
    rcases List.mem_cons.mp hk with rfl | hk
    · exact ai 912 2 (by decide) (by omega) (by omega)
    rw [List.mem_singleton.mp hk]
    exact ai 913 3 (by decide) (by omega) (by omega)
  obtain ⟨g1, g2, g3⟩ := K_many (T1 := [903, 910, 911, 912, 913]) hP hD hS hA (by omega) o1 hLi hat hL9
  have t5 : KT L (I ++ [903, 910, 911, 912, 913]) s (ce + 5) T := by
    intro i k9 h9
    have h := (hT (i + 5) k9 (by show T[i]? = some k9; exact h9)).1
    exact ⟨by omega, Or.inr ⟨913, List.mem_append_right _ (by decide), by omega⟩⟩
  have g4 := kk H1 (locs ++ L9) ls g1 g2 g3 t5 hl
  rw [← hL]
  exact g4
end KMA

theorem c_X8 {l : Launch} {L : Nat → Nat} {cA : Nat → ClassId} {D : va_G} {I : List Nat} {M : Nat → Nat → Bool} {v : fr_V} {u : fr_U} (ho : 900 ∈ I) (hf : fresh [903, 910, 911, 912, 913, 906, 907] M v u) : KCon l nX8_init 64 L cA D [903, 910, 911, 912, 913, 906, 907] I M v u [.ref 900, .ref 500, .ref 100] (mT M 900) (tbV v) u := by
  refine KCon.of (by decide) (Nat.le_of_ble_eq_true rfl) (fun A0 p e s m as below meth c C hA hA2 => ?_)
  show KJ l _ _ L cA D A0 p e s m as below meth c _ 0 0 [903, 910, 911, 912, 913, 906, 907] I M v u 0 [(0, .ref 900), (1, .ref 500), (2, .ref 100)] []
  refine K_aload_n C dX8_init_0 rfl 0 rfl ?_
  refine K_objInit C dX8_init_1 oi_X8_init oi_i oi_c ⟨Nat.le_of_ble_eq_true rfl, Nat.le_of_ble_eq_true rfl⟩ ?_
  refine K_aload_n C dX8_init_4 rfl 0 rfl ?_
  refine K_iconst (x := 4) C dX8_init_5 (by decide) ?_
  refine K_bipush (x := 10) C dX8_init_6 (by decide) ?_
  refine K_marr (ce' := 5) (sl' := 44) (T := [906, 907]) C dX8_init_8 kl_X8_9 (List.forall_mem_cons.mpr ⟨fun j => (hf 910 (by decide)).1 j, List.forall_mem_cons.mpr ⟨fun j => (hf 911 (by decide)).1 j, List.forall_mem_cons.mpr ⟨fun j => (hf 912 (by decide)).1 j, List.forall_mem_cons.mpr ⟨fun j => (hf 913 (by decide)).1 j, fun _ h => absurd h List.not_mem_nil⟩⟩⟩⟩) rfl rfl ⟨by decide, by decide⟩ ?_
  refine K_putr (ci := 8) (j := 2) (t := 903) C dX8_init_12 fl_X8_11 (List.mem_append_left _ ho) rfl rfl rfl ⟨rfl, fun q h => by cases h; exact ⟨rfl, rfl⟩⟩ rfl rfl ?_
  refine K_aload_n C dX8_init_15 rfl 0 rfl ?_
  refine K_bipush (x := 10) C dX8_init_16 (by decide) ?_
  refine K_newa_int (k := 906) (n := 10) (ce' := 6) (sl' := 54) C dX8_init_18 aw_int rfl (fun j => (hf 906 (by decide)).1 j) (by decide) (by decide) (by decide) rfl rfl ⟨by decide, by decide⟩ ?_
  refine K_putr (ci := 8) (j := 5) (t := 906) C dX8_init_20 fl_X8_16 (List.mem_append_left _ (List.mem_append_left _ ho)) rfl rfl rfl ⟨rfl, fun q h => by cases h; exact ⟨rfl, rfl⟩⟩ rfl rfl ?_
  refine K_aload_n C dX8_init_23 rfl 0 rfl ?_
  refine K_bipush (x := 10) C dX8_init_24 (by decide) ?_
  refine K_newa_int (k := 907) (n := 10) (ce' := 7) (sl' := 64) C dX8_init_26 aw_int rfl (fun j => (hf 907 (by decide)).1 j) (by decide) (by decide) (by decide) rfl rfl ⟨by decide, by decide⟩ ?_
  refine K_putr (ci := 8) (j := 6) (t := 907) C dX8_init_28 fl_X8_20 (List.mem_append_left _ (List.mem_append_left _ (List.mem_append_left _ ho))) rfl rfl rfl ⟨rfl, fun q h => by cases h; exact ⟨rfl, rfl⟩⟩ rfl rfl ?_
  refine K_aload_n C dX8_init_31 rfl 0 rfl ?_
  refine K_aload_n C dX8_init_32 rfl 1 rfl ?_
  refine K_putr (ci := 8) (j := 0) (t := 500) C dX8_init_33 fl_X8_23 (List.mem_append_left _ (List.mem_append_left _ (List.mem_append_left _ ho))) rfl rfl rfl ⟨rfl, fun q h => by cases h; exact ⟨rfl, rfl⟩⟩ rfl rfl ?_
  refine K_aload_n C dX8_init_36 rfl 0 rfl ?_
  refine K_aload_n C dX8_init_37 rfl 2 rfl ?_
  refine K_putr (ci := 8) (j := 1) (t := 100) C dX8_init_38 fl_X8_27 (List.mem_append_left _ (List.mem_append_left _ (List.mem_append_left _ ho))) rfl rfl rfl ⟨rfl, fun q h => by cases h; exact ⟨rfl, rfl⟩⟩ rfl rfl ?_
  refine K_iconst (x := 0) C dX8_init_41 (by decide) ?_
  refine K_istore_n (lv' := [(3, .int (0)), (0, .ref 900), (1, .ref 500), (2, .ref 100)]) C dX8_init_42 rfl (by decide) rfl ?_
  refine K_iload_n C dX8_init_43 rfl 0 rfl ?_
  refine K_iconst (x := 4) C dX8_init_44 (by decide) ?_
  refine K_icmp_ge (tgt := 66) C dX8_init_45 (by decide) (fun c9 => absurd c9 (by decide)) (fun _ => ?_)
  refine K_aload_n C dX8_init_48 rfl 1 rfl ?_
  refine K_getr (ci := 8) (j := 2) (t := 903) C dX8_init_49 fl_X8_11 (List.mem_append_left _ (List.mem_append_left _ (List.mem_append_left _ ho))) rfl rfl rfl rfl ?_
  refine K_iload_n C dX8_init_52 rfl 0 rfl ?_
  refine K_aldM (k := 903) (n := 4) (t := 910) C dX8_init_53 (List.mem_append_left _ (List.mem_append_left _ (List.mem_append_right _ (by decide)))) rfl (by unfold vp_in; decide) rfl ?_
  refine K_sipush (x := 900) C dX8_init_54 (by decide) ?_
  refine K_callS (z := mJ7_fill_53178) (As := [.ref 910, .int (900)]) (rest := []) (I0 := [910]) C dX8_init_57 ml_X8_31 ok_J7_fill_53178 iv_J7_fill_53178 ⟨Nat.le_of_ble_eq_true rfl, Nat.le_of_ble_eq_true rfl⟩ ⟨by decide, by decide⟩ (List.forall_mem_cons.mpr ⟨(List.mem_append_left _ (List.mem_append_left _ (List.mem_append_right _ (by decide)))), fun _ h => absurd h List.not_mem_nil⟩) (List.forall_mem_cons.mpr ⟨fun j => (hf 910 (by decide)).2.2 j, fun _ h => absurd h List.not_mem_nil⟩) (fun _ => nd1 910) rfl rfl (Nat.le_of_ble_eq_true rfl) (k_fillW _ u 910 10 (List.mem_singleton.mpr rfl) rfl (by decide) (900)) (fun r v9 u9 hq k9 _ hk9 => by obtain ⟨-, rfl, rfl⟩ := hq; exact ⟨upA_ne (fun e9 => hk9 (List.mem_singleton.mpr e9)), rfl⟩) (fun r v9 u9 hq => ?_)
  obtain ⟨rfl, e8, e9⟩ := hq
  rw [e8, e9]
  refine K_iinc (q := 0) (z := 1) (lv' := [(3, .int (1)), (0, .ref 900), (1, .ref 500), (2, .ref 100)]) C dX8_init_60 rfl (by decide) (by decide) rfl ?_
  refine K_goto (tgt := 43) C dX8_init_63 (by decide) ?_
  refine K_iload_n C dX8_init_43 rfl 0 rfl ?_
  refine K_iconst (x := 4) C dX8_init_44 (by decide) ?_
  refine K_icmp_ge (tgt := 66) C dX8_init_45 (by decide) (fun c9 => absurd c9 (by decide)) (fun _ => ?_)
  refine K_aload_n C dX8_init_48 rfl 1 rfl ?_
  refine K_getr (ci := 8) (j := 2) (t := 903) C dX8_init_49 fl_X8_11 (List.mem_append_left _ (List.mem_append_left _ (List.mem_append_left _ ho))) rfl rfl rfl rfl ?_
  refine K_iload_n C dX8_init_52 rfl 0 rfl ?_
  refine K_aldM (k := 903) (n := 4) (t := 911) C dX8_init_53 (List.mem_append_left _ (List.mem_append_left _ (List.mem_append_right _ (by decide)))) rfl (by unfold vp_in; decide) rfl ?_
  refine K_sipush (x := 900) C dX8_init_54 (by decide) ?_
  refine K_callS (z := mJ7_fill_53178) (As := [.ref 911, .int (900)]) (rest := []) (I0 := [911]) C dX8_init_57 ml_X8_31 ok_J7_fill_53178 iv_J7_fill_53178 ⟨Nat.le_of_ble_eq_true rfl, Nat.le_of_ble_eq_true rfl⟩ ⟨by decide, by decide⟩ (List.forall_mem_cons.mpr ⟨(List.mem_append_left _ (List.mem_append_left _ (List.mem_append_right _ (by decide)))), fun _ h => absurd h List.not_mem_nil⟩) (List.forall_mem_cons.mpr ⟨fun j => (hf 911 (by decide)).2.2 j, fun _ h => absurd h List.not_mem_nil⟩) (fun _ => nd1 911) rfl rfl (Nat.le_of_ble_eq_true rfl) (k_fillW _ u 911 10 (List.mem_singleton.mpr rfl) rfl (by decide) (900)) (fun r v9 u9 hq k9 _ hk9 => by obtain ⟨-, rfl, rfl⟩ := hq; exact ⟨upA_ne (fun e9 => hk9 (List.mem_singleton.mpr e9)), rfl⟩) (fun r v9 u9 hq => ?_)
  obtain ⟨rfl, e8, e9⟩ := hq
  rw [e8, e9]
  refine K_iinc (q := 0) (z := 2) (lv' := [(3, .int (2)), (0, .ref 900), (1, .ref 500), (2, .ref 100)]) C dX8_init_60 rfl (by decide) (by decide) rfl ?_
  refine K_goto (tgt := 43) C dX8_init_63 (by decide) ?_
  refine K_iload_n C dX8_init_43 rfl 0 rfl ?_
  refine K_iconst (x := 4) C dX8_init_44 (by decide) ?_
  refine K_icmp_ge (tgt := 66) C dX8_init_45 (by decide) (fun c9 => absurd c9 (by decide)) (fun _ => ?_)
  refine K_aload_n C dX8_init_48 rfl 1 rfl ?_
  refine K_getr (ci := 8) (j := 2) (t := 903) C dX8_init_49 fl_X8_11 (List.mem_append_left _ (List.mem_append_left _ (List.mem_append_left _ ho))) rfl rfl rfl rfl ?_
  refine K_iload_n C dX8_init_52 rfl 0 rfl ?_
  refine K_aldM (k := 903) (n := 4) (t := 912) C dX8_init_53 (List.mem_append_left _ (List.mem_append_left _ (List.mem_append_right _ (by decide)))) rfl (by unfold vp_in; decide) rfl ?_
  refine K_sipush (x := 900) C dX8_init_54 (by decide) ?_
  refine K_callS (z := mJ7_fill_53178) (As := [.ref 912, .int (900)]) (rest := []) (I0 := [912]) C dX8_init_57 ml_X8_31 ok_J7_fill_53178 iv_J7_fill_53178 ⟨Nat.le_of_ble_eq_true rfl, Nat.le_of_ble_eq_true rfl⟩ ⟨by decide, by decide⟩ (List.forall_mem_cons.mpr ⟨(List.mem_append_left _ (List.mem_append_left _ (List.mem_append_right _ (by decide)))), fun _ h => absurd h List.not_mem_nil⟩) (List.forall_mem_cons.mpr ⟨fun j => (hf 912 (by decide)).2.2 j, fun _ h => absurd h List.not_mem_nil⟩) (fun _ => nd1 912) rfl rfl (Nat.le_of_ble_eq_true rfl) (k_fillW _ u 912 10 (List.mem_singleton.mpr rfl) rfl (by decide) (900)) (fun r v9 u9 hq k9 _ hk9 => by obtain ⟨-, rfl, rfl⟩ := hq; exact ⟨upA_ne (fun e9 => hk9 (List.mem_singleton.mpr e9)), rfl⟩) (fun r v9 u9 hq => ?_)
  obtain ⟨rfl, e8, e9⟩ := hq
  rw [e8, e9]
  refine K_iinc (q := 0) (z := 3) (lv' := [(3, .int (3)), (0, .ref 900), (1, .ref 500), (2, .ref 100)]) C dX8_init_60 rfl (by decide) (by decide) rfl ?_
  refine K_goto (tgt := 43) C dX8_init_63 (by decide) ?_
  refine K_iload_n C dX8_init_43 rfl 0 rfl ?_
  refine K_iconst (x := 4) C dX8_init_44 (by decide) ?_
  refine K_icmp_ge (tgt := 66) C dX8_init_45 (by decide) (fun c9 => absurd c9 (by decide)) (fun _ => ?_)
  refine K_aload_n C dX8_init_48 rfl 1 rfl ?_
  refine K_getr (ci := 8) (j := 2) (t := 903) C dX8_init_49 fl_X8_11 (List.mem_append_left _ (List.mem_append_left _ (List.mem_append_left _ ho))) rfl rfl rfl rfl ?_
  refine K_iload_n C dX8_init_52 rfl 0 rfl ?_
  refine K_aldM (k := 903) (n := 4) (t := 913) C dX8_init_53 (List.mem_append_left _ (List.mem_append_left _ (List.mem_append_right _ (by decide)))) rfl (by unfold vp_in; decide) rfl ?_
  refine K_sipush (x := 900) C dX8_init_54 (by decide) ?_
  refine K_callS (z := mJ7_fill_53178) (As := [.ref 913, .int (900)]) (rest := []) (I0 := [913]) C dX8_init_57 ml_X8_31 ok_J7_fill_53178 iv_J7_fill_53178 ⟨Nat.le_of_ble_eq_true rfl, Nat.le_of_ble_eq_true rfl⟩ ⟨by decide, by decide⟩ (List.forall_mem_cons.mpr ⟨(List.mem_append_left _ (List.mem_append_left _ (List.mem_append_right _ (by decide)))), fun _ h => absurd h List.not_mem_nil⟩) (List.forall_mem_cons.mpr ⟨fun j => (hf 913 (by decide)).2.2 j, fun _ h => absurd h List.not_mem_nil⟩) (fun _ => nd1 913) rfl rfl (Nat.le_of_ble_eq_true rfl) (k_fillW _ u 913 10 (List.mem_singleton.mpr rfl) rfl (by decide) (900)) (fun r v9 u9 hq k9 _ hk9 => by obtain ⟨-, rfl, rfl⟩ := hq; exact ⟨upA_ne (fun e9 => hk9 (List.mem_singleton.mpr e9)), rfl⟩) (fun r v9 u9 hq => ?_)
  obtain ⟨rfl, e8, e9⟩ := hq
  rw [e8, e9]
  refine K_iinc (q := 0) (z := 4) (lv' := [(3, .int (4)), (0, .ref 900), (1, .ref 500), (2, .ref 100)]) C dX8_init_60 rfl (by decide) (by decide) rfl ?_
  refine K_goto (tgt := 43) C dX8_init_63 (by decide) ?_
  refine K_iload_n C dX8_init_43 rfl 0 rfl ?_
  refine K_iconst (x := 4) C dX8_init_44 (by decide) ?_
  refine K_icmp_ge (tgt := 66) C dX8_init_45 (by decide) (fun _ => ?_) (fun c9 => absurd (by decide) c9)
  refine K_full (o := 900) (ci := 8) rfl (by decide) (fun j hj h1 => ?_) ?_
  · rcases (show j = 0 ∨ j = 1 ∨ j = 2 ∨ j = 3 ∨ j = 4 ∨ j = 5 ∨ j = 6 from by have h9 : j < 7 := hj; omega) with rfl | rfl | rfl | rfl | rfl | rfl | rfl
    all_goals first | rfl | exact absurd h1 (by decide)
  exact K_vret C dX8_init_66 rfl (by simp only [List.append_assoc, List.cons_append, List.nil_append, List.append_nil]) (fun _ _ => by simp only [mT_up]) (fun _ _ => rfl) (fun _ _ => rfl)
