theorem fr_X.narrow {L : Nat → Nat} {A B : Nat → Prop} {U : State} {H : Heap} (h : fr_X L A U H) (hAB : ∀ q, B q → A q) : fr_X L B U H :=
  ⟨h.1.narrow hAB, h.2.1.narrow hAB, h.2.2.1.narrow hAB, h.2.2.2.1.narrow hAB, h.2.2.2.2.1.narrow hAB, h.2.2.2.2.2.1.narrow hAB, h.2.2.2.2.2.2.1.narrow hAB, h.2.2.2.2.2.2.2.1.narrow hAB, h.2.2.2.2.2.2.2.2.1.narrow hAB, h.2.2.2.2.2.2.2.2.2⟩
theorem KS_P {L : Nat → Nat} {cA : Nat → ClassId} {D : va_G} {I I0 : List Nat} {M : Nat → Nat → Bool} {v : fr_V} {u : fr_U} {H : Heap} (hP : va_P D fr_cls (mwK L cA I M v u) H) (hsub : ∀ k ∈ I0, k ∈ I) (hm : ∀ k ∈ I0, ∀ j, M k j = true) : va_P D fr_cls (mw L cA I0 v u) H := by
  intro i q hq
  simp only [mw, List.getElem?_map] at hq
  cases ha : I0[i]? with
  | none => rw [ha] at hq; cases hq
  | some k =>
    rw [ha] at hq
    have hq := Option.some.inj hq
    subst hq
    have hk := List.mem_of_getElem? ha
    obtain ⟨j, -, hj⟩ := mwK_get (L := L) (cA := cA) (M := M) (v := v) (u := u) (hsub k hk)
    have h := hP j _ hj
    rw [entK_full (hm k hk)] at h
    exact h
theorem KS_D {L : Nat → Nat} {cA : Nat → ClassId} {I I0 : List Nat} {M : Nat → Nat → Bool} {v : fr_V} {u : fr_U} {A0 : Nat → Prop} (hD : va_D A0 (mwK L cA I M v u)) (hsub : ∀ k ∈ I0, k ∈ I) (hnd : ∀ (i j k : Nat), I0[i]? = some k → I0[j]? = some k → i = j) : va_D (Aw L I0) (mw L cA I0 v u) := by
  have g : ∀ (i : Nat) (p : Nat × va_E), (mw L cA I0 v u)[i]? = some p → ∃ k, I0[i]? = some k ∧ p.1 = L k := by
    intro i p hp
    simp only [mw, List.getElem?_map] at hp
    cases ha : I0[i]? with
    | none => rw [ha] at hp; cases hp
    | some k =>
      rw [ha] at hp
      have hp := Option.some.inj hp
      subst hp
      exact ⟨k, rfl, rfl⟩
  refine ⟨fun i j p q hp hq hpq => ?_, fun i q hq => ?_⟩
  · obtain ⟨k1, h1, e1⟩ := g i p hp
    obtain ⟨k2, h2, e2⟩ := g j q hq
    have e := mwK_inj hD (hsub k1 (List.mem_of_getElem? h1)) (hsub k2 (List.mem_of_getElem? h2)) (by rw [← e1, ← e2]; exact hpq)
    subst e
    exact hnd i j k1 h1 h2
  · obtain ⟨k, h1, e1⟩ := g i q hq
    exact ⟨k, List.mem_of_getElem? h1, e1⟩
theorem KS_A {L : Nat → Nat} {cA : Nat → ClassId} {I I0 : List Nat} {M : Nat → Nat → Bool} {v : fr_V} {u : fr_U} {A0 : Nat → Prop} (hD : va_D A0 (mwK L cA I M v u)) (hsub : ∀ k ∈ I0, k ∈ I) : ∀ q, Aw L I0 q → A0 q := by
  intro q h
  obtain ⟨k, hk, rfl⟩ := h
  obtain ⟨j, -, hj⟩ := mwK_get (L := L) (cA := cA) (M := M) (v := v) (u := u) (hsub k hk)
  exact hD.2 j _ hj
/-- behind a call: the callee's cells new, the others as they were -/
theorem KS_back {L : Nat → Nat} {cA : Nat → ClassId} {D : va_G} {I I0 : List Nat} {M : Nat → Nat → Bool} {v v' : fr_V} {u u' : fr_U} {A0 : Nat → Prop} {H H1 : Heap} (hP : va_P D fr_cls (mwK L cA I M v u) H) (hD : va_D A0 (mwK L cA I M v u)) (hsub : ∀ k ∈ I0, k ∈ I) (hm : ∀ k ∈ I0, ∀ j, M k j = true) (hk : ∀ q, q < H.size → ¬ Aw L I0 q → H1[q]? = H[q]?) (hP1 : va_P D fr_cls (mw L cA I0 v' u') H1) (hoff : ∀ k ∈ I, k ∉ I0 → v' k = v k ∧ u' k = u k) : va_P D fr_cls (mwK L cA I M v' u') H1 := by
  intro i q hq
  simp only [mwK, List.getElem?_map] at hq
  cases ha : I[i]? with
  | none => rw [ha] at hq; cases hq
  | some k =>
    rw [ha] at hq
    have hq := Option.some.inj hq
    subst hq
    have hkI := List.mem_of_getElem? ha
    by_cases h0 : k ∈ I0
    · obtain ⟨j, -, hj⟩ := mw_get (L := L) (cA := cA) (v := v') (u := u') h0
      have h := hP1 j _ hj
      show va_at D fr_cls (L k, entK L cA (M k) k (v' k) (u' k)) H1
      rw [entK_full (hm k h0)]
      exact h
    · obtain ⟨j, -, hj⟩ := mwK_get (L := L) (cA := cA) (M := M) (v := v) (u := u) hkI
      have h := hP j _ hj
      obtain ⟨e1, e2⟩ := hoff k hkI h0
      show va_at D fr_cls (L k, entK L cA (M k) k (v' k) (u' k)) H1
      rw [e1, e2]
      refine h.kept (hk _ h.lt (fun ⟨k2, hk2, e⟩ => ?_))
      exact h0 (by rw [mwK_inj hD hkI (hsub k2 hk2) e]; exact hk2)
def KA (L : Nat → Nat) (I : List Nat) (sz : Nat) : Nat → Prop := fun q => Aw L I q ∨ sz ≤ q
def KR (y : fr_M) (mc ms : Nat) : Room := { frames := y.2.2.2.2.1, cells := mc, slots := ms, locals := y.2.2.2.2.2 }
def KP (L : Nat → Nat) (cA : Nat → ClassId) (D : va_G) (sz : Nat) (T I : List Nat) (M : Nat → Nat → Bool) (v : fr_V) (u : fr_U) (U : State) : Prop :=
  va_P D fr_cls (mwK L cA I M v u) U.heap ∧ va_K D fr_cls (fr_tys cA) U ∧ va_D (KA L I sz) (mwK L cA I M v u) ∧ fr_X L (KA L I sz) U U.heap ∧ kw U ∧ U.heap.size = sz ∧ ∀ (i k : Nat), T[i]? = some k → L k = sz + i
def KQ (L : Nat → Nat) (cA : Nat → ClassId) (D : va_G) (A : Nat → Prop) (I : List Nat) (M : Nat → Nat → Bool) (v : fr_V) (u : fr_U) : Array Value → State → Outcome → State → Prop := fun _ st oc t =>
  (oc = .returned none ∧ va_P D fr_cls (mwK L cA I M v u) t.heap ∧ va_K D fr_cls (fr_tys cA) t ∧ va_D A (mwK L cA I M v u)) ∧ va_F A st t
/-- a constructor: it makes the cells T, in their order -/
def KCon (l : Launch) (y : fr_M) (ms : Nat) (L : Nat → Nat) (cA : Nat → ClassId) (D : va_G) (T I : List Nat) (M : Nat → Nat → Bool) (v : fr_V) (u : fr_U) (args : List Value) (M' : Nat → Nat → Bool) (v' : fr_V) (u' : fr_U) : Prop :=
  ∀ sz : Nat, Met l y.1 (fr_ws y) (KR y T.length ms) (va_Pc (args.map (cv L)) (KP L cA D sz T I M v u)) (KQ L cA D (KA L I sz) (I ++ T) M' v' u') T.length ms (KA L I sz)
section KCN
variable {l : Launch} {y : fr_M} {L : Nat → Nat} {cA : Nat → ClassId} {D : va_G} {T I : List Nat} {M M' : Nat → Nat → Bool} {v v' : fr_V} {u u' : fr_U}
theorem KCon.of {ms : Nat} {args : List Value} (hy : plainName y.1.cls = true) (hn : (lg_sl args).length ≤ y.2.2.1)
    (h : ∀ (A0 : Nat → Prop) (p : Program) (e : Env) (s : State) (m : MethodId) (as : Array Value) (below : List Frame) (meth : Method) (c : Code), KC L cA D A0 y p s m as meth c → (∀ q, Aw L I q → A0 q) → (∀ q, s.heap.size ≤ q → A0 q) → KJ l (KR y T.length ms) y L cA D A0 p e s m as below meth c (MQ below (KQ L cA D A0 (I ++ T) M' v' u') as s T.length ms A0) 0 0 T I M v u 0 (lv_args 0 args) []) : KCon l y ms L cA D T I M v u args M' v' u' := by
  intro sz
  refine Met.ofW (cc := y.2.1) (maxL := y.2.2.1) (ret := y.2.2.2.1) hy rfl ?_
  intro p e s m args' below meth c s₁ B hml hv
  obtain ⟨rfl, hP, hK, hD, hX, hkw, hsz, hTs⟩ := hv
  subst hsz
  have hts := atoms_spec (ws := fr_ws y) B.pre
  have hl := lv_entry (args.map (cv L)) (n := y.2.2.1) (by rw [cv_sl]; exact hn)
  rw [lg_entry_eq]
  rw [cv_args] at hl
  exact h (KA L I s.heap.size) p e s m _ below meth c ⟨B.exec, B.bytes, B.returns, hml, findClass_of_methodNamed B.named, B.notSynchronized, fun w hw => hts w (List.mem_cons_of_mem _ hw), hX, hK, (name_of_methodNamed B.named B.method).1, fun q hq => Or.inr hq, hkw⟩ (fun q hq => Or.inl hq) (fun q hq => Or.inr hq) s.heap [] _ hP hD va_S.rf (fun i k hk => ⟨by rw [hTs i k hk]; rfl, Or.inl rfl⟩) hl
end KCN
section KFC
variable {l : Launch} {R : Room} {y : fr_M} {L : Nat → Nat} {cA : Nat → ClassId} {D : va_G} {A0 : Nat → Prop} {p : Program} {e : Env} {s : State} {m : MethodId} {args : Array Value} {below : List Frame} {meth : Method} {c : Code} {Z : State → Prop} {ce sl : Nat} {T I : List Nat} {M : Nat → Nat → Bool} {v : fr_V} {u : fr_U} {pc : Nat} {lv : List (Nat × Value)} {st : List Value}
theorem K_vret {as : Array Value} {M' : Nat → Nat → Bool} {v' : fr_V} {u' : fr_U} {I2 : List Nat} (C : KC L cA D A0 y p s m as meth c) (d : decode y.2.1 pc = .ok (.return_, 1)) (hr : y.2.2.2.1 = none) (hI : I = I2) (hM : ∀ k ∈ I, M' k = M k) (hv : ∀ k ∈ I, v' k = v k) (hu : ∀ k ∈ I, u' k = u k) : KJ l R y L cA D A0 p e s m as below meth c (MQ below (KQ L cA D A0 I2 M' v' u') as s ce sl A0) ce sl T I M v u pc lv [] := by
  subst hI
  intro H locs ls hP hD hS hT hl
  have hw : mwK L cA I M' v' u' = mwK L cA I M v u := List.map_congr_left (fun k hk => by rw [hM k hk, hv k hk, hu k hk])
  exact W.vret C.1 C.2.1 (C.2.2.1.trans hr) (fun t ht hW => ⟨⟨rfl, by rw [ht, hw]; exact hP, va_K.moved hW.alike C.2.2.2.2.2.2.2.2.1, by rw [hw]; exact hD⟩, hS.F ht⟩) hS.2.2 d C.2.2.2.2.2.1
theorem K_objInit (C : KC L cA D A0 y p s m args meth c) {idx o : Nat} (d : decode y.2.1 pc = .ok (.invokespecial idx, 3)) (hw : Cond.methodLink y.1.cls idx Lib.objectInit ∈ gt) (hi : Cond.instanceMethod Lib.objectInit ∈ gt) (hc : Cond.code Lib.objectInit ⟨#[0xb1]⟩ 1 none ∈ gt) (hR : 1 ≤ R.frames ∧ (st.map fun v => v.category).sum + 12 ≤ R.locals) (kk : KJ l R y L cA D A0 p e s m args below meth c Z ce sl T I M v u (pc + 3) lv st) : KJ l R y L cA D A0 p e s m args below meth c Z ce sl T I M v u pc lv (.ref o :: st) := by
  intro H locs ls hP hD hS hT hl
  have h9 := kk H locs ls hP hD hS hT hl
  have hT9 := C.2.2.2.2.2.2.1
  exact W.objInit (g := F0 m pc ls ((.ref o :: st).map (cv L))) (a := L o) (rest := st.map (cv L)) C.1 C.2.1 C.2.2.2.2.1 (hT9 _ hw) (hT9 _ hi) (hT9 _ hc) rfl (hl.1.trans C.2.2.2.1.symm) rfl d hR.1 (by rw [cv_sum]; show 2 * 0 + _ + 12 ≤ _; omega) h9
theorem K_back {z : fr_M} {H : Heap} {locs : List Loc} {ls : Array Slot} {a9 : Array Value} {st0 rest : List Value} {I0 : List Nat} {Qz : Option Value → fr_V → fr_U → Prop}
    (hr : va_Run p l e R s m args below meth c H locs ce sl 0 0 (F0 m pc ls st0) (rest.map (cv L)) (fr_Q L cA D I0 Qz a9) (Aw L I0)) (hP : va_P D fr_cls (mwK L cA I M v u) H) (hD : va_D A0 (mwK L cA I M v u)) (hS : va_S A0 s.heap H locs) (hT : KT L I s ce T) (hl : lv_has ls y.2.2.1 (lv.map (cvp L))) (hsub : ∀ k ∈ I0, k ∈ I) (hm : ∀ k ∈ I0, ∀ j, M k j = true) (hoff : ∀ r v' u', Qz r v' u' → ∀ k ∈ I, k ∉ I0 → v' k = v k ∧ u' k = u k)
    (k : ∀ r v' u', Qz r v' u' → KJ l R y L cA D A0 p e s m args below meth c Z ce sl T I M v' u' (pc + 3) lv (r.toList ++ rest)) : W p l e R s m args below meth c H locs ce sl Z (F0 m pc ls st0) := by
  intro T9 hT9 X
  obtain ⟨r9, st₀, t, T', L9, h0, X', hL9, e1, e2, ⟨⟨r, v', u', hv, hq, hP', hK'⟩, hz, hk⟩, stp⟩ := hr T9 hT9 X
  have hv2 : r9 = r.map (cv L) := Outcome.returned.inj hv
  subst hv2
  rw [h0] at hz hk
  have hA := KS_A hD hsub
  have hS1 : va_S A0 s.heap T'.heap (locs ++ L9) := ⟨Nat.le_trans hS.1 (by rw [e1]; exact hz), fun q h1 h2 => by rw [e1, hk q (Nat.lt_of_lt_of_le h1 hS.1) (fun z => h2 (hA q z))]; exact hS.2.1 q h1 h2, fun q hq => by
      rcases List.mem_append.mp hq with h | h
      · exact hS.2.2 q h
      · exact hA _ (hL9 q h)⟩
  have hW := k r v' u' hq T'.heap (locs ++ L9) ls (by rw [e1]; exact KS_back hP hD hsub hm hk hP' (hoff r v' u' hq)) (mwK_D hD) hS1 hT hl
  obtain ⟨t2, a1, b1⟩ := hW T' rfl X'
  refine ⟨t2, stp t2 ?_, b1⟩
  have he : (r.toList ++ rest).map (cv L) = (r.map (cv L)).toList ++ rest.map (cv L) := by cases r <;> simp
  rw [he] at a1
  exact a1
theorem K_pre (C : KC L cA D A0 y p s m args meth c) {av : List Value} {I0 : List Nat} {H : Heap} {locs : List Loc} (hP : va_P D fr_cls (mwK L cA I M v u) H) (hD : va_D A0 (mwK L cA I M v u)) (hS : va_S A0 s.heap H locs) (hsub : ∀ k ∈ I0, k ∈ I) (hm : ∀ k ∈ I0, ∀ j, M k j = true) (hnd : ∀ (i j k : Nat), I0[i]? = some k → I0[j]? = some k → i = j) : ∀ U : State, U.heap = H → s.WarmedH U.vm → va_Pc av (fr_P L cA D I0 v u) av.toArray U := by
  intro U hU hW
  refine ⟨rfl, by rw [hU]; exact KS_P hP hsub hm, va_K.moved hW.alike C.2.2.2.2.2.2.2.2.1, KS_D hD hsub hnd, ?_⟩
  rw [hU]
  exact (fr_X.warm hW (C.2.2.2.2.2.2.2.1.kept hS.2.1)).narrow (KS_A hD hsub)
theorem K_callV (C : KC L cA D A0 y p s m args meth c) {z : fr_M} {idx o ci n : Nat} {As rest : List Value} {I0 : List Nat} {Qz : Option Value → fr_V → fr_U → Prop} (d : decode y.2.1 pc = .ok (.invokevirtual idx, 3)) (hw : Cond.methodLink y.1.cls idx z.1 ∈ gt) (hz : MOK z n) (hv : Cond.instanceMethod z.1 ∈ gt ∧ Cond.selects z.1.cls z.1 z.1 ∈ gt) (hR : z.2.2.2.2.1 + 1 ≤ R.frames ∧ 8 + (z.2.2.1 + 11) + z.2.2.2.2.2 ≤ R.locals) (hce : ce ≤ R.cells ∧ sl ≤ R.slots)
    (hsub : ∀ k ∈ I0, k ∈ I) (hm : ∀ k ∈ I0, ∀ j, M k j = true) (hnd : va_D A0 (mwK L cA I M v u) → ∀ (i j k : Nat), I0[i]? = some k → I0[j]? = some k → i = j) (ho : o ∈ I0) (hs : (sh o).1 = ci) (hc : (fr_cls[ci]?).map (fun q => q.1) = some z.1.cls) (hst : st = As.reverse ++ .ref o :: rest) (hn : As.length = n) (hsum : (rest.map fun x => x.category).sum ≤ 8) (hC : Con l z I0 v u (.ref o :: As) Qz) (hoff : ∀ r v' u', Qz r v' u' → ∀ k ∈ I, k ∉ I0 → v' k = v k ∧ u' k = u k)
    (k : ∀ r v' u', Qz r v' u' → KJ l R y L cA D A0 p e s m args below meth c Z ce sl T I M v' u' (pc + 3) lv (r.toList ++ rest)) : KJ l R y L cA D A0 p e s m args below meth c Z ce sl T I M v u pc lv st := by
  intro H locs ls hP hD hS hT hl
  subst hst
  obtain ⟨q, hcq, hq1⟩ : ∃ q : vw_C, fr_cls[ci]? = some q ∧ q.1 = z.1.cls := by
    cases h : fr_cls[ci]? with
    | none => rw [h] at hc; cases hc
    | some q => rw [h] at hc; exact ⟨q, rfl, Option.some.inj hc⟩
  have hci : ci < 12 := (List.getElem?_eq_some_iff.mp hcq).1
  have hnd := hnd hD
  obtain ⟨q0, -, hq0⟩ := mw_get (L := L) (cA := cA) (v := v) (u := u) ho
  rw [ent_o hs (by omega)] at hq0
  have hT9 := C.2.2.2.2.2.2.1
  have cb : CallB R s args y.1.cls idx z.1 z.2.1 z.2.2.1 z.2.2.2.1 (fr_ws z) (fr_rm z) 0 0 n := callB_of n hT9 (fr_good hz) rfl rfl rfl (hT9 _ hz.2.1) (hT9 _ hw) hz.2.2 hR
  have hrun := va_runV (l := l) (e := e) (below := below) (meth := meth) (H := H) (locs := locs) (cells := ce) (slots := sl) (b := L o) (As := As.map (cv L)) (rest := rest.map (cv L)) (g := F0 m pc ls ((As.reverse ++ .ref o :: rest).map (cv L))) ⟨C.1, C.2.1, C.2.2.2.1, C.2.2.2.2.1, hT9⟩ (hC L cA D) (C := z.1.cls) ⟨cb, hT9 _ hv.1, hT9 _ hv.2⟩
    ⟨fr_blind, by have hrc := va_recv C.2.2.2.2.2.2.2.2.1 (KS_P hP hsub hm) hcq hq0; rw [hq1] at hrc; exact hrc, K_pre (av := (Value.ref o :: As).map (cv L)) C hP hD hS hsub hm hnd⟩ rfl (by rw [List.length_map]; exact hn) hl.1 (by simp [cv, List.map_reverse]) (lv_room (by rw [cv_sum]; exact hsum)) d hce
  exact K_back (z := z) hrun hP hD hS hT hl hsub hm hoff k
theorem K_callS (C : KC L cA D A0 y p s m args meth c) {z : fr_M} {idx n : Nat} {As rest : List Value} {I0 : List Nat} {Qz : Option Value → fr_V → fr_U → Prop} (d : decode y.2.1 pc = .ok (.invokestatic idx, 3)) (hw : Cond.methodLink y.1.cls idx z.1 ∈ gt) (hz : MOK z n) (hv : Cond.static z.1 ∈ gt) (hR : z.2.2.2.2.1 + 1 ≤ R.frames ∧ 8 + (z.2.2.1 + 11) + z.2.2.2.2.2 ≤ R.locals) (hce : ce ≤ R.cells ∧ sl ≤ R.slots)
    (hsub : ∀ k ∈ I0, k ∈ I) (hm : ∀ k ∈ I0, ∀ j, M k j = true) (hnd : va_D A0 (mwK L cA I M v u) → ∀ (i j k : Nat), I0[i]? = some k → I0[j]? = some k → i = j) (hst : st = As.reverse ++ rest) (hn : As.length = n) (hsum : (rest.map fun x => x.category).sum ≤ 8) (hC : Con l z I0 v u As Qz) (hoff : ∀ r v' u', Qz r v' u' → ∀ k ∈ I, k ∉ I0 → v' k = v k ∧ u' k = u k)
    (k : ∀ r v' u', Qz r v' u' → KJ l R y L cA D A0 p e s m args below meth c Z ce sl T I M v' u' (pc + 3) lv (r.toList ++ rest)) : KJ l R y L cA D A0 p e s m args below meth c Z ce sl T I M v u pc lv st := by
  intro H locs ls hP hD hS hT hl
  subst hst
  have hnd := hnd hD
  have hT9 := C.2.2.2.2.2.2.1
  have cb : CallB R s args y.1.cls idx z.1 z.2.1 z.2.2.1 z.2.2.2.1 (fr_ws z) (fr_rm z) 0 0 n := callB_of n hT9 (fr_good hz) rfl rfl rfl (hT9 _ hz.2.1) (hT9 _ hw) hz.2.2 hR
  have hrun := va_runS (l := l) (e := e) (below := below) (meth := meth) (H := H) (locs := locs) (cells := ce) (slots := sl) (As := As.map (cv L)) (rest := rest.map (cv L)) (g := F0 m pc ls ((As.reverse ++ rest).map (cv L))) ⟨C.1, C.2.1, C.2.2.2.1, C.2.2.2.2.1, hT9⟩ (hC L cA D) ⟨cb, hT9 _ hv⟩
    ⟨fr_blind, K_pre (av := As.map (cv L)) C hP hD hS hsub hm hnd⟩ rfl (by rw [List.length_map]; exact hn) hl.1 (by simp [List.map_reverse]) (lv_room (by rw [cv_sum]; exact hsum)) d hce
  exact K_back (z := z) hrun hP hD hS hT hl hsub hm hoff k
theorem K_blind {av : List Value} {sz : Nat} : FrameBlind (va_Pc av (KP L cA D sz T I M v u)) := by
  intro a U g mk q
  obtain ⟨q0, qP, qK, qD, qX, qk, qs, qT⟩ := q
  exact ⟨q0, qP, va_K.moved (u := U) (U := U.calling g mk a) (Vm.Alike.refl U.vm) qK, qD, fr_X.same (u := U) (U := U.calling g mk a) rfl qX, kw.moved (u := U) (U := U.calling g mk a) (Vm.Alike.refl U.vm) qk, qs, qT⟩
/-- behind a constructor -/
theorem K_cback {ms ce' sl' : Nat} {H : Heap} {locs : List Loc} {ls : Array Slot} {a9 : Array Value} {st0 rest : List Value} {T1 : List Nat} {M' : Nat → Nat → Bool} {v' : fr_V} {u' : fr_U} (C : KC L cA D A0 y p s m args meth c)
    (hr : va_Run p l e R s m args below meth c H locs ce sl T1.length ms (F0 m pc ls st0) (rest.map (cv L)) (KQ L cA D (KA L I H.size) (I ++ T1) M' v' u' a9) (KA L I H.size)) (hP : va_P D fr_cls (mwK L cA I M v u) H) (hD : va_D A0 (mwK L cA I M v u)) (hS : va_S A0 s.heap H locs) (hT : KT L I s ce (T1 ++ T)) (hl : lv_has ls y.2.2.1 (lv.map (cvp L))) (hce : ce + T1.length = ce') (hsl : sl + ms = sl')
    (k : KJ l R y L cA D A0 p e s m args below meth c Z ce' sl' T (I ++ T1) M' v' u' (pc + 3) lv rest) : W p l e R s m args below meth c H locs ce sl Z (F0 m pc ls st0) := by
  subst hce; subst hsl
  intro T9 hT9 X
  obtain ⟨r9, st₀, t, T', L9, h0, X', hL9, e1, e2, ⟨⟨hv, hP', hK', hD'⟩, hz, hk⟩, stp⟩ := hr T9 hT9 X
  have hv2 : r9 = none := Outcome.returned.inj hv
  subst hv2
  rw [h0] at hz hk
  have hA : ∀ q, KA L I H.size q → A0 q := fun q h => h.elim (fun h => KS_A hD (fun _ h => h) q h) (fun h => C.2.2.2.2.2.2.2.2.2.2.1 q (Nat.le_trans hS.1 h))
  have hS1 : va_S A0 s.heap T'.heap (locs ++ L9) := ⟨Nat.le_trans hS.1 (by rw [e1]; exact hz), fun q h1 h2 => by rw [e1, hk q (Nat.lt_of_lt_of_le h1 hS.1) (fun z => h2 (hA q z))]; exact hS.2.1 q h1 h2, fun q hq => by
      rcases List.mem_append.mp hq with h | h
      · exact hS.2.2 q h
      · exact hA _ (hL9 q h)⟩
  have hT1 : KT L (I ++ T1) s (ce + T1.length) T := by
    intro i k9 h9
    have h := hT (T1.length + i) k9 (by rw [List.getElem?_append_right (by omega)]; rw [show T1.length + i - T1.length = i by omega]; exact h9)
    refine ⟨by omega, ?_⟩
    by_cases hz9 : T1.length = 0
    · rcases h.2 with h2 | ⟨k0, h2, h3⟩
      · exact Or.inl (by omega)
      · exact Or.inr ⟨k0, List.mem_append_left _ h2, by omega⟩
    · have hlt : T1.length - 1 < T1.length := by omega
      obtain ⟨k0, hk0⟩ : ∃ k0, T1[T1.length - 1]? = some k0 := ⟨_, List.getElem?_eq_getElem hlt⟩
      have h4 := (hT (T1.length - 1) k0 (by rw [List.getElem?_append_left hlt]; exact hk0)).1
      exact Or.inr ⟨k0, List.mem_append_right _ (List.mem_of_getElem? hk0), by omega⟩
  have hD1 : va_D A0 (mwK L cA (I ++ T1) M' v' u') := ⟨hD'.1, fun k9 q h9 => hA _ (hD'.2 k9 q h9)⟩
  have hW := k T'.heap (locs ++ L9) ls (by rw [e1]; exact hP') hD1 hS1 hT1 hl
  obtain ⟨t2, a1, b1⟩ := hW T' rfl X'
  exact ⟨t2, stp t2 a1, b1⟩
theorem K_cpre (C : KC L cA D A0 y p s m args meth c) {av : List Value} {H : Heap} {locs : List Loc} {T1 : List Nat} (hP : va_P D fr_cls (mwK L cA I M v u) H) (hD : va_D A0 (mwK L cA I M v u)) (hS : va_S A0 s.heap H locs) (hT1 : ∀ (i k : Nat), T1[i]? = some k → L k = H.size + i) : ∀ U : State, U.heap = H → s.WarmedH U.vm → va_Pc av (KP L cA D H.size T1 I M v u) av.toArray U := by
  intro U hU hW
  have hA : ∀ q, KA L I H.size q → A0 q := fun q h => h.elim (fun h => KS_A hD (fun _ h => h) q h) (fun h => C.2.2.2.2.2.2.2.2.2.2.1 q (Nat.le_trans hS.1 h))
  refine ⟨rfl, by rw [hU]; exact hP, va_K.moved hW.alike C.2.2.2.2.2.2.2.2.1, ⟨hD.1, fun k9 q h9 => ?_⟩, ?_, kw.moved hW.alike C.2.2.2.2.2.2.2.2.2.2.2, by rw [hU], hT1⟩
  · simp only [mwK, List.getElem?_map] at h9
    cases ha : I[k9]? with
    | none => rw [ha] at h9; cases h9
    | some k => rw [ha] at h9; cases h9; exact Or.inl ⟨k, List.mem_of_getElem? ha, rfl⟩
  · rw [hU]
    exact (fr_X.warm hW (C.2.2.2.2.2.2.2.1.kept hS.2.1)).narrow hA
theorem K_sz {H : Heap} {locs : List Loc} {T1 : List Nat} (hP : va_P D fr_cls (mwK L cA I M v u) H) (hS : va_S A0 s.heap H locs) (hT : KT L I s ce (T1 ++ T)) {X : State} (hX : X.heap = H) (st9 : Stand p l e R s m args below meth c X locs ce sl) : ∀ (i k : Nat), T1[i]? = some k → L k = H.size + i := by
  cases T1 with
  | nil => intro i k h; cases h
  | cons k0 T1 =>
    have h := K_size (T := T1 ++ T) hP hS hT hX st9
    intro i k hi
    have h1 := (hT i k (by rw [List.getElem?_append_left (List.getElem?_eq_some_iff.mp hi).1]; exact hi)).1
    omega
theorem K_callI (C : KC L cA D A0 y p s m args meth c) {z : fr_M} {idx o n ms ce' sl' : Nat} {As rest : List Value} {T1 : List Nat} {M' : Nat → Nat → Bool} {v' : fr_V} {u' : fr_U} (d : decode y.2.1 pc = .ok (.invokespecial idx, 3)) (hw : Cond.methodLink y.1.cls idx z.1 ∈ gt ∨ ∃ host, va_Nw (.methodLinkNest y.1.cls idx z.1 host) s) (hz : MOK z n) (hrt : z.2.2.2.1 = none) (hnm : z.1.name = "<init>") (hv : Cond.instanceMethod z.1 ∈ gt) (hR : z.2.2.2.2.1 + 1 ≤ R.frames ∧ 8 + (z.2.2.1 + 11) + z.2.2.2.2.2 ≤ R.locals) (hce : ce + T1.length = ce') (hsl : sl + ms = sl') (hce2 : ce' ≤ R.cells ∧ sl' ≤ R.slots)
    (hst : st = As.reverse ++ .ref o :: rest) (hn : As.length = n) (hsum : (rest.map fun x => x.category).sum ≤ 8) (hC : KCon l z ms L cA D T1 I M v u (.ref o :: As) M' v' u')
    (k : KJ l R y L cA D A0 p e s m args below meth c Z ce' sl' T (I ++ T1) M' v' u' (pc + 3) lv rest) : KJ l R y L cA D A0 p e s m args below meth c Z ce sl (T1 ++ T) I M v u pc lv st := by
  intro H locs ls hP hD hS hT hl X hX st9
  subst hst
  have hT1 := K_sz hP hS hT hX st9
  have hT9 := C.2.2.2.2.2.2.1
  have hcc : Cond.code z.1 z.2.1 z.2.2.1 none ∈ gt := by rw [← hrt]; exact hz.1
  have hC9 := hC H.size
  have hrun : va_Run p l e R s m args below meth c H locs ce sl T1.length ms (F0 m pc ls ((As.reverse ++ .ref o :: rest).map (cv L))) (rest.map (cv L)) (KQ L cA D (KA L I H.size) (I ++ T1) M' v' u' (Value.ref (L o) :: As.map (cv L)).toArray) (KA L I H.size) := by
    rcases hw with hw | ⟨host, hw⟩
    · have cb : CallB R s args y.1.cls idx z.1 z.2.1 z.2.2.1 none (fr_ws z) (KR z T1.length ms) T1.length ms n := callB_of n hT9 (fr_good hz) (by unfold fr_ws; rw [hrt]) rfl rfl (hT9 _ hz.2.1) (hT9 _ hw) hz.2.2 hR
      exact va_runI (l := l) (e := e) (below := below) (meth := meth) (H := H) (locs := locs) (cells := ce) (slots := sl) (b := L o) (As := As.map (cv L)) (rest := rest.map (cv L)) (g := F0 m pc ls ((As.reverse ++ .ref o :: rest).map (cv L))) ⟨C.1, C.2.1, C.2.2.2.1, C.2.2.2.2.1, hT9⟩ hC9 ⟨cb, hnm, hT9 _ hv⟩ ⟨K_blind, K_cpre (av := (Value.ref o :: As).map (cv L)) C hP hD hS hT1⟩ rfl (by rw [List.length_map]; exact hn) hl.1 (by simp [cv, List.map_reverse]) (lv_room (by rw [cv_sum]; exact hsum)) d (by rw [hce, hsl]; exact hce2)
    · have cb : va_CN R s args y.1.cls idx z.1 host z.2.1 z.2.2.1 none (fr_ws z) (KR z T1.length ms) T1.length ms n := va_cnB n hT9 (fr_good hz) (by unfold fr_ws; rw [hrt]) rfl rfl hw (hT9 _ hz.2.1) hz.2.2 hR
      exact va_runIN (l := l) (e := e) (below := below) (meth := meth) (H := H) (locs := locs) (cells := ce) (slots := sl) (b := L o) (As := As.map (cv L)) (rest := rest.map (cv L)) (g := F0 m pc ls ((As.reverse ++ .ref o :: rest).map (cv L))) ⟨C.1, C.2.1, C.2.2.2.1, C.2.2.2.2.1, hT9⟩ hC9 ⟨cb, hnm, hT9 _ hv⟩ ⟨K_blind, K_cpre (av := (Value.ref o :: As).map (cv L)) C hP hD hS hT1⟩ rfl (by rw [List.length_map]; exact hn) hl.1 (by simp [cv, List.map_reverse]) (lv_room (by rw [cv_sum]; exact hsum)) d (by rw [hce, hsl]; exact hce2)
  exact K_cback C hrun hP hD hS hT hl hce hsl k X hX st9
end KFC
