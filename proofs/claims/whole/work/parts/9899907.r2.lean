section R2
variable {l : Launch} {R : Room} {y : fr_M} {L : Nat → Nat} {cA : Nat → ClassId} {D : va_G} {A0 : Nat → Prop} {p : Program} {e : Env} {s : State} {m : MethodId} {args : Array Value} {below : List Frame} {meth : Method} {c : Code} {Z : State → Prop} {ce sl : Nat} {T I : List Nat} {M : Nat → Nat → Bool} {v : fr_V} {u : fr_U} {pc : Nat} {lv : List (Nat × Value)} {st : List Value}
/-- behind a method that has made cells and gives an int -/
theorem KI_back {ms ce' sl' : Nat} {H : Heap} {locs : List Loc} {ls : Array Slot} {a9 : Array Value} {st0 rest : List Value} {T1 : List Nat} {M' : Nat → Nat → Bool} {v' : fr_V} {u' : fr_U} {r : Int32} (C : KC L cA D A0 y p s m args meth c)
    (hr : va_Run p l e R s m args below meth c H locs ce sl T1.length ms (F0 m pc ls st0) (rest.map (cv L)) (KQi L cA D (KA L I H.size) (I ++ T1) M' v' u' r a9) (KA L I H.size)) (hD : va_D A0 (mwK L cA I M v u)) (hS : va_S A0 s.heap H locs) (hl : lv_has ls y.2.2.1 (lv.map (cvp L))) (hce : ce + T1.length = ce') (hsl : sl + ms = sl')
    (k : KJ l R y L cA D A0 p e s m args below meth c Z ce' sl' [] (I ++ T1) M' v' u' (pc + 3) lv (.int r :: rest)) : W p l e R s m args below meth c H locs ce sl Z (F0 m pc ls st0) := by
  subst hce; subst hsl
  intro T9 hT9 X
  obtain ⟨r9, st₀, t, T', L9, h0, X', hL9, e1, e2, ⟨⟨hv, hP', hK', hD'⟩, hz, hk⟩, stp⟩ := hr T9 hT9 X
  have hv2 : r9 = some (.int r) := Outcome.returned.inj hv
  subst hv2
  rw [h0] at hz hk
  have hA : ∀ q, KA L I H.size q → A0 q := fun q h => h.elim (fun h => KS_A hD (fun _ h => h) q h) (fun h => C.2.2.2.2.2.2.2.2.2.2.1 q (Nat.le_trans hS.1 h))
  have hS1 : va_S A0 s.heap T'.heap (locs ++ L9) := ⟨Nat.le_trans hS.1 (by rw [e1]; exact hz), fun q h1 h2 => by rw [e1, hk q (Nat.lt_of_lt_of_le h1 hS.1) (fun z => h2 (hA q z))]; exact hS.2.1 q h1 h2, fun q hq => by
      rcases List.mem_append.mp hq with h | h
      · exact hS.2.2 q h
      · exact hA _ (hL9 q h)⟩
  have hD1 : va_D A0 (mwK L cA (I ++ T1) M' v' u') := ⟨hD'.1, fun k9 q h9 => hA _ (hD'.2 k9 q h9)⟩
  have hW := k T'.heap (locs ++ L9) ls (by rw [e1]; exact hP') hD1 hS1 (fun i k9 h9 => by simp at h9) hl
  obtain ⟨t2, a1, b1⟩ := hW T' rfl X'
  exact ⟨t2, stp t2 a1, b1⟩
/-- a call of such a method, the addresses of its cells known -/
theorem K_runI (C : KC L cA D A0 y p s m args meth c) {z : fr_M} {idx o ci n ms ce' sl' : Nat} {As rest : List Value} {T1 : List Nat} {M' : Nat → Nat → Bool} {v' : fr_V} {u' : fr_U} {r : Int32} {H : Heap} {locs : List Loc} {ls : Array Slot} (d : decode y.2.1 pc = .ok (.invokevirtual idx, 3)) (hw : Cond.methodLink y.1.cls idx z.1 ∈ gt) (hz : MOK z n) (hv : Cond.instanceMethod z.1 ∈ gt ∧ Cond.selects z.1.cls z.1 z.1 ∈ gt) (hR : z.2.2.2.2.1 + 1 ≤ R.frames ∧ 8 + (z.2.2.1 + 11) + z.2.2.2.2.2 ≤ R.locals) (hce : ce + T1.length = ce') (hsl : sl + ms = sl') (hce2 : ce' ≤ R.cells ∧ sl' ≤ R.slots)
    (ho : o ∈ I) (hs : (sh o).1 = ci) (hc : (fr_cls[ci]?).map (fun q => q.1) = some z.1.cls) (hn : As.length = n) (hsum : (rest.map fun x => x.category).sum ≤ 8) (hC : KConI l z ms L cA D T1 I M v u (.ref o :: As) M' v' u' r) (hP : va_P D fr_cls (mwK L cA I M v u) H) (hD : va_D A0 (mwK L cA I M v u)) (hS : va_S A0 s.heap H locs) (hl : lv_has ls y.2.2.1 (lv.map (cvp L))) (hT1 : ∀ (i k : Nat), T1[i]? = some k → L k = H.size + i)
    (k : KJ l R y L cA D A0 p e s m args below meth c Z ce' sl' [] (I ++ T1) M' v' u' (pc + 3) lv (.int r :: rest)) : W p l e R s m args below meth c H locs ce sl Z (F0 m pc ls ((As.reverse ++ .ref o :: rest).map (cv L))) := by
  obtain ⟨q, hcq, hq1⟩ : ∃ q : vw_C, fr_cls[ci]? = some q ∧ q.1 = z.1.cls := by
    cases h : fr_cls[ci]? with
    | none => rw [h] at hc; cases hc
    | some q => rw [h] at hc; exact ⟨q, rfl, Option.some.inj hc⟩
  have hci : ci < 12 := (List.getElem?_eq_some_iff.mp hcq).1
  obtain ⟨q0, -, hq0⟩ := mwK_get (L := L) (cA := cA) (M := M) (v := v) (u := u) ho
  rw [entK_o hs (by omega)] at hq0
  have hT9 := C.2.2.2.2.2.2.1
  have cb : CallB R s args y.1.cls idx z.1 z.2.1 z.2.2.1 z.2.2.2.1 (fr_ws z) (KR z T1.length ms) T1.length ms n := callB_of n hT9 (fr_good hz) rfl rfl rfl (hT9 _ hz.2.1) (hT9 _ hw) hz.2.2 hR
  have hrun := va_runV (l := l) (e := e) (below := below) (meth := meth) (H := H) (locs := locs) (cells := ce) (slots := sl) (b := L o) (As := As.map (cv L)) (rest := rest.map (cv L)) (g := F0 m pc ls ((As.reverse ++ .ref o :: rest).map (cv L))) ⟨C.1, C.2.1, C.2.2.2.1, C.2.2.2.2.1, hT9⟩ (hC H.size) (C := z.1.cls) ⟨cb, hT9 _ hv.1, hT9 _ hv.2⟩
    ⟨K_blind, by have hrc := va_recv C.2.2.2.2.2.2.2.2.1 hP hcq hq0; rw [hq1] at hrc; exact hrc, K_cpre (av := (Value.ref o :: As).map (cv L)) C hP hD hS hT1⟩ rfl (by rw [List.length_map]; exact hn) hl.1 (by simp [cv, List.map_reverse]) (lv_room (by rw [cv_sum]; exact hsum)) d (by rw [hce, hsl]; exact hce2)
  exact KI_back C hrun hD hS hl hce hsl k
end R2
