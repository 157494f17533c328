abbrev nX10_rent : fr_M := (yX10_rent, cX10_rent, 5, (some .int), 4, 110)
theorem ok_n_rent : MOK nX10_rent 4 := ok_X10_rent
def KQi (L : Nat → Nat) (cA : Nat → ClassId) (D : va_G) (A : Nat → Prop) (I : List Nat) (M : Nat → Nat → Bool) (v : fr_V) (u : fr_U) (r : Int32) : Array Value → State → Outcome → State → Prop := fun _ st oc t =>
  (oc = .returned (some (.int r)) ∧ va_P D fr_cls (mwK L cA I M v u) t.heap ∧ va_K D fr_cls (fr_tys cA) t ∧ va_D A (mwK L cA I M v u)) ∧ va_F A st t
/-- a method that makes the cells T, in their order, and gives an int -/
def KConI (l : Launch) (y : fr_M) (ms : Nat) (L : Nat → Nat) (cA : Nat → ClassId) (D : va_G) (T I : List Nat) (M : Nat → Nat → Bool) (v : fr_V) (u : fr_U) (args : List Value) (M' : Nat → Nat → Bool) (v' : fr_V) (u' : fr_U) (r : Int32) : Prop :=
  ∀ sz : Nat, Met l y.1 (fr_ws y) (KR y T.length ms) (va_Pc (args.map (cv L)) (KP L cA D sz T I M v u)) (KQi L cA D (KA L I sz) (I ++ T) M' v' u' r) T.length ms (KA L I sz)
section KCNI
variable {l : Launch} {y : fr_M} {L : Nat → Nat} {cA : Nat → ClassId} {D : va_G} {T I : List Nat} {M M' : Nat → Nat → Bool} {v v' : fr_V} {u u' : fr_U}
theorem KConI.of {ms : Nat} {args : List Value} {r : Int32} (hy : plainName y.1.cls = true) (hn : (lg_sl args).length ≤ y.2.2.1)
    (h : ∀ (A0 : Nat → Prop) (p : Program) (e : Env) (s : State) (m : MethodId) (as : Array Value) (below : List Frame) (meth : Method) (c : Code), KC L cA D A0 y p s m as meth c → (∀ q, Aw L I q → A0 q) → (∀ q, s.heap.size ≤ q → A0 q) → KJ l (KR y T.length ms) y L cA D A0 p e s m as below meth c (MQ below (KQi L cA D A0 (I ++ T) M' v' u' r) as s T.length ms A0) 0 0 T I M v u 0 (lv_args 0 args) []) : KConI l y ms L cA D T I M v u args M' v' u' r := by
  intro sz
  refine Met.ofW (cc := y.2.1) (maxL := y.2.2.1) (ret := y.2.2.2.1) hy rfl ?_
  intro p e s m args' below meth c s₁ B hml hv
  obtain ⟨rfl, hP, hK, hD, hX, hkw, hsz, hTs⟩ := hv
  subst hsz
  have hts := atoms_spec (ws := fr_ws y) B.pre
  have hl := lv_entry (args.map (cv L)) (n := y.2.2.1) (by rw [cv_sl]; exact hn)
  rw [lg_entry_eq]
  rw [cv_args] at hl
  exact h (KA L I s.heap.size) p e s m _ below meth c ⟨B.exec, B.bytes, B.returns, hml, findClass_of_methodNamed B.named, B.notSynchronized, fun w hw => hts w (List.mem_cons_of_mem _ hw), hX, hK, (name_of_methodNamed B.named B.method).1, fun q hq => Or.inr hq, hkw⟩ (fun q hq => Or.inl hq) (fun q hq => Or.inr hq) s.heap [] _ hP hD va_S.rf (fun i k hk => ⟨by rw [hTs i k hk]; rfl, Or.inl rfl⟩) hl
end KCNI
section RUN9
variable {p : Program} {l : Launch} {e : Env} {R : Room} {s : State} {m : MethodId} {args : Array Value} {below : List Frame} {meth : Method} {c : Code} {H : Heap} {locs : List Loc} {cells slots mc ms : Nat}
/-- a virtual call with any number w of words below it (the rows of the kit say 8) -/
theorem run_w {y : MethodName} {bytes : ByteArray} {maxL index w : Nat} {ret : Option FieldType} {own C : String} {b : Addr} {As rest : List Value} {g : JFrame} {Pc : Array Value → State → Prop} {Qc : Array Value → State → Outcome → State → Prop} {free : Addr → Prop}
    (hK : Back l R p e below s args y 3 w (PreOf R mc ms Pc) (PostOf Qc mc ms free)) (hexec : p.tables.exec = Jvm.exec) (hown : s.vm.findClass own = some m.cls)
    (hw : (Cond.methodLink own index y).before args s = true ∧ (Cond.instanceMethod y).before args s = true ∧ (Cond.selects C y y).before args s = true ∧ (Cond.code y bytes maxL ret).before args s = true) (hy : y.cls ≠ "java/lang/invoke/MethodHandle" ∧ y.cls ≠ "java/lang/invoke/VarHandle")
    (hlen : ∀ sig, parseMethodDescriptor y.desc = some sig → As.length = sig.parameters.length) (hb : ∃ x : Cell, H[b]? = some x ∧ x.vm.isStatics = false ∧ s.vm.findClass C = some x.cls) (hPc : ∀ U : State, U.heap = H → s.WarmedH U.vm → Pc (Value.ref b :: As).toArray U)
    (hg : g.method = m) (hsize : g.locals.size = c.maxLocals) (hst : g.stack = As.reverse ++ .ref b :: rest) (hsum : 2 * g.monitorRoom + (rest.map fun v => v.category).sum ≤ w) (hd : decode c.code g.pc = .ok (.invokevirtual index, 3)) (hroom : cells + mc ≤ R.cells ∧ slots + ms ≤ R.slots) :
    va_Run p l e R s m args below meth c H locs cells slots mc ms g rest (Qc (Value.ref b :: As).toArray) free := by
  intro T hT X
  obtain ⟨x, x1, x2, x3⟩ := hb
  rw [← hT] at x1
  obtain ⟨v, V, B, -, XB, hpost, hgo⟩ := callV X hexec hown hw.1 hw.2.1 hw.2.2.1 hw.2.2.2 hy hK x1 x2 x3 hg hsize hlen hst hsum hd (fun V hV => ⟨hroom.1, hroom.2, hPc (T.setVm V) hT hV⟩)
  obtain ⟨gf, mk, t, L9, r1, r2, r3, r4, r5, r6, r7⟩ := hpost
  rw [r4, r6, r7] at XB
  exact ⟨v, (T.setVm V).calling gf mk (Value.ref b :: As).toArray, t, B.U, L9, hT, XB, r5, r1, r2, r3, hgo⟩
end RUN9
section KFI
variable {l : Launch} {R : Room} {y : fr_M} {L : Nat → Nat} {cA : Nat → ClassId} {D : va_G} {A0 : Nat → Prop} {p : Program} {e : Env} {s : State} {m : MethodId} {args : Array Value} {below : List Frame} {meth : Method} {c : Code} {Z : State → Prop} {ce sl : Nat} {T I : List Nat} {M : Nat → Nat → Bool} {v : fr_V} {u : fr_U} {pc : Nat} {lv : List (Nat × Value)} {st : List Value}
theorem K_iret {as : Array Value} {M' : Nat → Nat → Bool} {v' : fr_V} {u' : fr_U} {I2 : List Nat} {x r : Int32} (C : KC L cA D A0 y p s m as meth c) (d : decode y.2.1 pc = .ok (.ireturn, 1)) (hr : y.2.2.2.1 = some .int) (hx : x = r) (hI : I = I2) (hM : ∀ k ∈ I, M' k = M k) (hv : ∀ k ∈ I, v' k = v k) (hu : ∀ k ∈ I, u' k = u k) : KJ l R y L cA D A0 p e s m as below meth c (MQ below (KQi L cA D A0 I2 M' v' u' r) as s ce sl A0) ce sl T I M v u pc lv [.int x] := by
  subst hI; subst hx
  intro H locs ls hP hD hS hT hl
  have hw : mwK L cA I M' v' u' = mwK L cA I M v u := List.map_congr_left (fun k hk => by rw [hM k hk, hv k hk, hu k hk])
  exact W.iret (v := x) C.1 C.2.1 (C.2.2.1.trans hr) (fun t ht hW => ⟨⟨rfl, by rw [ht, hw]; exact hP, va_K.moved hW.alike C.2.2.2.2.2.2.2.2.1, by rw [hw]; exact hD⟩, hS.F ht⟩) hS.2.2 d C.2.2.2.2.2.1
theorem K_callV9 (C : KC L cA D A0 y p s m args meth c) {z : fr_M} {idx o ci n : Nat} {As rest : List Value} {I0 : List Nat} {Qz : Option Value → fr_V → fr_U → Prop} (d : decode y.2.1 pc = .ok (.invokevirtual idx, 3)) (hw : Cond.methodLink y.1.cls idx z.1 ∈ gt) (hz : MOK z n) (hv : Cond.instanceMethod z.1 ∈ gt ∧ Cond.selects z.1.cls z.1 z.1 ∈ gt) (hR : z.2.2.2.2.1 + 1 ≤ R.frames ∧ 9 + (z.2.2.1 + 11) + z.2.2.2.2.2 ≤ R.locals) (hce : ce ≤ R.cells ∧ sl ≤ R.slots)
    (hsub : ∀ k ∈ I0, k ∈ I) (hm : ∀ k ∈ I0, ∀ j, M k j = true) (hnd : va_D A0 (mwK L cA I M v u) → ∀ (i j k : Nat), I0[i]? = some k → I0[j]? = some k → i = j) (ho : o ∈ I0) (hs : (sh o).1 = ci) (hc : (fr_cls[ci]?).map (fun q => q.1) = some z.1.cls) (hst : st = As.reverse ++ .ref o :: rest) (hn : As.length = n) (hsum : (rest.map fun x => x.category).sum ≤ 9) (hC : Con l z I0 v u (.ref o :: As) Qz) (hoff : ∀ r v' u', Qz r v' u' → ∀ k ∈ I, k ∉ I0 → v' k = v k ∧ u' k = u k)
    (k : ∀ r v' u', Qz r v' u' → KJ l R y L cA D A0 p e s m args below meth c Z ce sl T I M v' u' (pc + 3) lv (r.toList ++ rest)) : KJ l R y L cA D A0 p e s m args below meth c Z ce sl T I M v u pc lv st := by
  intro H locs ls hP hD hS hT hl
  subst hst
  obtain ⟨q, hcq, hq1⟩ : ∃ q : vw_C, fr_cls[ci]? = some q ∧ q.1 = z.1.cls := by
    cases h : fr_cls[ci]? with
    | none => rw [h] at hc; cases hc
    | some q => rw [h] at hc; exact ⟨q, rfl, Option.some.inj hc⟩
  have hci : ci < 12 := (List.getElem?_eq_some_iff.mp hcq).1
  have hnd := hnd hD
  obtain ⟨q0, -, hq0⟩ := mw_get (L := L) (cA := cA) (v := v) (u := u) ho
  rw [ent_o hs (by omega)] at hq0
  have hT9 := C.2.2.2.2.2.2.1
  have cb : CallB R s args y.1.cls idx z.1 z.2.1 z.2.2.1 z.2.2.2.1 (fr_ws z) (fr_rm z) 0 0 n := callB_of n hT9 (fr_good hz) rfl rfl rfl (hT9 _ hz.2.1) (hT9 _ hw) hz.2.2 ⟨hR.1, by have := hR.2; show 8 + (z.2.2.1 + 11) + z.2.2.2.2.2 ≤ _; omega⟩
  have hB := back_of (p := p) (e := e) (below := below) (sargs := args) (len := 3) (W := 9) (hC L cA D) fr_blind cb.1 cb.2.1 cb.2.2.1 hR.2 cb.2.2.2.2.1 cb.2.2.2.2.2.1 (fun _ _ hW => word_at hW (Or.inl (by first | rfl | simp [Cond.onTables, Cond.keeps, Cond.steady])) cb.2.2.2.2.2.2.2.1)
  have hrc := va_recv C.2.2.2.2.2.2.2.2.1 (KS_P hP hsub hm) hcq hq0
  rw [hq1] at hrc
  have hrun := run_w (meth := meth) (H := H) (locs := locs) (cells := ce) (slots := sl) (b := L o) (As := As.map (cv L)) (rest := rest.map (cv L)) (g := F0 m pc ls ((As.reverse ++ .ref o :: rest).map (cv L))) hB C.1 C.2.2.2.2.1
    ⟨hT9 _ hw, hT9 _ hv.1, hT9 _ hv.2, cb.2.2.2.2.2.2.1⟩ cb.2.2.2.2.2.2.2.2.1 (fun sig q => by rw [List.length_map, hn]; exact cb.2.2.2.2.2.2.2.2.2.1 sig q) hrc (K_pre (av := (Value.ref o :: As).map (cv L)) C hP hD hS hsub hm hnd)
    rfl (hl.1.trans C.2.2.2.1.symm) (by simp [cv, List.map_reverse]) (by rw [cv_sum]; show 2 * 0 + _ ≤ 9; omega) (by rw [C.2.1]; exact d) hce
  exact K_back (z := z) hrun hP hD hS hT hl hsub hm hoff k
theorem nd_all (hD : va_D A0 (mwK L cA I M v u)) : ∀ (i j k : Nat), I[i]? = some k → I[j]? = some k → i = j := fun _ _ _ h1 h2 => mwK_nd hD h1 h2
theorem nd_pre {I1 I2 : List Nat} (hI : I = I1 ++ I2) (hD : va_D A0 (mwK L cA I M v u)) : ∀ (i j k : Nat), I1[i]? = some k → I1[j]? = some k → i = j := fun i j k h1 h2 => mwK_nd hD (by rw [hI, List.getElem?_append_left (List.getElem?_eq_some_iff.mp h1).1]; exact h1) (by rw [hI, List.getElem?_append_left (List.getElem?_eq_some_iff.mp h2).1]; exact h2)
end KFI
section JASTR
variable {l : Launch} {y : fr_M} {I : List Nat} {v : fr_V} {u : fr_U} {pc : Nat} {lv : List (Nat × Value)} {st : List Value} {Q : Option Value → fr_V → fr_U → Prop}
theorem J_astR {k n t : Nat} {i x : Int32} (d : decode y.2.1 pc = .ok (.aastore, 1)) (hk : k ∈ I) (hs : sh k = (24, n)) (hin : vp_in i n) (ht : t ∈ I) (hs2 : (sh t).1 = 7) (hx : ¬ x < 0) (hx2 : x.toNatClampNeg = t) (kk : J l y I (up2 v k i.toNatClampNeg x) u (pc + 1) lv st Q) : J l y I v u pc lv (.ref t :: .int i :: .ref k :: st) Q := by
  intro L cA D p e s m args below meth c H locs ls C hP hD hS hl
  have en : ∀ (f : Nat → Int32) (g : Nat → Int64), ent L cA k f g = .inl (cA 4, n, .inr (.inr (.inr (.inr (fun i => rq L (f i)))))) := by
    intro f g
    unfold ent
    rw [hs]; rfl
  obtain ⟨q0, hi0, hq0⟩ := mw_get (L := L) (cA := cA) (v := v) (u := u) hk
  rw [en] at hq0
  obtain ⟨q1, -, hq1⟩ := mw_get (L := L) (cA := cA) (v := v) (u := u) ht
  rw [ent_o hs2 (by decide)] at hq1
  refine va_astq C.1 C.2.1 C.2.2.2.2.2.2.2.2 hP hD hS q0 4 q1 7 (r := (RX7, TX7, 7)) hq0 rfl hq1 rfl hin d (fun H1 locs1 hP1 hD1 hS1 => ?_)
  have hset : (mw L cA I v u).set q0 (L k, .inl (cA 4, n, .inr (.inr (.inr (.inr (va_up (fun i => rq L (v k i)) i.toNatClampNeg (some (L t)))))))) = mw L cA I (up2 v k i.toNatClampNeg x) u := by
    refine mw_set hD hi0 ?_ (fun a ha => up2_ne ha) (fun a ha => rfl)
    rw [en, up2_self]
    congr 7
    funext j
    by_cases hj : j = i.toNatClampNeg
    · subst hj; rw [va_up_self]; simp [upd, rq, hx, hx2]
    · rw [va_up_ne _ _ hj]; unfold upd; rw [if_neg hj]
  rw [hset] at hP1 hD1
  exact kk L cA D p e s m args below meth c H1 locs1 ls C hP1 hD1 hS1 hl
end JASTR
theorem k_X3_buy {l : Launch} {I : List Nat} (hI : fr_I I) (v : fr_V) (u : fr_U) (r : Nat) (hr : r < 16) (hs : v 300 2 = nI r) (ht : 2000 + 10 * r ∈ I) : Con l mX3_buy I v u [.ref 300, .ref (2000 + 10 * r)] (QX u (fun a b => a = nI r ∧ b = up2 (up2 v 302 r (nI (2000 + 10 * r))) 300 2 (nI (r + 1)))) := by
  have hfull : f_X3_isFull v = 0 := by
    unfold f_X3_isFull
    rw [hs, if_pos (show nI r < (16 : Int32) from nI_lt (b := 16) hr (by decide))]
  refine Con.of (by decide) (Nat.le_of_ble_eq_true rfl) ?_
  show J l mX3_buy I v u 0 [(0, .ref 300), (1, .ref (2000 + 10 * r))] [] _
  refine J_aload_n dX3_buy_0 rfl 0 rfl ?_
  refine J_eVI (z := mX3_isFull) (As := []) (rest := []) (ci := 3) (x := f_X3_isFull v) dX3_buy_1 ml_X3_44 ok_X3_isFull iv_X3_isFull (by decide) (i300 hI) rfl rfl rfl rfl (Nat.le_of_ble_eq_true rfl) (k_X3_isFull hI v u) ?_
  refine J_if_eq (tgt := 9) dX3_buy_4 (by decide) (fun _ => ?_) (fun c1 => absurd hfull c1)
  refine J_aload_n dX3_buy_9 rfl 0 rfl ?_
  refine J_getr (ci := 3) (j := 1) (t := 302) dX3_buy_10 fl_X3_11 (i300 hI) rfl rfl rfl ?_
  refine J_aload_n dX3_buy_13 rfl 0 rfl ?_
  refine J_gete (ci := 3) (j := 2) (x := nI r) dX3_buy_14 fl_X3_40 (i300 hI) rfl rfl hs ?_
  refine J_aload_n dX3_buy_17 rfl 1 rfl ?_
  refine J_astR (n := 16) (x := nI (2000 + 10 * r)) dX3_buy_18 (i302 hI) rfl (vp_in_nI hr (by decide)) ht (by rw [sh_rent]) (nI_pos (by omega)) (nI_clamp (by omega)) ?_
  rw [nI_clamp (by omega)]
  refine J_aload_n dX3_buy_19 rfl 0 rfl ?_
  refine J_dup dX3_buy_20 rfl ?_
  refine J_gete (ci := 3) (j := 2) (x := nI r) dX3_buy_21 fl_X3_40 (i300 hI) rfl rfl hs ?_
  refine J_iconst (x := 1) dX3_buy_24 (by decide) ?_
  refine J_iadd dX3_buy_25 ?_
  rw [nI_1]
  refine J_puti (ci := 3) (j := 2) dX3_buy_26 fl_X3_40 (i300 hI) rfl rfl (fun q h => by cases h; rfl) rfl ?_
  refine J_aload_n dX3_buy_29 rfl 0 rfl ?_
  refine J_gete (ci := 3) (j := 2) (x := nI (r + 1)) dX3_buy_30 fl_X3_40 (i300 hI) rfl rfl rfl ?_
  refine J_iconst (x := 1) dX3_buy_33 (by decide) ?_
  refine J_isub dX3_buy_34 ?_
  exact J_iret dX3_buy_35 rfl ⟨_, rfl, rfl, nI_pred r, rfl⟩
noncomputable def rentV (v : fr_V) (r : Nat) (x1 x2 x3 x4 q : Int32) : fr_V := up2 (up2 (rnV v r x1 x2 x3 x4 (v 1000 3) (x4 * q)) 302 r (nI (2000 + 10 * r))) 300 2 (nI (r + 1))
def rentOK (v : fr_V) (ac m : Nat) (x1 x2 x3 x4 : Int32) : Prop := ¬ f_X10_isHolder v x1 = 0 ∧ ¬ f_X5_has v x2 = 0 ∧ ¬ x4 < 1 ∧ x4 ≤ 99 ∧ (x3 = (-1) ∨ (¬ x3 = x2 ∧ ¬ f_X5_has v x3 = 0)) ∧ f_X3_isFull v = 0 ∧ ¬ f_may v ac m x2 x3 = 0
theorem rnV_o {v : fr_V} {r k : Nat} {x1 x2 x3 x4 x5 x6 : Int32} (h1 : k ≠ 2000 + 10 * r) (h2 : k ≠ 2007 + 10 * r) : rnV v r x1 x2 x3 x4 x5 x6 k = v k := by
  unfold rnV
  rw [upA_ne h2, up2_ne h1, up2_ne h1, up2_ne h1, up2_ne h1, up2_ne h1, up2_ne h1]
theorem c_rent1 {l : Launch} {L : Nat → Nat} {cA : Nat → ClassId} {D : va_G} {I : List Nat} {M : Nat → Nat → Bool} {v : fr_V} {u : fr_U} {ac m9 : Nat} {x1 x2 x3 x4 : Int32} {r : Nat} (hI : fr_I I) (hM : ∀ k ∈ I, ∀ j, M k j = true) (hr : r < 16) (hs : v 300 2 = nI r) (hac : ac = 10 ∨ ac = 20) (ha : v 1000 1 = nI ac) (hv : lnOK v ac m9) (hf : fresh [(2000 + 10 * r), (2007 + 10 * r)] M v u) (h1 : vp_in x2 12) (h2 : ¬ x3 = (-1) → vp_in x3 12) (hok : rentOK v ac m9 x1 x2 x3 x4) : KConI l nX10_rent 87 L cA D [(2000 + 10 * r), (2007 + 10 * r)] I M v u [.ref 1000, .int x1, .int x2, .int x3, .int x4] (mT M (2000 + 10 * r)) (rentV v r x1 x2 x3 x4 (f_price v ac m9 x2 x3)) u (nI r) := by
  obtain ⟨c1, c2, c3, c4, c5, c6, c7⟩ := hok
  have so : (sh (2000 + 10 * r)).1 = 7 := by rw [sh_rent]
  refine KConI.of (by decide) (Nat.le_of_ble_eq_true rfl) (fun A0 p e s m as below meth c C hA hA2 => ?_)
  show KJ l _ _ L cA D A0 p e s m as below meth c _ 0 0 [(2000 + 10 * r), (2007 + 10 * r)] I M v u 0 [(0, .ref 1000), (1, .int x1), (2, .int x2), (3, .int x3), (4, .int x4)] []
  have k56 : KJ l (KR nX10_rent 2 87) nX10_rent L cA D A0 p e s m as below meth c (MQ below (KQi L cA D A0 (I ++ [(2000 + 10 * r), (2007 + 10 * r)]) (mT M (2000 + 10 * r)) (rentV v r x1 x2 x3 x4 (f_price v ac m9 x2 x3)) u (nI r)) as s 2 87 A0) 0 0 [(2000 + 10 * r), (2007 + 10 * r)] I M v u 56 [(0, .ref 1000), (1, .int x1), (2, .int x2), (3, .int x3), (4, .int x4)] [] := by
    refine K_aload_n C dX10_rent_56 rfl 0 rfl ?_
    refine K_getr (ci := 10) (j := 6) (t := 300) C dX10_rent_57 fl_X10_47 (i1000 hI) rfl rfl (hM 1000 (i1000 hI) 6) rfl ?_
    refine K_callV (z := mX3_isFull) (o := 300) (ci := 3) (As := []) (rest := []) (I0 := I) C dX10_rent_60 ml_X10_119 ok_X3_isFull iv_X3_isFull ⟨Nat.le_of_ble_eq_true rfl, Nat.le_of_ble_eq_true rfl⟩ ⟨Nat.zero_le _, Nat.zero_le _⟩ (fun _ h => h) hM (fun hD => nd_all hD) (i300 hI) rfl rfl rfl rfl (Nat.le_of_ble_eq_true rfl) (k_X3_isFull hI v u) (fun r9 v9 u9 hq k9 _ _ => by obtain ⟨x9, -, rfl, rfl, -⟩ := hq; exact ⟨rfl, rfl⟩) (fun r9 v9 u9 hq => ?_)
    obtain ⟨x9, rfl, e8, e9, e7⟩ := hq; rw [e8, e9, e7]
    refine K_if_ne (tgt := 75) C dX10_rent_63 (by decide) (fun c9 => absurd c6 c9) (fun _ => ?_)
    refine K_aload_n C dX10_rent_66 rfl 0 rfl ?_
    refine K_iload_n C dX10_rent_67 rfl 2 rfl ?_
    refine K_iload_n C dX10_rent_68 rfl 3 rfl ?_
    refine K_callV (z := mX10_mayBeNamed) (o := 1000) (ci := 10) (As := [.int x2, .int x3]) (rest := []) (I0 := I) C dX10_rent_69 ml_X10_106 ok_X10_mayBeNamed iv_X10_mayBeNamed ⟨Nat.le_of_ble_eq_true rfl, Nat.le_of_ble_eq_true rfl⟩ ⟨Nat.zero_le _, Nat.zero_le _⟩ (fun _ h => h) hM (fun hD => nd_all hD) (i1000 hI) rfl rfl rfl rfl (Nat.le_of_ble_eq_true rfl) (k_X10_mayBeNamed hI v u ac m9 x2 x3 hac ha hv h1 h2) (fun r9 v9 u9 hq k9 _ _ => by obtain ⟨x9, -, rfl, rfl, -⟩ := hq; exact ⟨rfl, rfl⟩) (fun r9 v9 u9 hq => ?_)
    obtain ⟨x9, rfl, e8, e9, e7⟩ := hq; rw [e8, e9, e7]
    refine K_if_ne (tgt := 77) C dX10_rent_72 (by decide) (fun _ => ?_) (fun c9 => absurd c9 c7)
    refine K_aload_n C dX10_rent_77 rfl 0 rfl ?_
    refine K_getr (ci := 10) (j := 6) (t := 300) C dX10_rent_78 fl_X10_47 (i1000 hI) rfl rfl (hM 1000 (i1000 hI) 6) rfl ?_
    refine K_new (k := (2000 + 10 * r)) (ci := 7) (n := 7) (ce' := 1) (sl' := 7) C dX10_rent_81 rfl kl_X10_123 kn_X7 kz_X7 (by decide) so (hf.m List.mem_cons_self so (by decide)) (hf (2000 + 10 * r) List.mem_cons_self).1 rfl rfl rfl ⟨Nat.le_of_ble_eq_true rfl, Nat.le_of_ble_eq_true rfl⟩ ?_
    refine K_dup C dX10_rent_84 rfl ?_
    refine K_iload_n C dX10_rent_85 rfl 1 rfl ?_
    refine K_iload_n C dX10_rent_86 rfl 2 rfl ?_
    refine K_iload_n C dX10_rent_87 rfl 3 rfl ?_
    refine K_iload C dX10_rent_88 4 rfl ?_
    refine K_aload_n C dX10_rent_90 rfl 0 rfl ?_
    refine K_geti (ci := 10) (j := 3) (x := v 1000 3) C dX10_rent_91 fl_X10_92 (List.mem_append_left _ (i1000 hI)) rfl rfl rfl ?_
    refine K_iload C dX10_rent_94 4 rfl ?_
    refine K_aload_n C dX10_rent_96 rfl 0 rfl ?_
    refine K_iload_n C dX10_rent_97 rfl 2 rfl ?_
    refine K_iload_n C dX10_rent_98 rfl 3 rfl ?_
    refine K_callV9 (z := mX10_priceOn) (o := 1000) (ci := 10) (As := [.int x2, .int x3]) (rest := [.int x4, .int (v 1000 3), .int x4, .int x3, .int x2, .int x1, .ref (2000 + 10 * r), .ref (2000 + 10 * r), .ref 300]) (I0 := I) C dX10_rent_99 ml_X10_110 ok_X10_priceOn iv_X10_priceOn ⟨Nat.le_of_ble_eq_true rfl, Nat.le_of_ble_eq_true rfl⟩ ⟨Nat.le_of_ble_eq_true rfl, Nat.le_of_ble_eq_true rfl⟩ (fun _ h => List.mem_append_left _ h) hM (fun hD => nd_pre rfl hD) (i1000 hI) rfl rfl rfl rfl (Nat.le_of_ble_eq_true rfl) (k_X10_priceOn hI v u ac m9 x2 x3 hac ha hv h1 h2) (fun r9 v9 u9 hq k9 _ _ => by obtain ⟨x9, -, rfl, rfl, -⟩ := hq; exact ⟨rfl, rfl⟩) (fun r9 v9 u9 hq => ?_)
    obtain ⟨x9, rfl, e8, e9, e7⟩ := hq; rw [e8, e9, e7]
    refine K_imul C dX10_rent_102 ?_
    refine K_callI (z := nX7_init) (o := (2000 + 10 * r)) (ms := 80) (ce' := 2) (sl' := 87) (As := [.int x1, .int x2, .int x3, .int x4, .int (v 1000 3), .int (x4 * f_price v ac m9 x2 x3)]) (rest := [.ref (2000 + 10 * r), .ref 300]) (T1 := [(2007 + 10 * r)]) (T := []) C dX10_rent_103 (Or.inl ml_X10_125) ok_X7_init rfl rfl iv_X7_init ⟨Nat.le_of_ble_eq_true rfl, Nat.le_of_ble_eq_true rfl⟩ rfl rfl ⟨Nat.le_of_ble_eq_true rfl, Nat.le_of_ble_eq_true rfl⟩ rfl rfl (Nat.le_of_ble_eq_true rfl) (c_X7 (List.mem_append_right _ (List.mem_singleton.mpr rfl)) (hf.sub (fun k hk => List.mem_cons_of_mem _ hk))) ?_
    refine K_callV (z := mX3_buy) (o := 300) (ci := 3) (As := [.ref (2000 + 10 * r)]) (rest := []) (I0 := (I ++ [(2000 + 10 * r)]) ++ [(2007 + 10 * r)]) C dX10_rent_106 ml_X10_128 ok_X3_buy iv_X3_buy ⟨Nat.le_of_ble_eq_true rfl, Nat.le_of_ble_eq_true rfl⟩ ⟨Nat.le_of_ble_eq_true rfl, Nat.le_of_ble_eq_true rfl⟩ (fun _ h => h) (fun k hk j => ?_) (fun hD => nd_all hD) (List.mem_append_left _ (List.mem_append_left _ (i300 hI))) rfl rfl rfl rfl (Nat.le_of_ble_eq_true rfl) (k_X3_buy (fun k hk => List.mem_append_left _ (List.mem_append_left _ (hI k hk))) (rnV v r x1 x2 x3 x4 (v 1000 3) (x4 * f_price v ac m9 x2 x3)) u r hr (by rw [rnV_o (by omega) (by omega)]; exact hs) (List.mem_append_left _ (List.mem_append_right _ (List.mem_singleton.mpr rfl)))) (fun r9 v9 u9 hq k9 h9 h8 => absurd h9 h8) (fun r9 v9 u9 hq => ?_)
    · rcases List.mem_append.mp hk with hk | hk
      · rcases List.mem_append.mp hk with hk | hk
        · by_cases e9 : k = (2000 + 10 * r)
          · rw [e9]; exact mT_s j
          · rw [mT_ne e9]; exact hM k hk j
        · rw [List.mem_singleton.mp hk]; exact mT_s j
      · rw [List.mem_singleton.mp hk, mT_ne (fun e9 => paid_ne r e9.symm), (hf (2007 + 10 * r) (List.mem_cons_of_mem _ (List.mem_singleton.mpr rfl))).2.2 j]; unfold ms0; rw [sh_paid]; rfl
    obtain ⟨x9, rfl, e9, e7, e8⟩ := hq
    rw [e8, e9]
    exact K_iret C dX10_rent_109 rfl e7 (by rw [List.append_assoc]; rfl) (fun _ _ => rfl) (fun _ _ => rfl) (fun _ _ => rfl)
  refine K_iload_n C dX10_rent_0 rfl 1 rfl ?_
  refine K_callS (z := mX10_isHolder) (As := [.int x1]) (rest := []) (I0 := I) C dX10_rent_1 ml_X10_116 ok_X10_isHolder iv_X10_isHolder ⟨Nat.le_of_ble_eq_true rfl, Nat.le_of_ble_eq_true rfl⟩ ⟨Nat.zero_le _, Nat.zero_le _⟩ (fun _ h => h) hM (fun hD => nd_all hD) rfl rfl (Nat.le_of_ble_eq_true rfl) (k_X10_isHolder hI v u x1) (fun r9 v9 u9 hq k9 _ _ => by obtain ⟨x9, -, rfl, rfl, -⟩ := hq; exact ⟨rfl, rfl⟩) (fun r9 v9 u9 hq => ?_)
  obtain ⟨x9, rfl, e8, e9, e7⟩ := hq; rw [e8, e9, e7]
  refine K_if_eq (tgt := 31) C dX10_rent_4 (by decide) (fun c9 => absurd c9 c1) (fun _ => ?_)
  refine K_aload_n C dX10_rent_7 rfl 0 rfl ?_
  refine K_getr (ci := 10) (j := 4) (t := 500) C dX10_rent_8 fl_X10_29 (i1000 hI) rfl rfl (hM 1000 (i1000 hI) 4) rfl ?_
  refine K_iload_n C dX10_rent_11 rfl 2 rfl ?_
  refine K_callV (z := mX5_has) (o := 500) (ci := 5) (As := [.int x2]) (rest := []) (I0 := I) C dX10_rent_12 ml_X10_103 ok_X5_has iv_X5_has ⟨Nat.le_of_ble_eq_true rfl, Nat.le_of_ble_eq_true rfl⟩ ⟨Nat.zero_le _, Nat.zero_le _⟩ (fun _ h => h) hM (fun hD => nd_all hD) (i500 hI) rfl rfl rfl rfl (Nat.le_of_ble_eq_true rfl) (k_X5_has hI v u x2) (fun r9 v9 u9 hq k9 _ _ => by obtain ⟨x9, -, rfl, rfl, -⟩ := hq; exact ⟨rfl, rfl⟩) (fun r9 v9 u9 hq => ?_)
  obtain ⟨x9, rfl, e8, e9, e7⟩ := hq; rw [e8, e9, e7]
  refine K_if_eq (tgt := 31) C dX10_rent_15 (by decide) (fun c9 => absurd c9 c2) (fun _ => ?_)
  refine K_iload C dX10_rent_18 4 rfl ?_
  refine K_iconst (x := 1) C dX10_rent_20 (by decide) ?_
  refine K_icmp_lt (tgt := 31) C dX10_rent_21 (by decide) (fun c9 => absurd c9 c3) (fun _ => ?_)
  refine K_iload C dX10_rent_24 4 rfl ?_
  refine K_bipush (x := 99) C dX10_rent_26 (by decide) ?_
  refine K_icmp_le (tgt := 33) C dX10_rent_28 (by decide) (fun _ => ?_) (fun c9 => absurd c4 c9)
  refine K_iload_n C dX10_rent_33 rfl 3 rfl ?_
  refine K_iconst (x := (-1)) C dX10_rent_34 (by decide) ?_
  refine K_icmp_eq (tgt := 56) C dX10_rent_35 (by decide) (fun _ => k56) (fun c8 => ?_)
  obtain ⟨c10, c11⟩ := c5.resolve_left c8
  refine K_iload_n C dX10_rent_38 rfl 3 rfl ?_
  refine K_iload_n C dX10_rent_39 rfl 2 rfl ?_
  refine K_icmp_eq (tgt := 54) C dX10_rent_40 (by decide) (fun c9 => absurd c9 c10) (fun _ => ?_)
  refine K_aload_n C dX10_rent_43 rfl 0 rfl ?_
  refine K_getr (ci := 10) (j := 4) (t := 500) C dX10_rent_44 fl_X10_29 (i1000 hI) rfl rfl (hM 1000 (i1000 hI) 4) rfl ?_
  refine K_iload_n C dX10_rent_47 rfl 3 rfl ?_
  refine K_callV (z := mX5_has) (o := 500) (ci := 5) (As := [.int x3]) (rest := []) (I0 := I) C dX10_rent_48 ml_X10_103 ok_X5_has iv_X5_has ⟨Nat.le_of_ble_eq_true rfl, Nat.le_of_ble_eq_true rfl⟩ ⟨Nat.zero_le _, Nat.zero_le _⟩ (fun _ h => h) hM (fun hD => nd_all hD) (i500 hI) rfl rfl rfl rfl (Nat.le_of_ble_eq_true rfl) (k_X5_has hI v u x3) (fun r9 v9 u9 hq k9 _ _ => by obtain ⟨x9, -, rfl, rfl, -⟩ := hq; exact ⟨rfl, rfl⟩) (fun r9 v9 u9 hq => ?_)
  obtain ⟨x9, rfl, e8, e9, e7⟩ := hq; rw [e8, e9, e7]
  exact K_if_ne (tgt := 56) C dX10_rent_51 (by decide) (fun c11 => k56) (fun c9 => absurd c9 c11)
theorem c_rent0 {l : Launch} {L : Nat → Nat} {cA : Nat → ClassId} {D : va_G} {I : List Nat} {M : Nat → Nat → Bool} {v : fr_V} {u : fr_U} {ac m9 : Nat} {x1 x2 x3 x4 : Int32} (hI : fr_I I) (hM : ∀ k ∈ I, ∀ j, M k j = true) (hac : ac = 10 ∨ ac = 20) (ha : v 1000 1 = nI ac) (hv : lnOK v ac m9) (hin : ∀ x, ¬ f_X5_has v x = 0 → vp_in x 12) (hno : ¬ rentOK v ac m9 x1 x2 x3 x4) : KConI l nX10_rent 0 L cA D [] I M v u [.ref 1000, .int x1, .int x2, .int x3, .int x4] M v u (-1) := by
  refine KConI.of (by decide) (Nat.le_of_ble_eq_true rfl) (fun A0 p e s m as below meth c C hA hA2 => ?_)
  show KJ l _ _ L cA D A0 p e s m as below meth c _ 0 0 [] I M v u 0 [(0, .ref 1000), (1, .int x1), (2, .int x2), (3, .int x3), (4, .int x4)] []
  have k56 : (¬ f_X5_has v x2 = 0) → (x3 = (-1) ∨ ¬ f_X5_has v x3 = 0) → (f_X3_isFull v = 0 → ¬ f_may v ac m9 x2 x3 = 0 → False) → KJ l (KR nX10_rent 0 0) nX10_rent L cA D A0 p e s m as below meth c (MQ below (KQi L cA D A0 (I ++ []) M v u (-1)) as s 0 0 A0) 0 0 [] I M v u 56 [(0, .ref 1000), (1, .int x1), (2, .int x2), (3, .int x3), (4, .int x4)] [] := by
    intro g2 g3 hno
    have h1 := hin x2 g2
    have h2 : ¬ x3 = (-1) → vp_in x3 12 := fun h => hin x3 (g3.elim (fun q => absurd q h) (fun q => q))
    refine K_aload_n C dX10_rent_56 rfl 0 rfl ?_
    refine K_getr (ci := 10) (j := 6) (t := 300) C dX10_rent_57 fl_X10_47 (i1000 hI) rfl rfl (hM 1000 (i1000 hI) 6) rfl ?_
    refine K_callV (z := mX3_isFull) (o := 300) (ci := 3) (As := []) (rest := []) (I0 := I) C dX10_rent_60 ml_X10_119 ok_X3_isFull iv_X3_isFull ⟨Nat.le_of_ble_eq_true rfl, Nat.le_of_ble_eq_true rfl⟩ ⟨Nat.zero_le _, Nat.zero_le _⟩ (fun _ h => h) hM (fun hD => nd_all hD) (i300 hI) rfl rfl rfl rfl (Nat.le_of_ble_eq_true rfl) (k_X3_isFull hI v u) (fun r9 v9 u9 hq k9 _ _ => by obtain ⟨x9, -, rfl, rfl, -⟩ := hq; exact ⟨rfl, rfl⟩) (fun r9 v9 u9 hq => ?_)
    obtain ⟨x9, rfl, e8, e9, e7⟩ := hq; rw [e8, e9, e7]
    refine K_if_ne (tgt := 75) C dX10_rent_63 (by decide) (fun _ => K_iconst (x := (-1)) C dX10_rent_75 (by decide) (K_iret C dX10_rent_76 rfl rfl (List.append_nil I).symm (fun _ _ => rfl) (fun _ _ => rfl) (fun _ _ => rfl))) (fun c6 => ?_)
    refine K_aload_n C dX10_rent_66 rfl 0 rfl ?_
    refine K_iload_n C dX10_rent_67 rfl 2 rfl ?_
    refine K_iload_n C dX10_rent_68 rfl 3 rfl ?_
    refine K_callV (z := mX10_mayBeNamed) (o := 1000) (ci := 10) (As := [.int x2, .int x3]) (rest := []) (I0 := I) C dX10_rent_69 ml_X10_106 ok_X10_mayBeNamed iv_X10_mayBeNamed ⟨Nat.le_of_ble_eq_true rfl, Nat.le_of_ble_eq_true rfl⟩ ⟨Nat.zero_le _, Nat.zero_le _⟩ (fun _ h => h) hM (fun hD => nd_all hD) (i1000 hI) rfl rfl rfl rfl (Nat.le_of_ble_eq_true rfl) (k_X10_mayBeNamed hI v u ac m9 x2 x3 hac ha hv h1 h2) (fun r9 v9 u9 hq k9 _ _ => by obtain ⟨x9, -, rfl, rfl, -⟩ := hq; exact ⟨rfl, rfl⟩) (fun r9 v9 u9 hq => ?_)
    obtain ⟨x9, rfl, e8, e9, e7⟩ := hq; rw [e8, e9, e7]
    exact K_if_ne (tgt := 77) C dX10_rent_72 (by decide) (fun c9 => (hno c6 c9).elim) (fun _ => K_iconst (x := (-1)) C dX10_rent_75 (by decide) (K_iret C dX10_rent_76 rfl rfl (List.append_nil I).symm (fun _ _ => rfl) (fun _ _ => rfl) (fun _ _ => rfl)))
  refine K_iload_n C dX10_rent_0 rfl 1 rfl ?_
  refine K_callS (z := mX10_isHolder) (As := [.int x1]) (rest := []) (I0 := I) C dX10_rent_1 ml_X10_116 ok_X10_isHolder iv_X10_isHolder ⟨Nat.le_of_ble_eq_true rfl, Nat.le_of_ble_eq_true rfl⟩ ⟨Nat.zero_le _, Nat.zero_le _⟩ (fun _ h => h) hM (fun hD => nd_all hD) rfl rfl (Nat.le_of_ble_eq_true rfl) (k_X10_isHolder hI v u x1) (fun r9 v9 u9 hq k9 _ _ => by obtain ⟨x9, -, rfl, rfl, -⟩ := hq; exact ⟨rfl, rfl⟩) (fun r9 v9 u9 hq => ?_)
  obtain ⟨x9, rfl, e8, e9, e7⟩ := hq; rw [e8, e9, e7]
  refine K_if_eq (tgt := 31) C dX10_rent_4 (by decide) (fun c9 => K_iconst (x := (-1)) C dX10_rent_31 (by decide) (K_iret C dX10_rent_32 rfl rfl (List.append_nil I).symm (fun _ _ => rfl) (fun _ _ => rfl) (fun _ _ => rfl))) (fun c1 => ?_)
  refine K_aload_n C dX10_rent_7 rfl 0 rfl ?_
  refine K_getr (ci := 10) (j := 4) (t := 500) C dX10_rent_8 fl_X10_29 (i1000 hI) rfl rfl (hM 1000 (i1000 hI) 4) rfl ?_
  refine K_iload_n C dX10_rent_11 rfl 2 rfl ?_
  refine K_callV (z := mX5_has) (o := 500) (ci := 5) (As := [.int x2]) (rest := []) (I0 := I) C dX10_rent_12 ml_X10_103 ok_X5_has iv_X5_has ⟨Nat.le_of_ble_eq_true rfl, Nat.le_of_ble_eq_true rfl⟩ ⟨Nat.zero_le _, Nat.zero_le _⟩ (fun _ h => h) hM (fun hD => nd_all hD) (i500 hI) rfl rfl rfl rfl (Nat.le_of_ble_eq_true rfl) (k_X5_has hI v u x2) (fun r9 v9 u9 hq k9 _ _ => by obtain ⟨x9, -, rfl, rfl, -⟩ := hq; exact ⟨rfl, rfl⟩) (fun r9 v9 u9 hq => ?_)
  obtain ⟨x9, rfl, e8, e9, e7⟩ := hq; rw [e8, e9, e7]
  refine K_if_eq (tgt := 31) C dX10_rent_15 (by decide) (fun c9 => K_iconst (x := (-1)) C dX10_rent_31 (by decide) (K_iret C dX10_rent_32 rfl rfl (List.append_nil I).symm (fun _ _ => rfl) (fun _ _ => rfl) (fun _ _ => rfl))) (fun c2 => ?_)
  refine K_iload C dX10_rent_18 4 rfl ?_
  refine K_iconst (x := 1) C dX10_rent_20 (by decide) ?_
  refine K_icmp_lt (tgt := 31) C dX10_rent_21 (by decide) (fun c9 => K_iconst (x := (-1)) C dX10_rent_31 (by decide) (K_iret C dX10_rent_32 rfl rfl (List.append_nil I).symm (fun _ _ => rfl) (fun _ _ => rfl) (fun _ _ => rfl))) (fun c3 => ?_)
  refine K_iload C dX10_rent_24 4 rfl ?_
  refine K_bipush (x := 99) C dX10_rent_26 (by decide) ?_
  refine K_icmp_le (tgt := 33) C dX10_rent_28 (by decide) (fun c4 => ?_) (fun c9 => K_iconst (x := (-1)) C dX10_rent_31 (by decide) (K_iret C dX10_rent_32 rfl rfl (List.append_nil I).symm (fun _ _ => rfl) (fun _ _ => rfl) (fun _ _ => rfl)))
  refine K_iload_n C dX10_rent_33 rfl 3 rfl ?_
  refine K_iconst (x := (-1)) C dX10_rent_34 (by decide) ?_
  refine K_icmp_eq (tgt := 56) C dX10_rent_35 (by decide) (fun c8 => k56 c2 (Or.inl c8) (fun g6 g7 => hno ⟨c1, c2, c3, c4, Or.inl c8, g6, g7⟩)) (fun c8 => ?_)
  refine K_iload_n C dX10_rent_38 rfl 3 rfl ?_
  refine K_iload_n C dX10_rent_39 rfl 2 rfl ?_
  refine K_icmp_eq (tgt := 54) C dX10_rent_40 (by decide) (fun c9 => K_iconst (x := (-1)) C dX10_rent_54 (by decide) (K_iret C dX10_rent_55 rfl rfl (List.append_nil I).symm (fun _ _ => rfl) (fun _ _ => rfl) (fun _ _ => rfl))) (fun c10 => ?_)
  refine K_aload_n C dX10_rent_43 rfl 0 rfl ?_
  refine K_getr (ci := 10) (j := 4) (t := 500) C dX10_rent_44 fl_X10_29 (i1000 hI) rfl rfl (hM 1000 (i1000 hI) 4) rfl ?_
  refine K_iload_n C dX10_rent_47 rfl 3 rfl ?_
  refine K_callV (z := mX5_has) (o := 500) (ci := 5) (As := [.int x3]) (rest := []) (I0 := I) C dX10_rent_48 ml_X10_103 ok_X5_has iv_X5_has ⟨Nat.le_of_ble_eq_true rfl, Nat.le_of_ble_eq_true rfl⟩ ⟨Nat.zero_le _, Nat.zero_le _⟩ (fun _ h => h) hM (fun hD => nd_all hD) (i500 hI) rfl rfl rfl rfl (Nat.le_of_ble_eq_true rfl) (k_X5_has hI v u x3) (fun r9 v9 u9 hq k9 _ _ => by obtain ⟨x9, -, rfl, rfl, -⟩ := hq; exact ⟨rfl, rfl⟩) (fun r9 v9 u9 hq => ?_)
  obtain ⟨x9, rfl, e8, e9, e7⟩ := hq; rw [e8, e9, e7]
  exact K_if_ne (tgt := 56) C dX10_rent_51 (by decide) (fun c11 => k56 c2 (Or.inr c11) (fun g6 g7 => hno ⟨c1, c2, c3, c4, Or.inr ⟨c10, c11⟩, g6, g7⟩)) (fun c9 => K_iconst (x := (-1)) C dX10_rent_54 (by decide) (K_iret C dX10_rent_55 rfl rfl (List.append_nil I).symm (fun _ _ => rfl) (fun _ _ => rfl) (fun _ _ => rfl)))
