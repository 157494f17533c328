def xIO : String := "java/lang/IndexOutOfBoundsException"
def xNE : String := "java/util/NoSuchElementException"
def nmS : List String := ["java/lang/RuntimeException", "java/lang/Exception"]
def xRT : String := "java/lang/RuntimeException"
def upS : List String := ["java/lang/Exception"]
def rx13 : ByteArray := ⟨#[0x2a, 0x2b, 0xb7, 0x00, 0x0d, 0xb1]⟩
theorem rx_0 : decode rx13 0 = .ok (.aload_n 0, 1) := by decide +kernel
theorem rx_1 : decode rx13 1 = .ok (.aload_n 1, 1) := by decide +kernel
theorem rx_2 : decode rx13 2 = .ok (.invokespecial 13, 3) := by decide +kernel
theorem rx_5 : decode rx13 5 = .ok (.return_, 1) := by decide +kernel
theorem inIO : ∀ w ∈ (vx_atS RX10 268 xIO nmS).filter goodWord, w ∈ gt := fun w h => List.mem_filter.mpr ⟨((goodIn_r (big := lw_tbl) ((vx_atS RX10 268 xIO nmS).filter goodWord) [97, 1075, 1084, 1087, 1090, 1092, 1076, 1077, 108, 109, 1078, 1083, 1088, 1108, 1065, 1109, 1067, 1110, 1069, 1079, 1081, 1071, 1104, 1105, 1107, 1071, 1095, 1096, 1097, 1098, 1098, 1099, 1100, 1101, 1101, 1102, 1103, 1104, 1094, 1054, 1062, 1063, 1064, 1066, 1068, 1070, 1074, 1073, 1072] (by decide +kernel) (by decide +kernel)) w h).1, (List.mem_filter.mp h).2⟩
theorem inNE : ∀ w ∈ (nx_wn RX10 275 xNE xRT 13 rx13 upS).filter goodWord, w ∈ gt := fun w h => List.mem_filter.mpr ⟨((goodIn_r (big := lw_tbl) ((nx_wn RX10 275 xNE xRT 13 rx13 upS).filter goodWord) [97, 1075, 1084, 1087, 1090, 1092, 1076, 1077, 108, 109, 1078, 1083, 1088, 1108, 1065, 1109, 1067, 1110, 1069, 1079, 1081, 1071, 1104, 1105, 1107, 1071, 1131, 1132, 1133, 1098, 1098, 1099, 1100, 1101, 1101, 1102, 1103, 1104, 1130, 1121, 1123, 1086, 1074, 1073, 1124, 1125, 1126, 1127, 1128] (by decide +kernel) (by decide +kernel)) w h).1, (List.mem_filter.mp h).2⟩
def wD (X : String) : Cond := .declares (Bundle.initS X)
def ngIO : List Cond := [wD "java/lang/RuntimeException", wD "java/lang/Exception", wD "java/lang/Throwable", .castable xIO xIO]
def ngNE : List Cond := [wD "java/lang/RuntimeException", wD "java/lang/Exception", wD "java/lang/Throwable", .castable xNE xNE]
theorem ng_IO : ∀ w ∈ (vx_atS RX10 268 xIO nmS).filter (fun w => !goodWord w), w ∈ ngIO := by decide +kernel
theorem ng_NE : ∀ w ∈ (nx_wn RX10 275 xNE xRT 13 rx13 upS).filter (fun w => !goodWord w), w ∈ ngNE := by decide +kernel
theorem ot_IO : ∀ w ∈ Cond.classLink RX10 264 xIO :: Cond.initialized xIO :: vx_atS RX10 268 xIO nmS, vx_ot w = true := by decide +kernel
theorem ot_NE : ∀ w ∈ Cond.classLink RX10 271 xNE :: Cond.initialized xNE :: nx_wn RX10 275 xNE xRT 13 rx13 upS, vx_ot w = true := by decide +kernel
theorem kl_X10_264 : Cond.classLink RX10 264 xIO ∈ gt := gt_mem (tb5 _ (List.mem_of_getElem? (i := 16) (by decide +kernel))) rfl
theorem kl_X10_271 : Cond.classLink RX10 271 xNE ∈ gt := gt_mem (tb5 _ (List.mem_of_getElem? (i := 83) (by decide +kernel))) rfl
theorem kz_IO : Cond.initialized xIO ∈ gt := gt_mem (tb1 _ (List.mem_of_getElem? (i := 23) (by decide +kernel))) rfl
theorem kz_NE : Cond.initialized xNE ∈ gt := gt_mem (tb1 _ (List.mem_of_getElem? (i := 24) (by decide +kernel))) rfl
theorem cwL : Cond.codeWith yL_risk cL_risk 4 (some .int) [(0, 8, 11, 13), (0, 8, 14, 15)] ∈ gt := gt_mem (tb5 _ (List.mem_of_getElem? (i := 9) (by decide +kernel))) rfl
theorem stL : Cond.static yL_risk ∈ gt := gt_mem (tb5 _ (List.mem_of_getElem? (i := 8) (by decide +kernel))) rfl
theorem kzL : Cond.initialized RL ∈ gt := gt_mem (tb1 _ (List.mem_of_getElem? (i := 0) (by decide +kernel))) rfl
/-- what risk() wants of the start besides -/
def rX (A : Nat → Prop) (U : State) (H : Heap) : Prop := vx_Zq Bundle.tN "UNASSIGNED_STACK" Bundle.steD A U H ∧ vx_Zq Bundle.tN "SUPPRESSED_SENTINEL" Bundle.listD A U H ∧ (∃ sa, vk_R RX10 266 "no such life" sa U) ∧ (∃ sa, vk_R RX10 273 "known to be dead" sa U) ∧ va_Nw (wD "java/lang/RuntimeException") U ∧ va_Nw (wD "java/lang/Exception") U ∧ va_Nw (wD "java/lang/Throwable") U ∧ va_Nw (.castable xIO xIO) U ∧ va_Nw (.castable xNE xNE) U ∧ va_Nc xNE xIO U
theorem rX.warm {A : Nat → Prop} {s U : State} {H : Heap} (hW : s.WarmedH U.vm) (h : rX A s H) : rX A U H := by
  obtain ⟨h1, h2, ⟨a, h3⟩, ⟨b, h4⟩, h5, h6, h7, h8, h9, h10⟩ := h
  exact ⟨h1.moved hW.alike, h2.moved hW.alike, ⟨a, h3.warm hW⟩, ⟨b, h4.warm hW⟩, va_Nw.warmD hW h5, va_Nw.warmD hW h6, va_Nw.warmD hW h7, va_Nw.warmC hW h8, va_Nw.warmC hW h9, h10.moved hW.alike⟩
theorem rX.kept {A : Nat → Prop} {U : State} {H H1 : Heap} (h : rX A U H) (hq : ∀ a : Nat, a < H.size → ¬ A a → H1[a]? = H[a]?) : rX A U H1 := ⟨h.1.kept hq, h.2.1.kept hq, h.2.2⟩
theorem rX.narrow {A B : Nat → Prop} {U : State} {H : Heap} (h : rX A U H) (hAB : ∀ q, B q → A q) : rX B U H := ⟨h.1.narrow hAB, h.2.1.narrow hAB, h.2.2⟩
theorem rX.same {A : Nat → Prop} {u U : State} {H : Heap} (e : u.vm = U.vm) (h : rX A u H) : rX A U H := by
  obtain ⟨h1, h2, ⟨a, h3⟩, ⟨b, h4⟩, h5, h6, h7, h8, h9, h10⟩ := h
  have ha : u.vm.Alike U.vm := e ▸ Vm.Alike.refl u.vm
  exact ⟨h1.moved ha, h2.moved ha, ⟨a, h3.same e.symm⟩, ⟨b, h4.same e.symm⟩, va_Nw.same rfl e h5, va_Nw.same rfl e h6, va_Nw.same rfl e h7, va_Nw.same rfl e h8, va_Nw.same rfl e h9, h10.moved ha⟩
theorem rX.ng {A : Nat → Prop} {s : State} {H : Heap} {args : Array Value} (h : rX A s H) : (∀ w ∈ ngIO, w.before args s = true) ∧ ∀ w ∈ ngNE, w.before args s = true := by
  obtain ⟨-, -, -, -, h5, h6, h7, h8, h9, -⟩ := h
  have a5 : (wD "java/lang/RuntimeException").before args s = true := va_Nw.use rfl h5
  have a6 : (wD "java/lang/Exception").before args s = true := va_Nw.use rfl h6
  have a7 : (wD "java/lang/Throwable").before args s = true := va_Nw.use rfl h7
  have a8 : (Cond.castable xIO xIO).before args s = true := va_Nw.use rfl h8
  have a9 : (Cond.castable xNE xNE).before args s = true := va_Nw.use rfl h9
  exact ⟨vx_c a5 (vx_c a6 (vx_c a7 (vx_c a8 vx_n))), vx_c a5 (vx_c a6 (vx_c a7 (vx_c a9 vx_n)))⟩
def RP (L : Nat → Nat) (cA : Nat → ClassId) (D : va_G) (sz : Nat) (I : List Nat) (M : Nat → Nat → Bool) (v : fr_V) (u : fr_U) (U : State) : Prop := KP L cA D sz [] I M v u U ∧ rX (KA L I sz) U U.heap
def RQ (L : Nat → Nat) (cA : Nat → ClassId) (D : va_G) (A : Nat → Prop) (I : List Nat) (M : Nat → Nat → Bool) (u : fr_U) (P : Int64 → fr_V → Prop) : Array Value → State → Outcome → State → Prop := fun _ st oc t => ∃ (r : Int64) (v' : fr_V), oc = .returned (some (.long r)) ∧ P r v' ∧ va_P D fr_cls (mwK L cA I M v' u) t.heap ∧ va_F A st t
def RXc (L : Nat → Nat) (cA : Nat → ClassId) (D : va_G) (A : Nat → Prop) (I : List Nat) (M : Nat → Nat → Bool) (u : fr_U) (P : String → fr_V → Prop) : String → State → State → Prop := fun E st t => ∃ v' : fr_V, P E v' ∧ va_P D fr_cls (mwK L cA I M v' u) t.heap ∧ va_F A st t
def RQi (L : Nat → Nat) (cA : Nat → ClassId) (D : va_G) (A : Nat → Prop) (I : List Nat) (M : Nat → Nat → Bool) (P : Int32 → fr_V → fr_U → Prop) : Array Value → State → Outcome → State → Prop := fun _ st oc t => ∃ (k : Int32) (v' : fr_V) (u' : fr_U), oc = .returned (some (.int k)) ∧ P k v' u' ∧ va_P D fr_cls (mwK L cA I M v' u') t.heap ∧ va_F A st t
theorem RP.blind {L : Nat → Nat} {cA : Nat → ClassId} {D : va_G} {sz : Nat} {I : List Nat} {M : Nat → Nat → Bool} {v : fr_V} {u : fr_U} {av : List Value} : FrameBlind (va_Pc av (RP L cA D sz I M v u)) := by
  intro a U g mk q
  obtain ⟨q0, q1, q2⟩ := q
  obtain ⟨r0, r1⟩ := K_blind (av := av) a U g mk ⟨q0, q1⟩
  exact ⟨r0, r1, rX.same (u := U) (U := U.calling g mk a) rfl q2⟩
section RK
variable {l : Launch} {L : Nat → Nat} {cA : Nat → ClassId} {D : va_G} {A0 : Nat → Prop} {p : Program} {e : Env} {s : State} {m : MethodId} {args : Array Value} {below : List Frame} {meth : Method} {c : Code} {I : List Nat} {M : Nat → Nat → Bool} {v : fr_V} {u : fr_U} {lv : List (Nat × Value)} {PR : Int64 → fr_V → Prop} {PX : String → fr_V → Prop}
theorem K_thIO (C : KC L cA D A0 nX10_risk p s m args meth c) (hl : l.stackTraces = false) (hr : rX A0 s s.heap) (ht : ∀ x ∈ c.exceptionTable.toList, False) (hx : PX xIO v) : KJ l (KR nX10_risk 1 6) nX10_risk L cA D A0 p e s m args below meth c (vx_MQ below (RQ L cA D A0 I M u PR) (RXc L cA D A0 I M u PX) args s 1 6 A0) 0 0 [] I M v u 11 lv [] := by
  intro H locs ls hP hD hS hT hlv
  have ng := hr.ng (args := args)
  obtain ⟨hU, hN, ⟨sa, hs1⟩, -⟩ := hr
  have hw := C.2.2.2.2.2.2.1
  exact vx_throwSW (cc := cX10_risk) (pc := 11) C.1 C.2.1 hl (own := RX10) (cls := xIO) (text := "no such life") (names := nmS) (ik := 264) (is := 266) (ic := 268) (sa := sa) (A := A0) C.2.2.2.2.1 (by decide +kernel) (by decide +kernel) (hw _ kl_X10_264) (hw _ kz_IO) hs1 (hat_of (fun w h => hw w (inIO w h)) ng_IO ng.1) ot_IO hU hN hS (hlv.1.trans C.2.2.2.1.symm) dX10_risk_11 dX10_risk_14 dX10_risk_15 dX10_risk_18 dX10_risk_21 (fun x hx => (ht x hx).elim) (by decide) (Nat.le_of_ble_eq_true rfl) (by decide) (by decide) C.2.2.2.2.2.1
    (fun t _ hsz hk => ⟨v, hx, hP.kept (fun k q hq => hk q.1 (hP k q hq).lt), Nat.le_trans hS.1 hsz, fun q h1 h2 => by rw [hk q (Nat.lt_of_lt_of_le h1 hS.1)]; exact hS.2.1 q h1 h2⟩) hS.2.2 (by decide) (by decide)
theorem K_thNE (C : KC L cA D A0 nX10_risk p s m args meth c) (hl : l.stackTraces = false) (hr : rX A0 s s.heap) (ht : ∀ x ∈ c.exceptionTable.toList, False) (hx : PX xNE v) : KJ l (KR nX10_risk 1 6) nX10_risk L cA D A0 p e s m args below meth c (vx_MQ below (RQ L cA D A0 I M u PR) (RXc L cA D A0 I M u PX) args s 1 6 A0) 0 0 [] I M v u 44 lv [] := by
  intro H locs ls hP hD hS hT hlv
  have ng := hr.ng (args := args)
  obtain ⟨hU, hN, -, ⟨sa, hs1⟩, -⟩ := hr
  have hw := C.2.2.2.2.2.2.1
  exact nx_throwW (cc := cX10_risk) (pc := 44) C.1 C.2.1 hl (own := RX10) (cls := xNE) (text := "known to be dead") (sup := xRT) (up := upS) (ik := 271) (is := 273) (ic := 275) (sa := sa) (A := A0) ⟨rx_0, rx_1, rx_2, rx_5⟩ C.2.2.2.2.1 (by decide +kernel) (by decide +kernel) (by decide +kernel) (hw _ kl_X10_271) (hw _ kz_NE) hs1 (hat_of (fun w h => hw w (inNE w h)) ng_NE ng.2) ot_NE hU hN hS (hlv.1.trans C.2.2.2.1.symm) dX10_risk_44 dX10_risk_47 dX10_risk_48 dX10_risk_51 dX10_risk_54 (fun x hx => (ht x hx).elim) (by decide) (Nat.le_of_ble_eq_true rfl) (by decide) (by decide) C.2.2.2.2.2.1
    (fun t _ hsz hk => ⟨v, hx, hP.kept (fun k q hq => hk q.1 (hP k q hq).lt), Nat.le_trans hS.1 hsz, fun q h1 h2 => by rw [hk q (Nat.lt_of_lt_of_le h1 hS.1)]; exact hS.2.1 q h1 h2⟩) hS.2.2 (by decide) (by decide)
end RK
def rkR9 (v : fr_V) (N nr w n : Nat) (x : Int32) (r : Int64) (v' : fr_V) : Prop := vp_in x n ∧ f_X1_isDead (f_kw v N (nI w)) x = 0 ∧ v' = f_kw v N (nI w) ∧ r = f_rk (f_kw v N (nI w)) N nr w x
def rkX9 (v : fr_V) (N w n : Nat) (x : Int32) (E : String) (v' : fr_V) : Prop := (E = xIO ∧ ¬ vp_in x n ∧ v' = v) ∨ (E = xNE ∧ vp_in x n ∧ ¬ f_X1_isDead (f_kw v N (nI w)) x = 0 ∧ v' = f_kw v N (nI w))
theorem c_risk {l : Launch} {L : Nat → Nat} {cA : Nat → ClassId} {D : va_G} {I : List Nat} {M : Nat → Nat → Bool} {v y : fr_V} {u : fr_U} {ac m9 N n nr NS w t ar : Nat} {x : Int32} (hl : l.stackTraces = false) (hI : fr_I I) (hM : ∀ k ∈ I, ∀ j, M k j = true) (h : RLp I ac m9 N n nr NS w t ar v y) (sz : Nat) : vx_Met l yX10_risk (fr_ws nX10_risk) (KR nX10_risk 1 6) (va_Pc ([.ref 1000, .int x].map (cv L)) (RP L cA D sz I M v u)) (RQ L cA D (KA L I sz) I M u (rkR9 v N nr w n x)) (RXc L cA D (KA L I sz) I M u (rkX9 v N w n x)) 1 6 (KA L I sz) := by
  refine vx_ofW (cc := cX10_risk) (maxL := 2) (ret := some .long) (by decide +kernel) rfl ?_
  intro p e s m args' below meth c s₁ B hml htab hv
  obtain ⟨rfl, ⟨hP, hK, hD, hX, hkw, hsz, -⟩, hrx⟩ := hv
  subst hsz
  have hts := atoms_spec (ws := fr_ws nX10_risk) B.pre
  have hlv := lv_entry ([Value.ref 1000, .int x].map (cv L)) (n := 2) (by rw [cv_sl]; exact Nat.le_of_ble_eq_true rfl)
  rw [lg_entry_eq]
  rw [cv_args] at hlv
  have C : KC L cA D (KA L I s.heap.size) nX10_risk p s m ([Value.ref 1000, .int x].map (cv L)).toArray meth c := ⟨B.exec, B.bytes, B.returns, hml, findClass_of_methodNamed B.named, B.notSynchronized, fun w hw => hts w (List.mem_cons_of_mem _ hw), hX, hK, (name_of_methodNamed B.named B.method).1, fun q hq => Or.inr hq, hkw⟩
  have K : KJ l (KR nX10_risk 1 6) nX10_risk L cA D (KA L I s.heap.size) p e s m ([Value.ref 1000, .int x].map (cv L)).toArray below meth c (vx_MQ below (RQ L cA D (KA L I s.heap.size) I M u (rkR9 v N nr w n x)) (RXc L cA D (KA L I s.heap.size) I M u (rkX9 v N w n x)) ([Value.ref 1000, .int x].map (cv L)).toArray s 1 6 (KA L I s.heap.size)) 0 0 [] I M v u 0 [(0, .ref 1000), (1, .int x)] [] := by
    refine K_aload_n C dX10_risk_0 rfl 0 rfl ?_
    refine K_getr (t := 500) C dX10_risk_1 fl_X10_29 (i1000 hI) rfl rfl (hM 1000 (i1000 hI) 4) rfl ?_
    refine K_iload_n C dX10_risk_4 rfl 1 rfl ?_
    refine K_callV (z := mX5_has) (o := 500) (ci := 5) (As := [.int x]) (rest := []) (I0 := I) C dX10_risk_5 ml_X10_103 ok_X5_has iv_X5_has ⟨by decide, by decide⟩ ⟨Nat.zero_le _, Nat.zero_le _⟩ (fun _ h => h) hM (fun hD => nd_all hD) (i500 hI) rfl rfl rfl rfl (by decide) (k_X5_has hI v u x) (fun _ _ _ _ k9 h h' => absurd h h') (fun r9 v9 u9 hq => ?_)
    obtain ⟨a9, hr9, hv9, hu9, ha⟩ := hq
    subst hr9
    rw [hv9, hu9]
    rw [r5h (z := v) (n := n) h.nz h.n12] at ha
    refine K_if_ne (tgt := 22) C dX10_risk_8 (by decide) (fun c1 => ?_) (fun c1 => ?_)
    rotate_left
    · have hno : ¬ vp_in x n := fun q => by rw [ha, cI_pos q] at c1; exact absurd c1 (by decide)
      exact K_thIO C hl hrx htab (Or.inl ⟨rfl, hno, rfl⟩)
    have hin : vp_in x n := by
      by_cases q : vp_in x n
      · exact q
      · exact absurd (by rw [ha]; exact cI_neg q) c1
    have hn12 := h.n12
    obtain ⟨i, hi, hxi⟩ := vp_in_of hin (by omega)
    have hin12 : vp_in x 12 := by rw [hxi]; exact vp_in_nI (by omega) (by decide)
    refine K_aload_n C dX10_risk_22 rfl 0 rfl ?_
    refine K_getr (t := 100) C dX10_risk_23 fl_X10_38 (i1000 hI) rfl rfl (hM 1000 (i1000 hI) 5) rfl ?_
    refine K_aload_n C dX10_risk_26 rfl 0 rfl ?_
    refine K_geti (x := nI w) C dX10_risk_27 fl_X10_92 (i1000 hI) rfl rfl h.wz ?_
    refine K_callV (z := mX1_know) (o := 100) (ci := 1) (As := [.int (nI w)]) (rest := []) (I0 := I) C dX10_risk_30 ml_X10_149 ok_X1_know iv_X1_know ⟨by decide, by decide⟩ ⟨Nat.zero_le _, Nat.zero_le _⟩ (fun _ h => h) hM (fun hD => nd_all hD) (i100 hI) rfl rfl rfl rfl (by decide) (k_X1_know hI v u (nI w) N h.Nz h.Wz) (fun _ _ _ _ k9 h h' => absurd h h') (fun r9 v9 u9 hq => ?_)
    obtain ⟨hr9, hu9, hv9⟩ := hq
    subst hr9
    rw [hv9, hu9]
    have h2 := h.kw (k := w) h.w8
    have hPX : ¬ f_X1_isDead (f_kw v N (nI w)) x = 0 → rkX9 v N w n x xNE (f_kw v N (nI w)) := fun q => Or.inr ⟨rfl, hin, q, rfl⟩
    have hPR : f_X1_isDead (f_kw v N (nI w)) x = 0 → rkR9 v N nr w n x (f_rk (f_kw v N (nI w)) N nr w x) (f_kw v N (nI w)) := fun q => ⟨hin, q, rfl, rfl⟩
    generalize f_kw v N (nI w) = z at h2 hPX hPR ⊢
    refine K_aload_n C dX10_risk_33 rfl 0 rfl ?_
    refine K_getr (t := 100) C dX10_risk_34 fl_X10_38 (i1000 hI) rfl rfl (hM 1000 (i1000 hI) 5) rfl ?_
    refine K_iload_n C dX10_risk_37 rfl 1 rfl ?_
    refine K_callV (z := mX1_isDead) (o := 100) (ci := 1) (As := [.int x]) (rest := []) (I0 := I) C dX10_risk_38 ml_X10_239 ok_X1_isDead iv_X1_isDead ⟨by decide, by decide⟩ ⟨Nat.zero_le _, Nat.zero_le _⟩ (fun _ h => h) hM (fun hD => nd_all hD) (i100 hI) rfl rfl rfl rfl (by decide) (k_X1_isDead hI z u x hin12) (fun _ _ _ _ k9 h h' => absurd h h') (fun r9 v9 u9 hq => ?_)
    obtain ⟨a8, hr9, hv9, hu9, ha8⟩ := hq
    subst hr9
    rw [hv9, hu9]
    refine K_if_eq (tgt := 55) C dX10_risk_41 (by decide) (fun c2 => ?_) (fun c2 => ?_)
    rotate_left
    · exact K_thNE C hl hrx htab (hPX (by rw [← ha8]; exact c2))
    refine K_aload_n C dX10_risk_55 rfl 0 rfl ?_
    refine K_iload_n C dX10_risk_56 rfl 1 rfl ?_
    refine K_callV (z := mX10_riskOn) (o := 1000) (ci := 10) (As := [.int x]) (rest := []) (I0 := I) C dX10_risk_57 ml_X10_257 ok_X10_riskOn iv_X10_riskOn ⟨by decide, by decide⟩ ⟨Nat.zero_le _, Nat.zero_le _⟩ (fun _ h => h) hM (fun hD => nd_all hD) (i1000 hI) rfl rfl rfl rfl (by decide) (k_X10_riskOn hI z u N nr w x h2.wz h2.w8 h2.rnK h2.Nz h2.N60 (by rw [hxi]; exact h2.lvo hi)) (fun _ _ _ _ k9 h h' => absurd h h') (fun r9 v9 u9 hq => ?_)
    obtain ⟨a7, hr9, hv9, hu9, ha7⟩ := hq
    subst hr9
    rw [hv9, hu9]
    have hq9 := hPR (by rw [← ha8]; exact c2)
    rw [← ha7] at hq9
    intro H locs ls hP hD hS hT hl9
    exact W.widen (k := 1) (n := 6) (by decide) (by decide) (vx_ret (W.lret (v := a7) C.1 C.2.1 C.2.2.1 (fun t ht hW => ⟨a7, z, rfl, hq9, by rw [ht]; exact hP, hS.F ht⟩) hS.2.2 dX10_risk_60 C.2.2.2.2.2.1))
  exact K s.heap [] _ hP hD va_S.rf (fun i k h9 => by simp at h9) hlv
theorem met_of_vx {l : Launch} {y : MethodName} {ws : List Cond} {rm : Room} {Pc : Array Value → State → Prop} {Qc : Array Value → State → Outcome → State → Prop} {mc ms : Nat} {free : Addr → Prop} (h : vx_Met l y ws rm Pc Qc (fun _ _ _ => False) mc ms free) : Met l y ws rm Pc Qc mc ms free := by
  intro p e h1 h2 h3 s m args below h4 h5 h6 h7
  obtain ⟨n, o, q1, q2, q3, q4⟩ := h p e h1 h2 h3 s m args below h4 h5 h6 h7
  refine ⟨n, o, q1, q2, q3, ?_⟩
  rcases q4 with q4 | ⟨q, -, E, ce, L9, hf, -⟩
  · exact q4
  · exact hf.elim

def rkL9 (v : fr_V) (u : fr_U) (N nr w n : Nat) (x : Int32) (k : Int32) (v' : fr_V) (u' : fr_U) : Prop := (k = 1 ∧ ¬ vp_in x n ∧ v' = v) ∨ (k = 2 ∧ vp_in x n ∧ ¬ f_X1_isDead (f_kw v N (nI w)) x = 0 ∧ v' = f_kw v N (nI w)) ∨ (k = 0 ∧ vp_in x n ∧ f_X1_isDead (f_kw v N (nI w)) x = 0 ∧ v' = f_kw v N (nI w) ∧ u' 950 0 = f_rk (f_kw v N (nI w)) N nr w x)
theorem K_rcall {l : Launch} {R : Room} {y0 : fr_M} {L : Nat → Nat} {cA : Nat → ClassId} {D : va_G} {A0 : Nat → Prop} {p : Program} {e : Env} {s : State} {m : MethodId} {args : Array Value} {below : List Frame} {meth : Method} {c : Code} {Z : State → Prop} {I : List Nat} {M : Nat → Nat → Bool} {v y : fr_V} {u : fr_U} {pc : Nat} {lv : List (Nat × Value)} {ac m9 N n nr NS w t ar idx : Nat} {x : Int32} {rest : List Value} (C : KC L cA D A0 y0 p s m args meth c) (hl : l.stackTraces = false) (hI : fr_I I) (hM : ∀ k ∈ I, ∀ j, M k j = true) (hrx : rX A0 s s.heap) (h : RLp I ac m9 N n nr NS w t ar v y) (d : decode y0.2.1 pc = .ok (.invokevirtual idx, 3)) (hw : Cond.methodLink y0.1.cls idx yX10_risk ∈ gt) (hR : 7 ≤ R.frames ∧ 103 ≤ R.locals) (hce : 1 ≤ R.cells ∧ 6 ≤ R.slots) (hsum : (rest.map fun x => x.category).sum ≤ 8)
    (kr : ∀ r v', rkR9 v N nr w n x r v' → KJ l R y0 L cA D A0 p e s m args below meth c Z 1 6 [] I M v' u (pc + 3) lv (.long r :: rest))
    (kx : ∀ (E : String) (v' : fr_V) (H : Heap) (locs : List Loc) (ls : Array Slot) (q : Addr) (ce : Cell), rkX9 v N w n x E v' → va_P D fr_cls (mwK L cA I M v' u) H → va_D A0 (mwK L cA I M v' u) → va_S A0 s.heap H locs → lv_has ls y0.2.2.1 (lv.map (cvp L)) → H[q]? = some ce → ce.vm = .none → s.vm.findClass E = some ce.cls → vx_W p l e R s m args below meth c H locs 1 6 Z (F0 m pc ls (rest.map (cv L))) q) :
    KJ l R y0 L cA D A0 p e s m args below meth c Z 0 0 [] I M v u pc lv (.int x :: .ref 1000 :: rest) := by
  intro H locs ls hP hD hS hT hlv
  have hw9 := C.2.2.2.2.2.2.1
  obtain ⟨q0, -, hq0⟩ := mwK_get (L := L) (cA := cA) (M := M) (v := v) (u := u) (i1000 hI)
  rw [entK_o (ci := 10) rfl (by decide)] at hq0
  have cb : CallB R s args y0.1.cls idx yX10_risk cX10_risk 2 (some .long) (fr_ws nX10_risk) (KR nX10_risk 1 6) 1 6 1 := callB_of 1 hw9 (fr_good (z := nX10_risk) ok_X10_risk) rfl rfl rfl (hw9 _ ok_X10_risk.2.1) (hw9 _ hw) ok_X10_risk.2.2 hR
  have hA : ∀ q, KA L I H.size q → A0 q := fun q h => h.elim (fun h => KS_A hD (fun _ h => h) q h) (fun h => C.2.2.2.2.2.2.2.2.2.2.1 q (Nat.le_trans hS.1 h))
  have hrun := vx_runV (l := l) (e := e) (below := below) (meth := meth) (H := H) (locs := locs) (cells := 0) (slots := 0) (b := L 1000) (As := [.int x]) (rest := rest.map (cv L)) (g := F0 m pc ls ((.int x :: .ref 1000 :: rest).map (cv L))) ⟨C.1, C.2.1, C.2.2.2.1, C.2.2.2.2.1, hw9⟩ (c_risk (L := L) (cA := cA) (D := D) (u := u) (x := x) hl hI hM h H.size) (C := RX10) ⟨cb, hw9 _ iv_X10_risk.1, hw9 _ iv_X10_risk.2⟩
    ⟨RP.blind, va_recv C.2.2.2.2.2.2.2.2.1 hP (ci := 10) rfl hq0, fun U hU hW => by
      obtain ⟨k0, k1⟩ := K_cpre (av := [Value.ref (L 1000), .int x]) (T1 := []) C hP hD hS (fun i k h9 => by simp at h9) U hU hW
      exact ⟨k0, k1, by rw [hU]; exact (rX.warm hW (hrx.kept hS.2.1)).narrow hA⟩⟩ rfl rfl hlv.1 rfl (lv_room (by rw [cv_sum]; exact hsum)) d ⟨hce.1, hce.2⟩
  intro T9 hT9 X
  rcases hrun T9 hT9 X with ⟨r9, st₀, t9, T', L9, h0, X', hL9, e1, e2, ⟨r, v', hv, hPR, hP', hz, hk⟩, stp⟩ | ⟨q, st₀, t9, T', L9, E, ce, h0, X', hL9, e1, e2, ⟨v', hPX, hP', hz, hk⟩, hce9, hcv, hcl, stp⟩
  · have hv2 : r9 = some (.long r) := Outcome.returned.inj hv
    subst hv2
    rw [h0] at hz hk
    have hS1 : va_S A0 s.heap T'.heap (locs ++ L9) := ⟨Nat.le_trans hS.1 (by rw [e1]; exact hz), fun q h1 h2 => by rw [e1, hk q (Nat.lt_of_lt_of_le h1 hS.1) (fun z => h2 (hA q z))]; exact hS.2.1 q h1 h2, fun q hq => by
        rcases List.mem_append.mp hq with h | h
        · exact hS.2.2 q h
        · exact hA _ (hL9 q h)⟩
    obtain ⟨t2, a1, b1⟩ := kr r v' hPR T'.heap (locs ++ L9) ls (by rw [e1]; exact hP') (mwK_D hD) hS1 (fun i k9 h9 => by simp at h9) hlv T' rfl X'
    exact ⟨t2, stp t2 a1, b1⟩
  · rw [h0] at hz hk
    have hS1 : va_S A0 s.heap T'.heap (locs ++ L9) := ⟨Nat.le_trans hS.1 (by rw [e1]; exact hz), fun q h1 h2 => by rw [e1, hk q (Nat.lt_of_lt_of_le h1 hS.1) (fun z => h2 (hA q z))]; exact hS.2.1 q h1 h2, fun q hq => by
        rcases List.mem_append.mp hq with h | h
        · exact hS.2.2 q h
        · exact hA _ (hL9 q h)⟩
    obtain ⟨t2, a1, b1⟩ := kx E v' T'.heap (locs ++ L9) ls q ce hPX (by rw [e1]; exact hP') (mwK_D hD) hS1 hlv (by rw [e1]; exact hce9) hcv hcl T' rfl X'
    exact ⟨t2, stp.trans a1, b1⟩
theorem c_Lrisk {l : Launch} {L : Nat → Nat} {cA : Nat → ClassId} {D : va_G} {I : List Nat} {M : Nat → Nat → Bool} {v y : fr_V} {u : fr_U} {ac m9 N n nr NS w t ar : Nat} {x : Int32} (hl : l.stackTraces = false) (hI : fr_I I) (hM : ∀ k ∈ I, ∀ j, M k j = true) (h : RLp I ac m9 N n nr NS w t ar v y) (sz : Nat) : Met l yL_risk (Cond.codeWith yL_risk cL_risk 4 (some .int) [(0, 8, 11, 13), (0, 8, 14, 15)] :: gt) (KR nL_risk 1 6) (va_Pc ([.ref 1000, .int x, .ref 950].map (cv L)) (RP L cA D sz I M v u)) (RQi L cA D (KA L I sz) I M (rkL9 v u N nr w n x)) 1 6 (KA L I sz) := by
  refine met_of_vx (vx_ofWH (cc := cL_risk) (maxL := 4) (ret := some .int) (hh := [(0, 8, 11, 13), (0, 8, 14, 15)]) (by decide +kernel) rfl ?_)
  intro p e s m args' below meth c s₁ B hml hv
  obtain ⟨rfl, ⟨hP, hK, hD, hX, hkw, hsz, -⟩, hrx⟩ := hv
  subst hsz
  have hts := atoms_spec (ws := Cond.codeWith yL_risk cL_risk 4 (some .int) [(0, 8, 11, 13), (0, 8, 14, 15)] :: gt) B.pre
  have htab := vx_table (x := yL_risk) B (hts _ List.mem_cons_self)
  have hlv := lv_entry ([Value.ref 1000, .int x, .ref 950].map (cv L)) (n := 4) (by rw [cv_sl]; exact Nat.le_of_ble_eq_true rfl)
  rw [lg_entry_eq]
  rw [cv_args] at hlv
  have C : KC L cA D (KA L I s.heap.size) nL_risk p s m ([Value.ref 1000, .int x, .ref 950].map (cv L)).toArray meth c := ⟨B.exec, B.bytes, B.returns, hml, findClass_of_methodNamed B.named, B.notSynchronized, fun w hw => hts w (List.mem_cons_of_mem _ hw), hX, hK, (name_of_methodNamed B.named B.method).1, fun q hq => Or.inr hq, hkw⟩
  have hw9 := C.2.2.2.2.2.2.1
  have fin : ∀ (k : Int32) (v' : fr_V) (u' : fr_U) (pc : Nat) (lv : List (Nat × Value)), rkL9 v u N nr w n x k v' u' → decode cL_risk pc = .ok (.ireturn, 1) → KJ l (KR nL_risk 1 6) nL_risk L cA D (KA L I s.heap.size) p e s m ([Value.ref 1000, .int x, .ref 950].map (cv L)).toArray below meth c (vx_MQ below (RQi L cA D (KA L I s.heap.size) I M (rkL9 v u N nr w n x)) (fun _ _ _ => False) ([Value.ref 1000, .int x, .ref 950].map (cv L)).toArray s 1 6 (KA L I s.heap.size)) 1 6 [] I M v' u' pc lv [.int k] := fun k v' u' pc lv hq d H locs ls hP hD hS hT hl9 =>
    vx_ret (W.iret (v := k) C.1 C.2.1 C.2.2.1 (fun t ht hW => ⟨k, v', u', rfl, hq, by rw [ht]; exact hP, hS.F ht⟩) hS.2.2 d C.2.2.2.2.2.1)
  have K : KJ l (KR nL_risk 1 6) nL_risk L cA D (KA L I s.heap.size) p e s m ([Value.ref 1000, .int x, .ref 950].map (cv L)).toArray below meth c (vx_MQ below (RQi L cA D (KA L I s.heap.size) I M (rkL9 v u N nr w n x)) (fun _ _ _ => False) ([Value.ref 1000, .int x, .ref 950].map (cv L)).toArray s 1 6 (KA L I s.heap.size)) 0 0 [] I M v u 0 [(0, .ref 1000), (1, .int x), (2, .ref 950)] [] := by
    refine K_aload_n C dL_risk_0 rfl 2 rfl ?_
    refine K_iconst (x := 0) C dL_risk_1 rfl ?_
    refine K_aload_n C dL_risk_2 rfl 0 rfl ?_
    refine K_iload_n C dL_risk_3 rfl 1 rfl ?_
    refine K_rcall C hl hI hM hrx h dL_risk_4 ml_L_7 ⟨by decide, by decide⟩ ⟨by decide, by decide⟩ (Nat.le_of_ble_eq_true rfl) (fun r v' hq => ?_) (fun E v' H locs ls q ce hq hP1 hD1 hS1 hl1 hce hcv hcl => ?_)
    · refine K_last C dL_risk_7 (hI 950 (by decide)) rfl (vp_in_nI (n := 0) (by omega) (by decide)) ?_
      refine K_goto (tgt := 17) C dL_risk_8 (by decide) ?_
      refine K_iconst (x := 0) C dL_risk_17 rfl ?_
      refine fin 0 v' _ 18 _ (Or.inr (Or.inr ⟨rfl, hq.1, hq.2.1, hq.2.2.1, ?_⟩)) dL_risk_18
      rw [← hq.2.2.2]
      show up3 u 950 _ r 950 0 = r
      rw [up3_self]
      rfl
    · have hc13 : (Cond.classLink RL 13 xIO).before ([Value.ref 1000, .int x, .ref 950].map (cv L)).toArray s = true := hw9 _ kl_L_13
      have hc15 : (Cond.classLink RL 15 xNE).before ([Value.ref 1000, .int x, .ref 950].map (cv L)).toArray s = true := hw9 _ kl_L_15
      rcases hq with ⟨e1, e2, e3⟩ | ⟨e1, e2, e3, e4⟩
      · rw [e1] at hcl
        refine vx_catch (own := RL) (name := xIO) (E := xIO) C.2.2.2.2.1 [] ⟨0, 8, 11, 13⟩ [⟨0, 8, 14, 15⟩] (by rw [htab]; rfl) (fun z hz => nomatch hz) (by decide) (by decide) hc13 (va_Nw.use rfl hrx.2.2.2.2.2.2.2.1) hce hcv hcl ?_
        refine lv_astore_n C.1 C.2.1 dL_risk_11 rfl hl1 (by decide) rfl (fun ls9 hl9 => ?_)
        exact (K_iconst (x := 1) C dL_risk_12 rfl (fin 1 v' u 13 [] (Or.inl ⟨rfl, e2, e3⟩) dL_risk_13)) H locs ls9 hP1 hD1 hS1 (fun i k9 h9 => by simp at h9) (lv_sub hl9 [] rfl)
      · rw [e1] at hcl
        refine vx_catch (own := RL) (name := xNE) (E := xNE) C.2.2.2.2.1 [⟨0, 8, 11, 13⟩] ⟨0, 8, 14, 15⟩ [] (by rw [htab]; rfl) (fun z hz => ?_) (by decide) (by decide) hc15 (va_Nw.use rfl hrx.2.2.2.2.2.2.2.2.1) hce hcv hcl ?_
        · have hz9 : z = ⟨0, 8, 11, 13⟩ := by simpa using hz
          rw [hz9]
          exact Or.inr ⟨by decide, xIO, hc13, hrx.2.2.2.2.2.2.2.2.2⟩
        refine lv_astore_n C.1 C.2.1 dL_risk_14 rfl hl1 (by decide) rfl (fun ls9 hl9 => ?_)
        exact (K_iconst (x := 2) C dL_risk_15 rfl (fin 2 v' u 16 [] (Or.inr (Or.inl ⟨rfl, e2, e3, e4⟩)) dL_risk_16)) H locs ls9 hP1 hD1 hS1 (fun i k9 h9 => by simp at h9) (lv_sub hl9 [] rfl)
  exact K s.heap [] _ hP hD va_S.rf (fun i k h9 => by simp at h9) hlv
