theorem fr_X.L {L L' : Nat → Nat} {A : Nat → Prop} {U : State} {H : Heap} (h : fr_X L A U H) (hL : ∀ q, 3000 ≤ q → L' q = L q) : fr_X L' A U H := by
  unfold fr_X at h ⊢
  rw [show (fun i => L' (3000 + i)) = (fun i => L (3000 + i)) from funext (fun i => hL _ (by omega)), show (fun i => Value.ref (L' (3100 + i))) = (fun i => Value.ref (L (3100 + i))) from funext (fun i => by rw [hL _ (by omega)]), hL 3200 (by omega), hL 3201 (by omega), show (fun j => Value.ref (L' (3000 + j))) = (fun j => Value.ref (L (3000 + j))) from funext (fun i => by rw [hL _ (by omega)]), show (fun i => L' (3100 + i)) = (fun i => L (3100 + i)) from funext (fun i => hL _ (by omega)), show (fun i => L' (3300 + i)) = (fun i => L (3300 + i)) from funext (fun i => hL _ (by omega))]
  exact h
theorem K_world {l : Launch} {R : Room} {y : fr_M} {L : Nat → Nat} {cA : Nat → ClassId} {D : va_G} {A0 : Nat → Prop} {p : Program} {e : Env} {s : State} {m : MethodId} {args : Array Value} {below : List Frame} {meth : Method} {c : Code} {Z : State → Prop} {ce sl : Nat} {T I : List Nat} {M M2 : Nat → Nat → Bool} {v v2 : fr_V} {u u2 : fr_U} {pc : Nat} {lv : List (Nat × Value)} {st : List Value} (h : ∀ k ∈ I, M2 k = M k ∧ v2 k = v k ∧ u2 k = u k) (kk : KJ l R y L cA D A0 p e s m args below meth c Z ce sl T I M2 v2 u2 pc lv st) : KJ l R y L cA D A0 p e s m args below meth c Z ce sl T I M v u pc lv st := by
  have hw : mwK L cA I M2 v2 u2 = mwK L cA I M v u := List.map_congr_left (fun k hk => by rw [(h k hk).1, (h k hk).2.1, (h k hk).2.2])
  intro H locs ls hP hD hS hT hl
  exact kk H locs ls (by rw [hw]; exact hP) (by rw [hw]; exact hD) hS hT hl
theorem mw_L {L L' : Nat → Nat} {cA : Nat → ClassId} {D : va_G} {A0 : Nat → Prop} {I : List Nat} {M : Nat → Nat → Bool} {v : fr_V} {u : fr_U} {H : Heap} {r : Nat} (hx : ∀ q, q ≠ 2000 + 10 * r → q ≠ 2007 + 10 * r → L' q = L q) (hr : r < 16) (hin : ∀ k ∈ I, k ∈ fr_st ∨ ∃ r', r' < r ∧ (k = 2000 + 10 * r' ∨ k = 2007 + 10 * r')) (hd : dyn v) (h302 : ∀ i, i < 16 → v 302 i = (-1) ∨ ∃ r', r' < r ∧ v 302 i = nI (2000 + 10 * r')) (hP : va_P D fr_cls (mwK L cA I M v u) H) (hD : va_D A0 (mwK L cA I M v u)) : va_P D fr_cls (mwK L' cA I M v u) H ∧ va_D A0 (mwK L' cA I M v u) := by
  have hk9 : ∀ k ∈ I, L' k = L k := fun k hk => by
    rcases hin k hk with h | ⟨r', h1, h2⟩
    · have s := List.all_eq_true.mp st_ok9 k h
      unfold stB9 at s
      rw [Bool.and_eq_true, decide_eq_true_eq] at s
      exact hx k (by omega) (by omega)
    · exact hx k (by omega) (by omega)
  have hg : ∀ (i : Nat) (q : Nat × va_E), (mwK L' cA I M v u)[i]? = some q → ∃ k, k ∈ I ∧ q = (L' k, entK L' cA (M k) k (v k) (u k)) ∧ (mwK L cA I M v u)[i]? = some (L k, entK L cA (M k) k (v k) (u k)) := fun i q hq => by
    simp only [mwK, List.getElem?_map] at hq ⊢
    cases ha : I[i]? with
    | none => rw [ha] at hq; cases hq
    | some k => rw [ha] at hq; cases hq; exact ⟨k, List.mem_of_getElem? ha, rfl, rfl⟩
  refine ⟨fun i q hq => ?_, fun i j p q hp hq hpq => ?_, fun i q hq => ?_⟩
  · obtain ⟨k, h1, h2, h3⟩ := hg i q hq
    rw [h2]
    exact at_L hx hr (hin k h1) hd h302 (hP i _ h3)
  · obtain ⟨k, h1, h2, h3⟩ := hg i p hp
    obtain ⟨k', h1', h2', h3'⟩ := hg j q hq
    rw [h2, h2'] at hpq
    exact hD.1 i j _ _ h3 h3' (by show L k = L k'; rw [← hk9 k h1, ← hk9 k' h1']; exact hpq)
  · obtain ⟨k, h1, h2, h3⟩ := hg i q hq
    rw [h2]
    show A0 (L' k)
    rw [hk9 k h1]
    exact hD.2 i _ h3
theorem lc_rent1 {l : Launch} {L : Nat → Nat} {cA : Nat → ClassId} {D : va_G} {A0 : Nat → Prop} {p : Program} {e : Env} {s : State} {m : MethodId} {below : List Frame} {meth : Method} {c : Code} {Z : State → Prop} {ce sl : Nat} {I : List Nat} {M : Nat → Nat → Bool} {v : fr_V} {u : fr_U} {b n t : Nat} {xs : Nat → Int32} {ac m9 N nn nr NS w tp ar : Nat} (E : LE L cA D A0 p s m meth c b n xs ce sl I M) (hc2 : ce + 2 ≤ 601024) (hs2 : sl + 100 ≤ 7293034) (ht : 6 * t + 5 < n) (hn : n ≤ 3072) (h : RLp I ac m9 N nn nr NS w tp ar v v) (hin : ∀ k ∈ I, k ∈ fr_st ∨ ∃ r, r < nr ∧ (k = 2000 + 10 * r ∨ k = 2007 + 10 * r)) (hf : fresh [2000 + 10 * nr, 2007 + 10 * nr] M v u) (nx : NX l cA D A0 p e s m below meth c Z b n xs ce sl t) : KJ l room_1 mLaw L cA D A0 p e s m #[Value.ref b] below meth c Z ce sl [] I M v u 382 (LV t) [] := by
  have hI := E.2.2.2.2.2.1
  have hm := E.2.2.2.2.2.2.1
  obtain ⟨x1, hx1⟩ : ∃ x, xs (6 * t + 1) = x := ⟨_, rfl⟩
  obtain ⟨x2, hx2⟩ : ∃ x, xs (6 * t + 2) = x := ⟨_, rfl⟩
  obtain ⟨x3, hx3⟩ : ∃ x, xs (6 * t + 3) = x := ⟨_, rfl⟩
  obtain ⟨x4, hx4⟩ : ∃ x, xs (6 * t + 4) = x := ⟨_, rfl⟩
  refine K_aload_n E.1 dL_law_382 rfl 3 rfl ?_
  refine K_arg E (k := 1) dL_law_383 dL_law_384 dL_law_386 dL_law_387 dL_law_388 (by omega) hn hx1 ?_
  refine K_arg E (k := 2) dL_law_389 dL_law_390 dL_law_392 dL_law_393 dL_law_394 (by omega) hn hx2 ?_
  refine K_arg E (k := 3) dL_law_395 dL_law_396 dL_law_398 dL_law_399 dL_law_400 (by omega) hn hx3 ?_
  refine K_arg E (k := 4) dL_law_401 dL_law_402 dL_law_404 dL_law_405 dL_law_406 (by omega) hn hx4 ?_
  by_cases ok : rentOK v ac m9 x1 x2 x3 x4
  rotate_left
  · intro H locs ls hP hD hS hT hl
    have h5 : ∀ x, ¬ f_X5_has v x = 0 → vp_in x 12 := fun x q => by
      by_cases v9 : vp_in x nn
      · have := h.n12
        obtain ⟨i, hi, e9⟩ := vp_in_of v9 (by omega)
        rw [e9]; exact vp_in_nI (by omega) (by decide)
      · exact absurd (by rw [r5h (z := v) (n := nn) h.nz h.n12]; exact cI_neg v9) q
    refine K_runI (z := nX10_rent) (o := 1000) (ci := 10) (As := [.int x1, .int x2, .int x3, .int x4]) (rest := []) (T1 := []) (ms := 0) (ce' := ce) (sl' := sl) (lv := LV t) E.1 dL_law_407 ml_L_48 ok_X10_rent iv_X10_rent ⟨by decide, by decide⟩ rfl rfl ⟨E.2.2.2.2.2.2.2.1, E.2.2.2.2.2.2.2.2⟩ (i1000 hI) rfl rfl rfl (by decide) (c_rent0 hI hm h.hac h.a1 h.ln h5 ok) hP hD hS hl (fun i k h9 => by simp at h9) ?_
    rw [List.append_nil]
    refine K_aload_n E.1 dL_law_410 rfl 2 rfl ?_
    refine K_arg E (k := 1) dL_law_411 dL_law_412 dL_law_414 dL_law_415 dL_law_416 (by omega) hn hx1 ?_
    refine K_arg E (k := 2) dL_law_417 dL_law_418 dL_law_420 dL_law_421 dL_law_422 (by omega) hn hx2 ?_
    refine K_arg E (k := 3) dL_law_423 dL_law_424 dL_law_426 dL_law_427 dL_law_428 (by omega) hn hx3 ?_
    refine K_arg E (k := 4) dL_law_429 dL_law_430 dL_law_432 dL_law_433 dL_law_434 (by omega) hn hx4 ?_
    refine L_call E (z := mX11_rent) (o := 1100) (ci := 11) (As := [.int x1, .int x2, .int x3, .int x4]) (rest := [.int (-1)]) dL_law_435 ml_L_52 ok_X11_rent iv_X11_rent ⟨by decide, by decide⟩ (i1100 hI) rfl rfl rfl rfl (Nat.le_of_ble_eq_true rfl) (k_X11_rent hI _ _ nr m9 x1 x2 x3 x4 h.Ry h.r16 h.my h.m24 nn h.ny h.n12) (fun r8 c8 u8 hq => ?_)
    obtain ⟨a8, hr8, -, ha8, hb8⟩ := hq
    subst hr8
    obtain ⟨e1, h2⟩ := (s_rent h x1 x2 x3 x4).1 ok
    rw [← hb8] at h2
    refine L_cmp E dL_law_438 (by decide) ?_ nx ⟨_, _, _, _, _, _, _, _, _, h2.zs ?_, hin⟩
    · rw [ha8]; exact e1.symm
    · rw [hb8]; exact gy_rent
  · intro H locs ls hP hD hS hT hl
    obtain ⟨hnr, w2, w3, -, -⟩ := (s_rent h x1 x2 x3 x4).2 ok
    obtain ⟨L', hL'⟩ : ∃ L' : Nat → Nat, L' = fun q => if q = 2000 + 10 * nr then H.size else if q = 2007 + 10 * nr then H.size + 1 else L q := ⟨_, rfl⟩
    have hLa : L' (2000 + 10 * nr) = H.size := by rw [hL']; exact if_pos rfl
    have hLb : L' (2007 + 10 * nr) = H.size + 1 := by
      rw [hL']
      show (if 2007 + 10 * nr = 2000 + 10 * nr then H.size else if 2007 + 10 * nr = 2007 + 10 * nr then H.size + 1 else L (2007 + 10 * nr)) = _
      rw [if_neg (by omega), if_pos rfl]
    have hx : ∀ q, q ≠ 2000 + 10 * nr → q ≠ 2007 + 10 * nr → L' q = L q := fun q h1 h2 => by
      rw [hL']
      show (if q = 2000 + 10 * nr then H.size else if q = 2007 + 10 * nr then H.size + 1 else L q) = L q
      rw [if_neg h1, if_neg h2]
    have h302 : ∀ i, i < 16 → v 302 i = (-1) ∨ ∃ r', r' < nr ∧ v 302 i = nI (2000 + 10 * r') := fun i hi => by
      rcases Nat.lt_or_ge i nr with q | q
      · exact Or.inr ⟨i, q, ((h.1.2.2.2.2.2.2 i q).1).2.2⟩
      · exact Or.inl (h.2.2.2.2.2.2.2.2.2.2 i q)
    obtain ⟨hP2, hD2⟩ := mw_L (L' := L') hx hnr hin h.dy h302 hP hD
    obtain ⟨C, hL5, hX, hb, hA, -⟩ := id E
    have C2 : KC L' cA D A0 mLaw p s m #[Value.ref b] meth c := ⟨C.1, C.2.1, C.2.2.1, C.2.2.2.1, C.2.2.2.2.1, C.2.2.2.2.2.1, C.2.2.2.2.2.2.1, C.2.2.2.2.2.2.2.1.L (fun q hq => hx q (by omega) (by omega)), C.2.2.2.2.2.2.2.2⟩
    have es : ([.int x4, .int x3, .int x2, .int x1, .ref 1000] : List Value).map (cv L) = ([.int x4, .int x3, .int x2, .int x1, .ref 1000] : List Value).map (cv L') := by simp [cv, hx 1000 (by omega) (by omega)]
    have el : (LV t).map (cvp L) = (LV t).map (cvp L') := by simp [LV, cvp, cv, hx 1000 (by omega) (by omega), hx 1100 (by omega) (by omega), hx 950 (by omega) (by omega), hx 5000 (by omega) (by omega)]
    rw [el] at hl
    rw [es]
    refine K_runI (z := nX10_rent) (o := 1000) (ci := 10) (As := [.int x1, .int x2, .int x3, .int x4]) (rest := []) (T1 := [2000 + 10 * nr, 2007 + 10 * nr]) (ms := 87) (ce' := ce + 2) (sl' := sl + 87) (lv := LV t) C2 dL_law_407 ml_L_48 ok_X10_rent iv_X10_rent ⟨by decide, by decide⟩ rfl rfl ⟨hc2, by show sl + 87 ≤ 7293034; omega⟩ (i1000 hI) rfl rfl rfl (by decide) (c_rent1 hI hm hnr h.Rz h.hac h.a1 h.ln hf w2 w3 ok) hP2 hD2 hS hl (fun i k h9 => ?_) ?_
    · rcases i with _ | _ | i
      · have e9 : 2000 + 10 * nr = k := by simpa using h9
        rw [← e9, hLa]; rfl
      · have e9 : 2007 + 10 * nr = k := by simpa using h9
        rw [← e9, hLb]
      · simp at h9
    have hI2 : fr_I (I ++ [2000 + 10 * nr, 2007 + 10 * nr]) := fun k hk => List.mem_append_left _ (hI k hk)
    have hm2 : ∀ k ∈ I ++ [2000 + 10 * nr, 2007 + 10 * nr], ∀ j, mT M (2000 + 10 * nr) k j = true := fun k hk j => by
      unfold mT
      by_cases c1 : k = 2000 + 10 * nr
      · rw [if_pos c1]
      · rw [if_neg c1]
        rcases List.mem_append.mp hk with q | q
        · exact hm k q j
        · have q2 : k = 2007 + 10 * nr := by
            simp only [List.mem_cons, List.mem_nil_iff, or_false] at q
            rcases q with q | q
            · exact absurd q c1
            · exact q
          rw [q2, (hf (2007 + 10 * nr) (by simp)).2.2 j]
          unfold ms0
          have e1 : sh (2007 + 10 * nr) = (20, 80) := by unfold sh; rw [if_pos (by omega), if_neg (by omega)]
          rw [e1]
          rfl
    have E2 : LE L' cA D A0 p s m meth c b n xs (ce + 2) (sl + 87) (I ++ [2000 + 10 * nr, 2007 + 10 * nr]) (mT M (2000 + 10 * nr)) := ⟨C2, by rw [hx 5000 (by omega) (by omega)]; exact hL5, hX, hb, hA, hI2, hm2, hc2, by omega⟩
    have g9 : gZ v (rentV v nr x1 x2 x3 x4 (f_price v ac m9 x2 x3)) := by
      unfold rentV rnV
      refine gZ.u (gZ.u (gZ.a ?_ (by omega)) (by omega)) (by omega)
      exact (((((gZ.rf.u (by omega)).u (by omega)).u (by omega)).u (by omega)).u (by omega)).u (by omega)
    have h1 := h.ys g9
    obtain ⟨-, -, -, e1, h2⟩ := (s_rent h1 x1 x2 x3 x4).2 ok
    have h2 := h2 (I ++ [2000 + 10 * nr, 2007 + 10 * nr]) (fun k hk => List.mem_append_left _ hk) (by simp) (by simp)
    generalize rentV v nr x1 x2 x3 x4 (f_price v ac m9 x2 x3) = b9 at h1 e1 h2 ⊢
    refine K_aload_n E2.1 dL_law_410 rfl 2 rfl ?_
    refine K_arg E2 (k := 1) dL_law_411 dL_law_412 dL_law_414 dL_law_415 dL_law_416 (by omega) hn hx1 ?_
    refine K_arg E2 (k := 2) dL_law_417 dL_law_418 dL_law_420 dL_law_421 dL_law_422 (by omega) hn hx2 ?_
    refine K_arg E2 (k := 3) dL_law_423 dL_law_424 dL_law_426 dL_law_427 dL_law_428 (by omega) hn hx3 ?_
    refine K_arg E2 (k := 4) dL_law_429 dL_law_430 dL_law_432 dL_law_433 dL_law_434 (by omega) hn hx4 ?_
    refine L_call E2 (z := mX11_rent) (o := 1100) (ci := 11) (As := [.int x1, .int x2, .int x3, .int x4]) (rest := [.int (nI nr)]) dL_law_435 ml_L_52 ok_X11_rent iv_X11_rent ⟨by decide, by decide⟩ (i1100 hI2) rfl rfl rfl rfl (Nat.le_of_ble_eq_true rfl) (k_X11_rent hI2 _ _ nr m9 x1 x2 x3 x4 h1.Ry h1.r16 h1.my h1.m24 nn h1.ny h1.n12) (fun r8 c8 u8 hq => ?_)
    obtain ⟨a8, hr8, -, ha8, hb8⟩ := hq
    subst hr8
    rw [← hb8] at h2
    have hRI : RI (I ++ [2000 + 10 * nr, 2007 + 10 * nr]) c8 := by
      refine ⟨_, _, _, _, _, _, _, _, _, h2.zs (by rw [hb8]; exact gy_rent), fun k hk => ?_⟩
      rcases List.mem_append.mp hk with q | q
      · rcases hin k q with q | ⟨r', q1, q2⟩
        · exact Or.inl q
        · exact Or.inr ⟨r', by omega, q2⟩
      · simp only [List.mem_cons, List.mem_nil_iff, or_false] at q
        exact Or.inr ⟨nr, by omega, q⟩
    refine K_icmp_eq (tgt := 1216) C2 dL_law_438 (by decide) (fun _ => ?_) (fun q => absurd (by rw [ha8]; exact e1.symm) q)
    exact nx L' (I ++ [2000 + 10 * nr, 2007 + 10 * nr]) (mT M (2000 + 10 * nr)) c8 u8 (ce + 2) (sl + 87) C2 E2.2.1 hI2 hm2 hRI (by omega) (by omega)
theorem lc_rent {l : Launch} {L : Nat → Nat} {cA : Nat → ClassId} {D : va_G} {A0 : Nat → Prop} {p : Program} {e : Env} {s : State} {m : MethodId} {below : List Frame} {meth : Method} {c : Code} {Z : State → Prop} {ce sl : Nat} {I : List Nat} {M : Nat → Nat → Bool} {v : fr_V} {u : fr_U} {b n t : Nat} {xs : Nat → Int32} (E : LE L cA D A0 p s m meth c b n xs ce sl I M) (hc2 : ce + 2 ≤ 601024) (hs2 : sl + 100 ≤ 7293034) (ht : 6 * t + 5 < n) (hn : n ≤ 3072) (hRI : RI I v) (nx : NX l cA D A0 p e s m below meth c Z b n xs ce sl t) : KJ l room_1 mLaw L cA D A0 p e s m #[Value.ref b] below meth c Z ce sl [] I M v u 382 (LV t) [] := by
  obtain ⟨ac, m9, N, nn, nr, NS, w, tp, ar, h, hin⟩ := hRI
  have hm := E.2.2.2.2.2.2.1
  have hno : ∀ k ∈ I, k ≠ 2000 + 10 * nr ∧ k ≠ 2007 + 10 * nr := fun k hk => by
    rcases hin k hk with q | ⟨r', q1, q2⟩
    · have s := List.all_eq_true.mp st_ok9 k q
      unfold stB9 at s
      rw [Bool.and_eq_true, decide_eq_true_eq] at s
      omega
    · omega
  obtain ⟨v2, hv2⟩ : ∃ v2 : fr_V, v2 = fun q => if q = 2000 + 10 * nr ∨ q = 2007 + 10 * nr then ini q else v q := ⟨_, rfl⟩
  obtain ⟨M2, hM2⟩ : ∃ M2 : Nat → Nat → Bool, M2 = fun q => if q = 2000 + 10 * nr ∨ q = 2007 + 10 * nr then ms0 q else M q := ⟨_, rfl⟩
  obtain ⟨u2, hu2⟩ : ∃ u2 : fr_U, u2 = fun q => if q = 2000 + 10 * nr ∨ q = 2007 + 10 * nr then (fun _ => 0) else u q := ⟨_, rfl⟩
  have ev : ∀ q, ¬ (q = 2000 + 10 * nr ∨ q = 2007 + 10 * nr) → v2 q = v q ∧ M2 q = M q ∧ u2 q = u q := fun q hq => by
    rw [hv2, hM2, hu2]
    exact ⟨if_neg hq, if_neg hq, if_neg hq⟩
  have hf : fresh [2000 + 10 * nr, 2007 + 10 * nr] M2 v2 u2 := fun k hk => by
    simp only [List.mem_cons, List.mem_nil_iff, or_false] at hk
    rw [hv2, hM2, hu2]
    refine ⟨fun j => ?_, fun j => ?_, fun j => ?_⟩
    · exact congrFun (if_pos hk) j
    · exact congrFun (if_pos hk) j
    · exact congrFun (if_pos hk) j
  refine K_world (M2 := M2) (v2 := v2) (u2 := u2) (fun k hk => ?_) ?_
  · have q := ev k (fun c => by have := hno k hk; omega)
    exact ⟨q.2.1, q.1, q.2.2⟩
  have h2 : RLp I ac m9 N nn nr NS w tp ar v2 v2 := by
    refine (h.zg (z' := v2) (fun c hc => (ev c (by omega)).1) (fun r hr => ⟨(ev _ (by omega)).1, (ev _ (by omega)).1⟩)).ys (fun c h1 h2 => (ev c (by omega)).1)
  have E2 : LE L cA D A0 p s m meth c b n xs ce sl I M2 := ⟨E.1, E.2.1, E.2.2.1, E.2.2.2.1, E.2.2.2.2.1, E.2.2.2.2.2.1, fun k hk j => by rw [(ev k (fun c => by have := hno k hk; omega)).2.1]; exact hm k hk j, E.2.2.2.2.2.2.2⟩
  exact lc_rent1 E2 hc2 hs2 ht hn h2 hin hf nx
