theorem kn_X10 : Cond.instantiable RX10 10 ∈ gt := gt_mem (tb1 _ (List.mem_of_getElem? (i := 26) (by decide +kernel))) rfl
theorem kn_X11 : Cond.instantiable RX11 58 ∈ gt := gt_mem (tb5 _ (List.mem_of_getElem? (i := 100) (by decide +kernel))) rfl
theorem kz_X10 : Cond.initialized RX10 ∈ gt := gt_mem (tb1 _ (List.mem_of_getElem? (i := 1) (by decide +kernel))) rfl
theorem kz_X11 : Cond.initialized RX11 ∈ gt := gt_mem (tb1 _ (List.mem_of_getElem? (i := 11) (by decide +kernel))) rfl
def C10 : List Nat := [600, 601, 10, 11, 13, 400, 401, 402, 403, 404, 405, 406, 407, 408, 409, 410, 411, 412, 413, 414, 415, 416, 417, 418, 419, 420, 421, 422, 423, 20, 21, 23, 430, 431, 432, 433, 434, 435, 436, 437, 438, 439, 440, 441, 442, 443, 444, 445, 446, 447, 448, 449, 450, 451, 452, 453, 500, 501, 502, 100, 102, 103, 104, 105, 108, 109, 110, 300, 302, 304, 305, 306, 307, 308, 310, 900, 903, 910, 911, 912, 913, 906, 907, 200, 201, 202, 203, 205, 210, 1010]
def C11 : List Nat := [1101, 1106, 1107, 1109, 1110, 1111, 1112, 1113, 1114, 1116, 1118, 1119, 1120, 1121, 1122, 1123, 1131, 1132, 1133, 1134, 1135, 1136, 1137, 1138, 1141, 1142, 1145, 1146, 1147, 1148, 1152, 1154, 1155, 1156, 1157, 1158]
def v10 (v : fr_V) : fr_V := (tbV (upA (up2 (up2 (f_clear20 (up2 (f_clear10 (up2 v 600 15 (-1))) 1000 1 10)) 1000 2 20) 100 6 (-1)) 110 (fl (-1) ((up2 (up2 (f_clear20 (up2 (f_clear10 (up2 v 600 15 (-1))) 1000 1 10)) 1000 2 20) 100 6 (-1)) 110) 12)))
def v11 (v : fr_V) : fr_V := (f_keep (f_plain (upA (up2 (upA v 1123 (wdU (v 1123) 75)) 1100 24 (-1)) 1122 (fl 900 ((up2 (upA v 1123 (wdU (v 1123) 75)) 1100 24 (-1)) 1122) 40))) 0)
def m10 (M : Nat → Nat → Bool) : Nat → Nat → Bool := (mT (upM (upM (mT (upM (mT (upM (mT (upM (mT (upM (mT (mT (mT (mT (mT (upM (mT M 600) 1000 0) 11) 10) 21) 20) 500) 1000 4) 100) 1000 5) 300) 1000 6) 900) 1000 7) 200) 1000 8) 1000 9) 1000)
def vSt : fr_V := v11 (v10 ini)
def mS : Nat → Nat → Bool := mT (m10 ms0) 1100
def iS : List Nat := ((([] ++ [1000] ++ C10) ++ [1100]) ++ C11) ++ [950]
theorem mT_mono {M : Nat → Nat → Bool} {o k j : Nat} (h : M k j = true) : mT M o k j = true := by
  unfold mT
  by_cases c : k = o
  · rw [if_pos c]
  · rw [if_neg c]; exact h
theorem v10_o {k : Nat} (hk : 1011 ≤ k) : v10 ini k = ini k := by
  unfold v10 tbV f_clear10 f_clear20
  repeat (first | rw [upA_ne (by omega)] | rw [up2_ne (by omega)])
theorem m10_o {k : Nat} (hk : 1011 ≤ k) : m10 ms0 k = ms0 k := by
  unfold m10
  repeat (first | rw [mT_ne (by omega)] | rw [upM_ne (by omega)])
theorem m10_m {k j : Nat} (h : ms0 k j = true) : mS k j = true := by
  unfold mS m10
  repeat (first | exact h | refine mT_mono ?_ | refine upM_mono ?_)
def fuB (k : Nat) : Bool := k == 600 || k == 11 || k == 10 || k == 21 || k == 20 || k == 500 || k == 100 || k == 300 || k == 900 || k == 200 || k == 1000 || k == 1100 || (if (sh k).1 < 20 then (List.range (nfd (sh k).1)).all (fun j => fk (sh k).1 j != 1) else (sh k).1 != 23)
theorem fu_all : iS.all fuB = true := by decide +kernel
theorem mS_all : ∀ k ∈ iS, ∀ j, mS k j = true := by
  intro k hk j
  have h := List.all_eq_true.mp fu_all k hk
  simp only [fuB, Bool.or_eq_true, beq_iff_eq] at h
  rcases h with (((((((((((h | h) | h) | h) | h) | h) | h) | h) | h) | h) | h) | h) | h
  all_goals first | (subst h; rfl) | skip
  refine m10_m ?_
  unfold ms0
  by_cases c : (sh k).1 < 20
  · rw [if_pos c] at h ⊢
    refine if_neg (fun q => ?_)
    have h9 := List.all_eq_true.mp h j (List.mem_range.mpr q.2)
    rw [q.1] at h9
    exact absurd h9 (by decide)
  · rw [if_neg c] at h ⊢
    rw [if_neg (by simpa using h)]
theorem iS_I : fr_I iS := by
  unfold fr_I
  decide +kernel
theorem iS_in : ∀ k ∈ iS, k ∈ fr_st := by decide +kernel
theorem vSt_302 : vSt 302 = ini 302 := by
  unfold vSt v11
  rw [(keep_is (m := 0) (by decide)).2.2.2.2 302 (by decide) (by decide) (by decide), plain_is.1 302 (by decide) (by decide) (by decide), upA_ne (by decide), up2_ne (by decide), upA_ne (by decide)]
  unfold v10 tbV f_clear10 f_clear20
  repeat (first | rw [upA_ne (by decide)] | rw [up2_ne (by decide)])
theorem vSt_RL : RLp iS 10 0 0 0 0 0 0 0 4 vSt vSt := by
  refine ⟨⟨⟨by decide, by decide +kernel, by decide +kernel, fun j hj => absurd hj (Nat.not_lt_zero j)⟩, by decide, ⟨by decide, by decide +kernel, by decide +kernel, fun j hj => absurd hj (Nat.not_lt_zero j)⟩, by decide, by decide +kernel, by decide +kernel, fun j hj => absurd hj (Nat.not_lt_zero j)⟩, ⟨by decide +kernel, by decide +kernel⟩, ⟨by decide +kernel, by decide +kernel, ⟨by decide, fun j hj => absurd hj (Nat.not_lt_zero j)⟩, fun j hj => absurd hj (Nat.not_lt_zero j)⟩, ⟨fun j hj => absurd hj (Nat.not_lt_zero j), fun j hj => absurd hj (Nat.not_lt_zero j)⟩, ⟨Or.inl rfl, by decide +kernel, by decide +kernel, ⟨by decide, by decide +kernel, fun j hj => absurd hj (Nat.not_lt_zero j)⟩, ⟨by decide, fun j hj => absurd hj (Nat.not_lt_zero j)⟩, by decide +kernel, ⟨by decide +kernel, by decide +kernel, by decide⟩, ⟨0, by decide, by decide +kernel, by decide +kernel⟩, ⟨20, by decide, by decide, by decide +kernel, by decide +kernel⟩, ⟨3, by decide, by decide, by decide +kernel, by decide +kernel⟩⟩, ⟨by decide, by decide +kernel, by decide +kernel, fun j hj => absurd hj (Nat.not_lt_zero j)⟩, ⟨?_, ⟨by decide +kernel, by decide +kernel⟩, ⟨?_, ?_⟩, ?_⟩, ?_, ⟨0, by decide, by decide +kernel, fun r h9 hr => absurd hr (Nat.not_lt_zero r)⟩, ?_, fun r _ => ?_⟩
  · have h : ∀ c, c < 4 → ∀ g, g < 10 → vSt (910 + c) g = vSt 1122 (10 * c + g) := by decide +kernel
    exact fun c g hc hg => h c hc g hg
  · have h1 : vSt 200 10 = 0 := by decide +kernel
    have h2 : vSt 1100 52 = 0 := by decide +kernel
    exact ⟨fun _ => h2, fun _ => h1⟩
  · have h : ∀ l, l < 12 → vSt 210 l = vSt 1154 l := by decide +kernel
    exact h
  · have h : ∀ i, i < 75 → vSt 1123 i = wd i := by decide +kernel
    exact h
  · intro k hk ek
    have h : vSt 100 6 = (-1) := by decide +kernel
    rw [h] at ek
    exact absurd ek.symm (nI_m1 (by omega))
  · intro k j hkj
    have hl1 : ∀ i, i < 24 → vSt (400 + i) 0 < 2000 := by decide +kernel
    have hl2 : ∀ i, i < 24 → vSt (430 + i) 0 < 2000 := by decide +kernel
    have h6 : vSt 600 3 < 2000 ∧ vSt 600 6 < 2000 ∧ vSt 600 7 < 2000 ∧ vSt 600 13 < 2000 ∧ vSt 1000 1 < 2000 ∧ vSt 1000 2 < 2000 := by decide +kernel
    refine Or.inl ?_
    rcases hkj with ⟨rfl, hj⟩ | ⟨rfl, hj⟩ | ⟨hk, rfl⟩
    · rcases hj with rfl | rfl
      · exact h6.2.2.2.2.1
      · exact h6.2.2.2.2.2
    · rcases hj with rfl | rfl | rfl | rfl
      · exact h6.1
      · exact h6.2.1
      · exact h6.2.2.1
      · exact h6.2.2.2.1
    · rcases hk with hk | hk
      · obtain ⟨i, rfl⟩ : ∃ i, k = 400 + i := ⟨k - 400, by omega⟩
        exact hl1 i (by omega)
      · obtain ⟨i, rfl⟩ : ∃ i, k = 430 + i := ⟨k - 430, by omega⟩
        exact hl2 i (by omega)
  · rw [vSt_302]
    rfl
theorem vSt_RI : RI iS vSt := ⟨_, _, _, _, _, _, _, _, _, vSt_RL, fun k hk => Or.inl (iS_in k hk)⟩
theorem law_head {l : Launch} {L : Nat → Nat} {cA : Nat → ClassId} {D : va_G} {p : Program} {e : Env} {s : State} {m : MethodId} {below : List Frame} {meth : Method} {c : Code} {b n : Nat} {xs : Nat → Int32} (hl : l.stackTraces = false) (hrx : rX (fun q => s.heap.size ≤ q) s s.heap) (hX : va_X b n xs s s.heap) (hb : b < s.heap.size) (hn : n ≤ 3072) (C : KC L cA D (fun q => s.heap.size ≤ q) mLaw p s m #[Value.ref b] meth c) (hL : L 5000 = b) : KJ l room_1 mLaw L cA D (fun q => s.heap.size ≤ q) p e s m #[Value.ref b] below meth c (lw_Z below #[Value.ref b] s) 0 0 (1000 :: (C10 ++ (1100 :: (C11 ++ [950])))) [] ms0 ini (fun _ _ => 0) 0 [(0, .ref 5000)] [] := by
  have hf10 : fresh C10 ms0 ini (fun _ _ => 0) := fun k hk => ⟨fun _ => rfl, fun _ => rfl, fun _ => rfl⟩
  refine K_new (k := 1000) (ci := 10) (n := 10) (ce' := 1) (sl' := 10) C dL_law_0 rfl kl_L_8 kn_X10 kz_X10 (by decide) rfl (fresh.m (T := [1000]) (M := ms0) (v := ini) (u := fun _ _ => 0) (fun k hk => ⟨fun _ => rfl, fun _ => rfl, fun _ => rfl⟩) (List.mem_singleton.mpr rfl) rfl (by decide)) (fun j => rfl) rfl rfl rfl ⟨by decide, by decide⟩ ?_
  refine K_dup C dL_law_3 rfl ?_
  refine K_callI (z := nX10_init) (o := 1000) (ms := 1760) (ce' := 1 + 90) (sl' := 1770) (As := []) (rest := [.ref 1000]) (T1 := C10) (T := 1100 :: (C11 ++ [950])) C dL_law_4 (Or.inl ml_L_17) ok_X10_init rfl rfl iv_X10_init ⟨Nat.le_of_ble_eq_true rfl, Nat.le_of_ble_eq_true rfl⟩ rfl rfl ⟨by decide, by decide⟩ rfl rfl (Nat.le_of_ble_eq_true rfl) (c_X10 (fun _ _ _ _ h1 h2 => c_X8 h1 h2) (List.mem_singleton.mpr rfl) hf10) ?_
  refine K_ve (w := v10 ini) rfl ?_
  refine K_astore_n (lv' := [(1, .ref 1000), (0, .ref 5000)]) C dL_law_7 rfl (by decide) rfl ?_
  have e1 : ∀ j, v10 ini 1100 j = ini 1100 j := fun j => by rw [v10_o (by decide)]
  refine K_new (k := 1100) (ci := 11) (n := 58) (ce' := 2 + 90) (sl' := 1828) C dL_law_8 rfl kl_L_18 kn_X11 kz_X11 (by decide) rfl (fresh.m (T := [1100]) (M := m10 ms0) (v := v10 ini) (u := fun _ _ => 0) (fun k hk => by
    rw [List.mem_singleton.mp hk, v10_o (by decide), m10_o (by decide)]
    exact ⟨fun _ => rfl, fun _ => rfl, fun _ => rfl⟩) (List.mem_singleton.mpr rfl) rfl (by decide)) e1 rfl rfl rfl ⟨by decide, by decide⟩ ?_
  refine K_dup C dL_law_11 rfl ?_
  have hge : ∀ k ∈ C11, 1101 ≤ k := by decide
  have hf11 : fresh C11 (m10 ms0) (v10 ini) (fun _ _ => 0) := fun k hk => by
    have := hge k hk
    rw [v10_o (by omega), m10_o (by omega)]
    exact ⟨fun _ => rfl, fun _ => rfl, fun _ => rfl⟩
  refine K_callI (z := nX11_init) (o := 1100) (ms := 3031) (ce' := 2 + 90 + 36) (sl' := 4859) (As := []) (rest := [.ref 1100]) (T1 := C11) (T := [950]) C dL_law_12 (Or.inl ml_L_20) ok_X11_init rfl rfl iv_X11_init ⟨Nat.le_of_ble_eq_true rfl, Nat.le_of_ble_eq_true rfl⟩ rfl rfl ⟨by decide, by decide⟩ rfl rfl (Nat.le_of_ble_eq_true rfl) (c_X11 (M := m10 ms0) (v := v10 ini) (List.mem_append_right _ (List.mem_singleton.mpr rfl)) hf11) ?_
  refine K_astore_n (lv' := [(2, .ref 1100), (1, .ref 1000), (0, .ref 5000)]) C dL_law_15 rfl (by decide) rfl ?_
  refine K_iconst (x := 1) C dL_law_16 rfl ?_
  refine K_newa_long (k := 950) (n := 1) (ce' := 3 + 90 + 36) (sl' := 4860) C dL_law_17 aw_long rfl (fun j => rfl) (by decide) (by decide) (by decide) rfl rfl ⟨by decide, by decide⟩ ?_
  refine K_astore_n (lv' := [(3, .ref 950), (2, .ref 1100), (1, .ref 1000), (0, .ref 5000)]) C dL_law_19 rfl (by decide) rfl ?_
  refine K_iconst (x := 0) C dL_law_20 rfl ?_
  refine K_istore (lv' := LV 0) C dL_law_21 (by decide) rfl ?_
  exact law_loop hl hrx hX hb hn (n + 1) 0 (by omega) (by decide) L iS mS vSt (fun _ _ => 0) (3 + 90 + 36) 4860 C hL iS_I mS_all vSt_RI (by decide) (by decide)
