section SRK
variable {I : List Nat} {ac m N n nr NS w t ar : Nat} {z y : fr_V}
/-- the reference's risk() beside the class's -/
theorem s_risk (h : RLp I ac m N n nr NS w t ar z y) (x : Int32) : (¬ vp_in x n → (f_risk y N nr x).2 1100 2 = 1 ∧ RLp I ac m N n nr NS w t ar z (f_risk y N nr x).2) ∧ (vp_in x n → (¬ f_X1_isDead (f_kw z N (nI w)) x = 0 → (f_risk y N nr x).2 1100 2 = 2 ∧ RLp I ac m N n nr NS w t ar (f_kw z N (nI w)) (f_risk y N nr x).2) ∧ (f_X1_isDead (f_kw z N (nI w)) x = 0 → (f_risk y N nr x).2 1100 2 = 0 ∧ (f_risk y N nr x).1 = f_rk (f_kw z N (nI w)) N nr w x ∧ RLp I ac m N n nr NS w t ar (f_kw z N (nI w)) (f_risk y N nr x).2)) := by
  have h0 := h.th 0
  have hn := h.n12
  have hL : f_X11_isLife (up2 y 1100 2 0) x = cI (vp_in x n) := r11l h0.ny h0.n12
  have k2 : f_know (up2 y 1100 2 0) N (nI w) 1100 2 = 0 := by rw [know_o (by decide) (by decide), u6s]
  have kR := h0.kR (k := w) h.w8
  have hz := (h0.kw (k := w) h.w8).kn (nI w)
  refine ⟨fun q => ?_, fun q => ?_⟩
  · unfold f_risk
    rw [hL, cI_neg q, if_pos rfl]
    dsimp only
    exact ⟨u6s, h0.th 1⟩
  · obtain ⟨i, hi, hx⟩ := vp_in_of q (by omega)
    have hd := dead_i (k := kR) (q := i) (by omega)
    unfold f_risk
    rw [hL, cI_pos q, if_neg (by decide), h.wy, hx, nI_clamp (by omega)]
    refine ⟨fun c => ?_, fun c => ?_⟩
    · rw [if_neg (fun k => c (hd.mpr k))]
      dsimp only
      exact ⟨u6s, hz.th 2⟩
    · rw [if_pos (hd.mp c)]
      exact ⟨k2, (hz.rk kR hi).symm, hz⟩
theorem gy_risk {x : Int32} : gY y (f_risk y N nr x).2 := by
  unfold f_risk
  split
  · exact gY.o.u (by decide)
  · split
    · dsimp only
      exact gY.o.kn
    · exact gY.o.kn.u (by decide)
end SRK
theorem lc_risk {l : Launch} {L : Nat → Nat} {cA : Nat → ClassId} {D : va_G} {A0 : Nat → Prop} {p : Program} {e : Env} {s : State} {m : MethodId} {below : List Frame} {meth : Method} {c : Code} {Z : State → Prop} {ce sl : Nat} {I : List Nat} {M : Nat → Nat → Bool} {v : fr_V} {u : fr_U} {b n t : Nat} {xs : Nat → Int32} (E : LE L cA D A0 p s m meth c b n xs ce sl I M) (hl : l.stackTraces = false) (hrx : rX A0 s s.heap) (hc2 : ce + 2 ≤ 601024) (hs2 : sl + 100 ≤ 7293034) (ht : 6 * t + 5 < n) (hn : n ≤ 3072) (hRI : RI I v) (nx : NX l cA D A0 p e s m below meth c Z b n xs ce sl t) : KJ l room_1 mLaw L cA D A0 p e s m #[Value.ref b] below meth c Z ce sl [] I M v u 1111 (LV t) [] := by
  obtain ⟨ac, m9, N, nn, nr, NS, w, tp, ar, h, hfr⟩ := hRI
  obtain ⟨C, hL5, hX, hb, hA, hI, hm, -⟩ := id E
  obtain ⟨x1, hx1⟩ : ∃ x, xs (6 * t + 1) = x := ⟨_, rfl⟩
  refine K_aload_n E.1 dL_law_1111 rfl 3 rfl ?_
  refine K_arg E (k := 1) dL_law_1112 dL_law_1113 dL_law_1115 dL_law_1116 dL_law_1117 (by omega) hn hx1 ?_
  refine K_aload_n E.1 dL_law_1118 rfl 1 rfl ?_
  have go9 : ∀ (k : Int32) (b9 : fr_V) (u9 : fr_U), rkL9 v u N nr w nn x1 k b9 u9 → KJ l room_1 mLaw L cA D A0 p e s m #[Value.ref b] below meth c Z (ce + 1) (sl + 6) [] I M b9 u9 1122 (LV t) [.int k] := by
    intro k b9 u9 hk
    have E2 : LE L cA D A0 p s m meth c b n xs (ce + 1) (sl + 6) I M := ⟨C, hL5, hX, hb, hA, hI, hm, by omega, by omega⟩
    have g9 : gZ v b9 := by
      rcases hk with ⟨-, -, e9⟩ | ⟨-, -, -, e9⟩ | ⟨-, -, -, e9, -⟩
      · rw [e9]; exact gZ.rf
      · rw [e9]; exact gZ.rf.kw
      · rw [e9]; exact gZ.rf.kw
    have h1 := h.ys g9
    refine K_istore (lv' := (5, .int k) :: LV t) C dL_law_1122 (by decide) rfl ?_
    refine K_aload_n C dL_law_1124 rfl 3 rfl ?_
    refine K_aload_n C dL_law_1125 rfl 5 rfl ?_
    refine K_iload C dL_law_1126 1 rfl ?_
    refine K_iconst (x := nI 1) C dL_law_1128 rfl ?_
    refine K_iadd C dL_law_1129 ?_
    rw [nI_add]
    refine K_sld C hX hb hA hL5 dL_law_1130 (vp_in_nI (by omega) (by omega)) ?_
    rw [nI_clamp (show 6 * t + 1 < 2 ^ 31 by omega), hx1]
    refine L_call E2 (z := mX11_risk) (o := 1100) (ci := 11) (As := [.int x1]) (rest := []) dL_law_1131 ml_L_126 ok_X11_risk iv_X11_risk ⟨by decide, by decide⟩ (i1100 hI) rfl rfl rfl rfl (by decide) (k_X11_risk hI b9 u9 N nr (f_X11_ageIn b9 x1 (b9 1100 3)).toNatClampNeg nn h1.Ny h1.Wy h1.Ry h1.r16 h1.ny h1.n12 x1 (fun q => h1.lfx q)) (fun r8 c8 u8 hq => ?_)
    obtain ⟨a8, hr8, hu8, ha8, hb8⟩ := hq
    subst hr8
    refine K_lstore (lv' := (6, .long a8) :: (5, .int k) :: LV t) C dL_law_1134 (by decide) rfl ?_
    refine K_aload_n C dL_law_1136 rfl 4 rfl ?_
    refine L_call E2 (z := mX11_thrown) (o := 1100) (ci := 11) (As := []) (rest := []) dL_law_1137 ml_L_127 ok_X11_thrown iv_X11_thrown ⟨by decide, by decide⟩ (i1100 hI) rfl rfl rfl rfl (by decide) (k_X11_thrown hI c8 u8) (fun r7 c7 u7 hq => ?_)
    obtain ⟨a7, hr7, hv7, hu7, ha7⟩ := hq
    subst hr7
    rw [hv7]
    have hsr := s_risk h1 x1
    rw [← hb8] at hsr
    have hth : a7 = c8 1100 2 := ha7
    have fin : (a7 = k) ∧ (k = 0 → u7 950 0 = a8) ∧ RI I c8 := by
      have hgy : gY b9 c8 := by rw [hb8]; exact gy_risk
      rcases hk with ⟨k1, k2, k3⟩ | ⟨k1, k2, k3, k4⟩ | ⟨k1, k2, k3, k4, k5⟩
      · obtain ⟨s1, s2⟩ := hsr.1 k2
        refine ⟨by rw [hth, s1, k1], fun q => absurd (k1.symm.trans q) (by decide), _, _, _, _, _, _, _, _, _, (RLp.zs (z := b9) (by rw [k3]; exact s2) hgy), hfr⟩
      · obtain ⟨s1, s2⟩ := (hsr.2 k2).1 k3
        refine ⟨by rw [hth, s1, k1], fun q => absurd (k1.symm.trans q) (by decide), _, _, _, _, _, _, _, _, _, (RLp.zs (z := b9) (by rw [← k4] at s2; exact s2) hgy), hfr⟩
      · obtain ⟨s1, s2, s3⟩ := (hsr.2 k2).2 k3
        refine ⟨by rw [hth, s1, k1], fun _ => ?_, _, _, _, _, _, _, _, _, _, (RLp.zs (z := b9) (by rw [← k4] at s3; exact s3) hgy), hfr⟩
        rw [hu7, hu8, k5, ha8, s2]
    obtain ⟨f1, f2, f3⟩ := fin
    have nxt : KJ l room_1 mLaw L cA D A0 p e s m #[Value.ref b] below meth c Z (ce + 1) (sl + 6) [] I M c8 u7 1163 ((6, .long a8) :: (5, .int k) :: LV t) [] := by
      refine K_goto (tgt := 1216) C dL_law_1163 (by decide) ?_
      refine K_lv (lv' := LV t) [2, 3, 4, 5, 6] rfl ?_
      exact nx L I M c8 u7 (ce + 1) (sl + 6) C hL5 hI hm f3 (by omega) (by omega)
    refine K_iload C dL_law_1140 1 rfl ?_
    refine K_icmp_eq (tgt := 1147) C dL_law_1142 (by decide) (fun _ => ?_) (fun q => absurd f1 q)
    refine K_iload C dL_law_1147 1 rfl ?_
    refine K_if_ne (tgt := 1163) C dL_law_1149 (by decide) (fun _ => nxt) (fun q => ?_)
    refine K_aload_n C dL_law_1152 rfl 3 rfl ?_
    refine K_iconst (x := 0) C dL_law_1153 rfl ?_
    refine K_lald C dL_law_1154 (hI 950 (by decide)) rfl (vp_in_nI (n := 0) (by omega) (by decide)) ?_
    refine K_lload C dL_law_1155 0 rfl ?_
    refine K_lcmp C dL_law_1157 ?_
    refine K_if_eq (tgt := 1163) C dL_law_1158 (by decide) (fun _ => nxt) (fun q9 => absurd ?_ q9)
    show lg_cmp (u7 950 0) a8 = 0
    rw [f2 q]
    exact (lg_cmp_eq a8 a8).mpr rfl
  intro H locs ls hP hD hS hT hlv
  have hw9 := C.2.2.2.2.2.2.1
  have hA9 : ∀ q, KA L I H.size q → A0 q := fun q h => h.elim (fun h => KS_A hD (fun _ h => h) q h) (fun h => C.2.2.2.2.2.2.2.2.2.2.1 q (Nat.le_trans hS.1 h))
  have cw : vx_CSW room_1 s #[Value.ref b] RL 121 yL_risk cL_risk 4 (some .int) [(0, 8, 11, 13), (0, 8, 14, 15)] (Cond.codeWith yL_risk cL_risk 4 (some .int) [(0, 8, 11, 13), (0, 8, 14, 15)] :: gt) (KR nL_risk 1 6) 1 6 3 := ⟨⟨rfl, rfl, by decide, by decide, fun w hw a' U hW => by
      have hg : w ∈ gt := (List.mem_cons.mp hw).elim (fun q => by rw [q]; exact cwL) (fun q => q)
      exact word_at hW (good_of_word (List.mem_filter.mp hg).2) (hw9 w hg), List.mem_cons_self⟩, hw9 _ cwL, hw9 _ kzL, ⟨by decide, by decide⟩, fun sig h9 => by
      have h8 : (parseMethodDescriptor yL_risk.desc).map (fun d => d.parameters.length) = some 3 := by decide +kernel
      rw [h9] at h8
      exact (Option.some.inj h8).symm, hw9 _ ml_L_121, hw9 _ stL⟩
  have hrun := vx_runSW (l := l) (e := e) (below := below) (meth := meth) (H := H) (locs := locs) (cells := ce) (slots := sl) (As := [.ref (L 1000), .int x1, .ref (L 950)]) (rest := []) (g := F0 m 1119 ls (([.ref 950, .int x1, .ref 1000] : List Value).map (cv L))) (nL := 8) ⟨C.1, C.2.1, C.2.2.2.1, C.2.2.2.2.1, hw9⟩ (c_Lrisk (L := L) (cA := cA) (D := D) (u := u) (x := x1) hl hI hm h H.size) cw
    ⟨RP.blind, fun U hU hW => by
      obtain ⟨k0, k1⟩ := K_cpre (av := [Value.ref (L 1000), .int x1, .ref (L 950)]) (T1 := []) C hP hD hS (fun i k h9 => by simp at h9) U hU hW
      exact ⟨k0, k1, by rw [hU]; exact (rX.warm hW (hrx.kept hS.2.1)).narrow hA9⟩⟩ rfl rfl hlv.1 rfl (Nat.le_of_ble_eq_true rfl) dL_law_1119 ⟨by show ce + 1 ≤ 601024; omega, by show sl + 6 ≤ 7293034; omega⟩
  intro T9 hT9 X
  obtain ⟨r9, st₀, t9, T', L9, h0, X', hL9, e1, e2, ⟨k, v', u', hv, hPL, hP', hz, hk⟩, stp⟩ := hrun T9 hT9 X
  have hv2 : r9 = some (.int k) := Outcome.returned.inj hv
  subst hv2
  rw [h0] at hz hk
  have hS1 : va_S A0 s.heap T'.heap (locs ++ L9) := ⟨Nat.le_trans hS.1 (by rw [e1]; exact hz), fun q h1 h2 => by rw [e1, hk q (Nat.lt_of_lt_of_le h1 hS.1) (fun z => h2 (hA9 q z))]; exact hS.2.1 q h1 h2, fun q hq => by
      rcases List.mem_append.mp hq with h | h
      · exact hS.2.2 q h
      · exact hA9 _ (hL9 q h)⟩
  obtain ⟨t2, a1, b1⟩ := go9 k v' u' hPL T'.heap (locs ++ L9) ls (by rw [e1]; exact hP') (mwK_D hD) hS1 (fun i k9 h9 => by simp at h9) hlv T' rfl X'
  exact ⟨t2, stp t2 a1, b1⟩
