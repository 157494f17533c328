theorem lc_feed {l : Launch} {L : Nat → Nat} {cA : Nat → ClassId} {D : va_G} {A0 : Nat → Prop} {p : Program} {e : Env} {s : State} {m : MethodId} {below : List Frame} {meth : Method} {c : Code} {Z : State → Prop} {ce sl : Nat} {I : List Nat} {M : Nat → Nat → Bool} {v : fr_V} {u : fr_U} {b n t : Nat} {xs : Nat → Int32} (E : LE L cA D A0 p s m meth c b n xs ce sl I M) (ht : 6 * t + 5 < n) (hn : n ≤ 3072) (hRI : RI I v) (nx : NX l cA D A0 p e s m below meth c Z b n xs ce sl t) : KJ l room_1 mLaw L cA D A0 p e s m #[Value.ref b] below meth c Z ce sl [] I M v u 160 (LV t) [] := by
  obtain ⟨ac, m9, N, nn, nr, NS, w, tp, ar, h, hfr⟩ := hRI
  have hI := E.2.2.2.2.2.1
  obtain ⟨x1, hx1⟩ : ∃ x, xs (6 * t + 1) = x := ⟨_, rfl⟩
  obtain ⟨x2, hx2⟩ : ∃ x, xs (6 * t + 2) = x := ⟨_, rfl⟩
  obtain ⟨x3, hx3⟩ : ∃ x, xs (6 * t + 3) = x := ⟨_, rfl⟩
  obtain ⟨x4, hx4⟩ : ∃ x, xs (6 * t + 4) = x := ⟨_, rfl⟩
  obtain ⟨x5, hx5⟩ : ∃ x, xs (6 * t + 5) = x := ⟨_, rfl⟩
  refine K_aload_n E.1 dL_law_160 rfl 3 rfl ?_
  refine K_arg E (k := 1) dL_law_161 dL_law_162 dL_law_164 dL_law_165 dL_law_166 (by omega) hn hx1 ?_
  refine K_arg E (k := 2) dL_law_167 dL_law_168 dL_law_170 dL_law_171 dL_law_172 (by omega) hn hx2 ?_
  refine K_arg E (k := 3) dL_law_173 dL_law_174 dL_law_176 dL_law_177 dL_law_178 (by omega) hn hx3 ?_
  refine K_arg E (k := 4) dL_law_179 dL_law_180 dL_law_182 dL_law_183 dL_law_184 (by omega) hn hx4 ?_
  refine K_arg E (k := 5) dL_law_185 dL_law_186 dL_law_188 dL_law_189 dL_law_190 (by omega) hn hx5 ?_
  refine L_call E (z := mX10_feed) (o := 1000) (ci := 10) (As := [.int x1, .int x2, .int x3, .int x4, .int x5]) (rest := []) dL_law_191 ml_L_21 ok_X10_feed iv_X10_feed ⟨by decide, by decide⟩ (i1000 hI) rfl rfl rfl rfl (by decide) (k_X10_feed hI v u tp x1 x2 x3 x4 x5 h.tz h.t5) (fun r9 b9 u9 hq => ?_)
  obtain ⟨a9, hr, -, ha, hb⟩ := hq
  subst hr
  have h1 : RLp I ac m9 N nn nr NS w tp ar v b9 := h.ys (by rw [hb]; exact gz_feed)
  refine K_aload_n E.1 dL_law_194 rfl 2 rfl ?_
  refine K_arg E (k := 1) dL_law_195 dL_law_196 dL_law_198 dL_law_199 dL_law_200 (by omega) hn hx1 ?_
  refine K_arg E (k := 2) dL_law_201 dL_law_202 dL_law_204 dL_law_205 dL_law_206 (by omega) hn hx2 ?_
  refine K_arg E (k := 3) dL_law_207 dL_law_208 dL_law_210 dL_law_211 dL_law_212 (by omega) hn hx3 ?_
  refine K_arg E (k := 4) dL_law_213 dL_law_214 dL_law_216 dL_law_217 dL_law_218 (by omega) hn hx4 ?_
  refine K_arg E (k := 5) dL_law_219 dL_law_220 dL_law_222 dL_law_223 dL_law_224 (by omega) hn hx5 ?_
  refine L_call E (z := mX11_feed) (o := 1100) (ci := 11) (As := [.int x1, .int x2, .int x3, .int x4, .int x5]) (rest := [.int a9]) dL_law_225 ml_L_25 ok_X11_feed iv_X11_feed ⟨by decide, by decide⟩ (i1100 hI) rfl rfl rfl rfl (Nat.le_of_ble_eq_true rfl) (k_X11_feed hI b9 u9 tp h1.ty h1.t5 x1 x2 x3 x4 x5) (fun r8 c8 u8 hq => ?_)
  obtain ⟨a8, hr8, -, ha8, hb8⟩ := hq
  subst hr8
  obtain ⟨e1, t9, h2⟩ := s_feed h1 x1 x2 x3 x4 x5
  rw [← hb, ← hb8] at h2
  refine L_cmp E dL_law_228 (by decide) ?_ nx ⟨_, _, _, _, _, _, _, _, _, h2.zs ?_, hfr⟩
  · rw [ha, ha8]; exact e1
  · rw [hb8]; exact gy_feed
theorem lc_acts {l : Launch} {L : Nat → Nat} {cA : Nat → ClassId} {D : va_G} {A0 : Nat → Prop} {p : Program} {e : Env} {s : State} {m : MethodId} {below : List Frame} {meth : Method} {c : Code} {Z : State → Prop} {ce sl : Nat} {I : List Nat} {M : Nat → Nat → Bool} {v : fr_V} {u : fr_U} {b n t : Nat} {xs : Nat → Int32} (E : LE L cA D A0 p s m meth c b n xs ce sl I M) (ht : 6 * t + 5 < n) (hn : n ≤ 3072) (hRI : RI I v) (nx : NX l cA D A0 p e s m below meth c Z b n xs ce sl t) : KJ l room_1 mLaw L cA D A0 p e s m #[Value.ref b] below meth c Z ce sl [] I M v u 233 (LV t) [] := by
  obtain ⟨ac, m9, N, nn, nr, NS, w, tp, ar, h, hfr⟩ := hRI
  have hI := E.2.2.2.2.2.1
  obtain ⟨x1, hx1⟩ : ∃ x, xs (6 * t + 1) = x := ⟨_, rfl⟩
  refine K_aload_n E.1 dL_law_233 rfl 3 rfl ?_
  refine K_arg E (k := 1) dL_law_234 dL_law_235 dL_law_237 dL_law_238 dL_law_239 (by omega) hn hx1 ?_
  refine L_call E (z := mX10_acts) (o := 1000) (ci := 10) (As := [.int x1]) (rest := []) dL_law_240 ml_L_26 ok_X10_acts iv_X10_acts ⟨by decide, by decide⟩ (i1000 hI) rfl rfl rfl rfl (by decide) (k_X10_acts hI v u ac x1 tp h.hac h.a1 h.a2 h.tz h.t5) (fun r9 b9 u9 hq => ?_)
  obtain ⟨a9, hr, -, ha, hb⟩ := hq
  subst hr
  have h1 : RLp I ac m9 N nn nr NS w tp ar v b9 := h.ys (by rw [hb]; exact gz_acts h.hac h.dy h.tz h.t5)
  refine K_aload_n E.1 dL_law_243 rfl 2 rfl ?_
  refine K_arg E (k := 1) dL_law_244 dL_law_245 dL_law_247 dL_law_248 dL_law_249 (by omega) hn hx1 ?_
  refine L_call E (z := mX11_acts) (o := 1100) (ci := 11) (As := [.int x1]) (rest := [.int a9]) dL_law_250 ml_L_30 ok_X11_acts iv_X11_acts ⟨by decide, by decide⟩ (i1100 hI) rfl rfl rfl rfl (Nat.le_of_ble_eq_true rfl) (k_X11_acts hI b9 u9 tp x1 h1.ty h1.t5 h1.wdy) (fun r8 c8 u8 hq => ?_)
  obtain ⟨a8, hr8, -, ha8, hb8⟩ := hq
  subst hr8
  obtain ⟨e1, ac9, m8, t9, ar9, h2⟩ := s_acts h1 x1
  rw [← hb, ← hb8] at h2
  refine L_cmp E dL_law_253 (by decide) ?_ nx ⟨_, _, _, _, _, _, _, _, _, h2.zs ?_, hfr⟩
  · rw [ha, ha8]; exact e1
  · rw [hb8]; exact gy_acts
theorem lc_fault {l : Launch} {L : Nat → Nat} {cA : Nat → ClassId} {D : va_G} {A0 : Nat → Prop} {p : Program} {e : Env} {s : State} {m : MethodId} {below : List Frame} {meth : Method} {c : Code} {Z : State → Prop} {ce sl : Nat} {I : List Nat} {M : Nat → Nat → Bool} {v : fr_V} {u : fr_U} {b n t : Nat} {xs : Nat → Int32} (E : LE L cA D A0 p s m meth c b n xs ce sl I M) (ht : 6 * t + 5 < n) (hn : n ≤ 3072) (hRI : RI I v) (nx : NX l cA D A0 p e s m below meth c Z b n xs ce sl t) : KJ l room_1 mLaw L cA D A0 p e s m #[Value.ref b] below meth c Z ce sl [] I M v u 258 (LV t) [] := by
  obtain ⟨ac, m9, N, nn, nr, NS, w, tp, ar, h, hfr⟩ := hRI
  have hI := E.2.2.2.2.2.1
  obtain ⟨x1, hx1⟩ : ∃ x, xs (6 * t + 1) = x := ⟨_, rfl⟩
  refine K_aload_n E.1 dL_law_258 rfl 3 rfl ?_
  refine K_arg E (k := 1) dL_law_259 dL_law_260 dL_law_262 dL_law_263 dL_law_264 (by omega) hn hx1 ?_
  refine L_call E (z := mX10_fault) (o := 1000) (ci := 10) (As := [.int x1]) (rest := []) dL_law_265 ml_L_31 ok_X10_fault iv_X10_fault ⟨by decide, by decide⟩ (i1000 hI) rfl rfl rfl rfl (by decide) (k_X10_fault hI v u x1) (fun r9 b9 u9 hq => ?_)
  obtain ⟨a9, hr, hb, -, ha⟩ := hq
  subst hr
  have h1 : RLp I ac m9 N nn nr NS w tp ar v b9 := by rw [hb]; exact h
  refine K_aload_n E.1 dL_law_268 rfl 2 rfl ?_
  refine K_arg E (k := 1) dL_law_269 dL_law_270 dL_law_272 dL_law_273 dL_law_274 (by omega) hn hx1 ?_
  refine L_call E (z := mX11_fault) (o := 1100) (ci := 11) (As := [.int x1]) (rest := [.int a9]) dL_law_275 ml_L_34 ok_X11_fault iv_X11_fault ⟨by decide, by decide⟩ (i1100 hI) rfl rfl rfl rfl (Nat.le_of_ble_eq_true rfl) (k_X11_fault hI b9 u9 x1) (fun r8 c8 u8 hq => ?_)
  obtain ⟨a8, hr8, -, ha8, hb8⟩ := hq
  subst hr8
  obtain ⟨e1, h2⟩ := s_fault h1 x1
  rw [← hb8] at h2
  have h2 : RLp I ac m9 N nn nr NS w tp ar b9 c8 := by rw [hb]; exact h2
  refine L_cmp E dL_law_278 (by decide) ?_ nx ⟨_, _, _, _, _, _, _, _, _, h2.zs ?_, hfr⟩
  · rw [ha, ha8]; exact e1
  · rw [hb8]; exact gy_fault
theorem lc_halves {l : Launch} {L : Nat → Nat} {cA : Nat → ClassId} {D : va_G} {A0 : Nat → Prop} {p : Program} {e : Env} {s : State} {m : MethodId} {below : List Frame} {meth : Method} {c : Code} {Z : State → Prop} {ce sl : Nat} {I : List Nat} {M : Nat → Nat → Bool} {v : fr_V} {u : fr_U} {b n t : Nat} {xs : Nat → Int32} (E : LE L cA D A0 p s m meth c b n xs ce sl I M) (ht : 6 * t + 5 < n) (hn : n ≤ 3072) (hRI : RI I v) (nx : NX l cA D A0 p e s m below meth c Z b n xs ce sl t) : KJ l room_1 mLaw L cA D A0 p e s m #[Value.ref b] below meth c Z ce sl [] I M v u 283 (LV t) [] := by
  obtain ⟨ac, m9, N, nn, nr, NS, w, tp, ar, h, hfr⟩ := hRI
  have hI := E.2.2.2.2.2.1
  obtain ⟨x1, hx1⟩ : ∃ x, xs (6 * t + 1) = x := ⟨_, rfl⟩
  refine K_aload_n E.1 dL_law_283 rfl 3 rfl ?_
  refine K_arg E (k := 1) dL_law_284 dL_law_285 dL_law_287 dL_law_288 dL_law_289 (by omega) hn hx1 ?_
  refine L_call E (z := mX10_halves) (o := 1000) (ci := 10) (As := [.int x1]) (rest := []) dL_law_290 ml_L_35 ok_X10_halves iv_X10_halves ⟨by decide, by decide⟩ (i1000 hI) rfl rfl rfl rfl (by decide) (k_X10_halves hI v u x1) (fun r9 b9 u9 hq => ?_)
  obtain ⟨a9, hr, -, ha, hb⟩ := hq
  subst hr
  have h1 : RLp I ac m9 N nn nr NS w tp ar v b9 := h.ys (by rw [hb]; exact gz_halves)
  refine K_aload_n E.1 dL_law_293 rfl 2 rfl ?_
  refine K_arg E (k := 1) dL_law_294 dL_law_295 dL_law_297 dL_law_298 dL_law_299 (by omega) hn hx1 ?_
  refine L_call E (z := mX11_halves) (o := 1100) (ci := 11) (As := [.int x1]) (rest := [.int a9]) dL_law_300 ml_L_38 ok_X11_halves iv_X11_halves ⟨by decide, by decide⟩ (i1100 hI) rfl rfl rfl rfl (Nat.le_of_ble_eq_true rfl) (k_X11_halves hI b9 u9 x1) (fun r8 c8 u8 hq => ?_)
  obtain ⟨a8, hr8, -, ha8, hb8⟩ := hq
  subst hr8
  obtain ⟨e1, w9, h2⟩ := s_halves h1 x1
  rw [← hb, ← hb8] at h2
  refine L_cmp E dL_law_303 (by decide) ?_ nx ⟨_, _, _, _, _, _, _, _, _, h2.zs ?_, hfr⟩
  · rw [ha, ha8]; exact e1
  · rw [hb8]; exact gy_halves
theorem lc_life {l : Launch} {L : Nat → Nat} {cA : Nat → ClassId} {D : va_G} {A0 : Nat → Prop} {p : Program} {e : Env} {s : State} {m : MethodId} {below : List Frame} {meth : Method} {c : Code} {Z : State → Prop} {ce sl : Nat} {I : List Nat} {M : Nat → Nat → Bool} {v : fr_V} {u : fr_U} {b n t : Nat} {xs : Nat → Int32} (E : LE L cA D A0 p s m meth c b n xs ce sl I M) (ht : 6 * t + 5 < n) (hn : n ≤ 3072) (hRI : RI I v) (nx : NX l cA D A0 p e s m below meth c Z b n xs ce sl t) : KJ l room_1 mLaw L cA D A0 p e s m #[Value.ref b] below meth c Z ce sl [] I M v u 308 (LV t) [] := by
  obtain ⟨ac, m9, N, nn, nr, NS, w, tp, ar, h, hfr⟩ := hRI
  have hI := E.2.2.2.2.2.1
  obtain ⟨x1, hx1⟩ : ∃ x, xs (6 * t + 1) = x := ⟨_, rfl⟩
  obtain ⟨x2, hx2⟩ : ∃ x, xs (6 * t + 2) = x := ⟨_, rfl⟩
  refine K_aload_n E.1 dL_law_308 rfl 3 rfl ?_
  refine K_arg E (k := 1) dL_law_309 dL_law_310 dL_law_312 dL_law_313 dL_law_314 (by omega) hn hx1 ?_
  refine K_arg E (k := 2) dL_law_315 dL_law_316 dL_law_318 dL_law_319 dL_law_320 (by omega) hn hx2 ?_
  refine L_call E (z := mX10_life) (o := 1000) (ci := 10) (As := [.int x1, .int x2]) (rest := []) dL_law_321 ml_L_39 ok_X10_life iv_X10_life ⟨by decide, by decide⟩ (i1000 hI) rfl rfl rfl rfl (by decide) (k_X10_life hI v u x1 x2 nn h.nz h.n12) (fun r9 b9 u9 hq => ?_)
  obtain ⟨a9, hr, -, ha, hb⟩ := hq
  subst hr
  have h1 : RLp I ac m9 N nn nr NS w tp ar v b9 := h.ys (by rw [hb]; exact gz_life)
  refine K_aload_n E.1 dL_law_324 rfl 2 rfl ?_
  refine K_arg E (k := 1) dL_law_325 dL_law_326 dL_law_328 dL_law_329 dL_law_330 (by omega) hn hx1 ?_
  refine K_arg E (k := 2) dL_law_331 dL_law_332 dL_law_334 dL_law_335 dL_law_336 (by omega) hn hx2 ?_
  refine L_call E (z := mX11_life) (o := 1100) (ci := 11) (As := [.int x1, .int x2]) (rest := [.int a9]) dL_law_337 ml_L_43 ok_X11_life iv_X11_life ⟨by decide, by decide⟩ (i1100 hI) rfl rfl rfl rfl (Nat.le_of_ble_eq_true rfl) (k_X11_life hI b9 u9 x1 x2 nn h1.ny h1.n12) (fun r8 c8 u8 hq => ?_)
  obtain ⟨a8, hr8, -, ha8, hb8⟩ := hq
  subst hr8
  obtain ⟨e1, n9, h2⟩ := s_life h1 x1 x2
  rw [← hb, ← hb8] at h2
  refine L_cmp E dL_law_340 (by decide) ?_ nx ⟨_, _, _, _, _, _, _, _, _, h2.zs ?_, hfr⟩
  · rw [ha, ha8]; exact e1
  · rw [hb8]; exact gy_life
theorem lc_asks {l : Launch} {L : Nat → Nat} {cA : Nat → ClassId} {D : va_G} {A0 : Nat → Prop} {p : Program} {e : Env} {s : State} {m : MethodId} {below : List Frame} {meth : Method} {c : Code} {Z : State → Prop} {ce sl : Nat} {I : List Nat} {M : Nat → Nat → Bool} {v : fr_V} {u : fr_U} {b n t : Nat} {xs : Nat → Int32} (E : LE L cA D A0 p s m meth c b n xs ce sl I M) (ht : 6 * t + 5 < n) (hn : n ≤ 3072) (hRI : RI I v) (nx : NX l cA D A0 p e s m below meth c Z b n xs ce sl t) : KJ l room_1 mLaw L cA D A0 p e s m #[Value.ref b] below meth c Z ce sl [] I M v u 345 (LV t) [] := by
  obtain ⟨ac, m9, N, nn, nr, NS, w, tp, ar, h, hfr⟩ := hRI
  have hI := E.2.2.2.2.2.1
  obtain ⟨x1, hx1⟩ : ∃ x, xs (6 * t + 1) = x := ⟨_, rfl⟩
  obtain ⟨x2, hx2⟩ : ∃ x, xs (6 * t + 2) = x := ⟨_, rfl⟩
  refine K_aload_n E.1 dL_law_345 rfl 3 rfl ?_
  refine K_arg E (k := 1) dL_law_346 dL_law_347 dL_law_349 dL_law_350 dL_law_351 (by omega) hn hx1 ?_
  refine K_arg E (k := 2) dL_law_352 dL_law_353 dL_law_355 dL_law_356 dL_law_357 (by omega) hn hx2 ?_
  refine L_call E (z := mX10_asks) (o := 1000) (ci := 10) (As := [.int x1, .int x2]) (rest := []) dL_law_358 ml_L_44 ok_X10_asks iv_X10_asks ⟨by decide, by decide⟩ (i1000 hI) rfl rfl rfl rfl (by decide) (k_X10_asks hI v u ac m9 x1 x2 h.hac h.a1 h.ln nn h.nz h.n12) (fun r9 b9 u9 hq => ?_)
  obtain ⟨a9, hr, hb, -, ha⟩ := hq
  subst hr
  have h1 : RLp I ac m9 N nn nr NS w tp ar v b9 := by rw [hb]; exact h
  refine K_aload_n E.1 dL_law_361 rfl 2 rfl ?_
  refine K_arg E (k := 1) dL_law_362 dL_law_363 dL_law_365 dL_law_366 dL_law_367 (by omega) hn hx1 ?_
  refine K_arg E (k := 2) dL_law_368 dL_law_369 dL_law_371 dL_law_372 dL_law_373 (by omega) hn hx2 ?_
  refine L_call E (z := mX11_asks) (o := 1100) (ci := 11) (As := [.int x1, .int x2]) (rest := [.int a9]) dL_law_374 ml_L_47 ok_X11_asks iv_X11_asks ⟨by decide, by decide⟩ (i1100 hI) rfl rfl rfl rfl (Nat.le_of_ble_eq_true rfl) (k_X11_asks hI b9 u9 m9 x1 x2 h1.my h1.m24 nn h1.ny h1.n12) (fun r8 c8 u8 hq => ?_)
  obtain ⟨a8, hr8, -, ha8, hb8⟩ := hq
  subst hr8
  obtain ⟨e1, h2⟩ := s_asks h1 x1 x2
  rw [← hb8] at h2
  have h2 : RLp I ac m9 N nn nr NS w tp ar b9 c8 := by rw [hb]; exact h2
  refine L_cmp E dL_law_377 (by decide) ?_ nx ⟨_, _, _, _, _, _, _, _, _, h2.zs ?_, hfr⟩
  · rw [ha, ha8]; exact e1
  · rw [hb8]; exact gy_asks
theorem lc_sell {l : Launch} {L : Nat → Nat} {cA : Nat → ClassId} {D : va_G} {A0 : Nat → Prop} {p : Program} {e : Env} {s : State} {m : MethodId} {below : List Frame} {meth : Method} {c : Code} {Z : State → Prop} {ce sl : Nat} {I : List Nat} {M : Nat → Nat → Bool} {v : fr_V} {u : fr_U} {b n t : Nat} {xs : Nat → Int32} (E : LE L cA D A0 p s m meth c b n xs ce sl I M) (ht : 6 * t + 5 < n) (hn : n ≤ 3072) (hRI : RI I v) (nx : NX l cA D A0 p e s m below meth c Z b n xs ce sl t) : KJ l room_1 mLaw L cA D A0 p e s m #[Value.ref b] below meth c Z ce sl [] I M v u 443 (LV t) [] := by
  obtain ⟨ac, m9, N, nn, nr, NS, w, tp, ar, h, hfr⟩ := hRI
  have hI := E.2.2.2.2.2.1
  obtain ⟨x1, hx1⟩ : ∃ x, xs (6 * t + 1) = x := ⟨_, rfl⟩
  obtain ⟨x2, hx2⟩ : ∃ x, xs (6 * t + 2) = x := ⟨_, rfl⟩
  obtain ⟨x3, hx3⟩ : ∃ x, xs (6 * t + 3) = x := ⟨_, rfl⟩
  obtain ⟨x4, hx4⟩ : ∃ x, xs (6 * t + 4) = x := ⟨_, rfl⟩
  refine K_aload_n E.1 dL_law_443 rfl 3 rfl ?_
  refine K_arg E (k := 1) dL_law_444 dL_law_445 dL_law_447 dL_law_448 dL_law_449 (by omega) hn hx1 ?_
  refine K_arg E (k := 2) dL_law_450 dL_law_451 dL_law_453 dL_law_454 dL_law_455 (by omega) hn hx2 ?_
  refine K_arg E (k := 3) dL_law_456 dL_law_457 dL_law_459 dL_law_460 dL_law_461 (by omega) hn hx3 ?_
  refine K_arg E (k := 4) dL_law_462 dL_law_463 dL_law_465 dL_law_466 dL_law_467 (by omega) hn hx4 ?_
  refine L_call E (z := mX10_sell) (o := 1000) (ci := 10) (As := [.int x1, .int x2, .int x3, .int x4]) (rest := []) dL_law_468 ml_L_53 ok_X10_sell iv_X10_sell ⟨by decide, by decide⟩ (i1000 hI) rfl rfl rfl rfl (by decide) (k_X10_sell hI v u NS x1 x2 x3 x4 nr h.rnK h.Sz h.S40 h.sq h.hh) (fun r9 b9 u9 hq => ?_)
  obtain ⟨a9, hr, -, ha, hb⟩ := hq
  subst hr
  have h1 : RLp I ac m9 N nn nr NS w tp ar v b9 := h.ys (by rw [hb]; exact gz_sell)
  refine K_aload_n E.1 dL_law_471 rfl 2 rfl ?_
  refine K_arg E (k := 1) dL_law_472 dL_law_473 dL_law_475 dL_law_476 dL_law_477 (by omega) hn hx1 ?_
  refine K_arg E (k := 2) dL_law_478 dL_law_479 dL_law_481 dL_law_482 dL_law_483 (by omega) hn hx2 ?_
  refine K_arg E (k := 3) dL_law_484 dL_law_485 dL_law_487 dL_law_488 dL_law_489 (by omega) hn hx3 ?_
  refine K_arg E (k := 4) dL_law_490 dL_law_491 dL_law_493 dL_law_494 dL_law_495 (by omega) hn hx4 ?_
  refine L_call E (z := mX11_sell) (o := 1100) (ci := 11) (As := [.int x1, .int x2, .int x3, .int x4]) (rest := [.int a9]) dL_law_496 ml_L_57 ok_X11_sell iv_X11_sell ⟨by decide, by decide⟩ (i1100 hI) rfl rfl rfl rfl (Nat.le_of_ble_eq_true rfl) (k_X11_sell hI b9 u9 NS x1 x2 x3 x4 h1.Sy h1.S40 nr h1.Ry h1.r16) (fun r8 c8 u8 hq => ?_)
  obtain ⟨a8, hr8, -, ha8, hb8⟩ := hq
  subst hr8
  obtain ⟨e1, NS9, h2⟩ := s_sell h1 x1 x2 x3 x4
  rw [← hb, ← hb8] at h2
  refine L_cmp E dL_law_499 (by decide) ?_ nx ⟨_, _, _, _, _, _, _, _, _, h2.zs ?_, hfr⟩
  · rw [ha, ha8]; exact e1
  · rw [hb8]; exact gy_sell
theorem lc_parts {l : Launch} {L : Nat → Nat} {cA : Nat → ClassId} {D : va_G} {A0 : Nat → Prop} {p : Program} {e : Env} {s : State} {m : MethodId} {below : List Frame} {meth : Method} {c : Code} {Z : State → Prop} {ce sl : Nat} {I : List Nat} {M : Nat → Nat → Bool} {v : fr_V} {u : fr_U} {b n t : Nat} {xs : Nat → Int32} (E : LE L cA D A0 p s m meth c b n xs ce sl I M) (ht : 6 * t + 5 < n) (hn : n ≤ 3072) (hRI : RI I v) (nx : NX l cA D A0 p e s m below meth c Z b n xs ce sl t) : KJ l room_1 mLaw L cA D A0 p e s m #[Value.ref b] below meth c Z ce sl [] I M v u 504 (LV t) [] := by
  obtain ⟨ac, m9, N, nn, nr, NS, w, tp, ar, h, hfr⟩ := hRI
  have hI := E.2.2.2.2.2.1
  obtain ⟨x1, hx1⟩ : ∃ x, xs (6 * t + 1) = x := ⟨_, rfl⟩
  obtain ⟨x2, hx2⟩ : ∃ x, xs (6 * t + 2) = x := ⟨_, rfl⟩
  obtain ⟨x3, hx3⟩ : ∃ x, xs (6 * t + 3) = x := ⟨_, rfl⟩
  refine K_aload_n E.1 dL_law_504 rfl 3 rfl ?_
  refine K_arg E (k := 1) dL_law_505 dL_law_506 dL_law_508 dL_law_509 dL_law_510 (by omega) hn hx1 ?_
  refine K_arg E (k := 2) dL_law_511 dL_law_512 dL_law_514 dL_law_515 dL_law_516 (by omega) hn hx2 ?_
  refine K_arg E (k := 3) dL_law_517 dL_law_518 dL_law_520 dL_law_521 dL_law_522 (by omega) hn hx3 ?_
  refine L_call E (z := mX10_parts) (o := 1000) (ci := 10) (As := [.int x1, .int x2, .int x3]) (rest := []) dL_law_523 ml_L_58 ok_X10_parts iv_X10_parts ⟨by decide, by decide⟩ (i1000 hI) rfl rfl rfl rfl (by decide) (k_X10_parts hI v u NS x1 x2 x3 nr h.rnK h.Sz h.S40 h.sq h.hh) (fun r9 b9 u9 hq => ?_)
  obtain ⟨a9, hr, -, ha, hb⟩ := hq
  subst hr
  have h1 : RLp I ac m9 N nn nr NS w tp ar v b9 := h.ys (by rw [hb]; exact gz_parts)
  refine K_aload_n E.1 dL_law_526 rfl 2 rfl ?_
  refine K_arg E (k := 1) dL_law_527 dL_law_528 dL_law_530 dL_law_531 dL_law_532 (by omega) hn hx1 ?_
  refine K_arg E (k := 2) dL_law_533 dL_law_534 dL_law_536 dL_law_537 dL_law_538 (by omega) hn hx2 ?_
  refine K_arg E (k := 3) dL_law_539 dL_law_540 dL_law_542 dL_law_543 dL_law_544 (by omega) hn hx3 ?_
  refine L_call E (z := mX11_parts) (o := 1100) (ci := 11) (As := [.int x1, .int x2, .int x3]) (rest := [.int a9]) dL_law_545 ml_L_62 ok_X11_parts iv_X11_parts ⟨by decide, by decide⟩ (i1100 hI) rfl rfl rfl rfl (Nat.le_of_ble_eq_true rfl) (k_X11_parts hI b9 u9 NS x1 x2 x3 h1.Sy h1.S40 nr h1.Ry h1.r16) (fun r8 c8 u8 hq => ?_)
  obtain ⟨a8, hr8, -, ha8, hb8⟩ := hq
  subst hr8
  obtain ⟨e1, h2⟩ := s_parts h1 x1 x2 x3
  rw [← hb, ← hb8] at h2
  refine L_cmp E dL_law_548 (by decide) ?_ nx ⟨_, _, _, _, _, _, _, _, _, h2.zs ?_, hfr⟩
  · rw [ha, ha8]; exact e1
  · rw [hb8]; exact gy_parts
theorem lc_note {l : Launch} {L : Nat → Nat} {cA : Nat → ClassId} {D : va_G} {A0 : Nat → Prop} {p : Program} {e : Env} {s : State} {m : MethodId} {below : List Frame} {meth : Method} {c : Code} {Z : State → Prop} {ce sl : Nat} {I : List Nat} {M : Nat → Nat → Bool} {v : fr_V} {u : fr_U} {b n t : Nat} {xs : Nat → Int32} (E : LE L cA D A0 p s m meth c b n xs ce sl I M) (ht : 6 * t + 5 < n) (hn : n ≤ 3072) (hRI : RI I v) (nx : NX l cA D A0 p e s m below meth c Z b n xs ce sl t) : KJ l room_1 mLaw L cA D A0 p e s m #[Value.ref b] below meth c Z ce sl [] I M v u 553 (LV t) [] := by
  obtain ⟨ac, m9, N, nn, nr, NS, w, tp, ar, h, hfr⟩ := hRI
  have hI := E.2.2.2.2.2.1
  obtain ⟨x1, hx1⟩ : ∃ x, xs (6 * t + 1) = x := ⟨_, rfl⟩
  obtain ⟨x2, hx2⟩ : ∃ x, xs (6 * t + 2) = x := ⟨_, rfl⟩
  obtain ⟨x3, hx3⟩ : ∃ x, xs (6 * t + 3) = x := ⟨_, rfl⟩
  refine K_aload_n E.1 dL_law_553 rfl 3 rfl ?_
  refine K_arg E (k := 1) dL_law_554 dL_law_555 dL_law_557 dL_law_558 dL_law_559 (by omega) hn hx1 ?_
  refine K_arg E (k := 2) dL_law_560 dL_law_561 dL_law_563 dL_law_564 dL_law_565 (by omega) hn hx2 ?_
  refine K_arg E (k := 3) dL_law_566 dL_law_567 dL_law_569 dL_law_570 dL_law_571 (by omega) hn hx3 ?_
  refine K_bool E dL_law_572 dL_law_575 dL_law_576 dL_law_579 ?_
  refine L_call E (z := mX10_note) (o := 1000) (ci := 10) (As := [.int x1, .int x2, .int (if x3 = 0 then 0 else 1)]) (rest := []) dL_law_580 ml_L_63 ok_X10_note iv_X10_note ⟨by decide, by decide⟩ (i1000 hI) rfl rfl rfl rfl (by decide) (k_X10_note hI v u x1 x2 (if x3 = 0 then 0 else 1) N h.Nz h.N60) (fun r9 b9 u9 hq => ?_)
  obtain ⟨a9, hr, -, ha, hb⟩ := hq
  subst hr
  have h1 : RLp I ac m9 N nn nr NS w tp ar v b9 := h.ys (by rw [hb]; exact gz_note)
  refine K_aload_n E.1 dL_law_583 rfl 2 rfl ?_
  refine K_arg E (k := 1) dL_law_584 dL_law_585 dL_law_587 dL_law_588 dL_law_589 (by omega) hn hx1 ?_
  refine K_arg E (k := 2) dL_law_590 dL_law_591 dL_law_593 dL_law_594 dL_law_595 (by omega) hn hx2 ?_
  refine K_arg E (k := 3) dL_law_596 dL_law_597 dL_law_599 dL_law_600 dL_law_601 (by omega) hn hx3 ?_
  refine K_bool E dL_law_602 dL_law_605 dL_law_606 dL_law_609 ?_
  refine L_call E (z := mX11_note) (o := 1100) (ci := 11) (As := [.int x1, .int x2, .int (if x3 = 0 then 0 else 1)]) (rest := [.int a9]) dL_law_610 ml_L_67 ok_X11_note iv_X11_note ⟨by decide, by decide⟩ (i1100 hI) rfl rfl rfl rfl (Nat.le_of_ble_eq_true rfl) (k_X11_note hI b9 u9 x1 x2 (if x3 = 0 then 0 else 1) N h1.Ny h1.Wy) (fun r8 c8 u8 hq => ?_)
  obtain ⟨a8, hr8, -, ha8, hb8⟩ := hq
  subst hr8
  obtain ⟨e1, N9, h2⟩ := s_note h1 x1 x2 (if x3 = 0 then 0 else 1)
  rw [← hb, ← hb8] at h2
  refine L_cmp E dL_law_613 (by decide) ?_ nx ⟨_, _, _, _, _, _, _, _, _, h2.zs ?_, hfr⟩
  · rw [ha, ha8]; exact e1
  · rw [hb8]; exact gy_note
theorem lc_strike {l : Launch} {L : Nat → Nat} {cA : Nat → ClassId} {D : va_G} {A0 : Nat → Prop} {p : Program} {e : Env} {s : State} {m : MethodId} {below : List Frame} {meth : Method} {c : Code} {Z : State → Prop} {ce sl : Nat} {I : List Nat} {M : Nat → Nat → Bool} {v : fr_V} {u : fr_U} {b n t : Nat} {xs : Nat → Int32} (E : LE L cA D A0 p s m meth c b n xs ce sl I M) (ht : 6 * t + 5 < n) (hn : n ≤ 3072) (hRI : RI I v) (nx : NX l cA D A0 p e s m below meth c Z b n xs ce sl t) : KJ l room_1 mLaw L cA D A0 p e s m #[Value.ref b] below meth c Z ce sl [] I M v u 618 (LV t) [] := by
  obtain ⟨ac, m9, N, nn, nr, NS, w, tp, ar, h, hfr⟩ := hRI
  have hI := E.2.2.2.2.2.1
  obtain ⟨x1, hx1⟩ : ∃ x, xs (6 * t + 1) = x := ⟨_, rfl⟩
  refine K_aload_n E.1 dL_law_618 rfl 3 rfl ?_
  refine K_arg E (k := 1) dL_law_619 dL_law_620 dL_law_622 dL_law_623 dL_law_624 (by omega) hn hx1 ?_
  refine L_call E (z := mX10_strike) (o := 1000) (ci := 10) (As := [.int x1]) (rest := []) dL_law_625 ml_L_68 ok_X10_strike iv_X10_strike ⟨by decide, by decide⟩ (i1000 hI) rfl rfl rfl rfl (by decide) (k_X10_strike hI v u x1 N h.Nz h.N60) (fun r9 b9 u9 hq => ?_)
  obtain ⟨a9, hr, -, ha, hb⟩ := hq
  subst hr
  have h1 : RLp I ac m9 N nn nr NS w tp ar v b9 := h.ys (by rw [hb]; exact gz_strike)
  refine K_aload_n E.1 dL_law_628 rfl 2 rfl ?_
  refine K_arg E (k := 1) dL_law_629 dL_law_630 dL_law_632 dL_law_633 dL_law_634 (by omega) hn hx1 ?_
  refine L_call E (z := mX11_strike) (o := 1100) (ci := 11) (As := [.int x1]) (rest := [.int a9]) dL_law_635 ml_L_71 ok_X11_strike iv_X11_strike ⟨by decide, by decide⟩ (i1100 hI) rfl rfl rfl rfl (Nat.le_of_ble_eq_true rfl) (k_X11_strike hI b9 u9 x1 N h1.Ny h1.Wy) (fun r8 c8 u8 hq => ?_)
  obtain ⟨a8, hr8, -, ha8, hb8⟩ := hq
  subst hr8
  obtain ⟨e1, N9, h2⟩ := s_strike h1 x1
  rw [← hb, ← hb8] at h2
  refine L_cmp E dL_law_638 (by decide) ?_ nx ⟨_, _, _, _, _, _, _, _, _, h2.zs ?_, hfr⟩
  · rw [ha, ha8]; exact e1
  · rw [hb8]; exact gy_strike
theorem lc_dead {l : Launch} {L : Nat → Nat} {cA : Nat → ClassId} {D : va_G} {A0 : Nat → Prop} {p : Program} {e : Env} {s : State} {m : MethodId} {below : List Frame} {meth : Method} {c : Code} {Z : State → Prop} {ce sl : Nat} {I : List Nat} {M : Nat → Nat → Bool} {v : fr_V} {u : fr_U} {b n t : Nat} {xs : Nat → Int32} (E : LE L cA D A0 p s m meth c b n xs ce sl I M) (ht : 6 * t + 5 < n) (hn : n ≤ 3072) (hRI : RI I v) (nx : NX l cA D A0 p e s m below meth c Z b n xs ce sl t) : KJ l room_1 mLaw L cA D A0 p e s m #[Value.ref b] below meth c Z ce sl [] I M v u 643 (LV t) [] := by
  obtain ⟨ac, m9, N, nn, nr, NS, w, tp, ar, h, hfr⟩ := hRI
  have hI := E.2.2.2.2.2.1
  obtain ⟨x1, hx1⟩ : ∃ x, xs (6 * t + 1) = x := ⟨_, rfl⟩
  obtain ⟨x2, hx2⟩ : ∃ x, xs (6 * t + 2) = x := ⟨_, rfl⟩
  refine K_aload_n E.1 dL_law_643 rfl 3 rfl ?_
  refine K_arg E (k := 1) dL_law_644 dL_law_645 dL_law_647 dL_law_648 dL_law_649 (by omega) hn hx1 ?_
  refine K_arg E (k := 2) dL_law_650 dL_law_651 dL_law_653 dL_law_654 dL_law_655 (by omega) hn hx2 ?_
  refine L_call E (z := mX10_dead) (o := 1000) (ci := 10) (As := [.int x1, .int x2]) (rest := []) dL_law_656 ml_L_72 ok_X10_dead iv_X10_dead ⟨by decide, by decide⟩ (i1000 hI) rfl rfl rfl rfl (by decide) (k_X10_dead hI v u N x1 x2 h.Nz h.Wz nn h.nz h.n12) (fun r9 b9 u9 hq => ?_)
  obtain ⟨a9, hr, -, ha, hb⟩ := hq
  subst hr
  have h1 : RLp I ac m9 N nn nr NS w tp ar v b9 := h.ys (by rw [hb]; exact gz_dead)
  refine K_aload_n E.1 dL_law_659 rfl 2 rfl ?_
  refine K_arg E (k := 1) dL_law_660 dL_law_661 dL_law_663 dL_law_664 dL_law_665 (by omega) hn hx1 ?_
  refine K_arg E (k := 2) dL_law_666 dL_law_667 dL_law_669 dL_law_670 dL_law_671 (by omega) hn hx2 ?_
  refine L_call E (z := mX11_dead) (o := 1100) (ci := 11) (As := [.int x1, .int x2]) (rest := [.int a9]) dL_law_672 ml_L_75 ok_X11_dead iv_X11_dead ⟨by decide, by decide⟩ (i1100 hI) rfl rfl rfl rfl (Nat.le_of_ble_eq_true rfl) (k_X11_dead hI b9 u9 N x1 x2 h1.Ny h1.Wy nn h1.ny h1.n12) (fun r8 c8 u8 hq => ?_)
  obtain ⟨a8, hr8, -, ha8, hb8⟩ := hq
  subst hr8
  obtain ⟨e1, h2⟩ := s_dead h1 x1 x2
  rw [← hb, ← hb8] at h2
  refine L_cmp E dL_law_675 (by decide) ?_ nx ⟨_, _, _, _, _, _, _, _, _, h2.zs ?_, hfr⟩
  · rw [ha, ha8]; exact e1
  · rw [hb8]; exact gy_dead
theorem lc_holds {l : Launch} {L : Nat → Nat} {cA : Nat → ClassId} {D : va_G} {A0 : Nat → Prop} {p : Program} {e : Env} {s : State} {m : MethodId} {below : List Frame} {meth : Method} {c : Code} {Z : State → Prop} {ce sl : Nat} {I : List Nat} {M : Nat → Nat → Bool} {v : fr_V} {u : fr_U} {b n t : Nat} {xs : Nat → Int32} (E : LE L cA D A0 p s m meth c b n xs ce sl I M) (ht : 6 * t + 5 < n) (hn : n ≤ 3072) (hRI : RI I v) (nx : NX l cA D A0 p e s m below meth c Z b n xs ce sl t) : KJ l room_1 mLaw L cA D A0 p e s m #[Value.ref b] below meth c Z ce sl [] I M v u 680 (LV t) [] := by
  obtain ⟨ac, m9, N, nn, nr, NS, w, tp, ar, h, hfr⟩ := hRI
  have hI := E.2.2.2.2.2.1
  obtain ⟨x1, hx1⟩ : ∃ x, xs (6 * t + 1) = x := ⟨_, rfl⟩
  obtain ⟨x2, hx2⟩ : ∃ x, xs (6 * t + 2) = x := ⟨_, rfl⟩
  refine K_aload_n E.1 dL_law_680 rfl 3 rfl ?_
  refine K_arg E (k := 1) dL_law_681 dL_law_682 dL_law_684 dL_law_685 dL_law_686 (by omega) hn hx1 ?_
  refine K_arg E (k := 2) dL_law_687 dL_law_688 dL_law_690 dL_law_691 dL_law_692 (by omega) hn hx2 ?_
  refine L_call E (z := mX10_holds) (o := 1000) (ci := 10) (As := [.int x1, .int x2]) (rest := []) dL_law_693 ml_L_76 ok_X10_holds iv_X10_holds ⟨by decide, by decide⟩ (i1000 hI) rfl rfl rfl rfl (by decide) (k_X10_holds hI v u N x1 x2 h.Nz h.Wz) (fun r9 b9 u9 hq => ?_)
  obtain ⟨a9, hr, -, ha, hb⟩ := hq
  subst hr
  have h1 : RLp I ac m9 N nn nr NS w tp ar v b9 := h.ys (by rw [hb]; exact gz_holds)
  refine K_aload_n E.1 dL_law_696 rfl 2 rfl ?_
  refine K_arg E (k := 1) dL_law_697 dL_law_698 dL_law_700 dL_law_701 dL_law_702 (by omega) hn hx1 ?_
  refine K_arg E (k := 2) dL_law_703 dL_law_704 dL_law_706 dL_law_707 dL_law_708 (by omega) hn hx2 ?_
  refine L_call E (z := mX11_holds) (o := 1100) (ci := 11) (As := [.int x1, .int x2]) (rest := [.int a9]) dL_law_709 ml_L_79 ok_X11_holds iv_X11_holds ⟨by decide, by decide⟩ (i1100 hI) rfl rfl rfl rfl (Nat.le_of_ble_eq_true rfl) (k_X11_holds hI b9 u9 N x1 x2 h1.Ny h1.Wy) (fun r8 c8 u8 hq => ?_)
  obtain ⟨a8, hr8, -, ha8, hb8⟩ := hq
  subst hr8
  obtain ⟨e1, h2⟩ := s_holds h1 x1 x2
  rw [← hb, ← hb8] at h2
  refine L_cmp E dL_law_712 (by decide) ?_ nx ⟨_, _, _, _, _, _, _, _, _, h2.zs ?_, hfr⟩
  · rw [ha, ha8]; exact e1
  · rw [hb8]; exact gy_holds
theorem lc_paid {l : Launch} {L : Nat → Nat} {cA : Nat → ClassId} {D : va_G} {A0 : Nat → Prop} {p : Program} {e : Env} {s : State} {m : MethodId} {below : List Frame} {meth : Method} {c : Code} {Z : State → Prop} {ce sl : Nat} {I : List Nat} {M : Nat → Nat → Bool} {v : fr_V} {u : fr_U} {b n t : Nat} {xs : Nat → Int32} (E : LE L cA D A0 p s m meth c b n xs ce sl I M) (ht : 6 * t + 5 < n) (hn : n ≤ 3072) (hRI : RI I v) (nx : NX l cA D A0 p e s m below meth c Z b n xs ce sl t) : KJ l room_1 mLaw L cA D A0 p e s m #[Value.ref b] below meth c Z ce sl [] I M v u 717 (LV t) [] := by
  obtain ⟨ac, m9, N, nn, nr, NS, w, tp, ar, h, hfr⟩ := hRI
  have hI := E.2.2.2.2.2.1
  obtain ⟨x1, hx1⟩ : ∃ x, xs (6 * t + 1) = x := ⟨_, rfl⟩
  obtain ⟨x2, hx2⟩ : ∃ x, xs (6 * t + 2) = x := ⟨_, rfl⟩
  obtain ⟨x3, hx3⟩ : ∃ x, xs (6 * t + 3) = x := ⟨_, rfl⟩
  refine K_aload_n E.1 dL_law_717 rfl 3 rfl ?_
  refine K_arg E (k := 1) dL_law_718 dL_law_719 dL_law_721 dL_law_722 dL_law_723 (by omega) hn hx1 ?_
  refine K_arg E (k := 2) dL_law_724 dL_law_725 dL_law_727 dL_law_728 dL_law_729 (by omega) hn hx2 ?_
  refine K_arg E (k := 3) dL_law_730 dL_law_731 dL_law_733 dL_law_734 dL_law_735 (by omega) hn hx3 ?_
  refine L_call E (z := mX10_paid) (o := 1000) (ci := 10) (As := [.int x1, .int x2, .int x3]) (rest := []) dL_law_736 ml_L_80 ok_X10_paid iv_X10_paid ⟨by decide, by decide⟩ (i1000 hI) rfl rfl rfl rfl (by decide) (k_X10_paid hI v u ac N nr w x1 x2 x3 h.hac h.a1 h.wz h.w8 h.p3 h.k0 h.ar0) (fun r9 b9 u9 hq => ?_)
  obtain ⟨a9, hr, -, ha, hb⟩ := hq
  subst hr
  have h1 : RLp I ac m9 N nn nr NS w tp ar v b9 := h.ys (by rw [hb]; exact gz_paid)
  refine K_aload_n E.1 dL_law_739 rfl 2 rfl ?_
  refine K_arg E (k := 1) dL_law_740 dL_law_741 dL_law_743 dL_law_744 dL_law_745 (by omega) hn hx1 ?_
  refine K_arg E (k := 2) dL_law_746 dL_law_747 dL_law_749 dL_law_750 dL_law_751 (by omega) hn hx2 ?_
  refine K_arg E (k := 3) dL_law_752 dL_law_753 dL_law_755 dL_law_756 dL_law_757 (by omega) hn hx3 ?_
  refine L_call E (z := mX11_paid) (o := 1100) (ci := 11) (As := [.int x1, .int x2, .int x3]) (rest := [.int a9]) dL_law_758 ml_L_83 ok_X11_paid iv_X11_paid ⟨by decide, by decide⟩ (i1100 hI) rfl rfl rfl rfl (Nat.le_of_ble_eq_true rfl) (k_X11_paid hI b9 u9 nr N NS ar x1 x2 x3 h1.pyk w h1.wy h1.w9) (fun r8 c8 u8 hq => ?_)
  obtain ⟨a8, hr8, -, ha8, hb8⟩ := hq
  subst hr8
  obtain ⟨e1, h2⟩ := s_paid h1 x1 x2 x3
  rw [← hb, ← hb8] at h2
  refine L_cmp E dL_law_761 (by decide) ?_ nx ⟨_, _, _, _, _, _, _, _, _, h2.zs ?_, hfr⟩
  · rw [ha, ha8]; exact e1
  · rw [hb8]; exact gy_paid
theorem lc_got {l : Launch} {L : Nat → Nat} {cA : Nat → ClassId} {D : va_G} {A0 : Nat → Prop} {p : Program} {e : Env} {s : State} {m : MethodId} {below : List Frame} {meth : Method} {c : Code} {Z : State → Prop} {ce sl : Nat} {I : List Nat} {M : Nat → Nat → Bool} {v : fr_V} {u : fr_U} {b n t : Nat} {xs : Nat → Int32} (E : LE L cA D A0 p s m meth c b n xs ce sl I M) (ht : 6 * t + 5 < n) (hn : n ≤ 3072) (hRI : RI I v) (nx : NX l cA D A0 p e s m below meth c Z b n xs ce sl t) : KJ l room_1 mLaw L cA D A0 p e s m #[Value.ref b] below meth c Z ce sl [] I M v u 766 (LV t) [] := by
  obtain ⟨ac, m9, N, nn, nr, NS, w, tp, ar, h, hfr⟩ := hRI
  have hI := E.2.2.2.2.2.1
  obtain ⟨x1, hx1⟩ : ∃ x, xs (6 * t + 1) = x := ⟨_, rfl⟩
  obtain ⟨x2, hx2⟩ : ∃ x, xs (6 * t + 2) = x := ⟨_, rfl⟩
  refine K_aload_n E.1 dL_law_766 rfl 3 rfl ?_
  refine K_arg E (k := 1) dL_law_767 dL_law_768 dL_law_770 dL_law_771 dL_law_772 (by omega) hn hx1 ?_
  refine K_arg E (k := 2) dL_law_773 dL_law_774 dL_law_776 dL_law_777 dL_law_778 (by omega) hn hx2 ?_
  refine L_call E (z := mX10_got) (o := 1000) (ci := 10) (As := [.int x1, .int x2]) (rest := []) dL_law_779 ml_L_84 ok_X10_got iv_X10_got ⟨by decide, by decide⟩ (i1000 hI) rfl rfl rfl rfl (by decide) (k_X10_got hI v u ac N nr w NS x1 x2 h.hac h.a1 h.wz h.w8 h.p3 h.k0 h.ar0 h.Sz h.S40 h.sq h.hh) (fun r9 b9 u9 hq => ?_)
  obtain ⟨a9, hr, -, ha, hb⟩ := hq
  subst hr
  have h1 : RLp I ac m9 N nn nr NS w tp ar v b9 := h.ys (gz_got hb)
  refine K_aload_n E.1 dL_law_782 rfl 2 rfl ?_
  refine K_arg E (k := 1) dL_law_783 dL_law_784 dL_law_786 dL_law_787 dL_law_788 (by omega) hn hx1 ?_
  refine K_arg E (k := 2) dL_law_789 dL_law_790 dL_law_792 dL_law_793 dL_law_794 (by omega) hn hx2 ?_
  refine L_call E (z := mX11_got) (o := 1100) (ci := 11) (As := [.int x1, .int x2]) (rest := [.int a9]) dL_law_795 ml_L_87 ok_X11_got iv_X11_got ⟨by decide, by decide⟩ (i1100 hI) rfl rfl rfl rfl (Nat.le_of_ble_eq_true rfl) (k_X11_got hI b9 u9 nr N NS ar x1 x2 h1.pyk w h1.wy h1.w9) (fun r8 c8 u8 hq => ?_)
  obtain ⟨a8, hr8, -, ha8, hb8⟩ := hq
  subst hr8
  obtain ⟨e1, h2⟩ := s_got h1 x1 x2
  have h2 := h2 b9 hb
  rw [← hb8] at h2
  refine L_cmp E dL_law_798 (by decide) ?_ nx ⟨_, _, _, _, _, _, _, _, _, h2.zs ?_, hfr⟩
  · rw [ha, ha8]; exact e1
  · rw [hb8]; exact gy_got
theorem lc_owed {l : Launch} {L : Nat → Nat} {cA : Nat → ClassId} {D : va_G} {A0 : Nat → Prop} {p : Program} {e : Env} {s : State} {m : MethodId} {below : List Frame} {meth : Method} {c : Code} {Z : State → Prop} {ce sl : Nat} {I : List Nat} {M : Nat → Nat → Bool} {v : fr_V} {u : fr_U} {b n t : Nat} {xs : Nat → Int32} (E : LE L cA D A0 p s m meth c b n xs ce sl I M) (ht : 6 * t + 5 < n) (hn : n ≤ 3072) (hRI : RI I v) (nx : NX l cA D A0 p e s m below meth c Z b n xs ce sl t) : KJ l room_1 mLaw L cA D A0 p e s m #[Value.ref b] below meth c Z ce sl [] I M v u 803 (LV t) [] := by
  obtain ⟨ac, m9, N, nn, nr, NS, w, tp, ar, h, hfr⟩ := hRI
  have hI := E.2.2.2.2.2.1
  obtain ⟨x1, hx1⟩ : ∃ x, xs (6 * t + 1) = x := ⟨_, rfl⟩
  obtain ⟨x2, hx2⟩ : ∃ x, xs (6 * t + 2) = x := ⟨_, rfl⟩
  refine K_aload_n E.1 dL_law_803 rfl 3 rfl ?_
  refine K_arg E (k := 1) dL_law_804 dL_law_805 dL_law_807 dL_law_808 dL_law_809 (by omega) hn hx1 ?_
  refine K_arg E (k := 2) dL_law_810 dL_law_811 dL_law_813 dL_law_814 dL_law_815 (by omega) hn hx2 ?_
  refine L_call E (z := mX10_owed) (o := 1000) (ci := 10) (As := [.int x1, .int x2]) (rest := []) dL_law_816 ml_L_88 ok_X10_owed iv_X10_owed ⟨by decide, by decide⟩ (i1000 hI) rfl rfl rfl rfl (by decide) (k_X10_owed hI v u ac N nr w x1 x2 h.hac h.a1 h.wz h.w8 h.p3 h.k0 h.ar0) (fun r9 b9 u9 hq => ?_)
  obtain ⟨a9, hr, -, ha, hb⟩ := hq
  subst hr
  have h1 : RLp I ac m9 N nn nr NS w tp ar v b9 := h.ys (by rw [hb]; exact gz_owed)
  refine K_aload_n E.1 dL_law_819 rfl 2 rfl ?_
  refine K_arg E (k := 1) dL_law_820 dL_law_821 dL_law_823 dL_law_824 dL_law_825 (by omega) hn hx1 ?_
  refine K_arg E (k := 2) dL_law_826 dL_law_827 dL_law_829 dL_law_830 dL_law_831 (by omega) hn hx2 ?_
  refine L_call E (z := mX11_owed) (o := 1100) (ci := 11) (As := [.int x1, .int x2]) (rest := [.int a9]) dL_law_832 ml_L_91 ok_X11_owed iv_X11_owed ⟨by decide, by decide⟩ (i1100 hI) rfl rfl rfl rfl (Nat.le_of_ble_eq_true rfl) (k_X11_owed hI b9 u9 nr N NS ar x1 x2 h1.pyk w h1.wy h1.w9) (fun r8 c8 u8 hq => ?_)
  obtain ⟨a8, hr8, -, ha8, hb8⟩ := hq
  subst hr8
  obtain ⟨e1, h2⟩ := s_owed h1 x1 x2
  rw [← hb, ← hb8] at h2
  refine L_cmp E dL_law_835 (by decide) ?_ nx ⟨_, _, _, _, _, _, _, _, _, h2.zs ?_, hfr⟩
  · rw [ha, ha8]; exact e1
  · rw [hb8]; exact gy_owed
theorem lc_state {l : Launch} {L : Nat → Nat} {cA : Nat → ClassId} {D : va_G} {A0 : Nat → Prop} {p : Program} {e : Env} {s : State} {m : MethodId} {below : List Frame} {meth : Method} {c : Code} {Z : State → Prop} {ce sl : Nat} {I : List Nat} {M : Nat → Nat → Bool} {v : fr_V} {u : fr_U} {b n t : Nat} {xs : Nat → Int32} (E : LE L cA D A0 p s m meth c b n xs ce sl I M) (ht : 6 * t + 5 < n) (hn : n ≤ 3072) (hRI : RI I v) (nx : NX l cA D A0 p e s m below meth c Z b n xs ce sl t) : KJ l room_1 mLaw L cA D A0 p e s m #[Value.ref b] below meth c Z ce sl [] I M v u 840 (LV t) [] := by
  obtain ⟨ac, m9, N, nn, nr, NS, w, tp, ar, h, hfr⟩ := hRI
  have hI := E.2.2.2.2.2.1
  obtain ⟨x1, hx1⟩ : ∃ x, xs (6 * t + 1) = x := ⟨_, rfl⟩
  obtain ⟨x2, hx2⟩ : ∃ x, xs (6 * t + 2) = x := ⟨_, rfl⟩
  refine K_aload_n E.1 dL_law_840 rfl 3 rfl ?_
  refine K_arg E (k := 1) dL_law_841 dL_law_842 dL_law_844 dL_law_845 dL_law_846 (by omega) hn hx1 ?_
  refine K_arg E (k := 2) dL_law_847 dL_law_848 dL_law_850 dL_law_851 dL_law_852 (by omega) hn hx2 ?_
  refine L_call E (z := mX10_state) (o := 1000) (ci := 10) (As := [.int x1, .int x2]) (rest := []) dL_law_853 ml_L_92 ok_X10_state iv_X10_state ⟨by decide, by decide⟩ (i1000 hI) rfl rfl rfl rfl (by decide) (k_X10_state hI v u ac N nr w x1 x2 h.hac h.a1 h.wz h.w8 h.p3 h.k0 h.ar0) (fun r9 b9 u9 hq => ?_)
  obtain ⟨a9, hr, -, ha, hb⟩ := hq
  subst hr
  have h1 : RLp I ac m9 N nn nr NS w tp ar v b9 := h.ys (by rw [hb]; exact gz_state)
  refine K_aload_n E.1 dL_law_856 rfl 2 rfl ?_
  refine K_arg E (k := 1) dL_law_857 dL_law_858 dL_law_860 dL_law_861 dL_law_862 (by omega) hn hx1 ?_
  refine K_arg E (k := 2) dL_law_863 dL_law_864 dL_law_866 dL_law_867 dL_law_868 (by omega) hn hx2 ?_
  refine L_call E (z := mX11_state) (o := 1100) (ci := 11) (As := [.int x1, .int x2]) (rest := [.int a9]) dL_law_869 ml_L_95 ok_X11_state iv_X11_state ⟨by decide, by decide⟩ (i1100 hI) rfl rfl rfl rfl (Nat.le_of_ble_eq_true rfl) (k_X11_state hI b9 u9 nr N NS ar h1.pyk w h1.wy h1.w9 x1 x2) (fun r8 c8 u8 hq => ?_)
  obtain ⟨a8, hr8, -, ha8, hb8⟩ := hq
  subst hr8
  obtain ⟨e1, h2⟩ := s_state h1 x1 x2
  rw [← hb, ← hb8] at h2
  refine L_cmp E dL_law_872 (by decide) ?_ nx ⟨_, _, _, _, _, _, _, _, _, h2.zs ?_, hfr⟩
  · rw [ha, ha8]; exact e1
  · rw [hb8]; exact gy_state
theorem lc_sold {l : Launch} {L : Nat → Nat} {cA : Nat → ClassId} {D : va_G} {A0 : Nat → Prop} {p : Program} {e : Env} {s : State} {m : MethodId} {below : List Frame} {meth : Method} {c : Code} {Z : State → Prop} {ce sl : Nat} {I : List Nat} {M : Nat → Nat → Bool} {v : fr_V} {u : fr_U} {b n t : Nat} {xs : Nat → Int32} (E : LE L cA D A0 p s m meth c b n xs ce sl I M) (ht : 6 * t + 5 < n) (hn : n ≤ 3072) (hRI : RI I v) (nx : NX l cA D A0 p e s m below meth c Z b n xs ce sl t) : KJ l room_1 mLaw L cA D A0 p e s m #[Value.ref b] below meth c Z ce sl [] I M v u 877 (LV t) [] := by
  obtain ⟨ac, m9, N, nn, nr, NS, w, tp, ar, h, hfr⟩ := hRI
  have hI := E.2.2.2.2.2.1
  obtain ⟨x1, hx1⟩ : ∃ x, xs (6 * t + 1) = x := ⟨_, rfl⟩
  obtain ⟨x2, hx2⟩ : ∃ x, xs (6 * t + 2) = x := ⟨_, rfl⟩
  obtain ⟨x3, hx3⟩ : ∃ x, xs (6 * t + 3) = x := ⟨_, rfl⟩
  refine K_aload_n E.1 dL_law_877 rfl 3 rfl ?_
  refine K_arg E (k := 1) dL_law_878 dL_law_879 dL_law_881 dL_law_882 dL_law_883 (by omega) hn hx1 ?_
  refine K_arg E (k := 2) dL_law_884 dL_law_885 dL_law_887 dL_law_888 dL_law_889 (by omega) hn hx2 ?_
  refine K_arg E (k := 3) dL_law_890 dL_law_891 dL_law_893 dL_law_894 dL_law_895 (by omega) hn hx3 ?_
  refine L_call E (z := mX10_sold) (o := 1000) (ci := 10) (As := [.int x1, .int x2, .int x3]) (rest := []) dL_law_896 ml_L_96 ok_X10_sold iv_X10_sold ⟨by decide, by decide⟩ (i1000 hI) rfl rfl rfl rfl (by decide) (k_X10_sold hI v u x1 x2 x3) (fun r9 b9 u9 hq => ?_)
  obtain ⟨a9, hr, -, ha, hb⟩ := hq
  subst hr
  have h1 : RLp I ac m9 N nn nr NS w tp ar v b9 := h.ys (by rw [hb]; exact gz_sold)
  refine K_aload_n E.1 dL_law_899 rfl 2 rfl ?_
  refine K_arg E (k := 1) dL_law_900 dL_law_901 dL_law_903 dL_law_904 dL_law_905 (by omega) hn hx1 ?_
  refine K_arg E (k := 2) dL_law_906 dL_law_907 dL_law_909 dL_law_910 dL_law_911 (by omega) hn hx2 ?_
  refine K_arg E (k := 3) dL_law_912 dL_law_913 dL_law_915 dL_law_916 dL_law_917 (by omega) hn hx3 ?_
  refine L_call E (z := mX11_sold) (o := 1100) (ci := 11) (As := [.int x1, .int x2, .int x3]) (rest := [.int a9]) dL_law_918 ml_L_100 ok_X11_sold iv_X11_sold ⟨by decide, by decide⟩ (i1100 hI) rfl rfl rfl rfl (Nat.le_of_ble_eq_true rfl) (k_X11_sold hI b9 u9 x1 x2 x3) (fun r8 c8 u8 hq => ?_)
  obtain ⟨a8, hr8, -, ha8, hb8⟩ := hq
  subst hr8
  obtain ⟨e1, h2⟩ := t_sold h1 x1 x2 x3
  rw [← hb, ← hb8] at h2
  refine L_cmp E dL_law_921 (by decide) ?_ nx ⟨_, _, _, _, _, _, _, _, _, h2.zs ?_, hfr⟩
  · rw [ha, ha8]; exact e1
  · rw [hb8]; exact gy_sold
theorem lc_own {l : Launch} {L : Nat → Nat} {cA : Nat → ClassId} {D : va_G} {A0 : Nat → Prop} {p : Program} {e : Env} {s : State} {m : MethodId} {below : List Frame} {meth : Method} {c : Code} {Z : State → Prop} {ce sl : Nat} {I : List Nat} {M : Nat → Nat → Bool} {v : fr_V} {u : fr_U} {b n t : Nat} {xs : Nat → Int32} (E : LE L cA D A0 p s m meth c b n xs ce sl I M) (ht : 6 * t + 5 < n) (hn : n ≤ 3072) (hRI : RI I v) (nx : NX l cA D A0 p e s m below meth c Z b n xs ce sl t) : KJ l room_1 mLaw L cA D A0 p e s m #[Value.ref b] below meth c Z ce sl [] I M v u 926 (LV t) [] := by
  obtain ⟨ac, m9, N, nn, nr, NS, w, tp, ar, h, hfr⟩ := hRI
  have hI := E.2.2.2.2.2.1
  obtain ⟨x1, hx1⟩ : ∃ x, xs (6 * t + 1) = x := ⟨_, rfl⟩
  obtain ⟨x2, hx2⟩ : ∃ x, xs (6 * t + 2) = x := ⟨_, rfl⟩
  obtain ⟨x3, hx3⟩ : ∃ x, xs (6 * t + 3) = x := ⟨_, rfl⟩
  obtain ⟨x4, hx4⟩ : ∃ x, xs (6 * t + 4) = x := ⟨_, rfl⟩
  refine K_aload_n E.1 dL_law_926 rfl 3 rfl ?_
  refine K_arg E (k := 1) dL_law_927 dL_law_928 dL_law_930 dL_law_931 dL_law_932 (by omega) hn hx1 ?_
  refine K_arg E (k := 2) dL_law_933 dL_law_934 dL_law_936 dL_law_937 dL_law_938 (by omega) hn hx2 ?_
  refine K_arg E (k := 3) dL_law_939 dL_law_940 dL_law_942 dL_law_943 dL_law_944 (by omega) hn hx3 ?_
  refine K_arg E (k := 4) dL_law_945 dL_law_946 dL_law_948 dL_law_949 dL_law_950 (by omega) hn hx4 ?_
  refine L_call E (z := mX10_own) (o := 1000) (ci := 10) (As := [.int x1, .int x2, .int x3, .int x4]) (rest := []) dL_law_951 ml_L_101 ok_X10_own iv_X10_own ⟨by decide, by decide⟩ (i1000 hI) rfl rfl rfl rfl (by decide) (k_X10_own hI v u N nn x1 x2 x3 x4 h.Nz h.Wz h.lf) (fun r9 b9 u9 hq => ?_)
  obtain ⟨a9, hr, -, ha, hb⟩ := hq
  subst hr
  have h1 : RLp I ac m9 N nn nr NS w tp ar v b9 := h.ys (by rw [hb]; exact gz_own)
  refine K_aload_n E.1 dL_law_954 rfl 2 rfl ?_
  refine K_arg E (k := 1) dL_law_955 dL_law_956 dL_law_958 dL_law_959 dL_law_960 (by omega) hn hx1 ?_
  refine K_arg E (k := 2) dL_law_961 dL_law_962 dL_law_964 dL_law_965 dL_law_966 (by omega) hn hx2 ?_
  refine K_arg E (k := 3) dL_law_967 dL_law_968 dL_law_970 dL_law_971 dL_law_972 (by omega) hn hx3 ?_
  refine K_arg E (k := 4) dL_law_973 dL_law_974 dL_law_976 dL_law_977 dL_law_978 (by omega) hn hx4 ?_
  refine L_call E (z := mX11_own) (o := 1100) (ci := 11) (As := [.int x1, .int x2, .int x3, .int x4]) (rest := [.int a9]) dL_law_979 ml_L_104 ok_X11_own iv_X11_own ⟨by decide, by decide⟩ (i1100 hI) rfl rfl rfl rfl (Nat.le_of_ble_eq_true rfl) (k_X11_own hI b9 u9 N nn x1 x2 x3 x4 h1.Ny h1.Wy h1.ny h1.n12) (fun r8 c8 u8 hq => ?_)
  obtain ⟨a8, hr8, -, ha8, hb8⟩ := hq
  subst hr8
  obtain ⟨e1, h2⟩ := s_own h1 x1 x2 x3 x4
  rw [← hb, ← hb8] at h2
  refine L_cmp E dL_law_982 (by decide) ?_ nx ⟨_, _, _, _, _, _, _, _, _, h2.zs ?_, hfr⟩
  · rw [ha, ha8]; exact e1
  · rw [hb8]; exact gy_own
theorem lc_worth {l : Launch} {L : Nat → Nat} {cA : Nat → ClassId} {D : va_G} {A0 : Nat → Prop} {p : Program} {e : Env} {s : State} {m : MethodId} {below : List Frame} {meth : Method} {c : Code} {Z : State → Prop} {ce sl : Nat} {I : List Nat} {M : Nat → Nat → Bool} {v : fr_V} {u : fr_U} {b n t : Nat} {xs : Nat → Int32} (E : LE L cA D A0 p s m meth c b n xs ce sl I M) (ht : 6 * t + 5 < n) (hn : n ≤ 3072) (hRI : RI I v) (nx : NX l cA D A0 p e s m below meth c Z b n xs ce sl t) : KJ l room_1 mLaw L cA D A0 p e s m #[Value.ref b] below meth c Z ce sl [] I M v u 987 (LV t) [] := by
  obtain ⟨ac, m9, N, nn, nr, NS, w, tp, ar, h, hfr⟩ := hRI
  have hI := E.2.2.2.2.2.1
  obtain ⟨x1, hx1⟩ : ∃ x, xs (6 * t + 1) = x := ⟨_, rfl⟩
  obtain ⟨x2, hx2⟩ : ∃ x, xs (6 * t + 2) = x := ⟨_, rfl⟩
  obtain ⟨x3, hx3⟩ : ∃ x, xs (6 * t + 3) = x := ⟨_, rfl⟩
  refine K_aload_n E.1 dL_law_987 rfl 3 rfl ?_
  refine K_arg E (k := 1) dL_law_988 dL_law_989 dL_law_991 dL_law_992 dL_law_993 (by omega) hn hx1 ?_
  refine K_arg E (k := 2) dL_law_994 dL_law_995 dL_law_997 dL_law_998 dL_law_999 (by omega) hn hx2 ?_
  refine K_arg E (k := 3) dL_law_1000 dL_law_1001 dL_law_1003 dL_law_1004 dL_law_1005 (by omega) hn hx3 ?_
  refine L_call E (z := mX10_worth) (o := 1000) (ci := 10) (As := [.int x1, .int x2, .int x3]) (rest := []) dL_law_1006 ml_L_105 ok_X10_worth iv_X10_worth ⟨by decide, by decide⟩ (i1000 hI) rfl rfl rfl rfl (by decide) (k_X10_worth hI v u ac N nn w x1 x2 x3 h.hac h.a1 h.wz h.w8 h.Nz h.Wz h.lf h.st2.1 h.lva) (fun r9 b9 u9 hq => ?_)
  obtain ⟨a9, hr, -, ha, hb⟩ := hq
  subst hr
  have h1 : RLp I ac m9 N nn nr NS w tp ar v b9 := h.ys (gz_fw2 hb)
  refine K_aload_n E.1 dL_law_1009 rfl 2 rfl ?_
  refine K_arg E (k := 1) dL_law_1010 dL_law_1011 dL_law_1013 dL_law_1014 dL_law_1015 (by omega) hn hx1 ?_
  refine K_arg E (k := 2) dL_law_1016 dL_law_1017 dL_law_1019 dL_law_1020 dL_law_1021 (by omega) hn hx2 ?_
  refine K_arg E (k := 3) dL_law_1022 dL_law_1023 dL_law_1025 dL_law_1026 dL_law_1027 (by omega) hn hx3 ?_
  refine L_call E (z := mX11_worth) (o := 1100) (ci := 11) (As := [.int x1, .int x2, .int x3]) (rest := [.int a9]) dL_law_1028 ml_L_108 ok_X11_worth iv_X11_worth ⟨by decide, by decide⟩ (i1100 hI) rfl rfl rfl rfl (Nat.le_of_ble_eq_true rfl) (k_X11_worth hI b9 u9 N nn (f_X11_ageIn b9 x1 (b9 1100 3)).toNatClampNeg (f_X11_ageIn b9 x2 (b9 1100 3)).toNatClampNeg x1 x2 x3 h1.Ny h1.Wy h1.ny h1.n12 (fun q => h1.lfx q) (fun _ q => h1.lfx q) h1.st2.2) (fun r8 c8 u8 hq => ?_)
  obtain ⟨a8, hr8, -, ha8, hb8⟩ := hq
  subst hr8
  obtain ⟨e1, h2⟩ := s_worth h1 x1 x2 x3
  have h2 := h2 b9 hb
  rw [← hb8] at h2
  refine L_cmp E dL_law_1031 (by decide) ?_ nx ⟨_, _, _, _, _, _, _, _, _, h2.zs ?_, hfr⟩
  · rw [ha, ha8]; exact e1
  · rw [hb8]; exact gy_worth
theorem lc_names {l : Launch} {L : Nat → Nat} {cA : Nat → ClassId} {D : va_G} {A0 : Nat → Prop} {p : Program} {e : Env} {s : State} {m : MethodId} {below : List Frame} {meth : Method} {c : Code} {Z : State → Prop} {ce sl : Nat} {I : List Nat} {M : Nat → Nat → Bool} {v : fr_V} {u : fr_U} {b n t : Nat} {xs : Nat → Int32} (E : LE L cA D A0 p s m meth c b n xs ce sl I M) (ht : 6 * t + 5 < n) (hn : n ≤ 3072) (hRI : RI I v) (nx : NX l cA D A0 p e s m below meth c Z b n xs ce sl t) : KJ l room_1 mLaw L cA D A0 p e s m #[Value.ref b] below meth c Z ce sl [] I M v u 1036 (LV t) [] := by
  obtain ⟨ac, m9, N, nn, nr, NS, w, tp, ar, h, hfr⟩ := hRI
  have hI := E.2.2.2.2.2.1
  obtain ⟨cp0, q1, q2, q3, -⟩ := h.cp
  obtain ⟨x1, hx1⟩ : ∃ x, xs (6 * t + 1) = x := ⟨_, rfl⟩
  refine K_aload_n E.1 dL_law_1036 rfl 3 rfl ?_
  refine K_arg E (k := 1) dL_law_1037 dL_law_1038 dL_law_1040 dL_law_1041 dL_law_1042 (by omega) hn hx1 ?_
  refine L_call E (z := mX10_names) (o := 1000) (ci := 10) (As := [.int x1]) (rest := []) dL_law_1043 ml_L_109 ok_X10_names iv_X10_names ⟨by decide, by decide⟩ (i1000 hI) rfl rfl rfl rfl (by decide) (k_X10_names hI v u ac m9 N nn w x1 h.hac h.a1 h.ln h.wz h.w8 h.Nz h.Wz h.lf h.st2.1 h.lva ⟨cp0, q1, q2, q3⟩) (fun r9 b9 u9 hq => ?_)
  obtain ⟨a9, hr, -, ha⟩ := hq
  subst hr
  have h1 : RLp I ac m9 N nn nr NS w tp ar v b9 := h.ys (gz_names ha)
  obtain ⟨cp, p1, p2, -, p4⟩ := h1.cp
  refine K_aload_n E.1 dL_law_1046 rfl 2 rfl ?_
  refine K_arg E (k := 1) dL_law_1047 dL_law_1048 dL_law_1050 dL_law_1051 dL_law_1052 (by omega) hn hx1 ?_
  refine L_call E (z := mX11_names) (o := 1100) (ci := 11) (As := [.int x1]) (rest := [.int a9]) dL_law_1053 ml_L_112 ok_X11_names iv_X11_names ⟨by decide, by decide⟩ (i1100 hI) rfl rfl rfl rfl (Nat.le_of_ble_eq_true rfl) (k_X11_names hI b9 u9 m9 nn N cp x1 (fun j => (f_X11_ageIn b9 (nI j) (b9 1100 3)).toNatClampNeg) h1.Ny h1.Wy h1.ny h1.n12 h1.my h1.m24 p4 p1 p2 h1.st2.2 (fun j hj => h1.lfo hj)) (fun r8 c8 u8 hq => ?_)
  obtain ⟨a8, hr8, -, ha8, hb8⟩ := hq
  subst hr8
  obtain ⟨e1, h2⟩ := s_names h1 p4 p1 p2 x1 a9 b9 ha
  rw [← hb8] at h2
  refine L_cmp E dL_law_1056 (by decide) ?_ nx ⟨_, _, _, _, _, _, _, _, _, h2.zs ?_, hfr⟩
  · rw [ha8]; exact e1
  · rw [hb8]; exact gy_names
theorem lc_named {l : Launch} {L : Nat → Nat} {cA : Nat → ClassId} {D : va_G} {A0 : Nat → Prop} {p : Program} {e : Env} {s : State} {m : MethodId} {below : List Frame} {meth : Method} {c : Code} {Z : State → Prop} {ce sl : Nat} {I : List Nat} {M : Nat → Nat → Bool} {v : fr_V} {u : fr_U} {b n t : Nat} {xs : Nat → Int32} (E : LE L cA D A0 p s m meth c b n xs ce sl I M) (ht : 6 * t + 5 < n) (hn : n ≤ 3072) (hRI : RI I v) (nx : NX l cA D A0 p e s m below meth c Z b n xs ce sl t) : KJ l room_1 mLaw L cA D A0 p e s m #[Value.ref b] below meth c Z ce sl [] I M v u 1061 (LV t) [] := by
  obtain ⟨ac, m9, N, nn, nr, NS, w, tp, ar, h, hfr⟩ := hRI
  have hI := E.2.2.2.2.2.1
  obtain ⟨x1, hx1⟩ : ∃ x, xs (6 * t + 1) = x := ⟨_, rfl⟩
  refine K_aload_n E.1 dL_law_1061 rfl 3 rfl ?_
  refine K_arg E (k := 1) dL_law_1062 dL_law_1063 dL_law_1065 dL_law_1066 dL_law_1067 (by omega) hn hx1 ?_
  refine L_call E (z := mX10_named) (o := 1000) (ci := 10) (As := [.int x1]) (rest := []) dL_law_1068 ml_L_113 ok_X10_named iv_X10_named ⟨by decide, by decide⟩ (i1000 hI) rfl rfl rfl rfl (by decide) (k_X10_named hI v u x1 nn h.nz h.n12) (fun r9 b9 u9 hq => ?_)
  obtain ⟨a9, hr, hb, -, ha⟩ := hq
  subst hr
  have h1 : RLp I ac m9 N nn nr NS w tp ar v b9 := by rw [hb]; exact h
  refine K_aload_n E.1 dL_law_1071 rfl 2 rfl ?_
  refine K_arg E (k := 1) dL_law_1072 dL_law_1073 dL_law_1075 dL_law_1076 dL_law_1077 (by omega) hn hx1 ?_
  refine L_call E (z := mX11_named) (o := 1100) (ci := 11) (As := [.int x1]) (rest := [.int a9]) dL_law_1078 ml_L_116 ok_X11_named iv_X11_named ⟨by decide, by decide⟩ (i1100 hI) rfl rfl rfl rfl (Nat.le_of_ble_eq_true rfl) (k_X11_named hI b9 u9 x1 nn h1.ny h1.n12) (fun r8 c8 u8 hq => ?_)
  obtain ⟨a8, hr8, -, ha8, hb8⟩ := hq
  subst hr8
  obtain ⟨e1, h2⟩ := s_named h1 x1
  rw [← hb8] at h2
  have h2 : RLp I ac m9 N nn nr NS w tp ar b9 c8 := by rw [hb]; exact h2
  refine L_cmp E dL_law_1081 (by decide) ?_ nx ⟨_, _, _, _, _, _, _, _, _, h2.zs ?_, hfr⟩
  · rw [ha, ha8]; exact e1
  · rw [hb8]; exact gy_named
theorem lc_look {l : Launch} {L : Nat → Nat} {cA : Nat → ClassId} {D : va_G} {A0 : Nat → Prop} {p : Program} {e : Env} {s : State} {m : MethodId} {below : List Frame} {meth : Method} {c : Code} {Z : State → Prop} {ce sl : Nat} {I : List Nat} {M : Nat → Nat → Bool} {v : fr_V} {u : fr_U} {b n t : Nat} {xs : Nat → Int32} (E : LE L cA D A0 p s m meth c b n xs ce sl I M) (ht : 6 * t + 5 < n) (hn : n ≤ 3072) (hRI : RI I v) (nx : NX l cA D A0 p e s m below meth c Z b n xs ce sl t) : KJ l room_1 mLaw L cA D A0 p e s m #[Value.ref b] below meth c Z ce sl [] I M v u 1086 (LV t) [] := by
  obtain ⟨ac, m9, N, nn, nr, NS, w, tp, ar, h, hfr⟩ := hRI
  have hI := E.2.2.2.2.2.1
  obtain ⟨x1, hx1⟩ : ∃ x, xs (6 * t + 1) = x := ⟨_, rfl⟩
  refine K_aload_n E.1 dL_law_1086 rfl 3 rfl ?_
  refine K_arg E (k := 1) dL_law_1087 dL_law_1088 dL_law_1090 dL_law_1091 dL_law_1092 (by omega) hn hx1 ?_
  refine L_call E (z := mX10_look) (o := 1000) (ci := 10) (As := [.int x1]) (rest := []) dL_law_1093 ml_L_117 ok_X10_look iv_X10_look ⟨by decide, by decide⟩ (i1000 hI) rfl rfl rfl rfl (by decide) (k_X10_look hI v u N nr w nn x1 h.wz h.w8 h.p3 h.nz h.n12 h.lva) (fun r9 b9 u9 hq => ?_)
  obtain ⟨a9, hr, hb, ha⟩ := hq
  subst hr
  have h1 : RLp I ac m9 N nn nr NS w tp ar v b9 := h.ys (by rw [hb]; exact gZ.rf.kw)
  refine K_aload_n E.1 dL_law_1096 rfl 2 rfl ?_
  refine K_arg E (k := 1) dL_law_1097 dL_law_1098 dL_law_1100 dL_law_1101 dL_law_1102 (by omega) hn hx1 ?_
  refine L_call E (z := mX11_look) (o := 1100) (ci := 11) (As := [.int x1]) (rest := [.int a9]) dL_law_1103 ml_L_120 ok_X11_look iv_X11_look ⟨by decide, by decide⟩ (i1100 hI) rfl rfl rfl rfl (Nat.le_of_ble_eq_true rfl) (k_X11_look hI b9 u9 nr N nn h1.Ny h1.Wy h1.Ry h1.r16 h1.ny h1.n12 (fun i hi => ⟨_, h1.lfo hi⟩) x1) (fun r8 c8 u8 hq => ?_)
  obtain ⟨a8, hr8, -, hP8⟩ := hq
  subst hr8
  obtain ⟨e1, h2⟩ := s_look h1 x1 a9 a8 c8 ha hP8
  rw [← hb] at h2
  refine L_cmp E dL_law_1106 (by decide) e1 nx ⟨_, _, _, _, _, _, _, _, _, h2.zs ?_, hfr⟩
  by_cases c0 : 0 ≤ x1
  · rw [if_pos c0] at hP8; rw [hP8.2]; exact gY.o.kn
  · rw [if_neg c0] at hP8; rw [hP8.2]; exact gY.o
theorem lc_converts {l : Launch} {L : Nat → Nat} {cA : Nat → ClassId} {D : va_G} {A0 : Nat → Prop} {p : Program} {e : Env} {s : State} {m : MethodId} {below : List Frame} {meth : Method} {c : Code} {Z : State → Prop} {ce sl : Nat} {I : List Nat} {M : Nat → Nat → Bool} {v : fr_V} {u : fr_U} {b n t : Nat} {xs : Nat → Int32} (E : LE L cA D A0 p s m meth c b n xs ce sl I M) (ht : 6 * t + 5 < n) (hn : n ≤ 3072) (hRI : RI I v) (nx : NX l cA D A0 p e s m below meth c Z b n xs ce sl t) : KJ l room_1 mLaw L cA D A0 p e s m #[Value.ref b] below meth c Z ce sl [] I M v u 1166 (LV t) [] := by
  obtain ⟨ac, m9, N, nn, nr, NS, w, tp, ar, h, hfr⟩ := hRI
  have hI := E.2.2.2.2.2.1
  obtain ⟨x1, hx1⟩ : ∃ x, xs (6 * t + 1) = x := ⟨_, rfl⟩
  refine K_aload_n E.1 dL_law_1166 rfl 3 rfl ?_
  refine K_arg E (k := 1) dL_law_1167 dL_law_1168 dL_law_1170 dL_law_1171 dL_law_1172 (by omega) hn hx1 ?_
  refine L_call E (z := mX10_converts) (o := 1000) (ci := 10) (As := [.int x1]) (rest := []) dL_law_1173 ml_L_131 ok_X10_converts iv_X10_converts ⟨by decide, by decide⟩ (i1000 hI) rfl rfl rfl rfl (by decide) (k_X10_converts hI v u ac m9 N nn nr w x1 h.hac h.a1 h.ln h.wz h.w8 h.Nz h.Wz h.lf h.st2.1 h.rnK h.rnl) (fun r9 b9 u9 hq => ?_)
  obtain ⟨a9, hr, -, ha, hb⟩ := hq
  subst hr
  have h1 : RLp I ac m9 N nn nr NS w tp ar v b9 := h.ys (gz_conv hb)
  refine K_aload_n E.1 dL_law_1176 rfl 2 rfl ?_
  refine K_arg E (k := 1) dL_law_1177 dL_law_1178 dL_law_1180 dL_law_1181 dL_law_1182 (by omega) hn hx1 ?_
  refine L_call E (z := mX11_converts) (o := 1100) (ci := 11) (As := [.int x1]) (rest := [.int a9]) dL_law_1183 ml_L_134 ok_X11_converts iv_X11_converts ⟨by decide, by decide⟩ (i1100 hI) rfl rfl rfl rfl (Nat.le_of_ble_eq_true rfl) (k_X11_converts hI b9 u9 m9 N nn nr (fun r => (f_X11_ageIn b9 (b9 1111 r) (nI w)).toNatClampNeg) (fun r => (f_X11_ageIn b9 (b9 1112 r) (nI w)).toNatClampNeg) x1 h1.Ny h1.Wy h1.ny h1.n12 h1.Ry h1.r16 h1.my h1.m24 h1.st2.2 h1.rny) (fun r8 c8 u8 hq => ?_)
  obtain ⟨a8, hr8, -, ha8, hb8⟩ := hq
  subst hr8
  obtain ⟨e1, h2⟩ := s_conv h1 x1
  have h2 := h2 b9 hb
  rw [← hb8] at h2
  refine L_cmp E dL_law_1186 (by decide) ?_ nx ⟨_, _, _, _, _, _, _, _, _, h2.zs ?_, hfr⟩
  · rw [ha, ha8]; exact e1
  · rw [hb8]; exact gy_conv
theorem lc_count {l : Launch} {L : Nat → Nat} {cA : Nat → ClassId} {D : va_G} {A0 : Nat → Prop} {p : Program} {e : Env} {s : State} {m : MethodId} {below : List Frame} {meth : Method} {c : Code} {Z : State → Prop} {ce sl : Nat} {I : List Nat} {M : Nat → Nat → Bool} {v : fr_V} {u : fr_U} {b n t : Nat} {xs : Nat → Int32} (E : LE L cA D A0 p s m meth c b n xs ce sl I M) (ht : 6 * t + 5 < n) (hn : n ≤ 3072) (hRI : RI I v) (nx : NX l cA D A0 p e s m below meth c Z b n xs ce sl t) : KJ l room_1 mLaw L cA D A0 p e s m #[Value.ref b] below meth c Z ce sl [] I M v u 1191 (LV t) [] := by
  obtain ⟨ac, m9, N, nn, nr, NS, w, tp, ar, h, hfr⟩ := hRI
  have hI := E.2.2.2.2.2.1
  obtain ⟨x1, hx1⟩ : ∃ x, xs (6 * t + 1) = x := ⟨_, rfl⟩
  refine K_aload_n E.1 dL_law_1191 rfl 3 rfl ?_
  refine K_arg E (k := 1) dL_law_1192 dL_law_1193 dL_law_1195 dL_law_1196 dL_law_1197 (by omega) hn hx1 ?_
  refine L_call E (z := mX10_count) (o := 1000) (ci := 10) (As := [.int x1]) (rest := []) dL_law_1198 ml_L_135 ok_X10_count iv_X10_count ⟨by decide, by decide⟩ (i1000 hI) rfl rfl rfl rfl (by decide) (k_X10_count hI v u ac x1 h.hac h.a1) (fun r9 b9 u9 hq => ?_)
  obtain ⟨a9, hr, hb, -, ha⟩ := hq
  subst hr
  have h1 : RLp I ac m9 N nn nr NS w tp ar v b9 := by rw [hb]; exact h
  refine K_aload_n E.1 dL_law_1201 rfl 2 rfl ?_
  refine K_arg E (k := 1) dL_law_1202 dL_law_1203 dL_law_1205 dL_law_1206 dL_law_1207 (by omega) hn hx1 ?_
  refine L_call E (z := mX11_count) (o := 1100) (ci := 11) (As := [.int x1]) (rest := [.int a9]) dL_law_1208 ml_L_138 ok_X11_count iv_X11_count ⟨by decide, by decide⟩ (i1100 hI) rfl rfl rfl rfl (Nat.le_of_ble_eq_true rfl) (k_X11_count hI b9 u9 x1) (fun r8 c8 u8 hq => ?_)
  obtain ⟨a8, hr8, -, ha8, hb8⟩ := hq
  subst hr8
  obtain ⟨e1, h2⟩ := s_count h1 x1
  rw [← hb8] at h2
  have h2 : RLp I ac m9 N nn nr NS w tp ar b9 c8 := by rw [hb]; exact h2
  refine L_cmp E dL_law_1211 (by decide) ?_ nx ⟨_, _, _, _, _, _, _, _, _, h2.zs ?_, hfr⟩
  · rw [ha, ha8]; exact e1
  · rw [hb8]; exact gY.o
