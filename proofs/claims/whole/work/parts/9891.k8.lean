def tbV (v : fr_V) : fr_V := upA (upA (upA (upA v 910 (fl 900 (v 910) 10)) 911 (fl 900 (v 911) 10)) 912 (fl 900 (v 912) 10)) 913 (fl 900 (v 913) 10)
def wdU (f : Nat → Int32) (n : Nat) : Nat → Int32 := fun i => if i < n then wd i else f i
theorem wdU_0 (v : fr_V) : v = upA v 1123 (wdU (v 1123) 0) := by
  have e : wdU (v 1123) 0 = v 1123 := by funext i; unfold wdU; rw [if_neg (Nat.not_lt_zero i)]
  rw [e, upA_id]
theorem wdU_s (f : Nat → Int32) (n : Nat) : upd (wdU f n) n (wd n) = wdU f (n + 1) := by
  funext i
  unfold upd wdU
  by_cases e : i = n
  · rw [if_pos e, if_pos (by omega), e]
  · rw [if_neg e]
    by_cases h : i < n
    · rw [if_pos h, if_pos (by omega)]
    · rw [if_neg h, if_neg (by omega)]
section KWD
variable {l : Launch} {R : Room} {y : fr_M} {L : Nat → Nat} {cA : Nat → ClassId} {D : va_G} {A0 : Nat → Prop} {p : Program} {e : Env} {s : State} {m : MethodId} {args : Array Value} {below : List Frame} {meth : Method} {c : Code} {Z : State → Prop} {ce sl : Nat} {T I : List Nat} {M : Nat → Nat → Bool} {v : fr_V} {u : fr_U} {pc : Nat} {lv : List (Nat × Value)} {st : List Value}
theorem K_wd (C : KC L cA D A0 y p s m args meth c) {n : Nat} {x i : Int32} (d : decode y.2.1 pc = .ok (.iastore, 1)) (hk : 1123 ∈ I) (hn : n < 75) (hx : x = wd n) (hi : i = nI n) (kk : KJ l R y L cA D A0 p e s m args below meth c Z ce sl T I M (upA v 1123 (wdU (v 1123) (n + 1))) u (pc + 1) lv st) : KJ l R y L cA D A0 p e s m args below meth c Z ce sl T I M (upA v 1123 (wdU (v 1123) n)) u pc lv (.int x :: .int i :: .ref 1123 :: st) := by
  subst hx; subst hi
  refine K_iast (n := 75) C d hk rfl (vp_in_nI hn (by decide)) ?_
  rw [nI_clamp (by omega), up2_upA, wdU_s]
  exact kk
theorem K_t9 (C : KC L cA D A0 y p s m args meth c) {n : Nat} (d : decode y.2.1 pc = .ok (.iastore, 1)) (hk : 1122 ∈ I) (hn : n < 40) (kk : KJ l R y L cA D A0 p e s m args below meth c Z ce sl T I M (upA v 1122 (fl 900 (v 1122) (n + 1))) u (pc + 1) lv st) : KJ l R y L cA D A0 p e s m args below meth c Z ce sl T I M (upA v 1122 (fl 900 (v 1122) n)) u pc lv (.int 900 :: .int (nI n) :: .ref 1122 :: st) := by
  refine K_iast (n := 40) C d hk rfl (vp_in_nI hn (by decide)) ?_
  rw [nI_clamp (by omega), up2_upA]
  exact kk
end KWD
theorem c_X10 {l : Launch} {L : Nat → Nat} {cA : Nat → ClassId} {D : va_G} {I : List Nat} {M : Nat → Nat → Bool} {v : fr_V} {u : fr_U} (h8 : ∀ (I : List Nat) (M : Nat → Nat → Bool) (v : fr_V) (u : fr_U), 900 ∈ I → fresh [903, 910, 911, 912, 913, 906, 907] M v u → KCon l nX8_init 64 L cA D [903, 910, 911, 912, 913, 906, 907] I M v u [.ref 900, .ref 500, .ref 100] (mT M 900) (tbV v) u) (ho : 1000 ∈ I) (hf : fresh [600, 601, 10, 11, 13, 400, 401, 402, 403, 404, 405, 406, 407, 408, 409, 410, 411, 412, 413, 414, 415, 416, 417, 418, 419, 420, 421, 422, 423, 20, 21, 23, 430, 431, 432, 433, 434, 435, 436, 437, 438, 439, 440, 441, 442, 443, 444, 445, 446, 447, 448, 449, 450, 451, 452, 453, 500, 501, 502, 100, 102, 103, 104, 105, 108, 109, 110, 300, 302, 304, 305, 306, 307, 308, 310, 900, 903, 910, 911, 912, 913, 906, 907, 200, 201, 202, 203, 205, 210, 1010] M v u) : KCon l nX10_init 1760 L cA D [600, 601, 10, 11, 13, 400, 401, 402, 403, 404, 405, 406, 407, 408, 409, 410, 411, 412, 413, 414, 415, 416, 417, 418, 419, 420, 421, 422, 423, 20, 21, 23, 430, 431, 432, 433, 434, 435, 436, 437, 438, 439, 440, 441, 442, 443, 444, 445, 446, 447, 448, 449, 450, 451, 452, 453, 500, 501, 502, 100, 102, 103, 104, 105, 108, 109, 110, 300, 302, 304, 305, 306, 307, 308, 310, 900, 903, 910, 911, 912, 913, 906, 907, 200, 201, 202, 203, 205, 210, 1010] I M v u [.ref 1000] (mT (upM (upM (mT (upM (mT (upM (mT (upM (mT (upM (mT (mT (mT (mT (mT (upM (mT M 600) 1000 0) 11) 10) 21) 20) 500) 1000 4) 100) 1000 5) 300) 1000 6) 900) 1000 7) 200) 1000 8) 1000 9) 1000) (tbV (upA (up2 (up2 (f_clear20 (up2 (f_clear10 (up2 v 600 15 (-1))) 1000 1 10)) 1000 2 20) 100 6 (-1)) 110 (fl (-1) ((up2 (up2 (f_clear20 (up2 (f_clear10 (up2 v 600 15 (-1))) 1000 1 10)) 1000 2 20) 100 6 (-1)) 110) 12))) u := by
  refine KCon.of (by decide) (Nat.le_of_ble_eq_true rfl) (fun A0 p e s m as below meth c C hA hA2 => ?_)
  show KJ l _ _ L cA D A0 p e s m as below meth c _ 0 0 [600, 601, 10, 11, 13, 400, 401, 402, 403, 404, 405, 406, 407, 408, 409, 410, 411, 412, 413, 414, 415, 416, 417, 418, 419, 420, 421, 422, 423, 20, 21, 23, 430, 431, 432, 433, 434, 435, 436, 437, 438, 439, 440, 441, 442, 443, 444, 445, 446, 447, 448, 449, 450, 451, 452, 453, 500, 501, 502, 100, 102, 103, 104, 105, 108, 109, 110, 300, 302, 304, 305, 306, 307, 308, 310, 900, 903, 910, 911, 912, 913, 906, 907, 200, 201, 202, 203, 205, 210, 1010] I M v u 0 [(0, .ref 1000)] []
  refine K_aload_n C dX10_init_0 rfl 0 rfl ?_
  refine K_objInit C dX10_init_1 oi_X10_init oi_i oi_c ⟨Nat.le_of_ble_eq_true rfl, Nat.le_of_ble_eq_true rfl⟩ ?_
  refine K_aload_n C dX10_init_4 rfl 0 rfl ?_
  refine K_new (k := 600) (ci := 6) (n := 16) (ce' := 1) (sl' := 16) C dX10_init_5 rfl kl_X10_7 kn_X6 kz_X6 (by decide) rfl (hf.m (T := [600, 601, 10, 11, 13, 400, 401, 402, 403, 404, 405, 406, 407, 408, 409, 410, 411, 412, 413, 414, 415, 416, 417, 418, 419, 420, 421, 422, 423, 20, 21, 23, 430, 431, 432, 433, 434, 435, 436, 437, 438, 439, 440, 441, 442, 443, 444, 445, 446, 447, 448, 449, 450, 451, 452, 453, 500, 501, 502, 100, 102, 103, 104, 105, 108, 109, 110, 300, 302, 304, 305, 306, 307, 308, 310, 900, 903, 910, 911, 912, 913, 906, 907, 200, 201, 202, 203, 205, 210, 1010]) (by decide) rfl (by decide)) (fun j => (hf 600 (by decide)).1 j) rfl rfl rfl ⟨by decide, by decide⟩ ?_
  refine K_dup C dX10_init_8 rfl ?_
  refine K_callI (z := nX6_init) (o := 600) (ms := 500) (ce' := 2) (sl' := 516) (As := []) (rest := [.ref 600, .ref 1000]) (T1 := [601]) (T := [10, 11, 13, 400, 401, 402, 403, 404, 405, 406, 407, 408, 409, 410, 411, 412, 413, 414, 415, 416, 417, 418, 419, 420, 421, 422, 423, 20, 21, 23, 430, 431, 432, 433, 434, 435, 436, 437, 438, 439, 440, 441, 442, 443, 444, 445, 446, 447, 448, 449, 450, 451, 452, 453, 500, 501, 502, 100, 102, 103, 104, 105, 108, 109, 110, 300, 302, 304, 305, 306, 307, 308, 310, 900, 903, 910, 911, 912, 913, 906, 907, 200, 201, 202, 203, 205, 210, 1010]) C dX10_init_9 (Or.inr ⟨_, C.2.2.2.2.2.2.2.1.2.2.2.2.2.2.2.2.2.1⟩) ok_X6_init rfl rfl iv_X6_init ⟨Nat.le_of_ble_eq_true rfl, Nat.le_of_ble_eq_true rfl⟩ rfl rfl ⟨by decide, by decide⟩ rfl rfl (Nat.le_of_ble_eq_true rfl) (c_X6 (List.mem_append_right _ (by decide)) ((hf.sub (by decide)).c (List.forall_mem_cons.mpr ⟨⟨rfl, rfl, rfl⟩, (fun _ h => absurd h List.not_mem_nil)⟩))) ?_
  refine K_putr (ci := 10) (j := 0) (t := 600) C dX10_init_12 fl_X10_10 (List.mem_append_left _ (List.mem_append_left _ ho)) rfl rfl rfl ⟨rfl, fun q h => by cases h; exact ⟨rfl, rfl⟩⟩ rfl rfl ?_
  refine K_aload_n C dX10_init_15 rfl 0 rfl ?_
  refine K_new (k := 10) (ci := 0) (n := 3) (ce' := 3) (sl' := 519) C dX10_init_16 rfl kl_X10_16 kn_X0 kz_X0 (by decide) rfl (hf.m (T := [600, 601, 10, 11, 13, 400, 401, 402, 403, 404, 405, 406, 407, 408, 409, 410, 411, 412, 413, 414, 415, 416, 417, 418, 419, 420, 421, 422, 423, 20, 21, 23, 430, 431, 432, 433, 434, 435, 436, 437, 438, 439, 440, 441, 442, 443, 444, 445, 446, 447, 448, 449, 450, 451, 452, 453, 500, 501, 502, 100, 102, 103, 104, 105, 108, 109, 110, 300, 302, 304, 305, 306, 307, 308, 310, 900, 903, 910, 911, 912, 913, 906, 907, 200, 201, 202, 203, 205, 210, 1010]) (by decide) rfl (by decide)) (fun j => (hf 10 (by decide)).1 j) rfl rfl rfl ⟨by decide, by decide⟩ ?_
  refine K_dup C dX10_init_19 rfl ?_
  refine K_callI (z := nX0_init) (o := 10) (ms := 220) (ce' := 29) (sl' := 739) (As := []) (rest := [.ref 10, .ref 1000]) (T1 := [11, 13, 400, 401, 402, 403, 404, 405, 406, 407, 408, 409, 410, 411, 412, 413, 414, 415, 416, 417, 418, 419, 420, 421, 422, 423]) (T := [20, 21, 23, 430, 431, 432, 433, 434, 435, 436, 437, 438, 439, 440, 441, 442, 443, 444, 445, 446, 447, 448, 449, 450, 451, 452, 453, 500, 501, 502, 100, 102, 103, 104, 105, 108, 109, 110, 300, 302, 304, 305, 306, 307, 308, 310, 900, 903, 910, 911, 912, 913, 906, 907, 200, 201, 202, 203, 205, 210, 1010]) C dX10_init_20 (Or.inl ml_X10_18) ok_X0_init rfl rfl iv_X0_init ⟨Nat.le_of_ble_eq_true rfl, Nat.le_of_ble_eq_true rfl⟩ rfl rfl ⟨by decide, by decide⟩ rfl rfl (Nat.le_of_ble_eq_true rfl) (c_X0a (List.mem_append_right _ (by decide)) ((hf.sub (by decide)).c (List.forall_mem_cons.mpr ⟨⟨rfl, rfl, rfl⟩, (List.forall_mem_cons.mpr ⟨⟨rfl, rfl, rfl⟩, (List.forall_mem_cons.mpr ⟨⟨rfl, rfl, rfl⟩, (List.forall_mem_cons.mpr ⟨⟨rfl, rfl, rfl⟩, (List.forall_mem_cons.mpr ⟨⟨rfl, rfl, rfl⟩, (List.forall_mem_cons.mpr ⟨⟨rfl, rfl, rfl⟩, (List.forall_mem_cons.mpr ⟨⟨rfl, rfl, rfl⟩, (List.forall_mem_cons.mpr ⟨⟨rfl, rfl, rfl⟩, (List.forall_mem_cons.mpr ⟨⟨rfl, rfl, rfl⟩, (List.forall_mem_cons.mpr ⟨⟨rfl, rfl, rfl⟩, (List.forall_mem_cons.mpr ⟨⟨rfl, rfl, rfl⟩, (List.forall_mem_cons.mpr ⟨⟨rfl, rfl, rfl⟩, (List.forall_mem_cons.mpr ⟨⟨rfl, rfl, rfl⟩, (List.forall_mem_cons.mpr ⟨⟨rfl, rfl, rfl⟩, (List.forall_mem_cons.mpr ⟨⟨rfl, rfl, rfl⟩, (List.forall_mem_cons.mpr ⟨⟨rfl, rfl, rfl⟩, (List.forall_mem_cons.mpr ⟨⟨rfl, rfl, rfl⟩, (List.forall_mem_cons.mpr ⟨⟨rfl, rfl, rfl⟩, (List.forall_mem_cons.mpr ⟨⟨rfl, rfl, rfl⟩, (List.forall_mem_cons.mpr ⟨⟨rfl, rfl, rfl⟩, (List.forall_mem_cons.mpr ⟨⟨rfl, rfl, rfl⟩, (List.forall_mem_cons.mpr ⟨⟨rfl, rfl, rfl⟩, (List.forall_mem_cons.mpr ⟨⟨rfl, rfl, rfl⟩, (List.forall_mem_cons.mpr ⟨⟨rfl, rfl, rfl⟩, (List.forall_mem_cons.mpr ⟨⟨rfl, rfl, rfl⟩, (List.forall_mem_cons.mpr ⟨⟨rfl, rfl, rfl⟩, (fun _ h => absurd h List.not_mem_nil)⟩)⟩)⟩)⟩)⟩)⟩)⟩)⟩)⟩)⟩)⟩)⟩)⟩)⟩)⟩)⟩)⟩)⟩)⟩)⟩)⟩)⟩)⟩)⟩)⟩)⟩))) ?_
  refine K_putd (ci := 10) (j := 1) (t := 10) (x := 10) C dX10_init_23 fl_X10_19 (List.mem_append_left _ (List.mem_append_left _ (List.mem_append_left _ (List.mem_append_left _ ho)))) rfl rfl (by decide) (by decide) (fun q h => by cases h; rfl) rfl rfl ?_
  refine K_aload_n C dX10_init_26 rfl 0 rfl ?_
  refine K_new (k := 20) (ci := 0) (n := 3) (ce' := 30) (sl' := 742) C dX10_init_27 rfl kl_X10_16 kn_X0 kz_X0 (by decide) rfl (hf.m (T := [600, 601, 10, 11, 13, 400, 401, 402, 403, 404, 405, 406, 407, 408, 409, 410, 411, 412, 413, 414, 415, 416, 417, 418, 419, 420, 421, 422, 423, 20, 21, 23, 430, 431, 432, 433, 434, 435, 436, 437, 438, 439, 440, 441, 442, 443, 444, 445, 446, 447, 448, 449, 450, 451, 452, 453, 500, 501, 502, 100, 102, 103, 104, 105, 108, 109, 110, 300, 302, 304, 305, 306, 307, 308, 310, 900, 903, 910, 911, 912, 913, 906, 907, 200, 201, 202, 203, 205, 210, 1010]) (by decide) rfl (by decide)) (fun j => (hf 20 (by decide)).1 j) rfl rfl rfl ⟨by decide, by decide⟩ ?_
  refine K_dup C dX10_init_30 rfl ?_
  refine K_callI (z := nX0_init) (o := 20) (ms := 220) (ce' := 56) (sl' := 962) (As := []) (rest := [.ref 20, .ref 1000]) (T1 := [21, 23, 430, 431, 432, 433, 434, 435, 436, 437, 438, 439, 440, 441, 442, 443, 444, 445, 446, 447, 448, 449, 450, 451, 452, 453]) (T := [500, 501, 502, 100, 102, 103, 104, 105, 108, 109, 110, 300, 302, 304, 305, 306, 307, 308, 310, 900, 903, 910, 911, 912, 913, 906, 907, 200, 201, 202, 203, 205, 210, 1010]) C dX10_init_31 (Or.inl ml_X10_18) ok_X0_init rfl rfl iv_X0_init ⟨Nat.le_of_ble_eq_true rfl, Nat.le_of_ble_eq_true rfl⟩ rfl rfl ⟨by decide, by decide⟩ rfl rfl (Nat.le_of_ble_eq_true rfl) (c_X0b (List.mem_append_right _ (by decide)) ((hf.sub (by decide)).c (List.forall_mem_cons.mpr ⟨⟨rfl, rfl, rfl⟩, (List.forall_mem_cons.mpr ⟨⟨rfl, rfl, rfl⟩, (List.forall_mem_cons.mpr ⟨⟨rfl, rfl, rfl⟩, (List.forall_mem_cons.mpr ⟨⟨rfl, rfl, rfl⟩, (List.forall_mem_cons.mpr ⟨⟨rfl, rfl, rfl⟩, (List.forall_mem_cons.mpr ⟨⟨rfl, rfl, rfl⟩, (List.forall_mem_cons.mpr ⟨⟨rfl, rfl, rfl⟩, (List.forall_mem_cons.mpr ⟨⟨rfl, rfl, rfl⟩, (List.forall_mem_cons.mpr ⟨⟨rfl, rfl, rfl⟩, (List.forall_mem_cons.mpr ⟨⟨rfl, rfl, rfl⟩, (List.forall_mem_cons.mpr ⟨⟨rfl, rfl, rfl⟩, (List.forall_mem_cons.mpr ⟨⟨rfl, rfl, rfl⟩, (List.forall_mem_cons.mpr ⟨⟨rfl, rfl, rfl⟩, (List.forall_mem_cons.mpr ⟨⟨rfl, rfl, rfl⟩, (List.forall_mem_cons.mpr ⟨⟨rfl, rfl, rfl⟩, (List.forall_mem_cons.mpr ⟨⟨rfl, rfl, rfl⟩, (List.forall_mem_cons.mpr ⟨⟨rfl, rfl, rfl⟩, (List.forall_mem_cons.mpr ⟨⟨rfl, rfl, rfl⟩, (List.forall_mem_cons.mpr ⟨⟨rfl, rfl, rfl⟩, (List.forall_mem_cons.mpr ⟨⟨rfl, rfl, rfl⟩, (List.forall_mem_cons.mpr ⟨⟨rfl, rfl, rfl⟩, (List.forall_mem_cons.mpr ⟨⟨rfl, rfl, rfl⟩, (List.forall_mem_cons.mpr ⟨⟨rfl, rfl, rfl⟩, (List.forall_mem_cons.mpr ⟨⟨rfl, rfl, rfl⟩, (List.forall_mem_cons.mpr ⟨⟨rfl, rfl, rfl⟩, (List.forall_mem_cons.mpr ⟨⟨rfl, rfl, rfl⟩, (fun _ h => absurd h List.not_mem_nil)⟩)⟩)⟩)⟩)⟩)⟩)⟩)⟩)⟩)⟩)⟩)⟩)⟩)⟩)⟩)⟩)⟩)⟩)⟩)⟩)⟩)⟩)⟩)⟩)⟩)⟩))) ?_
  refine K_putd (ci := 10) (j := 2) (t := 20) (x := 20) C dX10_init_34 fl_X10_23 (List.mem_append_left _ (List.mem_append_left _ (List.mem_append_left _ (List.mem_append_left _ (List.mem_append_left _ (List.mem_append_left _ ho)))))) rfl rfl (by decide) (by decide) (fun q h => by cases h; rfl) rfl rfl ?_
  refine K_aload_n C dX10_init_37 rfl 0 rfl ?_
  refine K_new (k := 500) (ci := 5) (n := 3) (ce' := 57) (sl' := 965) C dX10_init_38 rfl kl_X10_26 kn_X5 kz_X5 (by decide) rfl (hf.m (T := [600, 601, 10, 11, 13, 400, 401, 402, 403, 404, 405, 406, 407, 408, 409, 410, 411, 412, 413, 414, 415, 416, 417, 418, 419, 420, 421, 422, 423, 20, 21, 23, 430, 431, 432, 433, 434, 435, 436, 437, 438, 439, 440, 441, 442, 443, 444, 445, 446, 447, 448, 449, 450, 451, 452, 453, 500, 501, 502, 100, 102, 103, 104, 105, 108, 109, 110, 300, 302, 304, 305, 306, 307, 308, 310, 900, 903, 910, 911, 912, 913, 906, 907, 200, 201, 202, 203, 205, 210, 1010]) (by decide) rfl (by decide)) (fun j => (hf 500 (by decide)).1 j) rfl rfl rfl ⟨by decide, by decide⟩ ?_
  refine K_dup C dX10_init_41 rfl ?_
  refine K_callI (z := nX5_init) (o := 500) (ms := 24) (ce' := 59) (sl' := 989) (As := []) (rest := [.ref 500, .ref 1000]) (T1 := [501, 502]) (T := [100, 102, 103, 104, 105, 108, 109, 110, 300, 302, 304, 305, 306, 307, 308, 310, 900, 903, 910, 911, 912, 913, 906, 907, 200, 201, 202, 203, 205, 210, 1010]) C dX10_init_42 (Or.inr ⟨_, C.2.2.2.2.2.2.2.1.2.2.2.2.2.2.2.2.2.2.2.2.1⟩) ok_X5_init rfl rfl iv_X5_init ⟨Nat.le_of_ble_eq_true rfl, Nat.le_of_ble_eq_true rfl⟩ rfl rfl ⟨by decide, by decide⟩ rfl rfl (Nat.le_of_ble_eq_true rfl) (c_X5 (List.mem_append_right _ (by decide)) ((hf.sub (by decide)).c (List.forall_mem_cons.mpr ⟨⟨rfl, rfl, rfl⟩, (List.forall_mem_cons.mpr ⟨⟨rfl, rfl, rfl⟩, (fun _ h => absurd h List.not_mem_nil)⟩)⟩))) ?_
  refine K_putr (ci := 10) (j := 4) (t := 500) C dX10_init_45 fl_X10_29 (List.mem_append_left _ (List.mem_append_left _ (List.mem_append_left _ (List.mem_append_left _ (List.mem_append_left _ (List.mem_append_left _ (List.mem_append_left _ (List.mem_append_left _ ho)))))))) rfl rfl rfl ⟨rfl, fun q h => by cases h; exact ⟨rfl, rfl⟩⟩ rfl rfl ?_
  refine K_aload_n C dX10_init_48 rfl 0 rfl ?_
  refine K_new (k := 100) (ci := 1) (n := 10) (ce' := 60) (sl' := 999) C dX10_init_49 rfl kl_X10_33 kn_X1 kz_X1 (by decide) rfl (hf.m (T := [600, 601, 10, 11, 13, 400, 401, 402, 403, 404, 405, 406, 407, 408, 409, 410, 411, 412, 413, 414, 415, 416, 417, 418, 419, 420, 421, 422, 423, 20, 21, 23, 430, 431, 432, 433, 434, 435, 436, 437, 438, 439, 440, 441, 442, 443, 444, 445, 446, 447, 448, 449, 450, 451, 452, 453, 500, 501, 502, 100, 102, 103, 104, 105, 108, 109, 110, 300, 302, 304, 305, 306, 307, 308, 310, 900, 903, 910, 911, 912, 913, 906, 907, 200, 201, 202, 203, 205, 210, 1010]) (by decide) rfl (by decide)) (fun j => (hf 100 (by decide)).1 j) rfl rfl rfl ⟨by decide, by decide⟩ ?_
  refine K_dup C dX10_init_52 rfl ?_
  refine K_aload_n C dX10_init_53 rfl 0 rfl ?_
  refine K_getr (ci := 10) (j := 4) (t := 500) C dX10_init_54 fl_X10_29 (List.mem_append_left _ (List.mem_append_left _ (List.mem_append_left _ (List.mem_append_left _ (List.mem_append_left _ (List.mem_append_left _ (List.mem_append_left _ (List.mem_append_left _ (List.mem_append_left _ ho))))))))) rfl rfl rfl rfl ?_
  refine K_callI (z := nX1_init) (o := 100) (ms := 372) (ce' := 67) (sl' := 1371) (As := [.ref 500]) (rest := [.ref 100, .ref 1000]) (T1 := [102, 103, 104, 105, 108, 109, 110]) (T := [300, 302, 304, 305, 306, 307, 308, 310, 900, 903, 910, 911, 912, 913, 906, 907, 200, 201, 202, 203, 205, 210, 1010]) C dX10_init_57 (Or.inl ml_X10_35) ok_X1_init rfl rfl iv_X1_init ⟨Nat.le_of_ble_eq_true rfl, Nat.le_of_ble_eq_true rfl⟩ rfl rfl ⟨by decide, by decide⟩ rfl rfl (Nat.le_of_ble_eq_true rfl) (c_X1 (List.mem_append_right _ (by decide)) ((hf.sub (by decide)).c (List.forall_mem_cons.mpr ⟨⟨rfl, rfl, rfl⟩, (List.forall_mem_cons.mpr ⟨⟨rfl, rfl, rfl⟩, (List.forall_mem_cons.mpr ⟨⟨rfl, rfl, rfl⟩, (List.forall_mem_cons.mpr ⟨⟨rfl, rfl, rfl⟩, (List.forall_mem_cons.mpr ⟨⟨rfl, rfl, rfl⟩, (List.forall_mem_cons.mpr ⟨⟨rfl, rfl, rfl⟩, (List.forall_mem_cons.mpr ⟨⟨rfl, rfl, rfl⟩, (fun _ h => absurd h List.not_mem_nil)⟩)⟩)⟩)⟩)⟩)⟩)⟩))) ?_
  refine K_putr (ci := 10) (j := 5) (t := 100) C dX10_init_60 fl_X10_38 (List.mem_append_left _ (List.mem_append_left _ (List.mem_append_left _ (List.mem_append_left _ (List.mem_append_left _ (List.mem_append_left _ (List.mem_append_left _ (List.mem_append_left _ (List.mem_append_left _ (List.mem_append_left _ ho)))))))))) rfl rfl rfl ⟨rfl, fun q h => by cases h; exact ⟨rfl, rfl⟩⟩ rfl rfl ?_
  refine K_aload_n C dX10_init_63 rfl 0 rfl ?_
  refine K_new (k := 300) (ci := 3) (n := 11) (ce' := 68) (sl' := 1382) C dX10_init_64 rfl kl_X10_42 kn_X3 kz_X3 (by decide) rfl (hf.m (T := [600, 601, 10, 11, 13, 400, 401, 402, 403, 404, 405, 406, 407, 408, 409, 410, 411, 412, 413, 414, 415, 416, 417, 418, 419, 420, 421, 422, 423, 20, 21, 23, 430, 431, 432, 433, 434, 435, 436, 437, 438, 439, 440, 441, 442, 443, 444, 445, 446, 447, 448, 449, 450, 451, 452, 453, 500, 501, 502, 100, 102, 103, 104, 105, 108, 109, 110, 300, 302, 304, 305, 306, 307, 308, 310, 900, 903, 910, 911, 912, 913, 906, 907, 200, 201, 202, 203, 205, 210, 1010]) (by decide) rfl (by decide)) (fun j => (hf 300 (by decide)).1 j) rfl rfl rfl ⟨by decide, by decide⟩ ?_
  refine K_dup C dX10_init_67 rfl ?_
  refine K_aload_n C dX10_init_68 rfl 0 rfl ?_
  refine K_getr (ci := 10) (j := 5) (t := 100) C dX10_init_69 fl_X10_38 (List.mem_append_left _ (List.mem_append_left _ (List.mem_append_left _ (List.mem_append_left _ (List.mem_append_left _ (List.mem_append_left _ (List.mem_append_left _ (List.mem_append_left _ (List.mem_append_left _ (List.mem_append_left _ (List.mem_append_left _ ho))))))))))) rfl rfl rfl rfl ?_
  refine K_callI (z := nX3_init) (o := 300) (ms := 224) (ce' := 75) (sl' := 1606) (As := [.ref 100]) (rest := [.ref 300, .ref 1000]) (T1 := [302, 304, 305, 306, 307, 308, 310]) (T := [900, 903, 910, 911, 912, 913, 906, 907, 200, 201, 202, 203, 205, 210, 1010]) C dX10_init_72 (Or.inl ml_X10_44) ok_X3_init rfl rfl iv_X3_init ⟨Nat.le_of_ble_eq_true rfl, Nat.le_of_ble_eq_true rfl⟩ rfl rfl ⟨by decide, by decide⟩ rfl rfl (Nat.le_of_ble_eq_true rfl) (c_X3 (List.mem_append_right _ (by decide)) ((hf.sub (by decide)).c (List.forall_mem_cons.mpr ⟨⟨rfl, rfl, rfl⟩, (List.forall_mem_cons.mpr ⟨⟨rfl, rfl, rfl⟩, (List.forall_mem_cons.mpr ⟨⟨rfl, rfl, rfl⟩, (List.forall_mem_cons.mpr ⟨⟨rfl, rfl, rfl⟩, (List.forall_mem_cons.mpr ⟨⟨rfl, rfl, rfl⟩, (List.forall_mem_cons.mpr ⟨⟨rfl, rfl, rfl⟩, (List.forall_mem_cons.mpr ⟨⟨rfl, rfl, rfl⟩, (fun _ h => absurd h List.not_mem_nil)⟩)⟩)⟩)⟩)⟩)⟩)⟩))) ?_
  refine K_putr (ci := 10) (j := 6) (t := 300) C dX10_init_75 fl_X10_47 (List.mem_append_left _ (List.mem_append_left _ (List.mem_append_left _ (List.mem_append_left _ (List.mem_append_left _ (List.mem_append_left _ (List.mem_append_left _ (List.mem_append_left _ (List.mem_append_left _ (List.mem_append_left _ (List.mem_append_left _ (List.mem_append_left _ ho)))))))))))) rfl rfl rfl ⟨rfl, fun q h => by cases h; exact ⟨rfl, rfl⟩⟩ rfl rfl ?_
  refine K_aload_n C dX10_init_78 rfl 0 rfl ?_
  refine K_new (k := 900) (ci := 8) (n := 7) (ce' := 76) (sl' := 1613) C dX10_init_79 rfl kl_X10_51 kn_X8 kz_X8 (by decide) rfl (hf.m (T := [600, 601, 10, 11, 13, 400, 401, 402, 403, 404, 405, 406, 407, 408, 409, 410, 411, 412, 413, 414, 415, 416, 417, 418, 419, 420, 421, 422, 423, 20, 21, 23, 430, 431, 432, 433, 434, 435, 436, 437, 438, 439, 440, 441, 442, 443, 444, 445, 446, 447, 448, 449, 450, 451, 452, 453, 500, 501, 502, 100, 102, 103, 104, 105, 108, 109, 110, 300, 302, 304, 305, 306, 307, 308, 310, 900, 903, 910, 911, 912, 913, 906, 907, 200, 201, 202, 203, 205, 210, 1010]) (by decide) rfl (by decide)) (fun j => (hf 900 (by decide)).1 j) rfl rfl rfl ⟨by decide, by decide⟩ ?_
  refine K_dup C dX10_init_82 rfl ?_
  refine K_aload_n C dX10_init_83 rfl 0 rfl ?_
  refine K_getr (ci := 10) (j := 4) (t := 500) C dX10_init_84 fl_X10_29 (List.mem_append_left _ (List.mem_append_left _ (List.mem_append_left _ (List.mem_append_left _ (List.mem_append_left _ (List.mem_append_left _ (List.mem_append_left _ (List.mem_append_left _ (List.mem_append_left _ (List.mem_append_left _ (List.mem_append_left _ (List.mem_append_left _ (List.mem_append_left _ ho))))))))))))) rfl rfl rfl rfl ?_
  refine K_aload_n C dX10_init_87 rfl 0 rfl ?_
  refine K_getr (ci := 10) (j := 5) (t := 100) C dX10_init_88 fl_X10_38 (List.mem_append_left _ (List.mem_append_left _ (List.mem_append_left _ (List.mem_append_left _ (List.mem_append_left _ (List.mem_append_left _ (List.mem_append_left _ (List.mem_append_left _ (List.mem_append_left _ (List.mem_append_left _ (List.mem_append_left _ (List.mem_append_left _ (List.mem_append_left _ ho))))))))))))) rfl rfl rfl rfl ?_
  refine K_callI (z := nX8_init) (o := 900) (ms := 64) (ce' := 83) (sl' := 1677) (As := [.ref 500, .ref 100]) (rest := [.ref 900, .ref 1000]) (T1 := [903, 910, 911, 912, 913, 906, 907]) (T := [200, 201, 202, 203, 205, 210, 1010]) C dX10_init_91 (Or.inl ml_X10_53) ok_X8_init rfl rfl iv_X8_init ⟨Nat.le_of_ble_eq_true rfl, Nat.le_of_ble_eq_true rfl⟩ rfl rfl ⟨by decide, by decide⟩ rfl rfl (Nat.le_of_ble_eq_true rfl) (h8 _ _ _ _ (List.mem_append_right _ (by decide)) ((hf.sub (by decide)).c (List.forall_mem_cons.mpr ⟨⟨rfl, rfl, rfl⟩, (List.forall_mem_cons.mpr ⟨⟨rfl, rfl, rfl⟩, (List.forall_mem_cons.mpr ⟨⟨rfl, rfl, rfl⟩, (List.forall_mem_cons.mpr ⟨⟨rfl, rfl, rfl⟩, (List.forall_mem_cons.mpr ⟨⟨rfl, rfl, rfl⟩, (List.forall_mem_cons.mpr ⟨⟨rfl, rfl, rfl⟩, (List.forall_mem_cons.mpr ⟨⟨rfl, rfl, rfl⟩, (fun _ h => absurd h List.not_mem_nil)⟩)⟩)⟩)⟩)⟩)⟩)⟩))) ?_
  refine K_putr (ci := 10) (j := 7) (t := 900) C dX10_init_94 fl_X10_56 (List.mem_append_left _ (List.mem_append_left _ (List.mem_append_left _ (List.mem_append_left _ (List.mem_append_left _ (List.mem_append_left _ (List.mem_append_left _ (List.mem_append_left _ (List.mem_append_left _ (List.mem_append_left _ (List.mem_append_left _ (List.mem_append_left _ (List.mem_append_left _ (List.mem_append_left _ ho)))))))))))))) rfl rfl rfl ⟨rfl, fun q h => by cases h; exact ⟨rfl, rfl⟩⟩ rfl rfl ?_
  refine K_aload_n C dX10_init_97 rfl 0 rfl ?_
  refine K_new (k := 200) (ci := 2) (n := 11) (ce' := 84) (sl' := 1688) C dX10_init_98 rfl kl_X10_60 kn_X2 kz_X2 (by decide) rfl (hf.m (T := [600, 601, 10, 11, 13, 400, 401, 402, 403, 404, 405, 406, 407, 408, 409, 410, 411, 412, 413, 414, 415, 416, 417, 418, 419, 420, 421, 422, 423, 20, 21, 23, 430, 431, 432, 433, 434, 435, 436, 437, 438, 439, 440, 441, 442, 443, 444, 445, 446, 447, 448, 449, 450, 451, 452, 453, 500, 501, 502, 100, 102, 103, 104, 105, 108, 109, 110, 300, 302, 304, 305, 306, 307, 308, 310, 900, 903, 910, 911, 912, 913, 906, 907, 200, 201, 202, 203, 205, 210, 1010]) (by decide) rfl (by decide)) (fun j => (hf 200 (by decide)).1 j) rfl rfl rfl ⟨by decide, by decide⟩ ?_
  refine K_dup C dX10_init_101 rfl ?_
  refine K_callI (z := nX2_init) (o := 200) (ms := 60) (ce' := 89) (sl' := 1748) (As := []) (rest := [.ref 200, .ref 1000]) (T1 := [201, 202, 203, 205, 210]) (T := [1010]) C dX10_init_102 (Or.inr ⟨_, C.2.2.2.2.2.2.2.1.2.2.2.2.2.2.2.2.2.2.2.2.2.1⟩) ok_X2_init rfl rfl iv_X2_init ⟨Nat.le_of_ble_eq_true rfl, Nat.le_of_ble_eq_true rfl⟩ rfl rfl ⟨by decide, by decide⟩ rfl rfl (Nat.le_of_ble_eq_true rfl) (c_X2 (List.mem_append_right _ (by decide)) ((hf.sub (by decide)).c (List.forall_mem_cons.mpr ⟨⟨rfl, rfl, rfl⟩, (List.forall_mem_cons.mpr ⟨⟨rfl, rfl, rfl⟩, (List.forall_mem_cons.mpr ⟨⟨rfl, rfl, rfl⟩, (List.forall_mem_cons.mpr ⟨⟨rfl, rfl, rfl⟩, (List.forall_mem_cons.mpr ⟨⟨rfl, rfl, rfl⟩, (fun _ h => absurd h List.not_mem_nil)⟩)⟩)⟩)⟩)⟩))) ?_
  refine K_putr (ci := 10) (j := 8) (t := 200) C dX10_init_105 fl_X10_63 (List.mem_append_left _ (List.mem_append_left _ (List.mem_append_left _ (List.mem_append_left _ (List.mem_append_left _ (List.mem_append_left _ (List.mem_append_left _ (List.mem_append_left _ (List.mem_append_left _ (List.mem_append_left _ (List.mem_append_left _ (List.mem_append_left _ (List.mem_append_left _ (List.mem_append_left _ (List.mem_append_left _ (List.mem_append_left _ ho)))))))))))))))) rfl rfl rfl ⟨rfl, fun q h => by cases h; exact ⟨rfl, rfl⟩⟩ rfl rfl ?_
  refine K_aload_n C dX10_init_108 rfl 0 rfl ?_
  refine K_bipush (x := 12) C dX10_init_109 (by decide) ?_
  refine K_newa_long (k := 1010) (n := 12) (ce' := 90) (sl' := 1760) C dX10_init_111 aw_long rfl (fun j => (hf 1010 (by decide)).2.1 j) (by decide) (by decide) (by decide) rfl rfl ⟨by decide, by decide⟩ ?_
  refine K_putr (ci := 10) (j := 9) (t := 1010) C dX10_init_113 fl_X10_67 (List.mem_append_left _ (List.mem_append_left _ (List.mem_append_left _ (List.mem_append_left _ (List.mem_append_left _ (List.mem_append_left _ (List.mem_append_left _ (List.mem_append_left _ (List.mem_append_left _ (List.mem_append_left _ (List.mem_append_left _ (List.mem_append_left _ (List.mem_append_left _ (List.mem_append_left _ (List.mem_append_left _ (List.mem_append_left _ (List.mem_append_left _ ho))))))))))))))))) rfl rfl rfl ⟨rfl, fun q h => by cases h; exact ⟨rfl, rfl⟩⟩ rfl rfl ?_
  refine K_full (o := 1000) (ci := 10) rfl (by decide) (fun j hj h1 => ?_) ?_
  · rcases (show j = 0 ∨ j = 1 ∨ j = 2 ∨ j = 3 ∨ j = 4 ∨ j = 5 ∨ j = 6 ∨ j = 7 ∨ j = 8 ∨ j = 9 from by have h9 : j < 10 := hj; omega) with rfl | rfl | rfl | rfl | rfl | rfl | rfl | rfl | rfl | rfl
    all_goals first | rfl | exact absurd h1 (by decide)
  exact K_vret C dX10_init_116 rfl (by simp only [List.append_assoc, List.cons_append, List.nil_append, List.append_nil]) (fun _ _ => rfl) (fun _ _ => rfl) (fun _ _ => rfl)
theorem nd11 : ∀ (i j k : Nat), ([1100, 1131, 1132, 1133, 1134, 1135, 1136, 1137, 1138, 1141, 1142] : List Nat)[i]? = some k → ([1100, 1131, 1132, 1133, 1134, 1135, 1136, 1137, 1138, 1141, 1142] : List Nat)[j]? = some k → i = j := by
  have nd : ([1100, 1131, 1132, 1133, 1134, 1135, 1136, 1137, 1138, 1141, 1142] : List Nat).Nodup := by decide
  intro i j k hi hj
  have h1 := (List.getElem?_eq_some_iff.mp hi).1
  exact (List.getElem?_inj h1 nd).mp (hi.trans hj.symm)
theorem plain_o {v : fr_V} {k : Nat} (h : k ∉ [1100, 1131, 1132, 1133, 1134, 1135, 1136, 1137, 1138, 1141, 1142]) : f_plain v k = v k := by
  have n1 : k ≠ 1100 := fun e => h (by rw [e]; decide)
  have n2 : k ≠ 1141 := fun e => h (by rw [e]; decide)
  have n3 : k ≠ 1142 := fun e => h (by rw [e]; decide)
  unfold f_plain
  rw [up2_ne n1]
  have q : ∀ (w0 : fr_V) n, pl_a w0 n k = w0 k := by
    intro w0 n
    induction n with
    | zero => rfl
    | succ n ih => rw [pl_a_s]; unfold pl_a_t; rw [up2_ne n3]; exact ih
  rw [q, up2_ne n2, up2_ne n2, up2_ne n2, up2_ne n2]
theorem keep_o {v : fr_V} {k : Nat} (h : k ∉ [1100, 1131, 1132, 1133, 1134, 1135, 1136, 1137, 1138, 1141, 1142]) : f_keep v 0 k = v k := by
  have n1 : k ≠ 1100 := fun e => h (by rw [e]; decide)
  have n2 : k ≠ 1141 := fun e => h (by rw [e]; decide)
  show up2 (kp_a v 4) 1100 38 _ k = _
  rw [up2_ne n1]
  have q : ∀ (w0 : fr_V) n, kp_a w0 n k = w0 k := by
    intro w0 n
    induction n with
    | zero => rfl
    | succ n ih => rw [kp_a_s]; unfold kp_a_t; rw [up2_ne n2]; exact ih
  exact q v 4
theorem c_X11 {l : Launch} {L : Nat → Nat} {cA : Nat → ClassId} {D : va_G} {I : List Nat} {M : Nat → Nat → Bool} {v : fr_V} {u : fr_U} (ho : 1100 ∈ I) (hf : fresh [1101, 1106, 1107, 1109, 1110, 1111, 1112, 1113, 1114, 1116, 1118, 1119, 1120, 1121, 1122, 1123, 1131, 1132, 1133, 1134, 1135, 1136, 1137, 1138, 1141, 1142, 1145, 1146, 1147, 1148, 1152, 1154, 1155, 1156, 1157, 1158] M v u) : KCon l nX11_init 3031 L cA D [1101, 1106, 1107, 1109, 1110, 1111, 1112, 1113, 1114, 1116, 1118, 1119, 1120, 1121, 1122, 1123, 1131, 1132, 1133, 1134, 1135, 1136, 1137, 1138, 1141, 1142, 1145, 1146, 1147, 1148, 1152, 1154, 1155, 1156, 1157, 1158] I M v u [.ref 1100] (mT M 1100) (f_keep (f_plain (upA (up2 (upA v 1123 (wdU (v 1123) 75)) 1100 24 (-1)) 1122 (fl 900 ((up2 (upA v 1123 (wdU (v 1123) 75)) 1100 24 (-1)) 1122) 40))) 0) u := by
  refine KCon.of (by decide) (Nat.le_of_ble_eq_true rfl) (fun A0 p e s m as below meth c C hA hA2 => ?_)
  show KJ l _ _ L cA D A0 p e s m as below meth c _ 0 0 [1101, 1106, 1107, 1109, 1110, 1111, 1112, 1113, 1114, 1116, 1118, 1119, 1120, 1121, 1122, 1123, 1131, 1132, 1133, 1134, 1135, 1136, 1137, 1138, 1141, 1142, 1145, 1146, 1147, 1148, 1152, 1154, 1155, 1156, 1157, 1158] I M v u 0 [(0, .ref 1100)] []
  have fin : KJ l (KR nX11_init 36 3031) nX11_init L cA D A0 p e s m as below meth c (MQ below (KQ L cA D A0 (I ++ [1101, 1106, 1107, 1109, 1110, 1111, 1112, 1113, 1114, 1116, 1118, 1119, 1120, 1121, 1122, 1123, 1131, 1132, 1133, 1134, 1135, 1136, 1137, 1138, 1141, 1142, 1145, 1146, 1147, 1148, 1152, 1154, 1155, 1156, 1157, 1158]) (mT M 1100) (f_keep (f_plain (upA (up2 (upA v 1123 (wdU (v 1123) 75)) 1100 24 (-1)) 1122 (fl 900 ((up2 (upA v 1123 (wdU (v 1123) 75)) 1100 24 (-1)) 1122) 40))) 0) u) as s 36 3031 A0) 36 3031 [] ((((((((((((((((((((((((((((((((((((I ++ [1101]) ++ [1106]) ++ [1107]) ++ [1109]) ++ [1110]) ++ [1111]) ++ [1112]) ++ [1113]) ++ [1114]) ++ [1116]) ++ [1118]) ++ [1119]) ++ [1120]) ++ [1121]) ++ [1122]) ++ [1123]) ++ [1131]) ++ [1132]) ++ [1133]) ++ [1134]) ++ [1135]) ++ [1136]) ++ [1137]) ++ [1138]) ++ [1141]) ++ [1142]) ++ [1145]) ++ [1146]) ++ [1147]) ++ [1148]) ++ [1152]) ++ [1154]) ++ [1155]) ++ [1156]) ++ [1157]) ++ [1158]) (upM (upM (upM (upM (upM (upM (upM (upM (upM (upM (upM (upM (upM (upM (upM (upM (upM (upM (upM (upM (upM (upM (upM (upM (upM (upM (upM (upM (upM (upM (upM (upM (upM (upM (upM (upM M 1100 0) 1100 5) 1100 6) 1100 8) 1100 9) 1100 10) 1100 11) 1100 12) 1100 13) 1100 15) 1100 17) 1100 18) 1100 19) 1100 20) 1100 21) 1100 22) 1100 30) 1100 31) 1100 32) 1100 33) 1100 34) 1100 35) 1100 36) 1100 37) 1100 40) 1100 41) 1100 44) 1100 45) 1100 46) 1100 47) 1100 51) 1100 53) 1100 54) 1100 55) 1100 56) 1100 57) (upA (up2 (upA v 1123 (wdU (v 1123) 75)) 1100 24 (-1)) 1122 (fl 900 ((up2 (upA v 1123 (wdU (v 1123) 75)) 1100 24 (-1)) 1122) 40)) u 766 [(1, .int (nI 40)), (0, .ref 1100)] [] := by
    refine K_full (o := 1100) (ci := 11) rfl (by decide) (fun j hj h1 => ?_) ?_
    · rcases (show j = 0 ∨ j = 1 ∨ j = 2 ∨ j = 3 ∨ j = 4 ∨ j = 5 ∨ j = 6 ∨ j = 7 ∨ j = 8 ∨ j = 9 ∨ j = 10 ∨ j = 11 ∨ j = 12 ∨ j = 13 ∨ j = 14 ∨ j = 15 ∨ j = 16 ∨ j = 17 ∨ j = 18 ∨ j = 19 ∨ j = 20 ∨ j = 21 ∨ j = 22 ∨ j = 23 ∨ j = 24 ∨ j = 25 ∨ j = 26 ∨ j = 27 ∨ j = 28 ∨ j = 29 ∨ j = 30 ∨ j = 31 ∨ j = 32 ∨ j = 33 ∨ j = 34 ∨ j = 35 ∨ j = 36 ∨ j = 37 ∨ j = 38 ∨ j = 39 ∨ j = 40 ∨ j = 41 ∨ j = 42 ∨ j = 43 ∨ j = 44 ∨ j = 45 ∨ j = 46 ∨ j = 47 ∨ j = 48 ∨ j = 49 ∨ j = 50 ∨ j = 51 ∨ j = 52 ∨ j = 53 ∨ j = 54 ∨ j = 55 ∨ j = 56 ∨ j = 57 from by have h9 : j < 58 := hj; omega) with rfl | rfl | rfl | rfl | rfl | rfl | rfl | rfl | rfl | rfl | rfl | rfl | rfl | rfl | rfl | rfl | rfl | rfl | rfl | rfl | rfl | rfl | rfl | rfl | rfl | rfl | rfl | rfl | rfl | rfl | rfl | rfl | rfl | rfl | rfl | rfl | rfl | rfl | rfl | rfl | rfl | rfl | rfl | rfl | rfl | rfl | rfl | rfl | rfl | rfl | rfl | rfl | rfl | rfl | rfl | rfl | rfl | rfl
      all_goals first | rfl | exact absurd h1 (by decide)
    refine K_aload_n C dX11_init_766 rfl 1 rfl ?_
    refine K_callV (z := mX11_plain) (o := 1100) (ci := 11) (As := []) (rest := []) (I0 := [1100, 1131, 1132, 1133, 1134, 1135, 1136, 1137, 1138, 1141, 1142]) C dX11_init_767 ml_X11_123 ok_X11_plain iv_X11_plain ⟨Nat.le_of_ble_eq_true rfl, Nat.le_of_ble_eq_true rfl⟩ ⟨by decide, by decide⟩ (List.forall_mem_cons.mpr ⟨(List.mem_append_left _ (List.mem_append_left _ (List.mem_append_left _ (List.mem_append_left _ (List.mem_append_left _ (List.mem_append_left _ (List.mem_append_left _ (List.mem_append_left _ (List.mem_append_left _ (List.mem_append_left _ (List.mem_append_left _ (List.mem_append_left _ (List.mem_append_left _ (List.mem_append_left _ (List.mem_append_left _ (List.mem_append_left _ (List.mem_append_left _ (List.mem_append_left _ (List.mem_append_left _ (List.mem_append_left _ (List.mem_append_left _ (List.mem_append_left _ (List.mem_append_left _ (List.mem_append_left _ (List.mem_append_left _ (List.mem_append_left _ (List.mem_append_left _ (List.mem_append_left _ (List.mem_append_left _ (List.mem_append_left _ (List.mem_append_left _ (List.mem_append_left _ (List.mem_append_left _ (List.mem_append_left _ (List.mem_append_left _ (List.mem_append_left _ ho)))))))))))))))))))))))))))))))))))), List.forall_mem_cons.mpr ⟨(List.mem_append_left _ (List.mem_append_left _ (List.mem_append_left _ (List.mem_append_left _ (List.mem_append_left _ (List.mem_append_left _ (List.mem_append_left _ (List.mem_append_left _ (List.mem_append_left _ (List.mem_append_left _ (List.mem_append_left _ (List.mem_append_left _ (List.mem_append_left _ (List.mem_append_left _ (List.mem_append_left _ (List.mem_append_left _ (List.mem_append_left _ (List.mem_append_left _ (List.mem_append_left _ (List.mem_append_right _ (by decide))))))))))))))))))))), List.forall_mem_cons.mpr ⟨(List.mem_append_left _ (List.mem_append_left _ (List.mem_append_left _ (List.mem_append_left _ (List.mem_append_left _ (List.mem_append_left _ (List.mem_append_left _ (List.mem_append_left _ (List.mem_append_left _ (List.mem_append_left _ (List.mem_append_left _ (List.mem_append_left _ (List.mem_append_left _ (List.mem_append_left _ (List.mem_append_left _ (List.mem_append_left _ (List.mem_append_left _ (List.mem_append_left _ (List.mem_append_right _ (by decide)))))))))))))))))))), List.forall_mem_cons.mpr ⟨(List.mem_append_left _ (List.mem_append_left _ (List.mem_append_left _ (List.mem_append_left _ (List.mem_append_left _ (List.mem_append_left _ (List.mem_append_left _ (List.mem_append_left _ (List.mem_append_left _ (List.mem_append_left _ (List.mem_append_left _ (List.mem_append_left _ (List.mem_append_left _ (List.mem_append_left _ (List.mem_append_left _ (List.mem_append_left _ (List.mem_append_left _ (List.mem_append_right _ (by decide))))))))))))))))))), List.forall_mem_cons.mpr ⟨(List.mem_append_left _ (List.mem_append_left _ (List.mem_append_left _ (List.mem_append_left _ (List.mem_append_left _ (List.mem_append_left _ (List.mem_append_left _ (List.mem_append_left _ (List.mem_append_left _ (List.mem_append_left _ (List.mem_append_left _ (List.mem_append_left _ (List.mem_append_left _ (List.mem_append_left _ (List.mem_append_left _ (List.mem_append_left _ (List.mem_append_right _ (by decide)))))))))))))))))), List.forall_mem_cons.mpr ⟨(List.mem_append_left _ (List.mem_append_left _ (List.mem_append_left _ (List.mem_append_left _ (List.mem_append_left _ (List.mem_append_left _ (List.mem_append_left _ (List.mem_append_left _ (List.mem_append_left _ (List.mem_append_left _ (List.mem_append_left _ (List.mem_append_left _ (List.mem_append_left _ (List.mem_append_left _ (List.mem_append_left _ (List.mem_append_right _ (by decide))))))))))))))))), List.forall_mem_cons.mpr ⟨(List.mem_append_left _ (List.mem_append_left _ (List.mem_append_left _ (List.mem_append_left _ (List.mem_append_left _ (List.mem_append_left _ (List.mem_append_left _ (List.mem_append_left _ (List.mem_append_left _ (List.mem_append_left _ (List.mem_append_left _ (List.mem_append_left _ (List.mem_append_left _ (List.mem_append_left _ (List.mem_append_right _ (by decide)))))))))))))))), List.forall_mem_cons.mpr ⟨(List.mem_append_left _ (List.mem_append_left _ (List.mem_append_left _ (List.mem_append_left _ (List.mem_append_left _ (List.mem_append_left _ (List.mem_append_left _ (List.mem_append_left _ (List.mem_append_left _ (List.mem_append_left _ (List.mem_append_left _ (List.mem_append_left _ (List.mem_append_left _ (List.mem_append_right _ (by decide))))))))))))))), List.forall_mem_cons.mpr ⟨(List.mem_append_left _ (List.mem_append_left _ (List.mem_append_left _ (List.mem_append_left _ (List.mem_append_left _ (List.mem_append_left _ (List.mem_append_left _ (List.mem_append_left _ (List.mem_append_left _ (List.mem_append_left _ (List.mem_append_left _ (List.mem_append_left _ (List.mem_append_right _ (by decide)))))))))))))), List.forall_mem_cons.mpr ⟨(List.mem_append_left _ (List.mem_append_left _ (List.mem_append_left _ (List.mem_append_left _ (List.mem_append_left _ (List.mem_append_left _ (List.mem_append_left _ (List.mem_append_left _ (List.mem_append_left _ (List.mem_append_left _ (List.mem_append_left _ (List.mem_append_right _ (by decide))))))))))))), List.forall_mem_cons.mpr ⟨(List.mem_append_left _ (List.mem_append_left _ (List.mem_append_left _ (List.mem_append_left _ (List.mem_append_left _ (List.mem_append_left _ (List.mem_append_left _ (List.mem_append_left _ (List.mem_append_left _ (List.mem_append_left _ (List.mem_append_right _ (by decide)))))))))))), fun _ h => absurd h List.not_mem_nil⟩⟩⟩⟩⟩⟩⟩⟩⟩⟩⟩) (List.forall_mem_cons.mpr ⟨fun j => rfl, List.forall_mem_cons.mpr ⟨(fun j => (hf 1131 (by decide)).2.2 j), List.forall_mem_cons.mpr ⟨(fun j => (hf 1132 (by decide)).2.2 j), List.forall_mem_cons.mpr ⟨(fun j => (hf 1133 (by decide)).2.2 j), List.forall_mem_cons.mpr ⟨(fun j => (hf 1134 (by decide)).2.2 j), List.forall_mem_cons.mpr ⟨(fun j => (hf 1135 (by decide)).2.2 j), List.forall_mem_cons.mpr ⟨(fun j => (hf 1136 (by decide)).2.2 j), List.forall_mem_cons.mpr ⟨(fun j => (hf 1137 (by decide)).2.2 j), List.forall_mem_cons.mpr ⟨(fun j => (hf 1138 (by decide)).2.2 j), List.forall_mem_cons.mpr ⟨(fun j => (hf 1141 (by decide)).2.2 j), List.forall_mem_cons.mpr ⟨(fun j => (hf 1142 (by decide)).2.2 j), fun _ h => absurd h List.not_mem_nil⟩⟩⟩⟩⟩⟩⟩⟩⟩⟩⟩) (fun _ => nd11) (by decide) rfl rfl rfl rfl (Nat.le_of_ble_eq_true rfl) (k_X11_plainW (fun _ h => h) _ u) (fun r9 v9 u9 hq k9 _ hk9 => by obtain ⟨-, rfl, rfl⟩ := hq; exact ⟨plain_o hk9, rfl⟩) (fun r9 v9 u9 hq => ?_)
    obtain ⟨rfl, e8, e9⟩ := hq
    rw [e8, e9]
    refine K_aload_n C dX11_init_770 rfl 1 rfl ?_
    refine K_callV (z := mX11_keep) (o := 1100) (ci := 11) (As := []) (rest := []) (I0 := [1100, 1131, 1132, 1133, 1134, 1135, 1136, 1137, 1138, 1141, 1142]) C dX11_init_771 ml_X11_126 ok_X11_keep iv_X11_keep ⟨Nat.le_of_ble_eq_true rfl, Nat.le_of_ble_eq_true rfl⟩ ⟨by decide, by decide⟩ (List.forall_mem_cons.mpr ⟨(List.mem_append_left _ (List.mem_append_left _ (List.mem_append_left _ (List.mem_append_left _ (List.mem_append_left _ (List.mem_append_left _ (List.mem_append_left _ (List.mem_append_left _ (List.mem_append_left _ (List.mem_append_left _ (List.mem_append_left _ (List.mem_append_left _ (List.mem_append_left _ (List.mem_append_left _ (List.mem_append_left _ (List.mem_append_left _ (List.mem_append_left _ (List.mem_append_left _ (List.mem_append_left _ (List.mem_append_left _ (List.mem_append_left _ (List.mem_append_left _ (List.mem_append_left _ (List.mem_append_left _ (List.mem_append_left _ (List.mem_append_left _ (List.mem_append_left _ (List.mem_append_left _ (List.mem_append_left _ (List.mem_append_left _ (List.mem_append_left _ (List.mem_append_left _ (List.mem_append_left _ (List.mem_append_left _ (List.mem_append_left _ (List.mem_append_left _ ho)))))))))))))))))))))))))))))))))))), List.forall_mem_cons.mpr ⟨(List.mem_append_left _ (List.mem_append_left _ (List.mem_append_left _ (List.mem_append_left _ (List.mem_append_left _ (List.mem_append_left _ (List.mem_append_left _ (List.mem_append_left _ (List.mem_append_left _ (List.mem_append_left _ (List.mem_append_left _ (List.mem_append_left _ (List.mem_append_left _ (List.mem_append_left _ (List.mem_append_left _ (List.mem_append_left _ (List.mem_append_left _ (List.mem_append_left _ (List.mem_append_left _ (List.mem_append_right _ (by decide))))))))))))))))))))), List.forall_mem_cons.mpr ⟨(List.mem_append_left _ (List.mem_append_left _ (List.mem_append_left _ (List.mem_append_left _ (List.mem_append_left _ (List.mem_append_left _ (List.mem_append_left _ (List.mem_append_left _ (List.mem_append_left _ (List.mem_append_left _ (List.mem_append_left _ (List.mem_append_left _ (List.mem_append_left _ (List.mem_append_left _ (List.mem_append_left _ (List.mem_append_left _ (List.mem_append_left _ (List.mem_append_left _ (List.mem_append_right _ (by decide)))))))))))))))))))), List.forall_mem_cons.mpr ⟨(List.mem_append_left _ (List.mem_append_left _ (List.mem_append_left _ (List.mem_append_left _ (List.mem_append_left _ (List.mem_append_left _ (List.mem_append_left _ (List.mem_append_left _ (List.mem_append_left _ (List.mem_append_left _ (List.mem_append_left _ (List.mem_append_left _ (List.mem_append_left _ (List.mem_append_left _ (List.mem_append_left _ (List.mem_append_left _ (List.mem_append_left _ (List.mem_append_right _ (by decide))))))))))))))))))), List.forall_mem_cons.mpr ⟨(List.mem_append_left _ (List.mem_append_left _ (List.mem_append_left _ (List.mem_append_left _ (List.mem_append_left _ (List.mem_append_left _ (List.mem_append_left _ (List.mem_append_left _ (List.mem_append_left _ (List.mem_append_left _ (List.mem_append_left _ (List.mem_append_left _ (List.mem_append_left _ (List.mem_append_left _ (List.mem_append_left _ (List.mem_append_left _ (List.mem_append_right _ (by decide)))))))))))))))))), List.forall_mem_cons.mpr ⟨(List.mem_append_left _ (List.mem_append_left _ (List.mem_append_left _ (List.mem_append_left _ (List.mem_append_left _ (List.mem_append_left _ (List.mem_append_left _ (List.mem_append_left _ (List.mem_append_left _ (List.mem_append_left _ (List.mem_append_left _ (List.mem_append_left _ (List.mem_append_left _ (List.mem_append_left _ (List.mem_append_left _ (List.mem_append_right _ (by decide))))))))))))))))), List.forall_mem_cons.mpr ⟨(List.mem_append_left _ (List.mem_append_left _ (List.mem_append_left _ (List.mem_append_left _ (List.mem_append_left _ (List.mem_append_left _ (List.mem_append_left _ (List.mem_append_left _ (List.mem_append_left _ (List.mem_append_left _ (List.mem_append_left _ (List.mem_append_left _ (List.mem_append_left _ (List.mem_append_left _ (List.mem_append_right _ (by decide)))))))))))))))), List.forall_mem_cons.mpr ⟨(List.mem_append_left _ (List.mem_append_left _ (List.mem_append_left _ (List.mem_append_left _ (List.mem_append_left _ (List.mem_append_left _ (List.mem_append_left _ (List.mem_append_left _ (List.mem_append_left _ (List.mem_append_left _ (List.mem_append_left _ (List.mem_append_left _ (List.mem_append_left _ (List.mem_append_right _ (by decide))))))))))))))), List.forall_mem_cons.mpr ⟨(List.mem_append_left _ (List.mem_append_left _ (List.mem_append_left _ (List.mem_append_left _ (List.mem_append_left _ (List.mem_append_left _ (List.mem_append_left _ (List.mem_append_left _ (List.mem_append_left _ (List.mem_append_left _ (List.mem_append_left _ (List.mem_append_left _ (List.mem_append_right _ (by decide)))))))))))))), List.forall_mem_cons.mpr ⟨(List.mem_append_left _ (List.mem_append_left _ (List.mem_append_left _ (List.mem_append_left _ (List.mem_append_left _ (List.mem_append_left _ (List.mem_append_left _ (List.mem_append_left _ (List.mem_append_left _ (List.mem_append_left _ (List.mem_append_left _ (List.mem_append_right _ (by decide))))))))))))), List.forall_mem_cons.mpr ⟨(List.mem_append_left _ (List.mem_append_left _ (List.mem_append_left _ (List.mem_append_left _ (List.mem_append_left _ (List.mem_append_left _ (List.mem_append_left _ (List.mem_append_left _ (List.mem_append_left _ (List.mem_append_left _ (List.mem_append_right _ (by decide)))))))))))), fun _ h => absurd h List.not_mem_nil⟩⟩⟩⟩⟩⟩⟩⟩⟩⟩⟩) (List.forall_mem_cons.mpr ⟨fun j => rfl, List.forall_mem_cons.mpr ⟨(fun j => (hf 1131 (by decide)).2.2 j), List.forall_mem_cons.mpr ⟨(fun j => (hf 1132 (by decide)).2.2 j), List.forall_mem_cons.mpr ⟨(fun j => (hf 1133 (by decide)).2.2 j), List.forall_mem_cons.mpr ⟨(fun j => (hf 1134 (by decide)).2.2 j), List.forall_mem_cons.mpr ⟨(fun j => (hf 1135 (by decide)).2.2 j), List.forall_mem_cons.mpr ⟨(fun j => (hf 1136 (by decide)).2.2 j), List.forall_mem_cons.mpr ⟨(fun j => (hf 1137 (by decide)).2.2 j), List.forall_mem_cons.mpr ⟨(fun j => (hf 1138 (by decide)).2.2 j), List.forall_mem_cons.mpr ⟨(fun j => (hf 1141 (by decide)).2.2 j), List.forall_mem_cons.mpr ⟨(fun j => (hf 1142 (by decide)).2.2 j), fun _ h => absurd h List.not_mem_nil⟩⟩⟩⟩⟩⟩⟩⟩⟩⟩⟩) (fun _ => nd11) (by decide) rfl rfl rfl rfl (Nat.le_of_ble_eq_true rfl) (k_X11_keepW (fun _ h => h) _ u 0 (by decide) rfl) (fun r9 v9 u9 hq k9 _ hk9 => by obtain ⟨-, rfl, rfl⟩ := hq; exact ⟨keep_o hk9, rfl⟩) (fun r9 v9 u9 hq => ?_)
    obtain ⟨rfl, e8, e9⟩ := hq
    rw [e8, e9]
    exact K_vret C dX11_init_774 rfl (by simp only [List.append_assoc, List.cons_append, List.nil_append, List.append_nil]) (fun _ _ => by simp only [mT_up]) (fun _ _ => rfl) (fun _ _ => rfl)
  have loop : ∀ (d9 j : Nat), 40 - j < d9 → j ≤ 40 → KJ l (KR nX11_init 36 3031) nX11_init L cA D A0 p e s m as below meth c (MQ below (KQ L cA D A0 (I ++ [1101, 1106, 1107, 1109, 1110, 1111, 1112, 1113, 1114, 1116, 1118, 1119, 1120, 1121, 1122, 1123, 1131, 1132, 1133, 1134, 1135, 1136, 1137, 1138, 1141, 1142, 1145, 1146, 1147, 1148, 1152, 1154, 1155, 1156, 1157, 1158]) (mT M 1100) (f_keep (f_plain (upA (up2 (upA v 1123 (wdU (v 1123) 75)) 1100 24 (-1)) 1122 (fl 900 ((up2 (upA v 1123 (wdU (v 1123) 75)) 1100 24 (-1)) 1122) 40))) 0) u) as s 36 3031 A0) 36 3031 [] ((((((((((((((((((((((((((((((((((((I ++ [1101]) ++ [1106]) ++ [1107]) ++ [1109]) ++ [1110]) ++ [1111]) ++ [1112]) ++ [1113]) ++ [1114]) ++ [1116]) ++ [1118]) ++ [1119]) ++ [1120]) ++ [1121]) ++ [1122]) ++ [1123]) ++ [1131]) ++ [1132]) ++ [1133]) ++ [1134]) ++ [1135]) ++ [1136]) ++ [1137]) ++ [1138]) ++ [1141]) ++ [1142]) ++ [1145]) ++ [1146]) ++ [1147]) ++ [1148]) ++ [1152]) ++ [1154]) ++ [1155]) ++ [1156]) ++ [1157]) ++ [1158]) (upM (upM (upM (upM (upM (upM (upM (upM (upM (upM (upM (upM (upM (upM (upM (upM (upM (upM (upM (upM (upM (upM (upM (upM (upM (upM (upM (upM (upM (upM (upM (upM (upM (upM (upM (upM M 1100 0) 1100 5) 1100 6) 1100 8) 1100 9) 1100 10) 1100 11) 1100 12) 1100 13) 1100 15) 1100 17) 1100 18) 1100 19) 1100 20) 1100 21) 1100 22) 1100 30) 1100 31) 1100 32) 1100 33) 1100 34) 1100 35) 1100 36) 1100 37) 1100 40) 1100 41) 1100 44) 1100 45) 1100 46) 1100 47) 1100 51) 1100 53) 1100 54) 1100 55) 1100 56) 1100 57) (upA (up2 (upA v 1123 (wdU (v 1123) 75)) 1100 24 (-1)) 1122 (fl 900 ((up2 (upA v 1123 (wdU (v 1123) 75)) 1100 24 (-1)) 1122) j)) u 745 [(1, .int (nI j)), (0, .ref 1100)] [] := by
    intro d9
    induction d9 with
    | zero => intro j h1 h2; omega
    | succ d9 ih =>
      intro j h1 h2
      refine K_iload_n C dX11_init_745 rfl 0 rfl ?_
      refine K_bipush (x := 40) C dX11_init_746 (by decide) ?_
      refine K_icmp_ge (tgt := 766) C dX11_init_748 (by decide) (fun c9 => ?_) (fun c9 => ?_)
      · have ej : j = 40 := by have h9 : 40 ≤ j := (nI_leI (a := 40) (by decide) (by omega)).mp c9; omega
        subst ej
        exact fin
      · have hj : j < 40 := by
          rcases Nat.lt_or_ge j 40 with q | q
          · exact q
          · exact absurd (nI_le (a := 40) q (by omega)) c9
        refine K_aload_n C dX11_init_751 rfl 1 rfl ?_
        refine K_getr (ci := 11) (j := 21) (t := 1122) C dX11_init_752 fl_X11_52 (List.mem_append_left _ (List.mem_append_left _ (List.mem_append_left _ (List.mem_append_left _ (List.mem_append_left _ (List.mem_append_left _ (List.mem_append_left _ (List.mem_append_left _ (List.mem_append_left _ (List.mem_append_left _ (List.mem_append_left _ (List.mem_append_left _ (List.mem_append_left _ (List.mem_append_left _ (List.mem_append_left _ (List.mem_append_left _ (List.mem_append_left _ (List.mem_append_left _ (List.mem_append_left _ (List.mem_append_left _ (List.mem_append_left _ (List.mem_append_left _ (List.mem_append_left _ (List.mem_append_left _ (List.mem_append_left _ (List.mem_append_left _ (List.mem_append_left _ (List.mem_append_left _ (List.mem_append_left _ (List.mem_append_left _ (List.mem_append_left _ (List.mem_append_left _ (List.mem_append_left _ (List.mem_append_left _ (List.mem_append_left _ (List.mem_append_left _ ho)))))))))))))))))))))))))))))))))))) rfl rfl rfl rfl ?_
        refine K_iload_n C dX11_init_755 rfl 0 rfl ?_
        refine K_sipush (x := 900) C dX11_init_756 (by decide) ?_
        refine K_t9 C dX11_init_759 (List.mem_append_left _ (List.mem_append_left _ (List.mem_append_left _ (List.mem_append_left _ (List.mem_append_left _ (List.mem_append_left _ (List.mem_append_left _ (List.mem_append_left _ (List.mem_append_left _ (List.mem_append_left _ (List.mem_append_left _ (List.mem_append_left _ (List.mem_append_left _ (List.mem_append_left _ (List.mem_append_left _ (List.mem_append_left _ (List.mem_append_left _ (List.mem_append_left _ (List.mem_append_left _ (List.mem_append_left _ (List.mem_append_left _ (List.mem_append_right _ (by decide))))))))))))))))))))))) hj ?_
        refine K_iinc (q := 0) (z := nI (j + 1)) (lv' := [(1, .int (nI (j + 1))), (0, .ref 1100)]) C dX11_init_760 rfl (nI_1 j) (by decide) rfl ?_
        refine K_goto (tgt := 745) C dX11_init_763 (by decide) ?_
        exact ih (j + 1) (by omega) (by omega)
  refine K_aload_n C dX11_init_0 rfl 0 rfl ?_
  refine K_objInit C dX11_init_1 oi_X11_init oi_i oi_c ⟨Nat.le_of_ble_eq_true rfl, Nat.le_of_ble_eq_true rfl⟩ ?_
  refine K_aload_n C dX11_init_4 rfl 0 rfl ?_
  refine K_sipush (x := 500) C dX11_init_5 (by decide) ?_
  refine K_newa_int (k := 1101) (n := 500) (ce' := 1) (sl' := 500) C dX11_init_8 aw_int rfl (fun j => (hf 1101 (by decide)).1 j) (by decide) (by decide) (by decide) rfl rfl ⟨by decide, by decide⟩ ?_
  refine K_putr (ci := 11) (j := 0) (t := 1101) C dX11_init_10 fl_X11_7 (List.mem_append_left _ ho) rfl rfl rfl ⟨rfl, fun q h => by cases h; exact ⟨rfl, rfl⟩⟩ rfl rfl ?_
  refine K_aload_n C dX11_init_13 rfl 0 rfl ?_
  refine K_bipush (x := 12) C dX11_init_14 (by decide) ?_
  refine K_newa_int (k := 1106) (n := 12) (ce' := 2) (sl' := 512) C dX11_init_16 aw_int rfl (fun j => (hf 1106 (by decide)).1 j) (by decide) (by decide) (by decide) rfl rfl ⟨by decide, by decide⟩ ?_
  refine K_putr (ci := 11) (j := 5) (t := 1106) C dX11_init_18 fl_X11_13 (List.mem_append_left _ (List.mem_append_left _ ho)) rfl rfl rfl ⟨rfl, fun q h => by cases h; exact ⟨rfl, rfl⟩⟩ rfl rfl ?_
  refine K_aload_n C dX11_init_21 rfl 0 rfl ?_
  refine K_bipush (x := 12) C dX11_init_22 (by decide) ?_
  refine K_newa_int (k := 1107) (n := 12) (ce' := 3) (sl' := 524) C dX11_init_24 aw_int rfl (fun j => (hf 1107 (by decide)).1 j) (by decide) (by decide) (by decide) rfl rfl ⟨by decide, by decide⟩ ?_
  refine K_putr (ci := 11) (j := 6) (t := 1107) C dX11_init_26 fl_X11_16 (List.mem_append_left _ (List.mem_append_left _ (List.mem_append_left _ ho))) rfl rfl rfl ⟨rfl, fun q h => by cases h; exact ⟨rfl, rfl⟩⟩ rfl rfl ?_
  refine K_aload_n C dX11_init_29 rfl 0 rfl ?_
  refine K_bipush (x := 16) C dX11_init_30 (by decide) ?_
  refine K_newa_int (k := 1109) (n := 16) (ce' := 4) (sl' := 540) C dX11_init_32 aw_int rfl (fun j => (hf 1109 (by decide)).1 j) (by decide) (by decide) (by decide) rfl rfl ⟨by decide, by decide⟩ ?_
  refine K_putr (ci := 11) (j := 8) (t := 1109) C dX11_init_34 fl_X11_19 (List.mem_append_left _ (List.mem_append_left _ (List.mem_append_left _ (List.mem_append_left _ ho)))) rfl rfl rfl ⟨rfl, fun q h => by cases h; exact ⟨rfl, rfl⟩⟩ rfl rfl ?_
  refine K_aload_n C dX11_init_37 rfl 0 rfl ?_
  refine K_bipush (x := 16) C dX11_init_38 (by decide) ?_
  refine K_newa_int (k := 1110) (n := 16) (ce' := 5) (sl' := 556) C dX11_init_40 aw_int rfl (fun j => (hf 1110 (by decide)).1 j) (by decide) (by decide) (by decide) rfl rfl ⟨by decide, by decide⟩ ?_
  refine K_putr (ci := 11) (j := 9) (t := 1110) C dX11_init_42 fl_X11_22 (List.mem_append_left _ (List.mem_append_left _ (List.mem_append_left _ (List.mem_append_left _ (List.mem_append_left _ ho))))) rfl rfl rfl ⟨rfl, fun q h => by cases h; exact ⟨rfl, rfl⟩⟩ rfl rfl ?_
  refine K_aload_n C dX11_init_45 rfl 0 rfl ?_
  refine K_bipush (x := 16) C dX11_init_46 (by decide) ?_
  refine K_newa_int (k := 1111) (n := 16) (ce' := 6) (sl' := 572) C dX11_init_48 aw_int rfl (fun j => (hf 1111 (by decide)).1 j) (by decide) (by decide) (by decide) rfl rfl ⟨by decide, by decide⟩ ?_
  refine K_putr (ci := 11) (j := 10) (t := 1111) C dX11_init_50 fl_X11_25 (List.mem_append_left _ (List.mem_append_left _ (List.mem_append_left _ (List.mem_append_left _ (List.mem_append_left _ (List.mem_append_left _ ho)))))) rfl rfl rfl ⟨rfl, fun q h => by cases h; exact ⟨rfl, rfl⟩⟩ rfl rfl ?_
  refine K_aload_n C dX11_init_53 rfl 0 rfl ?_
  refine K_bipush (x := 16) C dX11_init_54 (by decide) ?_
  refine K_newa_int (k := 1112) (n := 16) (ce' := 7) (sl' := 588) C dX11_init_56 aw_int rfl (fun j => (hf 1112 (by decide)).1 j) (by decide) (by decide) (by decide) rfl rfl ⟨by decide, by decide⟩ ?_
  refine K_putr (ci := 11) (j := 11) (t := 1112) C dX11_init_58 fl_X11_28 (List.mem_append_left _ (List.mem_append_left _ (List.mem_append_left _ (List.mem_append_left _ (List.mem_append_left _ (List.mem_append_left _ (List.mem_append_left _ ho))))))) rfl rfl rfl ⟨rfl, fun q h => by cases h; exact ⟨rfl, rfl⟩⟩ rfl rfl ?_
  refine K_aload_n C dX11_init_61 rfl 0 rfl ?_
  refine K_bipush (x := 16) C dX11_init_62 (by decide) ?_
  refine K_newa_int (k := 1113) (n := 16) (ce' := 8) (sl' := 604) C dX11_init_64 aw_int rfl (fun j => (hf 1113 (by decide)).1 j) (by decide) (by decide) (by decide) rfl rfl ⟨by decide, by decide⟩ ?_
  refine K_putr (ci := 11) (j := 12) (t := 1113) C dX11_init_66 fl_X11_31 (List.mem_append_left _ (List.mem_append_left _ (List.mem_append_left _ (List.mem_append_left _ (List.mem_append_left _ (List.mem_append_left _ (List.mem_append_left _ (List.mem_append_left _ ho)))))))) rfl rfl rfl ⟨rfl, fun q h => by cases h; exact ⟨rfl, rfl⟩⟩ rfl rfl ?_
  refine K_aload_n C dX11_init_69 rfl 0 rfl ?_
  refine K_bipush (x := 16) C dX11_init_70 (by decide) ?_
  refine K_newa_int (k := 1114) (n := 16) (ce' := 9) (sl' := 620) C dX11_init_72 aw_int rfl (fun j => (hf 1114 (by decide)).1 j) (by decide) (by decide) (by decide) rfl rfl ⟨by decide, by decide⟩ ?_
  refine K_putr (ci := 11) (j := 13) (t := 1114) C dX11_init_74 fl_X11_34 (List.mem_append_left _ (List.mem_append_left _ (List.mem_append_left _ (List.mem_append_left _ (List.mem_append_left _ (List.mem_append_left _ (List.mem_append_left _ (List.mem_append_left _ (List.mem_append_left _ ho))))))))) rfl rfl rfl ⟨rfl, fun q h => by cases h; exact ⟨rfl, rfl⟩⟩ rfl rfl ?_
  refine K_aload_n C dX11_init_77 rfl 0 rfl ?_
  refine K_sipush (x := 200) C dX11_init_78 (by decide) ?_
  refine K_newa_int (k := 1116) (n := 200) (ce' := 10) (sl' := 820) C dX11_init_81 aw_int rfl (fun j => (hf 1116 (by decide)).1 j) (by decide) (by decide) (by decide) rfl rfl ⟨by decide, by decide⟩ ?_
  refine K_putr (ci := 11) (j := 15) (t := 1116) C dX11_init_83 fl_X11_37 (List.mem_append_left _ (List.mem_append_left _ (List.mem_append_left _ (List.mem_append_left _ (List.mem_append_left _ (List.mem_append_left _ (List.mem_append_left _ (List.mem_append_left _ (List.mem_append_left _ (List.mem_append_left _ ho)))))))))) rfl rfl rfl ⟨rfl, fun q h => by cases h; exact ⟨rfl, rfl⟩⟩ rfl rfl ?_
  refine K_aload_n C dX11_init_86 rfl 0 rfl ?_
  refine K_bipush (x := 60) C dX11_init_87 (by decide) ?_
  refine K_newa_int (k := 1118) (n := 60) (ce' := 11) (sl' := 880) C dX11_init_89 aw_int rfl (fun j => (hf 1118 (by decide)).1 j) (by decide) (by decide) (by decide) rfl rfl ⟨by decide, by decide⟩ ?_
  refine K_putr (ci := 11) (j := 17) (t := 1118) C dX11_init_91 fl_X11_40 (List.mem_append_left _ (List.mem_append_left _ (List.mem_append_left _ (List.mem_append_left _ (List.mem_append_left _ (List.mem_append_left _ (List.mem_append_left _ (List.mem_append_left _ (List.mem_append_left _ (List.mem_append_left _ (List.mem_append_left _ ho))))))))))) rfl rfl rfl ⟨rfl, fun q h => by cases h; exact ⟨rfl, rfl⟩⟩ rfl rfl ?_
  refine K_aload_n C dX11_init_94 rfl 0 rfl ?_
  refine K_bipush (x := 60) C dX11_init_95 (by decide) ?_
  refine K_newa_int (k := 1119) (n := 60) (ce' := 12) (sl' := 940) C dX11_init_97 aw_int rfl (fun j => (hf 1119 (by decide)).1 j) (by decide) (by decide) (by decide) rfl rfl ⟨by decide, by decide⟩ ?_
  refine K_putr (ci := 11) (j := 18) (t := 1119) C dX11_init_99 fl_X11_43 (List.mem_append_left _ (List.mem_append_left _ (List.mem_append_left _ (List.mem_append_left _ (List.mem_append_left _ (List.mem_append_left _ (List.mem_append_left _ (List.mem_append_left _ (List.mem_append_left _ (List.mem_append_left _ (List.mem_append_left _ (List.mem_append_left _ ho)))))))))))) rfl rfl rfl ⟨rfl, fun q h => by cases h; exact ⟨rfl, rfl⟩⟩ rfl rfl ?_
  refine K_aload_n C dX11_init_102 rfl 0 rfl ?_
  refine K_bipush (x := 60) C dX11_init_103 (by decide) ?_
  refine K_newa_int (k := 1120) (n := 60) (ce' := 13) (sl' := 1000) C dX11_init_105 aw_int rfl (fun j => (hf 1120 (by decide)).1 j) (by decide) (by decide) (by decide) rfl rfl ⟨by decide, by decide⟩ ?_
  refine K_putr (ci := 11) (j := 19) (t := 1120) C dX11_init_107 fl_X11_46 (List.mem_append_left _ (List.mem_append_left _ (List.mem_append_left _ (List.mem_append_left _ (List.mem_append_left _ (List.mem_append_left _ (List.mem_append_left _ (List.mem_append_left _ (List.mem_append_left _ (List.mem_append_left _ (List.mem_append_left _ (List.mem_append_left _ (List.mem_append_left _ ho))))))))))))) rfl rfl rfl ⟨rfl, fun q h => by cases h; exact ⟨rfl, rfl⟩⟩ rfl rfl ?_
  refine K_aload_n C dX11_init_110 rfl 0 rfl ?_
  refine K_bipush (x := 60) C dX11_init_111 (by decide) ?_
  refine K_newa_int (k := 1121) (n := 60) (ce' := 14) (sl' := 1060) C dX11_init_113 aw_int rfl (fun j => (hf 1121 (by decide)).1 j) (by decide) (by decide) (by decide) rfl rfl ⟨by decide, by decide⟩ ?_
  refine K_putr (ci := 11) (j := 20) (t := 1121) C dX11_init_115 fl_X11_49 (List.mem_append_left _ (List.mem_append_left _ (List.mem_append_left _ (List.mem_append_left _ (List.mem_append_left _ (List.mem_append_left _ (List.mem_append_left _ (List.mem_append_left _ (List.mem_append_left _ (List.mem_append_left _ (List.mem_append_left _ (List.mem_append_left _ (List.mem_append_left _ (List.mem_append_left _ ho)))))))))))))) rfl rfl rfl ⟨rfl, fun q h => by cases h; exact ⟨rfl, rfl⟩⟩ rfl rfl ?_
  refine K_aload_n C dX11_init_118 rfl 0 rfl ?_
  refine K_bipush (x := 40) C dX11_init_119 (by decide) ?_
  refine K_newa_int (k := 1122) (n := 40) (ce' := 15) (sl' := 1100) C dX11_init_121 aw_int rfl (fun j => (hf 1122 (by decide)).1 j) (by decide) (by decide) (by decide) rfl rfl ⟨by decide, by decide⟩ ?_
  refine K_putr (ci := 11) (j := 21) (t := 1122) C dX11_init_123 fl_X11_52 (List.mem_append_left _ (List.mem_append_left _ (List.mem_append_left _ (List.mem_append_left _ (List.mem_append_left _ (List.mem_append_left _ (List.mem_append_left _ (List.mem_append_left _ (List.mem_append_left _ (List.mem_append_left _ (List.mem_append_left _ (List.mem_append_left _ (List.mem_append_left _ (List.mem_append_left _ (List.mem_append_left _ ho))))))))))))))) rfl rfl rfl ⟨rfl, fun q h => by cases h; exact ⟨rfl, rfl⟩⟩ rfl rfl ?_
  refine K_aload_n C dX11_init_126 rfl 0 rfl ?_
  refine K_bipush (x := 75) C dX11_init_127 (by decide) ?_
  refine K_newa_int (k := 1123) (n := 75) (ce' := 16) (sl' := 1175) C dX11_init_129 aw_int rfl (fun j => (hf 1123 (by decide)).1 j) (by decide) (by decide) (by decide) rfl rfl ⟨by decide, by decide⟩ ?_
  refine K_ve (wdU_0 v) ?_
  refine K_dup C dX11_init_131 rfl ?_
  refine K_iconst (x := 0) C dX11_init_132 (by decide) ?_
  refine K_bipush (x := 109) C dX11_init_133 (by decide) ?_
  refine K_wd (n := 0) C dX11_init_135 (List.mem_append_right _ (by decide)) (by decide) (by decide) (by decide) ?_
  refine K_dup C dX11_init_136 rfl ?_
  refine K_iconst (x := 1) C dX11_init_137 (by decide) ?_
  refine K_bipush (x := 97) C dX11_init_138 (by decide) ?_
  refine K_wd (n := 1) C dX11_init_140 (List.mem_append_right _ (by decide)) (by decide) (by decide) (by decide) ?_
  refine K_dup C dX11_init_141 rfl ?_
  refine K_iconst (x := 2) C dX11_init_142 (by decide) ?_
  refine K_bipush (x := 121) C dX11_init_143 (by decide) ?_
  refine K_wd (n := 2) C dX11_init_145 (List.mem_append_right _ (by decide)) (by decide) (by decide) (by decide) ?_
  refine K_dup C dX11_init_146 rfl ?_
  refine K_iconst (x := 3) C dX11_init_147 (by decide) ?_
  refine K_bipush (x := 32) C dX11_init_148 (by decide) ?_
  refine K_wd (n := 3) C dX11_init_150 (List.mem_append_right _ (by decide)) (by decide) (by decide) (by decide) ?_
  refine K_dup C dX11_init_151 rfl ?_
  refine K_iconst (x := 4) C dX11_init_152 (by decide) ?_
  refine K_bipush (x := 98) C dX11_init_153 (by decide) ?_
  refine K_wd (n := 4) C dX11_init_155 (List.mem_append_right _ (by decide)) (by decide) (by decide) (by decide) ?_
  refine K_dup C dX11_init_156 rfl ?_
  refine K_iconst (x := 5) C dX11_init_157 (by decide) ?_
  refine K_bipush (x := 97) C dX11_init_158 (by decide) ?_
  refine K_wd (n := 5) C dX11_init_160 (List.mem_append_right _ (by decide)) (by decide) (by decide) (by decide) ?_
  refine K_dup C dX11_init_161 rfl ?_
  refine K_bipush (x := 6) C dX11_init_162 (by decide) ?_
  refine K_bipush (x := 114) C dX11_init_164 (by decide) ?_
  refine K_wd (n := 6) C dX11_init_166 (List.mem_append_right _ (by decide)) (by decide) (by decide) (by decide) ?_
  refine K_dup C dX11_init_167 rfl ?_
  refine K_bipush (x := 7) C dX11_init_168 (by decide) ?_
  refine K_bipush (x := 32) C dX11_init_170 (by decide) ?_
  refine K_wd (n := 7) C dX11_init_172 (List.mem_append_right _ (by decide)) (by decide) (by decide) (by decide) ?_
  refine K_dup C dX11_init_173 rfl ?_
  refine K_bipush (x := 8) C dX11_init_174 (by decide) ?_
  refine K_bipush (x := 112) C dX11_init_176 (by decide) ?_
  refine K_wd (n := 8) C dX11_init_178 (List.mem_append_right _ (by decide)) (by decide) (by decide) (by decide) ?_
  refine K_dup C dX11_init_179 rfl ?_
  refine K_bipush (x := 9) C dX11_init_180 (by decide) ?_
  refine K_bipush (x := 114) C dX11_init_182 (by decide) ?_
  refine K_wd (n := 9) C dX11_init_184 (List.mem_append_right _ (by decide)) (by decide) (by decide) (by decide) ?_
  refine K_dup C dX11_init_185 rfl ?_
  refine K_bipush (x := 10) C dX11_init_186 (by decide) ?_
  refine K_bipush (x := 105) C dX11_init_188 (by decide) ?_
  refine K_wd (n := 10) C dX11_init_190 (List.mem_append_right _ (by decide)) (by decide) (by decide) (by decide) ?_
  refine K_dup C dX11_init_191 rfl ?_
  refine K_bipush (x := 11) C dX11_init_192 (by decide) ?_
  refine K_bipush (x := 99) C dX11_init_194 (by decide) ?_
  refine K_wd (n := 11) C dX11_init_196 (List.mem_append_right _ (by decide)) (by decide) (by decide) (by decide) ?_
  refine K_dup C dX11_init_197 rfl ?_
  refine K_bipush (x := 12) C dX11_init_198 (by decide) ?_
  refine K_bipush (x := 101) C dX11_init_200 (by decide) ?_
  refine K_wd (n := 12) C dX11_init_202 (List.mem_append_right _ (by decide)) (by decide) (by decide) (by decide) ?_
  refine K_dup C dX11_init_203 rfl ?_
  refine K_bipush (x := 13) C dX11_init_204 (by decide) ?_
  refine K_bipush (x := 32) C dX11_init_206 (by decide) ?_
  refine K_wd (n := 13) C dX11_init_208 (List.mem_append_right _ (by decide)) (by decide) (by decide) (by decide) ?_
  refine K_dup C dX11_init_209 rfl ?_
  refine K_bipush (x := 14) C dX11_init_210 (by decide) ?_
  refine K_bipush (x := 108) C dX11_init_212 (by decide) ?_
  refine K_wd (n := 14) C dX11_init_214 (List.mem_append_right _ (by decide)) (by decide) (by decide) (by decide) ?_
  refine K_dup C dX11_init_215 rfl ?_
  refine K_bipush (x := 15) C dX11_init_216 (by decide) ?_
  refine K_bipush (x := 117) C dX11_init_218 (by decide) ?_
  refine K_wd (n := 15) C dX11_init_220 (List.mem_append_right _ (by decide)) (by decide) (by decide) (by decide) ?_
  refine K_dup C dX11_init_221 rfl ?_
  refine K_bipush (x := 16) C dX11_init_222 (by decide) ?_
  refine K_bipush (x := 109) C dX11_init_224 (by decide) ?_
  refine K_wd (n := 16) C dX11_init_226 (List.mem_append_right _ (by decide)) (by decide) (by decide) (by decide) ?_
  refine K_dup C dX11_init_227 rfl ?_
  refine K_bipush (x := 17) C dX11_init_228 (by decide) ?_
  refine K_bipush (x := 112) C dX11_init_230 (by decide) ?_
  refine K_wd (n := 17) C dX11_init_232 (List.mem_append_right _ (by decide)) (by decide) (by decide) (by decide) ?_
  refine K_dup C dX11_init_233 rfl ?_
  refine K_bipush (x := 18) C dX11_init_234 (by decide) ?_
  refine K_bipush (x := 32) C dX11_init_236 (by decide) ?_
  refine K_wd (n := 18) C dX11_init_238 (List.mem_append_right _ (by decide)) (by decide) (by decide) (by decide) ?_
  refine K_dup C dX11_init_239 rfl ?_
  refine K_bipush (x := 19) C dX11_init_240 (by decide) ?_
  refine K_bipush (x := 97) C dX11_init_242 (by decide) ?_
  refine K_wd (n := 19) C dX11_init_244 (List.mem_append_right _ (by decide)) (by decide) (by decide) (by decide) ?_
  refine K_dup C dX11_init_245 rfl ?_
  refine K_bipush (x := 20) C dX11_init_246 (by decide) ?_
  refine K_bipush (x := 114) C dX11_init_248 (by decide) ?_
  refine K_wd (n := 20) C dX11_init_250 (List.mem_append_right _ (by decide)) (by decide) (by decide) (by decide) ?_
  refine K_dup C dX11_init_251 rfl ?_
  refine K_bipush (x := 21) C dX11_init_252 (by decide) ?_
  refine K_bipush (x := 114) C dX11_init_254 (by decide) ?_
  refine K_wd (n := 21) C dX11_init_256 (List.mem_append_right _ (by decide)) (by decide) (by decide) (by decide) ?_
  refine K_dup C dX11_init_257 rfl ?_
  refine K_bipush (x := 22) C dX11_init_258 (by decide) ?_
  refine K_bipush (x := 101) C dX11_init_260 (by decide) ?_
  refine K_wd (n := 22) C dX11_init_262 (List.mem_append_right _ (by decide)) (by decide) (by decide) (by decide) ?_
  refine K_dup C dX11_init_263 rfl ?_
  refine K_bipush (x := 23) C dX11_init_264 (by decide) ?_
  refine K_bipush (x := 97) C dX11_init_266 (by decide) ?_
  refine K_wd (n := 23) C dX11_init_268 (List.mem_append_right _ (by decide)) (by decide) (by decide) (by decide) ?_
  refine K_dup C dX11_init_269 rfl ?_
  refine K_bipush (x := 24) C dX11_init_270 (by decide) ?_
  refine K_bipush (x := 114) C dX11_init_272 (by decide) ?_
  refine K_wd (n := 24) C dX11_init_274 (List.mem_append_right _ (by decide)) (by decide) (by decide) (by decide) ?_
  refine K_dup C dX11_init_275 rfl ?_
  refine K_bipush (x := 25) C dX11_init_276 (by decide) ?_
  refine K_bipush (x := 115) C dX11_init_278 (by decide) ?_
  refine K_wd (n := 25) C dX11_init_280 (List.mem_append_right _ (by decide)) (by decide) (by decide) (by decide) ?_
  refine K_dup C dX11_init_281 rfl ?_
  refine K_bipush (x := 26) C dX11_init_282 (by decide) ?_
  refine K_bipush (x := 32) C dX11_init_284 (by decide) ?_
  refine K_wd (n := 26) C dX11_init_286 (List.mem_append_right _ (by decide)) (by decide) (by decide) (by decide) ?_
  refine K_dup C dX11_init_287 rfl ?_
  refine K_bipush (x := 27) C dX11_init_288 (by decide) ?_
  refine K_bipush (x := 119) C dX11_init_290 (by decide) ?_
  refine K_wd (n := 27) C dX11_init_292 (List.mem_append_right _ (by decide)) (by decide) (by decide) (by decide) ?_
  refine K_dup C dX11_init_293 rfl ?_
  refine K_bipush (x := 28) C dX11_init_294 (by decide) ?_
  refine K_bipush (x := 97) C dX11_init_296 (by decide) ?_
  refine K_wd (n := 28) C dX11_init_298 (List.mem_append_right _ (by decide)) (by decide) (by decide) (by decide) ?_
  refine K_dup C dX11_init_299 rfl ?_
  refine K_bipush (x := 29) C dX11_init_300 (by decide) ?_
  refine K_bipush (x := 105) C dX11_init_302 (by decide) ?_
  refine K_wd (n := 29) C dX11_init_304 (List.mem_append_right _ (by decide)) (by decide) (by decide) (by decide) ?_
  refine K_dup C dX11_init_305 rfl ?_
  refine K_bipush (x := 30) C dX11_init_306 (by decide) ?_
  refine K_bipush (x := 116) C dX11_init_308 (by decide) ?_
  refine K_wd (n := 30) C dX11_init_310 (List.mem_append_right _ (by decide)) (by decide) (by decide) (by decide) ?_
  refine K_dup C dX11_init_311 rfl ?_
  refine K_bipush (x := 31) C dX11_init_312 (by decide) ?_
  refine K_bipush (x := 32) C dX11_init_314 (by decide) ?_
  refine K_wd (n := 31) C dX11_init_316 (List.mem_append_right _ (by decide)) (by decide) (by decide) (by decide) ?_
  refine K_dup C dX11_init_317 rfl ?_
  refine K_bipush (x := 32) C dX11_init_318 (by decide) ?_
  refine K_bipush (x := 114) C dX11_init_320 (by decide) ?_
  refine K_wd (n := 32) C dX11_init_322 (List.mem_append_right _ (by decide)) (by decide) (by decide) (by decide) ?_
  refine K_dup C dX11_init_323 rfl ?_
  refine K_bipush (x := 33) C dX11_init_324 (by decide) ?_
  refine K_bipush (x := 97) C dX11_init_326 (by decide) ?_
  refine K_wd (n := 33) C dX11_init_328 (List.mem_append_right _ (by decide)) (by decide) (by decide) (by decide) ?_
  refine K_dup C dX11_init_329 rfl ?_
  refine K_bipush (x := 34) C dX11_init_330 (by decide) ?_
  refine K_bipush (x := 116) C dX11_init_332 (by decide) ?_
  refine K_wd (n := 34) C dX11_init_334 (List.mem_append_right _ (by decide)) (by decide) (by decide) (by decide) ?_
  refine K_dup C dX11_init_335 rfl ?_
  refine K_bipush (x := 35) C dX11_init_336 (by decide) ?_
  refine K_bipush (x := 101) C dX11_init_338 (by decide) ?_
  refine K_wd (n := 35) C dX11_init_340 (List.mem_append_right _ (by decide)) (by decide) (by decide) (by decide) ?_
  refine K_dup C dX11_init_341 rfl ?_
  refine K_bipush (x := 36) C dX11_init_342 (by decide) ?_
  refine K_bipush (x := 32) C dX11_init_344 (by decide) ?_
  refine K_wd (n := 36) C dX11_init_346 (List.mem_append_right _ (by decide)) (by decide) (by decide) (by decide) ?_
  refine K_dup C dX11_init_347 rfl ?_
  refine K_bipush (x := 37) C dX11_init_348 (by decide) ?_
  refine K_bipush (x := 99) C dX11_init_350 (by decide) ?_
  refine K_wd (n := 37) C dX11_init_352 (List.mem_append_right _ (by decide)) (by decide) (by decide) (by decide) ?_
  refine K_dup C dX11_init_353 rfl ?_
  refine K_bipush (x := 38) C dX11_init_354 (by decide) ?_
  refine K_bipush (x := 97) C dX11_init_356 (by decide) ?_
  refine K_wd (n := 38) C dX11_init_358 (List.mem_append_right _ (by decide)) (by decide) (by decide) (by decide) ?_
  refine K_dup C dX11_init_359 rfl ?_
  refine K_bipush (x := 39) C dX11_init_360 (by decide) ?_
  refine K_bipush (x := 112) C dX11_init_362 (by decide) ?_
  refine K_wd (n := 39) C dX11_init_364 (List.mem_append_right _ (by decide)) (by decide) (by decide) (by decide) ?_
  refine K_dup C dX11_init_365 rfl ?_
  refine K_bipush (x := 40) C dX11_init_366 (by decide) ?_
  refine K_bipush (x := 32) C dX11_init_368 (by decide) ?_
  refine K_wd (n := 40) C dX11_init_370 (List.mem_append_right _ (by decide)) (by decide) (by decide) (by decide) ?_
  refine K_dup C dX11_init_371 rfl ?_
  refine K_bipush (x := 41) C dX11_init_372 (by decide) ?_
  refine K_bipush (x := 97) C dX11_init_374 (by decide) ?_
  refine K_wd (n := 41) C dX11_init_376 (List.mem_append_right _ (by decide)) (by decide) (by decide) (by decide) ?_
  refine K_dup C dX11_init_377 rfl ?_
  refine K_bipush (x := 42) C dX11_init_378 (by decide) ?_
  refine K_bipush (x := 103) C dX11_init_380 (by decide) ?_
  refine K_wd (n := 42) C dX11_init_382 (List.mem_append_right _ (by decide)) (by decide) (by decide) (by decide) ?_
  refine K_dup C dX11_init_383 rfl ?_
  refine K_bipush (x := 43) C dX11_init_384 (by decide) ?_
  refine K_bipush (x := 101) C dX11_init_386 (by decide) ?_
  refine K_wd (n := 43) C dX11_init_388 (List.mem_append_right _ (by decide)) (by decide) (by decide) (by decide) ?_
  refine K_dup C dX11_init_389 rfl ?_
  refine K_bipush (x := 44) C dX11_init_390 (by decide) ?_
  refine K_bipush (x := 32) C dX11_init_392 (by decide) ?_
  refine K_wd (n := 44) C dX11_init_394 (List.mem_append_right _ (by decide)) (by decide) (by decide) (by decide) ?_
  refine K_dup C dX11_init_395 rfl ?_
  refine K_bipush (x := 45) C dX11_init_396 (by decide) ?_
  refine K_bipush (x := 99) C dX11_init_398 (by decide) ?_
  refine K_wd (n := 45) C dX11_init_400 (List.mem_append_right _ (by decide)) (by decide) (by decide) (by decide) ?_
  refine K_dup C dX11_init_401 rfl ?_
  refine K_bipush (x := 46) C dX11_init_402 (by decide) ?_
  refine K_bipush (x := 108) C dX11_init_404 (by decide) ?_
  refine K_wd (n := 46) C dX11_init_406 (List.mem_append_right _ (by decide)) (by decide) (by decide) (by decide) ?_
  refine K_dup C dX11_init_407 rfl ?_
  refine K_bipush (x := 47) C dX11_init_408 (by decide) ?_
  refine K_bipush (x := 97) C dX11_init_410 (by decide) ?_
  refine K_wd (n := 47) C dX11_init_412 (List.mem_append_right _ (by decide)) (by decide) (by decide) (by decide) ?_
  refine K_dup C dX11_init_413 rfl ?_
  refine K_bipush (x := 48) C dX11_init_414 (by decide) ?_
  refine K_bipush (x := 115) C dX11_init_416 (by decide) ?_
  refine K_wd (n := 48) C dX11_init_418 (List.mem_append_right _ (by decide)) (by decide) (by decide) (by decide) ?_
  refine K_dup C dX11_init_419 rfl ?_
  refine K_bipush (x := 49) C dX11_init_420 (by decide) ?_
  refine K_bipush (x := 115) C dX11_init_422 (by decide) ?_
  refine K_wd (n := 49) C dX11_init_424 (List.mem_append_right _ (by decide)) (by decide) (by decide) (by decide) ?_
  refine K_dup C dX11_init_425 rfl ?_
  refine K_bipush (x := 50) C dX11_init_426 (by decide) ?_
  refine K_bipush (x := 32) C dX11_init_428 (by decide) ?_
  refine K_wd (n := 50) C dX11_init_430 (List.mem_append_right _ (by decide)) (by decide) (by decide) (by decide) ?_
  refine K_dup C dX11_init_431 rfl ?_
  refine K_bipush (x := 51) C dX11_init_432 (by decide) ?_
  refine K_bipush (x := 104) C dX11_init_434 (by decide) ?_
  refine K_wd (n := 51) C dX11_init_436 (List.mem_append_right _ (by decide)) (by decide) (by decide) (by decide) ?_
  refine K_dup C dX11_init_437 rfl ?_
  refine K_bipush (x := 52) C dX11_init_438 (by decide) ?_
  refine K_bipush (x := 97) C dX11_init_440 (by decide) ?_
  refine K_wd (n := 52) C dX11_init_442 (List.mem_append_right _ (by decide)) (by decide) (by decide) (by decide) ?_
  refine K_dup C dX11_init_443 rfl ?_
  refine K_bipush (x := 53) C dX11_init_444 (by decide) ?_
  refine K_bipush (x := 108) C dX11_init_446 (by decide) ?_
  refine K_wd (n := 53) C dX11_init_448 (List.mem_append_right _ (by decide)) (by decide) (by decide) (by decide) ?_
  refine K_dup C dX11_init_449 rfl ?_
  refine K_bipush (x := 54) C dX11_init_450 (by decide) ?_
  refine K_bipush (x := 102) C dX11_init_452 (by decide) ?_
  refine K_wd (n := 54) C dX11_init_454 (List.mem_append_right _ (by decide)) (by decide) (by decide) (by decide) ?_
  refine K_dup C dX11_init_455 rfl ?_
  refine K_bipush (x := 55) C dX11_init_456 (by decide) ?_
  refine K_bipush (x := 32) C dX11_init_458 (by decide) ?_
  refine K_wd (n := 55) C dX11_init_460 (List.mem_append_right _ (by decide)) (by decide) (by decide) (by decide) ?_
  refine K_dup C dX11_init_461 rfl ?_
  refine K_bipush (x := 56) C dX11_init_462 (by decide) ?_
  refine K_bipush (x := 106) C dX11_init_464 (by decide) ?_
  refine K_wd (n := 56) C dX11_init_466 (List.mem_append_right _ (by decide)) (by decide) (by decide) (by decide) ?_
  refine K_dup C dX11_init_467 rfl ?_
  refine K_bipush (x := 57) C dX11_init_468 (by decide) ?_
  refine K_bipush (x := 111) C dX11_init_470 (by decide) ?_
  refine K_wd (n := 57) C dX11_init_472 (List.mem_append_right _ (by decide)) (by decide) (by decide) (by decide) ?_
  refine K_dup C dX11_init_473 rfl ?_
  refine K_bipush (x := 58) C dX11_init_474 (by decide) ?_
  refine K_bipush (x := 105) C dX11_init_476 (by decide) ?_
  refine K_wd (n := 58) C dX11_init_478 (List.mem_append_right _ (by decide)) (by decide) (by decide) (by decide) ?_
  refine K_dup C dX11_init_479 rfl ?_
  refine K_bipush (x := 59) C dX11_init_480 (by decide) ?_
  refine K_bipush (x := 110) C dX11_init_482 (by decide) ?_
  refine K_wd (n := 59) C dX11_init_484 (List.mem_append_right _ (by decide)) (by decide) (by decide) (by decide) ?_
  refine K_dup C dX11_init_485 rfl ?_
  refine K_bipush (x := 60) C dX11_init_486 (by decide) ?_
  refine K_bipush (x := 116) C dX11_init_488 (by decide) ?_
  refine K_wd (n := 60) C dX11_init_490 (List.mem_append_right _ (by decide)) (by decide) (by decide) (by decide) ?_
  refine K_dup C dX11_init_491 rfl ?_
  refine K_bipush (x := 61) C dX11_init_492 (by decide) ?_
  refine K_bipush (x := 32) C dX11_init_494 (by decide) ?_
  refine K_wd (n := 61) C dX11_init_496 (List.mem_append_right _ (by decide)) (by decide) (by decide) (by decide) ?_
  refine K_dup C dX11_init_497 rfl ?_
  refine K_bipush (x := 62) C dX11_init_498 (by decide) ?_
  refine K_bipush (x := 115) C dX11_init_500 (by decide) ?_
  refine K_wd (n := 62) C dX11_init_502 (List.mem_append_right _ (by decide)) (by decide) (by decide) (by decide) ?_
  refine K_dup C dX11_init_503 rfl ?_
  refine K_bipush (x := 63) C dX11_init_504 (by decide) ?_
  refine K_bipush (x := 105) C dX11_init_506 (by decide) ?_
  refine K_wd (n := 63) C dX11_init_508 (List.mem_append_right _ (by decide)) (by decide) (by decide) (by decide) ?_
  refine K_dup C dX11_init_509 rfl ?_
  refine K_bipush (x := 64) C dX11_init_510 (by decide) ?_
  refine K_bipush (x := 110) C dX11_init_512 (by decide) ?_
  refine K_wd (n := 64) C dX11_init_514 (List.mem_append_right _ (by decide)) (by decide) (by decide) (by decide) ?_
  refine K_dup C dX11_init_515 rfl ?_
  refine K_bipush (x := 65) C dX11_init_516 (by decide) ?_
  refine K_bipush (x := 103) C dX11_init_518 (by decide) ?_
  refine K_wd (n := 65) C dX11_init_520 (List.mem_append_right _ (by decide)) (by decide) (by decide) (by decide) ?_
  refine K_dup C dX11_init_521 rfl ?_
  refine K_bipush (x := 66) C dX11_init_522 (by decide) ?_
  refine K_bipush (x := 108) C dX11_init_524 (by decide) ?_
  refine K_wd (n := 66) C dX11_init_526 (List.mem_append_right _ (by decide)) (by decide) (by decide) (by decide) ?_
  refine K_dup C dX11_init_527 rfl ?_
  refine K_bipush (x := 67) C dX11_init_528 (by decide) ?_
  refine K_bipush (x := 101) C dX11_init_530 (by decide) ?_
  refine K_wd (n := 67) C dX11_init_532 (List.mem_append_right _ (by decide)) (by decide) (by decide) (by decide) ?_
  refine K_dup C dX11_init_533 rfl ?_
  refine K_bipush (x := 68) C dX11_init_534 (by decide) ?_
  refine K_bipush (x := 32) C dX11_init_536 (by decide) ?_
  refine K_wd (n := 68) C dX11_init_538 (List.mem_append_right _ (by decide)) (by decide) (by decide) (by decide) ?_
  refine K_dup C dX11_init_539 rfl ?_
  refine K_bipush (x := 69) C dX11_init_540 (by decide) ?_
  refine K_bipush (x := 116) C dX11_init_542 (by decide) ?_
  refine K_wd (n := 69) C dX11_init_544 (List.mem_append_right _ (by decide)) (by decide) (by decide) (by decide) ?_
  refine K_dup C dX11_init_545 rfl ?_
  refine K_bipush (x := 70) C dX11_init_546 (by decide) ?_
  refine K_bipush (x := 111) C dX11_init_548 (by decide) ?_
  refine K_wd (n := 70) C dX11_init_550 (List.mem_append_right _ (by decide)) (by decide) (by decide) (by decide) ?_
  refine K_dup C dX11_init_551 rfl ?_
  refine K_bipush (x := 71) C dX11_init_552 (by decide) ?_
  refine K_bipush (x := 32) C dX11_init_554 (by decide) ?_
  refine K_wd (n := 71) C dX11_init_556 (List.mem_append_right _ (by decide)) (by decide) (by decide) (by decide) ?_
  refine K_dup C dX11_init_557 rfl ?_
  refine K_bipush (x := 72) C dX11_init_558 (by decide) ?_
  refine K_bipush (x := 111) C dX11_init_560 (by decide) ?_
  refine K_wd (n := 72) C dX11_init_562 (List.mem_append_right _ (by decide)) (by decide) (by decide) (by decide) ?_
  refine K_dup C dX11_init_563 rfl ?_
  refine K_bipush (x := 73) C dX11_init_564 (by decide) ?_
  refine K_bipush (x := 114) C dX11_init_566 (by decide) ?_
  refine K_wd (n := 73) C dX11_init_568 (List.mem_append_right _ (by decide)) (by decide) (by decide) (by decide) ?_
  refine K_dup C dX11_init_569 rfl ?_
  refine K_bipush (x := 74) C dX11_init_570 (by decide) ?_
  refine K_bipush (x := 32) C dX11_init_572 (by decide) ?_
  refine K_wd (n := 74) C dX11_init_574 (List.mem_append_right _ (by decide)) (by decide) (by decide) (by decide) ?_
  refine K_putr (ci := 11) (j := 22) (t := 1123) C dX11_init_575 fl_X11_55 (List.mem_append_left _ (List.mem_append_left _ (List.mem_append_left _ (List.mem_append_left _ (List.mem_append_left _ (List.mem_append_left _ (List.mem_append_left _ (List.mem_append_left _ (List.mem_append_left _ (List.mem_append_left _ (List.mem_append_left _ (List.mem_append_left _ (List.mem_append_left _ (List.mem_append_left _ (List.mem_append_left _ (List.mem_append_left _ ho)))))))))))))))) rfl rfl rfl ⟨rfl, fun q h => by cases h; exact ⟨rfl, rfl⟩⟩ rfl rfl ?_
  refine K_aload_n C dX11_init_578 rfl 0 rfl ?_
  refine K_iconst (x := (-1)) C dX11_init_579 (by decide) ?_
  refine K_puti (ci := 11) (j := 24) C dX11_init_580 fl_X11_58 (List.mem_append_left _ (List.mem_append_left _ (List.mem_append_left _ (List.mem_append_left _ (List.mem_append_left _ (List.mem_append_left _ (List.mem_append_left _ (List.mem_append_left _ (List.mem_append_left _ (List.mem_append_left _ (List.mem_append_left _ (List.mem_append_left _ (List.mem_append_left _ (List.mem_append_left _ (List.mem_append_left _ (List.mem_append_left _ ho)))))))))))))))) rfl rfl (Or.inl (fun q h => by cases h; rfl)) rfl ?_
  refine K_aload_n C dX11_init_583 rfl 0 rfl ?_
  refine K_bipush (x := 48) C dX11_init_584 (by decide) ?_
  refine K_newa_int (k := 1131) (n := 48) (ce' := 17) (sl' := 1223) C dX11_init_586 aw_int rfl (fun j => (hf 1131 (by decide)).1 j) (by decide) (by decide) (by decide) rfl rfl ⟨by decide, by decide⟩ ?_
  refine K_putr (ci := 11) (j := 30) (t := 1131) C dX11_init_588 fl_X11_62 (List.mem_append_left _ (List.mem_append_left _ (List.mem_append_left _ (List.mem_append_left _ (List.mem_append_left _ (List.mem_append_left _ (List.mem_append_left _ (List.mem_append_left _ (List.mem_append_left _ (List.mem_append_left _ (List.mem_append_left _ (List.mem_append_left _ (List.mem_append_left _ (List.mem_append_left _ (List.mem_append_left _ (List.mem_append_left _ (List.mem_append_left _ ho))))))))))))))))) rfl rfl rfl ⟨rfl, fun q h => by cases h; exact ⟨rfl, rfl⟩⟩ rfl rfl ?_
  refine K_aload_n C dX11_init_591 rfl 0 rfl ?_
  refine K_bipush (x := 48) C dX11_init_592 (by decide) ?_
  refine K_newa_int (k := 1132) (n := 48) (ce' := 18) (sl' := 1271) C dX11_init_594 aw_int rfl (fun j => (hf 1132 (by decide)).1 j) (by decide) (by decide) (by decide) rfl rfl ⟨by decide, by decide⟩ ?_
  refine K_putr (ci := 11) (j := 31) (t := 1132) C dX11_init_596 fl_X11_65 (List.mem_append_left _ (List.mem_append_left _ (List.mem_append_left _ (List.mem_append_left _ (List.mem_append_left _ (List.mem_append_left _ (List.mem_append_left _ (List.mem_append_left _ (List.mem_append_left _ (List.mem_append_left _ (List.mem_append_left _ (List.mem_append_left _ (List.mem_append_left _ (List.mem_append_left _ (List.mem_append_left _ (List.mem_append_left _ (List.mem_append_left _ (List.mem_append_left _ ho)))))))))))))))))) rfl rfl rfl ⟨rfl, fun q h => by cases h; exact ⟨rfl, rfl⟩⟩ rfl rfl ?_
  refine K_aload_n C dX11_init_599 rfl 0 rfl ?_
  refine K_bipush (x := 48) C dX11_init_600 (by decide) ?_
  refine K_newa_int (k := 1133) (n := 48) (ce' := 19) (sl' := 1319) C dX11_init_602 aw_int rfl (fun j => (hf 1133 (by decide)).1 j) (by decide) (by decide) (by decide) rfl rfl ⟨by decide, by decide⟩ ?_
  refine K_putr (ci := 11) (j := 32) (t := 1133) C dX11_init_604 fl_X11_68 (List.mem_append_left _ (List.mem_append_left _ (List.mem_append_left _ (List.mem_append_left _ (List.mem_append_left _ (List.mem_append_left _ (List.mem_append_left _ (List.mem_append_left _ (List.mem_append_left _ (List.mem_append_left _ (List.mem_append_left _ (List.mem_append_left _ (List.mem_append_left _ (List.mem_append_left _ (List.mem_append_left _ (List.mem_append_left _ (List.mem_append_left _ (List.mem_append_left _ (List.mem_append_left _ ho))))))))))))))))))) rfl rfl rfl ⟨rfl, fun q h => by cases h; exact ⟨rfl, rfl⟩⟩ rfl rfl ?_
  refine K_aload_n C dX11_init_607 rfl 0 rfl ?_
  refine K_bipush (x := 48) C dX11_init_608 (by decide) ?_
  refine K_newa_int (k := 1134) (n := 48) (ce' := 20) (sl' := 1367) C dX11_init_610 aw_int rfl (fun j => (hf 1134 (by decide)).1 j) (by decide) (by decide) (by decide) rfl rfl ⟨by decide, by decide⟩ ?_
  refine K_putr (ci := 11) (j := 33) (t := 1134) C dX11_init_612 fl_X11_71 (List.mem_append_left _ (List.mem_append_left _ (List.mem_append_left _ (List.mem_append_left _ (List.mem_append_left _ (List.mem_append_left _ (List.mem_append_left _ (List.mem_append_left _ (List.mem_append_left _ (List.mem_append_left _ (List.mem_append_left _ (List.mem_append_left _ (List.mem_append_left _ (List.mem_append_left _ (List.mem_append_left _ (List.mem_append_left _ (List.mem_append_left _ (List.mem_append_left _ (List.mem_append_left _ (List.mem_append_left _ ho)))))))))))))))))))) rfl rfl rfl ⟨rfl, fun q h => by cases h; exact ⟨rfl, rfl⟩⟩ rfl rfl ?_
  refine K_aload_n C dX11_init_615 rfl 0 rfl ?_
  refine K_bipush (x := 48) C dX11_init_616 (by decide) ?_
  refine K_newa_int (k := 1135) (n := 48) (ce' := 21) (sl' := 1415) C dX11_init_618 aw_int rfl (fun j => (hf 1135 (by decide)).1 j) (by decide) (by decide) (by decide) rfl rfl ⟨by decide, by decide⟩ ?_
  refine K_putr (ci := 11) (j := 34) (t := 1135) C dX11_init_620 fl_X11_74 (List.mem_append_left _ (List.mem_append_left _ (List.mem_append_left _ (List.mem_append_left _ (List.mem_append_left _ (List.mem_append_left _ (List.mem_append_left _ (List.mem_append_left _ (List.mem_append_left _ (List.mem_append_left _ (List.mem_append_left _ (List.mem_append_left _ (List.mem_append_left _ (List.mem_append_left _ (List.mem_append_left _ (List.mem_append_left _ (List.mem_append_left _ (List.mem_append_left _ (List.mem_append_left _ (List.mem_append_left _ (List.mem_append_left _ ho))))))))))))))))))))) rfl rfl rfl ⟨rfl, fun q h => by cases h; exact ⟨rfl, rfl⟩⟩ rfl rfl ?_
  refine K_aload_n C dX11_init_623 rfl 0 rfl ?_
  refine K_bipush (x := 48) C dX11_init_624 (by decide) ?_
  refine K_newa_int (k := 1136) (n := 48) (ce' := 22) (sl' := 1463) C dX11_init_626 aw_int rfl (fun j => (hf 1136 (by decide)).1 j) (by decide) (by decide) (by decide) rfl rfl ⟨by decide, by decide⟩ ?_
  refine K_putr (ci := 11) (j := 35) (t := 1136) C dX11_init_628 fl_X11_77 (List.mem_append_left _ (List.mem_append_left _ (List.mem_append_left _ (List.mem_append_left _ (List.mem_append_left _ (List.mem_append_left _ (List.mem_append_left _ (List.mem_append_left _ (List.mem_append_left _ (List.mem_append_left _ (List.mem_append_left _ (List.mem_append_left _ (List.mem_append_left _ (List.mem_append_left _ (List.mem_append_left _ (List.mem_append_left _ (List.mem_append_left _ (List.mem_append_left _ (List.mem_append_left _ (List.mem_append_left _ (List.mem_append_left _ (List.mem_append_left _ ho)))))))))))))))))))))) rfl rfl rfl ⟨rfl, fun q h => by cases h; exact ⟨rfl, rfl⟩⟩ rfl rfl ?_
  refine K_aload_n C dX11_init_631 rfl 0 rfl ?_
  refine K_bipush (x := 48) C dX11_init_632 (by decide) ?_
  refine K_newa_int (k := 1137) (n := 48) (ce' := 23) (sl' := 1511) C dX11_init_634 aw_int rfl (fun j => (hf 1137 (by decide)).1 j) (by decide) (by decide) (by decide) rfl rfl ⟨by decide, by decide⟩ ?_
  refine K_putr (ci := 11) (j := 36) (t := 1137) C dX11_init_636 fl_X11_80 (List.mem_append_left _ (List.mem_append_left _ (List.mem_append_left _ (List.mem_append_left _ (List.mem_append_left _ (List.mem_append_left _ (List.mem_append_left _ (List.mem_append_left _ (List.mem_append_left _ (List.mem_append_left _ (List.mem_append_left _ (List.mem_append_left _ (List.mem_append_left _ (List.mem_append_left _ (List.mem_append_left _ (List.mem_append_left _ (List.mem_append_left _ (List.mem_append_left _ (List.mem_append_left _ (List.mem_append_left _ (List.mem_append_left _ (List.mem_append_left _ (List.mem_append_left _ ho))))))))))))))))))))))) rfl rfl rfl ⟨rfl, fun q h => by cases h; exact ⟨rfl, rfl⟩⟩ rfl rfl ?_
  refine K_aload_n C dX11_init_639 rfl 0 rfl ?_
  refine K_bipush (x := 48) C dX11_init_640 (by decide) ?_
  refine K_newa_int (k := 1138) (n := 48) (ce' := 24) (sl' := 1559) C dX11_init_642 aw_int rfl (fun j => (hf 1138 (by decide)).1 j) (by decide) (by decide) (by decide) rfl rfl ⟨by decide, by decide⟩ ?_
  refine K_putr (ci := 11) (j := 37) (t := 1138) C dX11_init_644 fl_X11_83 (List.mem_append_left _ (List.mem_append_left _ (List.mem_append_left _ (List.mem_append_left _ (List.mem_append_left _ (List.mem_append_left _ (List.mem_append_left _ (List.mem_append_left _ (List.mem_append_left _ (List.mem_append_left _ (List.mem_append_left _ (List.mem_append_left _ (List.mem_append_left _ (List.mem_append_left _ (List.mem_append_left _ (List.mem_append_left _ (List.mem_append_left _ (List.mem_append_left _ (List.mem_append_left _ (List.mem_append_left _ (List.mem_append_left _ (List.mem_append_left _ (List.mem_append_left _ (List.mem_append_left _ ho)))))))))))))))))))))))) rfl rfl rfl ⟨rfl, fun q h => by cases h; exact ⟨rfl, rfl⟩⟩ rfl rfl ?_
  refine K_aload_n C dX11_init_647 rfl 0 rfl ?_
  refine K_bipush (x := 8) C dX11_init_648 (by decide) ?_
  refine K_newa_int (k := 1141) (n := 8) (ce' := 25) (sl' := 1567) C dX11_init_650 aw_int rfl (fun j => (hf 1141 (by decide)).1 j) (by decide) (by decide) (by decide) rfl rfl ⟨by decide, by decide⟩ ?_
  refine K_putr (ci := 11) (j := 40) (t := 1141) C dX11_init_652 fl_X11_86 (List.mem_append_left _ (List.mem_append_left _ (List.mem_append_left _ (List.mem_append_left _ (List.mem_append_left _ (List.mem_append_left _ (List.mem_append_left _ (List.mem_append_left _ (List.mem_append_left _ (List.mem_append_left _ (List.mem_append_left _ (List.mem_append_left _ (List.mem_append_left _ (List.mem_append_left _ (List.mem_append_left _ (List.mem_append_left _ (List.mem_append_left _ (List.mem_append_left _ (List.mem_append_left _ (List.mem_append_left _ (List.mem_append_left _ (List.mem_append_left _ (List.mem_append_left _ (List.mem_append_left _ (List.mem_append_left _ ho))))))))))))))))))))))))) rfl rfl rfl ⟨rfl, fun q h => by cases h; exact ⟨rfl, rfl⟩⟩ rfl rfl ?_
  refine K_aload_n C dX11_init_655 rfl 0 rfl ?_
  refine K_iconst (x := 4) C dX11_init_656 (by decide) ?_
  refine K_newa_boolean (k := 1142) (n := 4) (ce' := 26) (sl' := 1571) C dX11_init_657 aw_boolean rfl (fun j => (hf 1142 (by decide)).1 j) (by decide) (by decide) (by decide) rfl rfl ⟨by decide, by decide⟩ ?_
  refine K_putr (ci := 11) (j := 41) (t := 1142) C dX11_init_659 fl_X11_89 (List.mem_append_left _ (List.mem_append_left _ (List.mem_append_left _ (List.mem_append_left _ (List.mem_append_left _ (List.mem_append_left _ (List.mem_append_left _ (List.mem_append_left _ (List.mem_append_left _ (List.mem_append_left _ (List.mem_append_left _ (List.mem_append_left _ (List.mem_append_left _ (List.mem_append_left _ (List.mem_append_left _ (List.mem_append_left _ (List.mem_append_left _ (List.mem_append_left _ (List.mem_append_left _ (List.mem_append_left _ (List.mem_append_left _ (List.mem_append_left _ (List.mem_append_left _ (List.mem_append_left _ (List.mem_append_left _ (List.mem_append_left _ ho)))))))))))))))))))))))))) rfl rfl rfl ⟨rfl, fun q h => by cases h; exact ⟨rfl, rfl⟩⟩ rfl rfl ?_
  refine K_aload_n C dX11_init_662 rfl 0 rfl ?_
  refine K_bipush (x := 60) C dX11_init_663 (by decide) ?_
  refine K_newa_boolean (k := 1145) (n := 60) (ce' := 27) (sl' := 1631) C dX11_init_665 aw_boolean rfl (fun j => (hf 1145 (by decide)).1 j) (by decide) (by decide) (by decide) rfl rfl ⟨by decide, by decide⟩ ?_
  refine K_putr (ci := 11) (j := 44) (t := 1145) C dX11_init_667 fl_X11_93 (List.mem_append_left _ (List.mem_append_left _ (List.mem_append_left _ (List.mem_append_left _ (List.mem_append_left _ (List.mem_append_left _ (List.mem_append_left _ (List.mem_append_left _ (List.mem_append_left _ (List.mem_append_left _ (List.mem_append_left _ (List.mem_append_left _ (List.mem_append_left _ (List.mem_append_left _ (List.mem_append_left _ (List.mem_append_left _ (List.mem_append_left _ (List.mem_append_left _ (List.mem_append_left _ (List.mem_append_left _ (List.mem_append_left _ (List.mem_append_left _ (List.mem_append_left _ (List.mem_append_left _ (List.mem_append_left _ (List.mem_append_left _ (List.mem_append_left _ ho))))))))))))))))))))))))))) rfl rfl rfl ⟨rfl, fun q h => by cases h; exact ⟨rfl, rfl⟩⟩ rfl rfl ?_
  refine K_aload_n C dX11_init_670 rfl 0 rfl ?_
  refine K_bipush (x := 12) C dX11_init_671 (by decide) ?_
  refine K_newa_int (k := 1146) (n := 12) (ce' := 28) (sl' := 1643) C dX11_init_673 aw_int rfl (fun j => (hf 1146 (by decide)).1 j) (by decide) (by decide) (by decide) rfl rfl ⟨by decide, by decide⟩ ?_
  refine K_putr (ci := 11) (j := 45) (t := 1146) C dX11_init_675 fl_X11_96 (List.mem_append_left _ (List.mem_append_left _ (List.mem_append_left _ (List.mem_append_left _ (List.mem_append_left _ (List.mem_append_left _ (List.mem_append_left _ (List.mem_append_left _ (List.mem_append_left _ (List.mem_append_left _ (List.mem_append_left _ (List.mem_append_left _ (List.mem_append_left _ (List.mem_append_left _ (List.mem_append_left _ (List.mem_append_left _ (List.mem_append_left _ (List.mem_append_left _ (List.mem_append_left _ (List.mem_append_left _ (List.mem_append_left _ (List.mem_append_left _ (List.mem_append_left _ (List.mem_append_left _ (List.mem_append_left _ (List.mem_append_left _ (List.mem_append_left _ (List.mem_append_left _ ho)))))))))))))))))))))))))))) rfl rfl rfl ⟨rfl, fun q h => by cases h; exact ⟨rfl, rfl⟩⟩ rfl rfl ?_
  refine K_aload_n C dX11_init_678 rfl 0 rfl ?_
  refine K_sipush (x := 1280) C dX11_init_679 (by decide) ?_
  refine K_newa_int (k := 1147) (n := 1280) (ce' := 29) (sl' := 2923) C dX11_init_682 aw_int rfl (fun j => (hf 1147 (by decide)).1 j) (by decide) (by decide) (by decide) rfl rfl ⟨by decide, by decide⟩ ?_
  refine K_putr (ci := 11) (j := 46) (t := 1147) C dX11_init_684 fl_X11_99 (List.mem_append_left _ (List.mem_append_left _ (List.mem_append_left _ (List.mem_append_left _ (List.mem_append_left _ (List.mem_append_left _ (List.mem_append_left _ (List.mem_append_left _ (List.mem_append_left _ (List.mem_append_left _ (List.mem_append_left _ (List.mem_append_left _ (List.mem_append_left _ (List.mem_append_left _ (List.mem_append_left _ (List.mem_append_left _ (List.mem_append_left _ (List.mem_append_left _ (List.mem_append_left _ (List.mem_append_left _ (List.mem_append_left _ (List.mem_append_left _ (List.mem_append_left _ (List.mem_append_left _ (List.mem_append_left _ (List.mem_append_left _ (List.mem_append_left _ (List.mem_append_left _ (List.mem_append_left _ ho))))))))))))))))))))))))))))) rfl rfl rfl ⟨rfl, fun q h => by cases h; exact ⟨rfl, rfl⟩⟩ rfl rfl ?_
  refine K_aload_n C dX11_init_687 rfl 0 rfl ?_
  refine K_bipush (x := 8) C dX11_init_688 (by decide) ?_
  refine K_newa_int (k := 1148) (n := 8) (ce' := 30) (sl' := 2931) C dX11_init_690 aw_int rfl (fun j => (hf 1148 (by decide)).1 j) (by decide) (by decide) (by decide) rfl rfl ⟨by decide, by decide⟩ ?_
  refine K_putr (ci := 11) (j := 47) (t := 1148) C dX11_init_692 fl_X11_102 (List.mem_append_left _ (List.mem_append_left _ (List.mem_append_left _ (List.mem_append_left _ (List.mem_append_left _ (List.mem_append_left _ (List.mem_append_left _ (List.mem_append_left _ (List.mem_append_left _ (List.mem_append_left _ (List.mem_append_left _ (List.mem_append_left _ (List.mem_append_left _ (List.mem_append_left _ (List.mem_append_left _ (List.mem_append_left _ (List.mem_append_left _ (List.mem_append_left _ (List.mem_append_left _ (List.mem_append_left _ (List.mem_append_left _ (List.mem_append_left _ (List.mem_append_left _ (List.mem_append_left _ (List.mem_append_left _ (List.mem_append_left _ (List.mem_append_left _ (List.mem_append_left _ (List.mem_append_left _ (List.mem_append_left _ ho)))))))))))))))))))))))))))))) rfl rfl rfl ⟨rfl, fun q h => by cases h; exact ⟨rfl, rfl⟩⟩ rfl rfl ?_
  refine K_aload_n C dX11_init_695 rfl 0 rfl ?_
  refine K_bipush (x := 40) C dX11_init_696 (by decide) ?_
  refine K_newa_int (k := 1152) (n := 40) (ce' := 31) (sl' := 2971) C dX11_init_698 aw_int rfl (fun j => (hf 1152 (by decide)).1 j) (by decide) (by decide) (by decide) rfl rfl ⟨by decide, by decide⟩ ?_
  refine K_putr (ci := 11) (j := 51) (t := 1152) C dX11_init_700 fl_X11_105 (List.mem_append_left _ (List.mem_append_left _ (List.mem_append_left _ (List.mem_append_left _ (List.mem_append_left _ (List.mem_append_left _ (List.mem_append_left _ (List.mem_append_left _ (List.mem_append_left _ (List.mem_append_left _ (List.mem_append_left _ (List.mem_append_left _ (List.mem_append_left _ (List.mem_append_left _ (List.mem_append_left _ (List.mem_append_left _ (List.mem_append_left _ (List.mem_append_left _ (List.mem_append_left _ (List.mem_append_left _ (List.mem_append_left _ (List.mem_append_left _ (List.mem_append_left _ (List.mem_append_left _ (List.mem_append_left _ (List.mem_append_left _ (List.mem_append_left _ (List.mem_append_left _ (List.mem_append_left _ (List.mem_append_left _ (List.mem_append_left _ ho))))))))))))))))))))))))))))))) rfl rfl rfl ⟨rfl, fun q h => by cases h; exact ⟨rfl, rfl⟩⟩ rfl rfl ?_
  refine K_aload_n C dX11_init_703 rfl 0 rfl ?_
  refine K_bipush (x := 12) C dX11_init_704 (by decide) ?_
  refine K_newa_int (k := 1154) (n := 12) (ce' := 32) (sl' := 2983) C dX11_init_706 aw_int rfl (fun j => (hf 1154 (by decide)).1 j) (by decide) (by decide) (by decide) rfl rfl ⟨by decide, by decide⟩ ?_
  refine K_putr (ci := 11) (j := 53) (t := 1154) C dX11_init_708 fl_X11_108 (List.mem_append_left _ (List.mem_append_left _ (List.mem_append_left _ (List.mem_append_left _ (List.mem_append_left _ (List.mem_append_left _ (List.mem_append_left _ (List.mem_append_left _ (List.mem_append_left _ (List.mem_append_left _ (List.mem_append_left _ (List.mem_append_left _ (List.mem_append_left _ (List.mem_append_left _ (List.mem_append_left _ (List.mem_append_left _ (List.mem_append_left _ (List.mem_append_left _ (List.mem_append_left _ (List.mem_append_left _ (List.mem_append_left _ (List.mem_append_left _ (List.mem_append_left _ (List.mem_append_left _ (List.mem_append_left _ (List.mem_append_left _ (List.mem_append_left _ (List.mem_append_left _ (List.mem_append_left _ (List.mem_append_left _ (List.mem_append_left _ (List.mem_append_left _ ho)))))))))))))))))))))))))))))))) rfl rfl rfl ⟨rfl, fun q h => by cases h; exact ⟨rfl, rfl⟩⟩ rfl rfl ?_
  refine K_aload_n C dX11_init_711 rfl 0 rfl ?_
  refine K_bipush (x := 12) C dX11_init_712 (by decide) ?_
  refine K_newa_int (k := 1155) (n := 12) (ce' := 33) (sl' := 2995) C dX11_init_714 aw_int rfl (fun j => (hf 1155 (by decide)).1 j) (by decide) (by decide) (by decide) rfl rfl ⟨by decide, by decide⟩ ?_
  refine K_putr (ci := 11) (j := 54) (t := 1155) C dX11_init_716 fl_X11_111 (List.mem_append_left _ (List.mem_append_left _ (List.mem_append_left _ (List.mem_append_left _ (List.mem_append_left _ (List.mem_append_left _ (List.mem_append_left _ (List.mem_append_left _ (List.mem_append_left _ (List.mem_append_left _ (List.mem_append_left _ (List.mem_append_left _ (List.mem_append_left _ (List.mem_append_left _ (List.mem_append_left _ (List.mem_append_left _ (List.mem_append_left _ (List.mem_append_left _ (List.mem_append_left _ (List.mem_append_left _ (List.mem_append_left _ (List.mem_append_left _ (List.mem_append_left _ (List.mem_append_left _ (List.mem_append_left _ (List.mem_append_left _ (List.mem_append_left _ (List.mem_append_left _ (List.mem_append_left _ (List.mem_append_left _ (List.mem_append_left _ (List.mem_append_left _ (List.mem_append_left _ ho))))))))))))))))))))))))))))))))) rfl rfl rfl ⟨rfl, fun q h => by cases h; exact ⟨rfl, rfl⟩⟩ rfl rfl ?_
  refine K_aload_n C dX11_init_719 rfl 0 rfl ?_
  refine K_bipush (x := 12) C dX11_init_720 (by decide) ?_
  refine K_newa_int (k := 1156) (n := 12) (ce' := 34) (sl' := 3007) C dX11_init_722 aw_int rfl (fun j => (hf 1156 (by decide)).1 j) (by decide) (by decide) (by decide) rfl rfl ⟨by decide, by decide⟩ ?_
  refine K_putr (ci := 11) (j := 55) (t := 1156) C dX11_init_724 fl_X11_114 (List.mem_append_left _ (List.mem_append_left _ (List.mem_append_left _ (List.mem_append_left _ (List.mem_append_left _ (List.mem_append_left _ (List.mem_append_left _ (List.mem_append_left _ (List.mem_append_left _ (List.mem_append_left _ (List.mem_append_left _ (List.mem_append_left _ (List.mem_append_left _ (List.mem_append_left _ (List.mem_append_left _ (List.mem_append_left _ (List.mem_append_left _ (List.mem_append_left _ (List.mem_append_left _ (List.mem_append_left _ (List.mem_append_left _ (List.mem_append_left _ (List.mem_append_left _ (List.mem_append_left _ (List.mem_append_left _ (List.mem_append_left _ (List.mem_append_left _ (List.mem_append_left _ (List.mem_append_left _ (List.mem_append_left _ (List.mem_append_left _ (List.mem_append_left _ (List.mem_append_left _ (List.mem_append_left _ ho)))))))))))))))))))))))))))))))))) rfl rfl rfl ⟨rfl, fun q h => by cases h; exact ⟨rfl, rfl⟩⟩ rfl rfl ?_
  refine K_aload_n C dX11_init_727 rfl 0 rfl ?_
  refine K_bipush (x := 12) C dX11_init_728 (by decide) ?_
  refine K_newa_int (k := 1157) (n := 12) (ce' := 35) (sl' := 3019) C dX11_init_730 aw_int rfl (fun j => (hf 1157 (by decide)).1 j) (by decide) (by decide) (by decide) rfl rfl ⟨by decide, by decide⟩ ?_
  refine K_putr (ci := 11) (j := 56) (t := 1157) C dX11_init_732 fl_X11_117 (List.mem_append_left _ (List.mem_append_left _ (List.mem_append_left _ (List.mem_append_left _ (List.mem_append_left _ (List.mem_append_left _ (List.mem_append_left _ (List.mem_append_left _ (List.mem_append_left _ (List.mem_append_left _ (List.mem_append_left _ (List.mem_append_left _ (List.mem_append_left _ (List.mem_append_left _ (List.mem_append_left _ (List.mem_append_left _ (List.mem_append_left _ (List.mem_append_left _ (List.mem_append_left _ (List.mem_append_left _ (List.mem_append_left _ (List.mem_append_left _ (List.mem_append_left _ (List.mem_append_left _ (List.mem_append_left _ (List.mem_append_left _ (List.mem_append_left _ (List.mem_append_left _ (List.mem_append_left _ (List.mem_append_left _ (List.mem_append_left _ (List.mem_append_left _ (List.mem_append_left _ (List.mem_append_left _ (List.mem_append_left _ ho))))))))))))))))))))))))))))))))))) rfl rfl rfl ⟨rfl, fun q h => by cases h; exact ⟨rfl, rfl⟩⟩ rfl rfl ?_
  refine K_aload_n C dX11_init_735 rfl 0 rfl ?_
  refine K_bipush (x := 12) C dX11_init_736 (by decide) ?_
  refine K_newa_int (k := 1158) (n := 12) (ce' := 36) (sl' := 3031) C dX11_init_738 aw_int rfl (fun j => (hf 1158 (by decide)).1 j) (by decide) (by decide) (by decide) rfl rfl ⟨by decide, by decide⟩ ?_
  refine K_putr (ci := 11) (j := 57) (t := 1158) C dX11_init_740 fl_X11_120 (List.mem_append_left _ (List.mem_append_left _ (List.mem_append_left _ (List.mem_append_left _ (List.mem_append_left _ (List.mem_append_left _ (List.mem_append_left _ (List.mem_append_left _ (List.mem_append_left _ (List.mem_append_left _ (List.mem_append_left _ (List.mem_append_left _ (List.mem_append_left _ (List.mem_append_left _ (List.mem_append_left _ (List.mem_append_left _ (List.mem_append_left _ (List.mem_append_left _ (List.mem_append_left _ (List.mem_append_left _ (List.mem_append_left _ (List.mem_append_left _ (List.mem_append_left _ (List.mem_append_left _ (List.mem_append_left _ (List.mem_append_left _ (List.mem_append_left _ (List.mem_append_left _ (List.mem_append_left _ (List.mem_append_left _ (List.mem_append_left _ (List.mem_append_left _ (List.mem_append_left _ (List.mem_append_left _ (List.mem_append_left _ (List.mem_append_left _ ho)))))))))))))))))))))))))))))))))))) rfl rfl rfl ⟨rfl, fun q h => by cases h; exact ⟨rfl, rfl⟩⟩ rfl rfl ?_
  refine K_iconst (x := 0) C dX11_init_743 (by decide) ?_
  refine K_istore_n (lv' := [(1, .int (0)), (0, .ref 1100)]) C dX11_init_744 rfl (by decide) rfl ?_
  refine K_ve (w := upA (up2 (upA v 1123 (wdU (v 1123) 75)) 1100 24 (-1)) 1122 (fl 900 ((up2 (upA v 1123 (wdU (v 1123) 75)) 1100 24 (-1)) 1122) 0)) (upA_id _ _).symm ?_
  exact loop 41 0 (by omega) (by omega)
