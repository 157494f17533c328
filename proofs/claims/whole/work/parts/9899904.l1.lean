section L1
variable {l : Launch} {R : Room} {y : fr_M} {L : Nat → Nat} {cA : Nat → ClassId} {D : va_G} {A0 : Nat → Prop} {p : Program} {e : Env} {s : State} {m : MethodId} {args : Array Value} {below : List Frame} {meth : Method} {c : Code} {Z : State → Prop} {ce sl : Nat} {T I : List Nat} {M : Nat → Nat → Bool} {v : fr_V} {u : fr_U} {pc : Nat} {lv : List (Nat × Value)} {st : List Value}
theorem K_lald (C : KC L cA D A0 y p s m args meth c) {k n : Nat} {i : Int32} (d : decode y.2.1 pc = .ok (.laload, 1)) (hk : k ∈ I) (hs : sh k = (22, n)) (hin : vp_in i n) (kk : KJ l R y L cA D A0 p e s m args below meth c Z ce sl T I M v u (pc + 1) lv (.long (u k i.toNatClampNeg) :: st)) : KJ l R y L cA D A0 p e s m args below meth c Z ce sl T I M v u pc lv (.int i :: .ref k :: st) := by
  intro H locs ls hP hD hS hT hl
  obtain ⟨q0, -, hq0⟩ := mwK_get (L := L) (cA := cA) (M := M) (v := v) (u := u) hk
  rw [entK_l hs] at hq0
  exact va_lald C.1 C.2.1 C.2.2.2.2.2.2.2.2.1 hP q0 2 hq0 rfl hin d (kk H locs ls hP hD hS hT hl)
theorem K_last (C : KC L cA D A0 y p s m args meth c) {k n : Nat} {i : Int32} {x : Int64} (d : decode y.2.1 pc = .ok (.lastore, 1)) (hk : k ∈ I) (hs : sh k = (22, n)) (hin : vp_in i n) (kk : KJ l R y L cA D A0 p e s m args below meth c Z ce sl T I M v (up3 u k i.toNatClampNeg x) (pc + 1) lv st) : KJ l R y L cA D A0 p e s m args below meth c Z ce sl T I M v u pc lv (.long x :: .int i :: .ref k :: st) := by
  intro H locs ls hP hD hS hT hl
  obtain ⟨q0, hi0, hq0⟩ := mwK_get (L := L) (cA := cA) (M := M) (v := v) (u := u) hk
  rw [entK_l hs] at hq0
  refine va_last C.1 C.2.1 C.2.2.2.2.2.2.2.2.1 hP hD hS q0 2 hq0 rfl hin d (fun H1 locs1 hP1 hD1 hS1 => ?_)
  have hset : (mwK L cA I M v u).set q0 (L k, .inl (cA 2, n, .inr (.inl (vp_updL (u k) i.toNatClampNeg x)))) = mwK L cA I M v (up3 u k i.toNatClampNeg x) :=
    mwK_set hD hi0 (by rw [entK_l hs, up3_self]) (fun _ _ => rfl) (fun _ _ => rfl) (fun a ha => up3_ne ha)
  rw [hset] at hP1 hD1
  exact kk H1 locs1 ls hP1 hD1 hS1 hT hl
theorem K_sld (C : KC L cA D A0 y p s m args meth c) {b n : Nat} {xs : Nat → Int32} (hX : va_X b n xs s s.heap) (hb : b < s.heap.size) (hA : ¬ A0 b) (hL : L 5000 = b) {i : Int32} (d : decode y.2.1 pc = .ok (.iaload, 1)) (hin : vp_in i n) (kk : KJ l R y L cA D A0 p e s m args below meth c Z ce sl T I M v u (pc + 1) lv (.int (xs i.toNatClampNeg) :: st)) : KJ l R y L cA D A0 p e s m args below meth c Z ce sl T I M v u pc lv (.int i :: .ref 5000 :: st) := by
  intro H locs ls hP hD hS hT hl
  have e9 : (Value.int i :: Value.ref 5000 :: st).map (cv L) = .int i :: .ref b :: st.map (cv L) := by simp [cv, hL]
  rw [e9]
  exact va_sld C.1 C.2.1 hX hb hA hS hin d (kk H locs ls hP hD hS hT hl)
theorem K_slen (C : KC L cA D A0 y p s m args meth c) {b n : Nat} {xs : Nat → Int32} (hX : va_X b n xs s s.heap) (hb : b < s.heap.size) (hA : ¬ A0 b) (hL : L 5000 = b) (d : decode y.2.1 pc = .ok (.arraylength, 1)) (kk : KJ l R y L cA D A0 p e s m args below meth c Z ce sl T I M v u (pc + 1) lv (.int (nI n) :: st)) : KJ l R y L cA D A0 p e s m args below meth c Z ce sl T I M v u pc lv (.ref 5000 :: st) := by
  intro H locs ls hP hD hS hT hl
  have e9 : (Value.ref 5000 :: st).map (cv L) = .ref b :: st.map (cv L) := by simp [cv, hL]
  rw [e9]
  exact va_slen C.1 C.2.1 hX hb hA hS d (kk H locs ls hP hD hS hT hl)
end L1
def LV (t : Nat) : List (Nat × Value) := [(4, .int (nI (6 * t))), (3, .ref 950), (2, .ref 1100), (1, .ref 1000), (0, .ref 5000)]
/-- where the law stands at a turn t: its world, the script of n ints xs at b, its room -/
def LE (L : Nat → Nat) (cA : Nat → ClassId) (D : va_G) (A0 : Nat → Prop) (p : Program) (s : State) (m : MethodId) (meth : Method) (c : Code) (b n : Nat) (xs : Nat → Int32) (ce sl : Nat) (I : List Nat) (M : Nat → Nat → Bool) : Prop :=
  KC L cA D A0 mLaw p s m #[Value.ref b] meth c ∧ L 5000 = b ∧ va_X b n xs s s.heap ∧ b < s.heap.size ∧ ¬ A0 b ∧ fr_I I ∧ (∀ k ∈ I, ∀ j, M k j = true) ∧ ce ≤ 601024 ∧ sl ≤ 7293034
section L2
variable {l : Launch} {L : Nat → Nat} {cA : Nat → ClassId} {D : va_G} {A0 : Nat → Prop} {p : Program} {e : Env} {s : State} {m : MethodId} {below : List Frame} {meth : Method} {c : Code} {Z : State → Prop} {ce sl : Nat} {I : List Nat} {M : Nat → Nat → Bool} {v : fr_V} {u : fr_U} {pc : Nat} {lv : List (Nat × Value)} {st : List Value} {b n t : Nat} {xs : Nat → Int32}
/-- script[i + k] -/
theorem K_arg (E : LE L cA D A0 p s m meth c b n xs ce sl I M) {k : Nat} {x : Int32} (d1 : decode cL_law pc = .ok (.aload_n 0, 1)) (d2 : decode cL_law (pc + 1) = .ok (.iload 4, 2)) (d3 : decode cL_law (pc + 3) = .ok (.iconst (k : Int), 1)) (d4 : decode cL_law (pc + 4) = .ok (.iadd, 1)) (d5 : decode cL_law (pc + 5) = .ok (.iaload, 1)) (hk : 6 * t + k < n) (hn : n ≤ 3072) (hx : xs (6 * t + k) = x)
    (kk : KJ l room_1 mLaw L cA D A0 p e s m #[Value.ref b] below meth c Z ce sl [] I M v u (pc + 6) (LV t) (.int x :: st)) : KJ l room_1 mLaw L cA D A0 p e s m #[Value.ref b] below meth c Z ce sl [] I M v u pc (LV t) st := by
  obtain ⟨C, hL, hX, hb, hA, -⟩ := E
  refine K_aload_n C d1 rfl 4 rfl ?_
  refine K_iload C d2 0 rfl ?_
  refine K_iconst (x := nI k) C d3 rfl ?_
  refine K_iadd C d4 ?_
  rw [nI_add]
  refine K_sld C hX hb hA hL d5 (vp_in_nI hk (by omega)) ?_
  rw [nI_clamp (by omega), hx]
  exact kk
/-- a call that makes nothing -/
theorem L_call (E : LE L cA D A0 p s m meth c b n xs ce sl I M) {z : fr_M} {idx o ci n9 : Nat} {As rest : List Value} {Qz : Option Value → fr_V → fr_U → Prop} (d : decode cL_law pc = .ok (.invokevirtual idx, 3)) (hw : Cond.methodLink RL idx z.1 ∈ gt) (hz : MOK z n9) (hv : Cond.instanceMethod z.1 ∈ gt ∧ Cond.selects z.1.cls z.1 z.1 ∈ gt) (hR : z.2.2.2.2.1 + 1 ≤ 12 ∧ 8 + (z.2.2.1 + 11) + z.2.2.2.2.2 ≤ 438) (ho : o ∈ I) (hs : (sh o).1 = ci) (hc : (fr_cls[ci]?).map (fun q => q.1) = some z.1.cls) (hst : st = As.reverse ++ .ref o :: rest) (hn : As.length = n9) (hsum : (rest.map fun x => x.category).sum ≤ 8) (hC : Con l z I v u (.ref o :: As) Qz)
    (k : ∀ r v' u', Qz r v' u' → KJ l room_1 mLaw L cA D A0 p e s m #[Value.ref b] below meth c Z ce sl [] I M v' u' (pc + 3) lv (r.toList ++ rest)) : KJ l room_1 mLaw L cA D A0 p e s m #[Value.ref b] below meth c Z ce sl [] I M v u pc lv st := by
  obtain ⟨C, -, -, -, -, -, hm, h1, h2⟩ := E
  exact K_callV C d hw hz hv hR ⟨by show ce ≤ 601024; omega, by show sl ≤ 7293034; omega⟩ (fun _ h => h) hm (fun hD => nd_all hD) ho hs hc hst hn hsum hC (fun _ _ _ _ k9 h h' => absurd h h') k
/-- the end of a turn -/
def NX (l : Launch) (cA : Nat → ClassId) (D : va_G) (A0 : Nat → Prop) (p : Program) (e : Env) (s : State) (m : MethodId) (below : List Frame) (meth : Method) (c : Code) (Z : State → Prop) (b n : Nat) (xs : Nat → Int32) (ce sl t : Nat) : Prop :=
  ∀ (L : Nat → Nat) (I : List Nat) (M : Nat → Nat → Bool) (v : fr_V) (u : fr_U) (ce' sl' : Nat), KC L cA D A0 mLaw p s m #[Value.ref b] meth c → L 5000 = b → fr_I I → (∀ k ∈ I, ∀ j, M k j = true) → RI I v → ce' ≤ ce + 2 → sl' ≤ sl + 100 → KJ l room_1 mLaw L cA D A0 p e s m #[Value.ref b] below meth c Z ce' sl' [] I M v u 1216 (LV t) []
theorem NX.at (nx : NX l cA D A0 p e s m below meth c Z b n xs ce sl t) (E : LE L cA D A0 p s m meth c b n xs ce sl I M) (h : RI I v) : KJ l room_1 mLaw L cA D A0 p e s m #[Value.ref b] below meth c Z ce sl [] I M v u 1216 (LV t) [] :=
  nx L I M v u ce sl E.1 E.2.1 E.2.2.2.2.2.1 E.2.2.2.2.2.2.1 h (by omega) (by omega)
/-- the two answers are compared -/
theorem L_cmp (E : LE L cA D A0 p s m meth c b n xs ce sl I M) {a a' : Int32} {off : Int} (d : decode cL_law pc = .ok (.if_icmp .eq off, 3)) (ht : (pc : Int) + off = ((1216 : Nat) : Int)) (h : a = a') (nx : NX l cA D A0 p e s m below meth c Z b n xs ce sl t) (hR : RI I v) : KJ l room_1 mLaw L cA D A0 p e s m #[Value.ref b] below meth c Z ce sl [] I M v u pc (LV t) [.int a', .int a] :=
  K_icmp_eq E.1 d ht (fun _ => nx.at E hR) (fun q => absurd h q)
end L2
section L3
variable {l : Launch} {L : Nat → Nat} {cA : Nat → ClassId} {D : va_G} {A0 : Nat → Prop} {p : Program} {e : Env} {s : State} {m : MethodId} {below : List Frame} {meth : Method} {c : Code} {Z : State → Prop} {ce sl : Nat} {I : List Nat} {M : Nat → Nat → Bool} {v : fr_V} {u : fr_U} {pc : Nat} {lv : List (Nat × Value)} {st : List Value} {b n t : Nat} {xs : Nat → Int32}
/-- x != 0 -/
theorem K_bool (E : LE L cA D A0 p s m meth c b n xs ce sl I M) {x : Int32} (d1 : decode cL_law pc = .ok (.ifCond .eq 7, 3)) (d2 : decode cL_law (pc + 3) = .ok (.iconst 1, 1)) (d3 : decode cL_law (pc + 4) = .ok (.goto 4, 3)) (d4 : decode cL_law (pc + 7) = .ok (.iconst 0, 1))
    (kk : KJ l room_1 mLaw L cA D A0 p e s m #[Value.ref b] below meth c Z ce sl [] I M v u (pc + 8) lv (.int (if x = 0 then 0 else 1) :: st)) : KJ l room_1 mLaw L cA D A0 p e s m #[Value.ref b] below meth c Z ce sl [] I M v u pc lv (.int x :: st) := by
  refine K_if_eq (tgt := pc + 7) E.1 d1 (by omega) (fun q => ?_) (fun q => ?_)
  · rw [if_pos q] at kk
    exact K_iconst (x := 0) E.1 d4 rfl kk
  · rw [if_neg q] at kk
    refine K_iconst (x := 1) E.1 d2 rfl ?_
    exact K_goto (tgt := pc + 8) E.1 d3 (by omega) kk
end L3
