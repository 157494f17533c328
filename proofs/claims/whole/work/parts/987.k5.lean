/-- the mask of a new world: what must still be assigned -/
def ms0 (k j : Nat) : Bool := if (sh k).1 < 20 then (if fk (sh k).1 j = 1 ∧ j < nfd (sh k).1 then false else true) else if (sh k).1 = 23 then decide (24 ≤ j) else true
def fresh (T : List Nat) (M : Nat → Nat → Bool) (v : fr_V) (u : fr_U) : Prop := ∀ k ∈ T, (∀ j, v k j = ini k j) ∧ (∀ j, u k j = 0) ∧ ∀ j, M k j = ms0 k j
theorem fresh.m {T : List Nat} {M : Nat → Nat → Bool} {v : fr_V} {u : fr_U} {k ci : Nat} (h : fresh T M v u) (hk : k ∈ T) (hs : (sh k).1 = ci) (hc : ci < 20) : ∀ j, j < nfd ci → fk ci j = 1 → M k j = false := by
  intro j hj h1
  subst hs
  rw [(h k hk).2.2 j]
  unfold ms0
  rw [if_pos hc, if_pos ⟨h1, hj⟩]
theorem fresh.c {T : List Nat} {M M' : Nat → Nat → Bool} {v v' : fr_V} {u u' : fr_U} (h : fresh T M v u) (e : ∀ k ∈ T, v' k = v k ∧ u' k = u k ∧ M' k = M k) : fresh T M' v' u' := fun k hk => by
  obtain ⟨e1, e2, e3⟩ := e k hk
  rw [e1, e2, e3]
  exact h k hk
theorem fresh.sub {T T' : List Nat} {M : Nat → Nat → Bool} {v : fr_V} {u : fr_U} (h : fresh T M v u) (e : ∀ k ∈ T', k ∈ T) : fresh T' M v u := fun k hk => h k (e k hk)
def mT (M : Nat → Nat → Bool) (o : Nat) : Nat → Nat → Bool := fun k j => if k = o then true else M k j
theorem mT_ne {M : Nat → Nat → Bool} {o k : Nat} (h : k ≠ o) : mT M o k = M k := by funext j; unfold mT; rw [if_neg h]
theorem mT_s {M : Nat → Nat → Bool} {o : Nat} (j : Nat) : mT M o o j = true := by unfold mT; rw [if_pos rfl]
theorem fslK_m {L : Nat → Nat} {b b' : Nat → Bool} {k ci : Nat} {f : Nat → Int32} (h : ∀ j, j < nfd ci → fk ci j = 1 → b j = b' j) : fslK L b k ci f = fslK L b' k ci f := by
  unfold fslK
  refine List.map_congr_left (fun j hj => ?_)
  unfold fvK
  by_cases e : fk ci j = 1
  · rw [if_pos e, if_pos e, h j (List.mem_range.mp hj) e]
  · rw [if_neg e, if_neg e]
theorem nd1 (a : Nat) : ∀ (i j k : Nat), [a][i]? = some k → [a][j]? = some k → i = j := by
  intro i j k hi hj
  have h1 := (List.getElem?_eq_some_iff.mp hi).1
  have h2 := (List.getElem?_eq_some_iff.mp hj).1
  simp only [List.length_cons, List.length_nil] at h1 h2
  omega
theorem nd2 {a b : Nat} (h : a ≠ b) : ∀ (i j k : Nat), [a, b][i]? = some k → [a, b][j]? = some k → i = j := by
  intro i j k hi hj
  have h1 := (List.getElem?_eq_some_iff.mp hi).1
  have h2 := (List.getElem?_eq_some_iff.mp hj).1
  simp only [List.length_cons, List.length_nil] at h1 h2
  rcases (show i = 0 ∨ i = 1 by omega) with rfl | rfl <;> rcases (show j = 0 ∨ j = 1 by omega) with rfl | rfl
  · rfl
  · exact absurd ((Option.some.inj hi).trans (Option.some.inj hj).symm) h
  · exact absurd ((Option.some.inj hj).trans (Option.some.inj hi).symm) h
  · rfl
section KFS
variable {l : Launch} {R : Room} {y : fr_M} {L : Nat → Nat} {cA : Nat → ClassId} {D : va_G} {A0 : Nat → Prop} {p : Program} {e : Env} {s : State} {m : MethodId} {args : Array Value} {below : List Frame} {meth : Method} {c : Code} {Z : State → Prop} {ce sl : Nat} {T I : List Nat} {M : Nat → Nat → Bool} {v : fr_V} {u : fr_U} {pc : Nat} {lv : List (Nat × Value)} {st : List Value}
theorem K_mask {M2 : Nat → Nat → Bool} (h : ∀ k ∈ I, entK L cA (M2 k) k (v k) (u k) = entK L cA (M k) k (v k) (u k)) (kk : KJ l R y L cA D A0 p e s m args below meth c Z ce sl T I M2 v u pc lv st) : KJ l R y L cA D A0 p e s m args below meth c Z ce sl T I M v u pc lv st := by
  intro H locs ls hP hD hS hT hl
  have hw : mwK L cA I M2 v u = mwK L cA I M v u := List.map_congr_left (fun k hk => by rw [h k hk])
  exact kk H locs ls (by rw [hw]; exact hP) (by rw [hw]; exact hD) hS hT hl
/-- an object whose fixed fields are all assigned -/
theorem K_full {o ci : Nat} (hs : (sh o).1 = ci) (hc : ci < 20) (hm : ∀ j, j < nfd ci → fk ci j = 1 → M o j = true) (kk : KJ l R y L cA D A0 p e s m args below meth c Z ce sl T I (mT M o) v u pc lv st) : KJ l R y L cA D A0 p e s m args below meth c Z ce sl T I M v u pc lv st := by
  refine K_mask (fun k hk => ?_) kk
  by_cases e : k = o
  · subst e
    rw [entK_o hs hc, entK_o hs hc, fslK_m (b' := M k) (fun j hj h1 => by rw [mT_s, hm j hj h1])]
  · rw [mT_ne e]
theorem K_fullL {o : Nat} (hs : sh o = (23, 24)) (hm : ∀ j, M o j = true) (kk : KJ l R y L cA D A0 p e s m args below meth c Z ce sl T I (mT M o) v u pc lv st) : KJ l R y L cA D A0 p e s m args below meth c Z ce sl T I M v u pc lv st := by
  refine K_mask (fun k hk => ?_) kk
  by_cases e : k = o
  · subst e
    have hf : M k = mT M k k := funext (fun j => by rw [mT_s, hm j])
    rw [← hf]
  · rw [mT_ne e]
theorem K_getsN (C : KC L cA D A0 y p s m args meth c) {idx : Nat} {C9 n9 d9 host : String} {x : Value} (dd : decode y.2.1 pc = .ok (.getstatic idx, 3)) (hw : ∀ U : State, fr_N U → va_Nw (.fieldLinkNest y.1.cls idx C9 n9 d9 host) U) (hz : ∀ (L : Nat → Nat) (A : Nat → Prop) (U : State) (H : Heap), fr_X L A U H → va_Z C9 n9 d9 (cv L x) A U H) (kk : KJ l R y L cA D A0 p e s m args below meth c Z ce sl T I M v u (pc + 3) lv (x :: st)) : KJ l R y L cA D A0 p e s m args below meth c Z ce sl T I M v u pc lv st := by
  intro H locs ls hP hD hS hT hl
  have hX := C.2.2.2.2.2.2.2.1
  exact va_getsN C.1 C.2.1 (hz L _ s s.heap hX) hS C.2.2.2.2.1 (va_Nw.use rfl (hw s hX.2.2.2.2.2.2.2.2.2)) (fun _ h9 => h9) dd (kk H locs ls hP hD hS hT hl)
theorem K_tlen (C : KC L cA D A0 y p s m args meth c) (dd : decode y.2.1 pc = .ok (.arraylength, 1)) (kk : KJ l R y L cA D A0 p e s m args below meth c Z ce sl T I M v u (pc + 1) lv (.int 4 :: st)) : KJ l R y L cA D A0 p e s m args below meth c Z ce sl T I M v u pc lv (.ref 3200 :: st) := by
  intro H locs ls hP hD hS hT hl
  have hX := C.2.2.2.2.2.2.2.1
  exact va_tlen C.1 C.2.1 hX.2.2.2.1 hS rfl dd (kk H locs ls hP hD hS hT hl)
end KFS
