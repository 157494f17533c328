def R_law : String := "LifeRentsLaw"
def lw_P (b : Addr) (xs : List Int32) (args : Array Value) (s : State) : Prop := args = #[.ref b] ∧ s.IntsAt b xs ∧ xs.length ≤ 3072 ∧ (Jvm.Cond.and given_1 narrow_1).before args s = true
def lw_Q (_ : Array Value) (s : State) (o : Outcome) (t : State) : Prop := o = .returned (some (.int 1)) ∧ Framed s o t [] 601024 7293034
def lw_Z (below : List Frame) (a : Array Value) (s : State) : State → Prop := fun t => ∃ o, t.status = .running ∧ Ended t below o ∧ lw_Q a s o t
theorem lw_ret {p : Program} {l : Launch} {e : Env} {s : State} {m : MethodId} {below : List Frame} {meth : Method} {c : Code} {b : Nat} (hx : p.tables.exec = Jvm.exec) (hb : c.code = code) (hr : meth.sig.returnType = ret) (hlocks : meth.locks = false) {pc : Nat} {H : Heap} {ls : Array Slot} (hdg : decode code pc = .ok (.ireturn, 1)) : W p l e room_1 s m #[Value.ref b] below meth c H [] 601024 7293034 (lw_Z below #[Value.ref b] s) (F0 m pc ls [.int 1]) := by
  intro T hT X
  obtain ⟨fs, hret, hrun, hended, hW, hframe⟩ := X.leave (v := some (.int 1)) (hlocks := hlocks) (fun h => by rw [hr] at h; cases h)
  have hmeth' : T.vm.method? m = some meth := X.method'
  refine ⟨T.setFrames fs, ?_, .returned (some (.int 1)), hrun, hended, rfl, ⟨_, rfl⟩, hW, hframe⟩
  jvm_step X.here [X.here.top, hx, hb, hdg, hmeth', hr, ret, narrow_b1]
  (try refine ⟨rfl, ?_⟩); (try refine ⟨rfl, ?_⟩)
  first | (intro acts; rw [hret _ acts rfl rfl rfl]) | rw [hret _ _ rfl rfl rfl]
  exact Steps.refl _
def lw_At (p : Program) (s : State) (m : MethodId) (meth : Method) (c : Code) (b L : Nat) (xs : Nat → Int32) : Prop :=
  p.tables.exec = Jvm.exec ∧ c.code = code ∧ meth.sig.returnType = ret ∧ c.maxLocals = 8 ∧ s.vm.findClass R_law = some m.cls ∧ (∀ w ∈ lw_tbl, w.before #[Value.ref b] s = true) ∧ va_X b L xs s s.heap ∧ b < s.heap.size ∧ meth.locks = false ∧ (Jvm.Cond.and given_1 narrow_1).before #[Value.ref b] s = true
theorem le_gt {n t : Nat} (hn : n ≤ 3072) (ht : t ≤ 600) (h : ¬ nI n - 6 < nI (6 * t)) : 6 * t + 5 < n := by
  rcases Nat.lt_or_ge (6 * t + 5) n with q | q
  · exact q
  · exfalso
    apply h
    rcases Nat.lt_or_ge n 6 with g | g
    · have h6 : nI n - 6 < 0 := by
        rcases (show n = 0 ∨ n = 1 ∨ n = 2 ∨ n = 3 ∨ n = 4 ∨ n = 5 by omega) with r | r | r | r | r | r <;> subst r <;> decide
      exact Int32.lt_of_lt_of_le h6 (Int32.not_lt.mp (nI_pos (by omega)))
    · obtain ⟨k, hk⟩ : ∃ k, n = k + 6 := ⟨n - 6, by omega⟩
      have e : nI n - 6 = nI k := by
        rw [hk, ← nI_add]
        exact Int32.add_sub_cancel (nI k) 6
      rw [e]
      exact nI_lt (by omega) (by omega)
def LInv (l : Launch) (cA : Nat → ClassId) (D : va_G) (p : Program) (e : Env) (s : State) (m : MethodId) (below : List Frame) (meth : Method) (c : Code) (b t : Nat) : Prop :=
  ∀ (L : Nat → Nat) (I : List Nat) (M : Nat → Nat → Bool) (v : fr_V) (u : fr_U) (ce sl : Nat), KC L cA D (fun q => s.heap.size ≤ q) mLaw p s m #[Value.ref b] meth c → L 5000 = b → fr_I I → (∀ k ∈ I, ∀ j, M k j = true) → RI I v → ce + 2 * (600 - t) ≤ 601024 → sl + 100 * (600 - t) ≤ 7293034 → KJ l room_1 mLaw L cA D (fun q => s.heap.size ≤ q) p e s m #[Value.ref b] below meth c (lw_Z below #[Value.ref b] s) ce sl [] I M v u 23 (LV t) []
theorem law_loop {l : Launch} {cA : Nat → ClassId} {D : va_G} {p : Program} {e : Env} {s : State} {m : MethodId} {below : List Frame} {meth : Method} {c : Code} {b n : Nat} {xs : Nat → Int32} (hl : l.stackTraces = false) (hrx : rX (fun q => s.heap.size ≤ q) s s.heap) (hX : va_X b n xs s s.heap) (hb : b < s.heap.size) (hn : n ≤ 3072) : ∀ (d t : Nat), n - 6 * t < d → t ≤ 520 → LInv l cA D p e s m below meth c b t := by
  intro d
  induction d with
  | zero => intro t hd; omega
  | succ d ih =>
    intro t hd ht L I M v u ce sl C hL hI hm hRI hc hs
    have hA : ¬ (fun q => s.heap.size ≤ q) b := fun q => Nat.not_lt.mpr q hb
    have E : LE L cA D (fun q => s.heap.size ≤ q) p s m meth c b n xs ce sl I M := ⟨C, hL, hX, hb, hA, hI, hm, by omega, by omega⟩
    refine K_iload C dL_law_23 0 rfl ?_
    refine K_aload_n C dL_law_25 rfl 4 rfl ?_
    refine K_slen C hX hb hA hL dL_law_26 ?_
    refine K_bipush (x := 6) C dL_law_27 (by decide) ?_
    refine K_isub C dL_law_29 ?_
    refine K_icmp_gt (tgt := 1222) C dL_law_30 (by decide) (fun _ => ?_) (fun q => ?_)
    · refine K_iconst (x := 1) C dL_law_1222 rfl ?_
      intro H locs ls hP hD hS hT hl9
      exact va_forget (fun q hq => hS.2.2 q hq) (W.widen (k := 601024) (n := 7293034) (by omega) (by omega) (lw_ret C.1 C.2.1 C.2.2.1 C.2.2.2.2.2.1 dL_law_1223))
    have ht5 : 6 * t + 5 < n := le_gt hn (by omega) q
    have nx : NX l cA D (fun q => s.heap.size ≤ q) p e s m below meth c (lw_Z below #[Value.ref b] s) b n xs ce sl t := by
      intro L2 I2 M2 v2 u2 ce2 sl2 C2 hL2 hI2 hm2 hR2 hc2 hs2
      refine K_iinc (q := 0) (z := nI (6 * (t + 1))) (lv' := LV (t + 1)) C2 dL_law_1216 rfl ?_ (by decide) rfl ?_
      · show nI (6 * t) + nI 6 = nI (6 * (t + 1))
        rw [nI_add]
        rfl
      refine K_goto (tgt := 23) C2 dL_law_1219 (by decide) ?_
      exact ih (t + 1) (by omega) (by omega) L2 I2 M2 v2 u2 ce2 sl2 C2 hL2 hI2 hm2 hR2 (by omega) (by omega)
    refine K_aload_n C dL_law_33 rfl 4 rfl ?_
    refine K_iload C dL_law_34 0 rfl ?_
    refine K_sld C hX hb hA hL dL_law_36 (vp_in_nI (by omega) (by omega)) ?_
    refine K_bipush (x := 31) C dL_law_37 (by decide) ?_
    refine K_iand C dL_law_39 ?_
    generalize xs (nI (6 * t)).toNatClampNeg &&& 31 = x
    rcases sw_cases x 25 (by decide) with ⟨k, hk, hx⟩ | hx
    rotate_left
    · exact K_tableOut (tgt := 1216) C dL_law_40 hx (by decide) (nx.at E hRI)
    rcases (show k = 0 ∨ k = 1 ∨ k = 2 ∨ k = 3 ∨ k = 4 ∨ k = 5 ∨ k = 6 ∨ k = 7 ∨ k = 8 ∨ k = 9 ∨ k = 10 ∨ k = 11 ∨ k = 12 ∨ k = 13 ∨ k = 14 ∨ k = 15 ∨ k = 16 ∨ k = 17 ∨ k = 18 ∨ k = 19 ∨ k = 20 ∨ k = 21 ∨ k = 22 ∨ k = 23 ∨ k = 24 ∨ k = 25 by omega) with rfl | rfl | rfl | rfl | rfl | rfl | rfl | rfl | rfl | rfl | rfl | rfl | rfl | rfl | rfl | rfl | rfl | rfl | rfl | rfl | rfl | rfl | rfl | rfl | rfl | rfl
    · exact K_tableIn (off := 120) (tgt := 160) C dL_law_40 (by rw [hx]; decide) (by rw [hx]; decide) (by rw [hx]; decide) (by decide) (lc_feed E ht5 hn hRI nx)
    · exact K_tableIn (off := 193) (tgt := 233) C dL_law_40 (by rw [hx]; decide) (by rw [hx]; decide) (by rw [hx]; decide) (by decide) (lc_acts E ht5 hn hRI nx)
    · exact K_tableIn (off := 218) (tgt := 258) C dL_law_40 (by rw [hx]; decide) (by rw [hx]; decide) (by rw [hx]; decide) (by decide) (lc_fault E ht5 hn hRI nx)
    · exact K_tableIn (off := 243) (tgt := 283) C dL_law_40 (by rw [hx]; decide) (by rw [hx]; decide) (by rw [hx]; decide) (by decide) (lc_halves E ht5 hn hRI nx)
    · exact K_tableIn (off := 268) (tgt := 308) C dL_law_40 (by rw [hx]; decide) (by rw [hx]; decide) (by rw [hx]; decide) (by decide) (lc_life E ht5 hn hRI nx)
    · exact K_tableIn (off := 305) (tgt := 345) C dL_law_40 (by rw [hx]; decide) (by rw [hx]; decide) (by rw [hx]; decide) (by decide) (lc_asks E ht5 hn hRI nx)
    · exact K_tableIn (off := 342) (tgt := 382) C dL_law_40 (by rw [hx]; decide) (by rw [hx]; decide) (by rw [hx]; decide) (by decide) (lc_rent E (by omega) (by omega) ht5 hn hRI nx)
    · exact K_tableIn (off := 403) (tgt := 443) C dL_law_40 (by rw [hx]; decide) (by rw [hx]; decide) (by rw [hx]; decide) (by decide) (lc_sell E ht5 hn hRI nx)
    · exact K_tableIn (off := 464) (tgt := 504) C dL_law_40 (by rw [hx]; decide) (by rw [hx]; decide) (by rw [hx]; decide) (by decide) (lc_parts E ht5 hn hRI nx)
    · exact K_tableIn (off := 513) (tgt := 553) C dL_law_40 (by rw [hx]; decide) (by rw [hx]; decide) (by rw [hx]; decide) (by decide) (lc_note E ht5 hn hRI nx)
    · exact K_tableIn (off := 578) (tgt := 618) C dL_law_40 (by rw [hx]; decide) (by rw [hx]; decide) (by rw [hx]; decide) (by decide) (lc_strike E ht5 hn hRI nx)
    · exact K_tableIn (off := 603) (tgt := 643) C dL_law_40 (by rw [hx]; decide) (by rw [hx]; decide) (by rw [hx]; decide) (by decide) (lc_dead E ht5 hn hRI nx)
    · exact K_tableIn (off := 640) (tgt := 680) C dL_law_40 (by rw [hx]; decide) (by rw [hx]; decide) (by rw [hx]; decide) (by decide) (lc_holds E ht5 hn hRI nx)
    · exact K_tableIn (off := 677) (tgt := 717) C dL_law_40 (by rw [hx]; decide) (by rw [hx]; decide) (by rw [hx]; decide) (by decide) (lc_paid E ht5 hn hRI nx)
    · exact K_tableIn (off := 726) (tgt := 766) C dL_law_40 (by rw [hx]; decide) (by rw [hx]; decide) (by rw [hx]; decide) (by decide) (lc_got E ht5 hn hRI nx)
    · exact K_tableIn (off := 763) (tgt := 803) C dL_law_40 (by rw [hx]; decide) (by rw [hx]; decide) (by rw [hx]; decide) (by decide) (lc_owed E ht5 hn hRI nx)
    · exact K_tableIn (off := 800) (tgt := 840) C dL_law_40 (by rw [hx]; decide) (by rw [hx]; decide) (by rw [hx]; decide) (by decide) (lc_state E ht5 hn hRI nx)
    · exact K_tableIn (off := 837) (tgt := 877) C dL_law_40 (by rw [hx]; decide) (by rw [hx]; decide) (by rw [hx]; decide) (by decide) (lc_sold E ht5 hn hRI nx)
    · exact K_tableIn (off := 886) (tgt := 926) C dL_law_40 (by rw [hx]; decide) (by rw [hx]; decide) (by rw [hx]; decide) (by decide) (lc_own E ht5 hn hRI nx)
    · exact K_tableIn (off := 947) (tgt := 987) C dL_law_40 (by rw [hx]; decide) (by rw [hx]; decide) (by rw [hx]; decide) (by decide) (lc_worth E ht5 hn hRI nx)
    · exact K_tableIn (off := 996) (tgt := 1036) C dL_law_40 (by rw [hx]; decide) (by rw [hx]; decide) (by rw [hx]; decide) (by decide) (lc_names E ht5 hn hRI nx)
    · exact K_tableIn (off := 1021) (tgt := 1061) C dL_law_40 (by rw [hx]; decide) (by rw [hx]; decide) (by rw [hx]; decide) (by decide) (lc_named E ht5 hn hRI nx)
    · exact K_tableIn (off := 1046) (tgt := 1086) C dL_law_40 (by rw [hx]; decide) (by rw [hx]; decide) (by rw [hx]; decide) (by decide) (lc_look E ht5 hn hRI nx)
    · exact K_tableIn (off := 1071) (tgt := 1111) C dL_law_40 (by rw [hx]; decide) (by rw [hx]; decide) (by rw [hx]; decide) (by decide) (lc_risk E hl hrx (by omega) (by omega) ht5 hn hRI nx)
    · exact K_tableIn (off := 1126) (tgt := 1166) C dL_law_40 (by rw [hx]; decide) (by rw [hx]; decide) (by rw [hx]; decide) (by decide) (lc_converts E ht5 hn hRI nx)
    · exact K_tableIn (off := 1151) (tgt := 1191) C dL_law_40 (by rw [hx]; decide) (by rw [hx]; decide) (by rw [hx]; decide) (by decide) (lc_count E ht5 hn hRI nx)
