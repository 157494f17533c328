abbrev nX8_worthOnOne : fr_M := (yX8_worthOnOne, cX8_worthOnOne, 5, (some .int), 2, 80)
abbrev nX8_worthTillFirst : fr_M := (yX8_worthTillFirst, cX8_worthTillFirst, 7, (some .int), 2, 80)
section FRI
variable {l : Launch} {y : fr_M} {I : List Nat} {v : fr_V} {u : fr_U} {Q : Option Value → fr_V → fr_U → Prop} {pc : Nat} {lv : List (Nat × Value)} {st : List Value}
theorem ent_M {L : Nat → Nat} {cA : Nat → ClassId} {k n : Nat} {f : Nat → Int32} {g : Nat → Int64} (h : sh k = (25, n)) : ent L cA k f g = .inl (cA 5, n, .inr (.inr (.inr (.inr (fun i => some (L (shb k + i))))))) := by simp [ent, h]
theorem J_aldM {k n t : Nat} {i : Int32} (d : decode y.2.1 pc = .ok (.aaload, 1)) (hk : k ∈ I) (hs : sh k = (25, n)) (hin : vp_in i n) (ht : shb k + i.toNatClampNeg = t) (kk : J l y I v u (pc + 1) lv (.ref t :: st) Q) : J l y I v u pc lv (.int i :: .ref k :: st) Q := by
  intro L cA D p e s m args below meth c H locs ls C hP hD hS hl
  obtain ⟨q0, -, hq0⟩ := mw_get (L := L) (cA := cA) (v := v) (u := u) hk
  rw [ent_M hs] at hq0
  have he : va_rf ((fun i => some (L (shb k + i))) i.toNatClampNeg) = .ref (L t) := by simp [ht, va_rf]
  have hlt : i.toNatClampNeg < n := Nat.not_le.mp fun q => hin (Or.inr q)
  refine W.aald (v := va_rf ((fun i => some (L (shb k + i))) i.toNatClampNeg)) (ty := .array .int) C.1 C.2.1 (hP q0 _ hq0) ((C.2.2.2.2.2.2.2.2.2 5 _ rfl).1 n (fun j => va_rf ((fun i => some (L (shb k + i))) j))) rfl (fun q => by cases q) (by show ¬ (i < 0 ∨ (arrV _ _ _).slots.size ≤ _); rw [arrV_size]; exact hin) (by show (arrV _ _ _).slots[_]? = _; rw [arrV_read _ _ hlt]) rfl rfl d ?_
  rw [he]
  exact kk L cA D p e s m args below meth c H locs ls C hP hD hS hl
theorem J_callSN {z : fr_M} {idx n : Nat} {host : String} {As rest : List Value} {Qz : Option Value → fr_V → fr_U → Prop} (d : decode y.2.1 pc = .ok (.invokestatic idx, 3)) (hw : ∀ U : State, fr_N U → va_Nw (.methodLinkNest y.1.cls idx z.1 host) U) (hz : MOK z n) (hv : Cond.static z.1 ∈ gt) (hR : z.2.2.2.2.1 + 1 ≤ y.2.2.2.2.1 ∧ 8 + (z.2.2.1 + 11) + z.2.2.2.2.2 ≤ y.2.2.2.2.2)
    (hst : st = As.reverse ++ rest) (hn : As.length = n) (hsum : (rest.map fun x => x.category).sum ≤ 8) (hC : Con l z I v u As Qz)
    (k : ∀ r v' u', Qz r v' u' → J l y I v' u' (pc + 3) lv (r.toList ++ rest) Q) : J l y I v u pc lv st Q := by
  intro L cA D p e s m args below meth c H locs ls C hP hD hS hl
  subst hst
  have hT := C.2.2.2.2.2.2.1
  have hX := C.2.2.2.2.2.2.2.1
  have cb := va_cnB (R := fr_rm y) (s := s) (args := args) (own := y.1.cls) (host := host) (index := idx) (maxL := z.2.2.1) (mc := 0) (ms := 0) (y := z.1) (bytes := z.2.1) (ret := z.2.2.2.1) (ws := fr_ws z) (rm := fr_rm z) n hT (fr_good hz) rfl rfl rfl (hw s hX.2.2.2.2.2.2.2.2.2) (hT _ hz.2.1) hz.2.2 hR
  have hrun := va_runSN (l := l) (e := e) (below := below) (meth := meth) (H := H) (locs := locs) (cells := 0) (slots := 0) (As := As.map (cv L)) (rest := rest.map (cv L)) (g := F0 m pc ls ((As.reverse ++ rest).map (cv L))) ⟨C.1, C.2.1, C.2.2.2.1, C.2.2.2.2.1, hT⟩ (hC L cA D) ⟨cb, hT _ hv, True.intro⟩
    ⟨fr_blind, fr_pre (av := As.map (cv L)) hP hD hS C.2.2.2.2.2.2.2.2 C.2.2.2.2.2.2.2.1⟩ rfl (by rw [List.length_map]; exact hn) hl.1 (by simp [List.map_reverse]) (lv_room (by rw [cv_sum]; exact hsum)) d ⟨Nat.le_refl _, Nat.le_refl _⟩
  exact J_back (z := z) (v := v) (u := u) hrun C hD hS hl k
theorem J_eSIN {z : fr_M} {idx n : Nat} {host : String} {As rest : List Value} {x : Int32} (d : decode y.2.1 pc = .ok (.invokestatic idx, 3)) (hw : ∀ U : State, fr_N U → va_Nw (.methodLinkNest y.1.cls idx z.1 host) U) (hz : MOK z n) (hv : Cond.static z.1 ∈ gt) (hR : z.2.2.2.2.1 + 1 ≤ y.2.2.2.2.1 ∧ 8 + (z.2.2.1 + 11) + z.2.2.2.2.2 ≤ y.2.2.2.2.2)
    (hst : st = As.reverse ++ rest) (hn : As.length = n) (hsum : (rest.map fun x => x.category).sum ≤ 8) (hC : Con l z I v u As (QI v u (fun a => a = x))) (k : J l y I v u (pc + 3) lv (.int x :: rest) Q) : J l y I v u pc lv st Q := by
  refine J_callSN d hw hz hv hR hst hn hsum hC (fun r v' u' hq => ?_)
  obtain ⟨x, rfl, rfl, rfl, rfl⟩ := hq
  exact k
end FRI
theorem i_add {a : Int32} {n : Nat} (h1 : -1000 ≤ a.toInt) (h2 : a.toInt ≤ 1000) (hn : n ≤ 1000) : (a + nI n).toInt = a.toInt + n := by
  rw [Int32.toInt_add, nI_toInt (by omega)]
  exact Int.bmod_eq_of_le (by omega) (by omega)
theorem grp10_in (v : fr_V) (x : Int32) : vp_in (f_X10_groupOf v x) 10 := by
  unfold f_X10_groupOf
  by_cases h : x / 10 < 9
  · rw [if_pos h]
    by_cases h0 : 0 < x / 10
    · rw [if_pos h0]
      rintro (q | q)
      · exact Int32.lt_irrefl (Int32.lt_trans q h0)
      · have e1 : (x / 10).toInt < 9 := Int32.lt_iff_toInt_lt.mp h
        have e2 : 0 < (x / 10).toInt := Int32.lt_iff_toInt_lt.mp h0
        have e3 : (x / 10).toNatClampNeg = (x / 10).toInt.toNat := rfl
        omega
    · rw [if_neg h0]; exact vp_in_nI (n := 0) (by omega) (by omega)
  · rw [if_neg h, if_pos (by decide)]; exact vp_in_nI (n := 9) (by omega) (by omega)
theorem i_sold {I : List Nat} (hI : fr_I I) {c : Nat} (h : c < 4) : 910 + c ∈ I := by
  refine hI _ ?_
  have : c = 0 ∨ c = 1 ∨ c = 2 ∨ c = 3 := by omega
  rcases this with rfl | rfl | rfl | rfl <;> decide
theorem s_sold {c : Nat} (h : c < 4) : sh (910 + c) = (20, 10) := by
  have : c = 0 ∨ c = 1 ∨ c = 2 ∨ c = 3 := by omega
  rcases this with rfl | rfl | rfl | rfl <;> rfl
def cyT (dd stop b : Int32) (q : Int32 × Int32) : Int32 × Int32 := if stop < b then q else if b < 0 then q else if dd = b then (q.1 + 1, q.2 + 1) else if dd = b + 1 then (q.1 + 1, q.2 + 1) else (q.1 + 1, q.2)
def cyG (dd stop start : Int32) (p : Int32 × Int32) : Nat → Int32 × Int32
  | 0 => p
  | s + 1 => cyT dd stop (start + nI (2 * s)) (cyG dd stop start p s)
theorem cyG_s (dd stop start : Int32) (p : Int32 × Int32) (s : Nat) : cyG dd stop start p (s + 1) = cyT dd stop (start + nI (2 * s)) (cyG dd stop start p s) := rfl
theorem cy_end {dd stop start : Int32} {p : Int32 × Int32} {s : Nat} (h1 : -400 ≤ start.toInt) (h2 : start.toInt ≤ 400) (h : stop < start + nI (2 * s)) : ∀ m, s ≤ m → m ≤ 100 → cyG dd stop start p m = cyG dd stop start p s := by
  intro m
  induction m with
  | zero => intro a b; have : s = 0 := by omega
            rw [this]
  | succ m ih =>
    intro a b
    by_cases e : s = m + 1
    · rw [e]
    · rw [cyG_s, ih (by omega) (by omega)]
      have k := Int32.lt_iff_toInt_lt.mp h
      rw [i_add (by omega) (by omega) (by omega)] at k
      unfold cyT
      rw [if_pos]
      rw [Int32.lt_iff_toInt_lt, i_add (by omega) (by omega) (by omega)]
      omega
theorem y_b {v : fr_V} {p q p' : Int32} : up2 (up2 (up2 v 900 3 p) 900 4 q) 900 3 p' = up2 (up2 v 900 3 p') 900 4 q := by
  funext a b
  unfold up2 upd
  by_cases h : a = 900
  · subst h
    simp only [if_true]
    by_cases h3 : b = 3
    · subst h3; rfl
    · rw [if_neg h3, if_neg h3, if_neg h3]
  · rw [if_neg h, if_neg h, if_neg h, if_neg h, if_neg h]
theorem y_e {w : fr_V} {q q' : Int32} : up2 (up2 w 900 4 q) 900 4 q' = up2 w 900 4 q' := by
  funext a b
  unfold up2 upd
  by_cases h : a = 900
  · subst h
    simp only [if_true]
    by_cases h3 : b = 4
    · rw [if_pos h3, if_pos h3]
    · rw [if_neg h3, if_neg h3, if_neg h3]
  · rw [if_neg h, if_neg h, if_neg h]
theorem cy_L {l : Launch} {I : List Nat} (hI : fr_I I) (v : fr_V) (u : fr_U) (x1 x3 dd last start stop : Int32) (g n : Nat) (hn : n ≤ 100) (h1 : -400 ≤ start.toInt) (h2 : start.toInt ≤ 400) (h3 : stop.toInt < start.toInt + 2 * n) (pq0 : Int32 × Int32) : ∀ (d s : Nat) (b p q : Int32) (hd : n - s < d) (hj : s ≤ n) (hb : b = start + nI (2 * s)) (hpq : (p, q) = cyG dd stop start pq0 s), J l mX8_countYearsOf I (up2 (up2 v 900 3 p) 900 4 q) u 72 [(0, .ref 900), (1, .int x1), (2, .int (nI g)), (3, .int x3), (4, .int dd), (5, .int last), (6, .int start), (7, .int stop), (8, .int b)] [] (QN u (fun a => a = up2 (up2 v 900 3 (cyG dd stop start pq0 n).1) 900 4 (cyG dd stop start pq0 n).2)) := by
  intro d
  induction d with
  | zero => intros; omega
  | succ d ih =>
    intro s b p q hd hj hb hpq
    refine J_iload dX8_countYearsOf_72 8 rfl ?_
    refine J_iload dX8_countYearsOf_74 7 rfl ?_
    refine J_icmp_gt (tgt := 126) dX8_countYearsOf_76 (by decide) (fun c1 => ?_) (fun c1 => ?_)
    · exact J_vret dX8_countYearsOf_126 rfl ⟨rfl, rfl, by rw [cy_end h1 h2 (by rw [← hb]; exact c1) n hj hn, ← hpq]⟩
    · have hsn : s < n := by have k := Int32.not_lt.mp c1; rw [Int32.le_iff_toInt_le, hb, i_add (by omega) (by omega) (by omega)] at k; omega
      refine J_iload dX8_countYearsOf_79 8 rfl ?_
      refine J_if_lt (tgt := 120) dX8_countYearsOf_81 (by decide) (fun c2 => ?_) (fun c2 => ?_)
      · refine J_iinc (q := 8) (z := b + 2) (lv' := [(8, .int (b + 2)), (0, .ref 900), (1, .int x1), (2, .int (nI g)), (3, .int x3), (4, .int dd), (5, .int last), (6, .int start), (7, .int stop)]) dX8_countYearsOf_120 rfl rfl (by decide) rfl ?_
        refine J_goto (tgt := 72) dX8_countYearsOf_123 (by decide) ?_
        refine J_lv [1, 2, 3, 4, 5, 6, 7, 8, 0] rfl ?_
        exact ih (s + 1) _ _ _ (by omega) (by omega) (by rw [hb, Int32.add_assoc]; exact congrArg _ (nI_add (2 * s) 2)) (by rw [cyG_s, ← hpq, ← hb]; unfold cyT; rw [if_neg c1, if_pos c2])
      · refine J_aload_n dX8_countYearsOf_84 rfl 0 rfl ?_
        refine J_dup dX8_countYearsOf_85 rfl ?_
        refine J_gete (ci := 8) (j := 3) (x := p) dX8_countYearsOf_86 fl_X8_37 (i900 hI) rfl rfl rfl ?_
        refine J_iconst (x := 1) dX8_countYearsOf_89 (by decide) ?_
        refine J_iadd dX8_countYearsOf_90 ?_
        refine J_puti (ci := 8) (j := 3) dX8_countYearsOf_91 fl_X8_37 (i900 hI) rfl rfl (fun q h => by cases h; rfl) rfl ?_
        refine J_iload dX8_countYearsOf_94 4 rfl ?_
        refine J_iload dX8_countYearsOf_96 8 rfl ?_
        refine J_icmp_eq (tgt := 110) dX8_countYearsOf_98 (by decide) (fun c3 => ?_) (fun c3 => ?_)
        · refine J_aload_n dX8_countYearsOf_110 rfl 0 rfl ?_
          refine J_dup dX8_countYearsOf_111 rfl ?_
          refine J_gete (ci := 8) (j := 4) (x := q) dX8_countYearsOf_112 fl_X8_41 (i900 hI) rfl rfl rfl ?_
          refine J_iconst (x := 1) dX8_countYearsOf_115 (by decide) ?_
          refine J_iadd dX8_countYearsOf_116 ?_
          refine J_puti (ci := 8) (j := 4) dX8_countYearsOf_117 fl_X8_41 (i900 hI) rfl rfl (fun q h => by cases h; rfl) rfl ?_
          refine J_iinc (q := 8) (z := b + 2) (lv' := [(8, .int (b + 2)), (0, .ref 900), (1, .int x1), (2, .int (nI g)), (3, .int x3), (4, .int dd), (5, .int last), (6, .int start), (7, .int stop)]) dX8_countYearsOf_120 rfl rfl (by decide) rfl ?_
          refine J_goto (tgt := 72) dX8_countYearsOf_123 (by decide) ?_
          refine J_lv [1, 2, 3, 4, 5, 6, 7, 8, 0] rfl ?_
          rw [y_b]
          rw [y_e]
          exact ih (s + 1) _ _ _ (by omega) (by omega) (by rw [hb, Int32.add_assoc]; exact congrArg _ (nI_add (2 * s) 2)) (by rw [cyG_s, ← hpq, ← hb]; unfold cyT; rw [if_neg c1, if_neg c2, if_pos c3])
        · refine J_iload dX8_countYearsOf_101 4 rfl ?_
          refine J_iload dX8_countYearsOf_103 8 rfl ?_
          refine J_iconst (x := 1) dX8_countYearsOf_105 (by decide) ?_
          refine J_iadd dX8_countYearsOf_106 ?_
          refine J_icmp_ne (tgt := 120) dX8_countYearsOf_107 (by decide) (fun c4 => ?_) (fun c4 => ?_)
          · refine J_iinc (q := 8) (z := b + 2) (lv' := [(8, .int (b + 2)), (0, .ref 900), (1, .int x1), (2, .int (nI g)), (3, .int x3), (4, .int dd), (5, .int last), (6, .int start), (7, .int stop)]) dX8_countYearsOf_120 rfl rfl (by decide) rfl ?_
            refine J_goto (tgt := 72) dX8_countYearsOf_123 (by decide) ?_
            refine J_lv [1, 2, 3, 4, 5, 6, 7, 8, 0] rfl ?_
            rw [y_b]
            exact ih (s + 1) _ _ _ (by omega) (by omega) (by rw [hb, Int32.add_assoc]; exact congrArg _ (nI_add (2 * s) 2)) (by rw [cyG_s, ← hpq, ← hb]; unfold cyT; rw [if_neg c1, if_neg c2, if_neg c3, if_neg c4])
          · refine J_aload_n dX8_countYearsOf_110 rfl 0 rfl ?_
            refine J_dup dX8_countYearsOf_111 rfl ?_
            refine J_gete (ci := 8) (j := 4) (x := q) dX8_countYearsOf_112 fl_X8_41 (i900 hI) rfl rfl rfl ?_
            refine J_iconst (x := 1) dX8_countYearsOf_115 (by decide) ?_
            refine J_iadd dX8_countYearsOf_116 ?_
            refine J_puti (ci := 8) (j := 4) dX8_countYearsOf_117 fl_X8_41 (i900 hI) rfl rfl (fun q h => by cases h; rfl) rfl ?_
            refine J_iinc (q := 8) (z := b + 2) (lv' := [(8, .int (b + 2)), (0, .ref 900), (1, .int x1), (2, .int (nI g)), (3, .int x3), (4, .int dd), (5, .int last), (6, .int start), (7, .int stop)]) dX8_countYearsOf_120 rfl rfl (by decide) rfl ?_
            refine J_goto (tgt := 72) dX8_countYearsOf_123 (by decide) ?_
            refine J_lv [1, 2, 3, 4, 5, 6, 7, 8, 0] rfl ?_
            rw [y_b]
            rw [y_e]
            exact ih (s + 1) _ _ _ (by omega) (by omega) (by rw [hb, Int32.add_assoc]; exact congrArg _ (nI_add (2 * s) 2)) (by rw [cyG_s, ← hpq, ← hb]; unfold cyT; rw [if_neg c1, if_neg c2, if_neg c3, if_pos c4])
def cyLast (dd x3 : Int32) : Int32 := if dd = (-1) then x3 else (if x3 < dd then x3 else dd)
def cyStop (g : Nat) (last start : Int32) : Int32 := if nI g = 9 then last else (if (start + 18) < last then (start + 18) else last)
def cyO1 (v : fr_V) (x1 : Int32) (g : Nat) (x3 : Int32) (pq : Int32 × Int32) : Int32 × Int32 := cyG (v 110 x1.toNatClampNeg) (cyStop g (cyLast (v 110 x1.toNatClampNeg) x3) (v 501 x1.toNatClampNeg + 20 * nI g)) (v 501 x1.toNatClampNeg + 20 * nI g) pq (yrN g)
def f_cyo (v : fr_V) (x1 : Int32) (g : Nat) (x3 : Int32) : fr_V := up2 (up2 v 900 3 (cyO1 v x1 g x3 (v 900 3, v 900 4)).1) 900 4 (cyO1 v x1 g x3 (v 900 3, v 900 4)).2
theorem up34 (v : fr_V) : up2 (up2 v 900 3 (v 900 3)) 900 4 (v 900 4) = v := by
  funext a b
  unfold up2 upd
  by_cases h : a = 900
  · subst h
    simp only [if_true]
    by_cases h3 : b = 4
    · rw [if_pos h3, h3]
    · rw [if_neg h3]
      by_cases h4 : b = 3
      · rw [if_pos h4, h4]
      · rw [if_neg h4]
  · rw [if_neg h, if_neg h]
theorem cyLast_le {dd : Int32} {k : Nat} (hk : k < 80) : (cyLast dd (nI k)).toInt ≤ 79 := by
  unfold cyLast
  have e : (nI k).toInt = k := nI_toInt (by omega)
  split
  · omega
  · split
    · omega
    · rename_i h
      have := Int32.not_lt.mp h
      rw [Int32.le_iff_toInt_le] at this
      omega
theorem cyStart {b : Int32} {g : Nat} (h1 : -160 ≤ b.toInt) (h2 : b.toInt ≤ 79) (hg : g ≤ 9) : (b + 20 * nI g).toInt = b.toInt + 20 * g := by
  have e : (20 : Int32) * nI g = nI (20 * g) := pk_mul 20 g
  rw [e, i_add (by omega) (by omega) (by omega)]
  omega
theorem cyStop_lt {b last : Int32} {g : Nat} (h1 : -160 ≤ b.toInt) (h2 : b.toInt ≤ 79) (hg : g ≤ 9) (hl : last.toInt ≤ 79) : (cyStop g last (b + 20 * nI g)).toInt < (b + 20 * nI g).toInt + 2 * (yrN g) := by
  have e := cyStart h1 h2 hg
  unfold cyStop yrN
  by_cases h : nI g = 9
  · have h9 : g = 9 := by
      have : (nI g).toInt = (nI 9).toInt := congrArg _ h
      rw [nI_toInt (by omega), nI_toInt (by omega)] at this
      omega
    rw [if_pos h, if_pos h9]
    omega
  · have h9 : ¬ g = 9 := fun q => h (by rw [q]; rfl)
    rw [if_neg h, if_neg h9]
    have e18 : ((b + 20 * nI g) + 18).toInt = (b + 20 * nI g).toInt + 18 := i_add (n := 18) (by omega) (by omega) (by omega)
    split
    · omega
    · rename_i q
      have := Int32.not_lt.mp q
      rw [Int32.le_iff_toInt_le] at this
      omega
theorem yrN_le (g : Nat) : yrN g ≤ 40 := by unfold yrN; split <;> omega
theorem k_X8_countYearsOf {l : Launch} {I : List Nat} (hI : fr_I I) (v : fr_V) (u : fr_U) (x1 : Int32) (g k : Nat) (h1 : vp_in x1 12) (hg : g ≤ 9) (hk : k < 80) (hb1 : -160 ≤ (v 501 x1.toNatClampNeg).toInt) (hb2 : (v 501 x1.toNatClampNeg).toInt ≤ 79) : Con l mX8_countYearsOf I v u [.ref 900, .int x1, .int (nI g), .int (nI k)] (QN u (fun a => a = f_cyo v x1 g (nI k))) := by
  refine Con.of (by decide) (Nat.le_of_ble_eq_true rfl) ?_
  show J l mX8_countYearsOf I v u 0 [(0, .ref 900), (1, .int x1), (2, .int (nI g)), (3, .int (nI k))] [] _
  refine J_aload_n dX8_countYearsOf_0 rfl 0 rfl ?_
  refine J_getr (ci := 8) (j := 1) (t := 100) dX8_countYearsOf_1 fl_X8_27 (i900 hI) rfl rfl rfl ?_
  refine J_getr (ci := 1) (j := 9) (t := 110) dX8_countYearsOf_4 fl_X8_56 (i100 hI) rfl rfl rfl ?_
  refine J_iload_n dX8_countYearsOf_7 rfl 1 rfl ?_
  refine J_iale (x := v 110 x1.toNatClampNeg) dX8_countYearsOf_8 (i110 hI) rfl h1 rfl ?_
  refine J_istore (lv' := [(4, .int (v 110 x1.toNatClampNeg)), (0, .ref 900), (1, .int x1), (2, .int (nI g)), (3, .int (nI k))]) dX8_countYearsOf_9 (by decide) rfl ?_
  refine J_iload dX8_countYearsOf_11 0 rfl ?_
  refine J_iconst (x := (-1)) dX8_countYearsOf_13 (by decide) ?_
  refine J_icmp_ne (tgt := 21) dX8_countYearsOf_14 (by decide) (fun c1 => ?_) (fun c1 => ?_)
  · refine J_iload dX8_countYearsOf_21 0 rfl ?_
    refine J_iload_n dX8_countYearsOf_23 rfl 4 rfl ?_
    refine J_mmin dX8_countYearsOf_24 ml_X8_61 (by decide) (Nat.le_of_ble_eq_true rfl) ?_
    refine J_istore (lv' := [(5, .int (if (nI k) < (v 110 x1.toNatClampNeg) then (nI k) else (v 110 x1.toNatClampNeg))), (4, .int (v 110 x1.toNatClampNeg)), (0, .ref 900), (1, .int x1), (2, .int (nI g)), (3, .int (nI k))]) dX8_countYearsOf_27 (by decide) rfl ?_
    refine J_aload_n dX8_countYearsOf_29 rfl 2 rfl ?_
    refine J_getr (ci := 8) (j := 0) (t := 500) dX8_countYearsOf_30 fl_X8_23 (i900 hI) rfl rfl rfl ?_
    refine J_getr (ci := 5) (j := 0) (t := 501) dX8_countYearsOf_33 fl_X8_67 (i500 hI) rfl rfl rfl ?_
    refine J_iload_n dX8_countYearsOf_36 rfl 3 rfl ?_
    refine J_iale (x := v 501 x1.toNatClampNeg) dX8_countYearsOf_37 (i501 hI) rfl h1 rfl ?_
    refine J_bipush (x := 20) dX8_countYearsOf_38 (by decide) ?_
    refine J_iload_n dX8_countYearsOf_40 rfl 4 rfl ?_
    refine J_imul dX8_countYearsOf_41 ?_
    refine J_iadd dX8_countYearsOf_42 ?_
    refine J_istore (lv' := [(6, .int ((v 501 x1.toNatClampNeg) + (20 * (nI g)))), (5, .int (if (nI k) < (v 110 x1.toNatClampNeg) then (nI k) else (v 110 x1.toNatClampNeg))), (4, .int (v 110 x1.toNatClampNeg)), (0, .ref 900), (1, .int x1), (2, .int (nI g)), (3, .int (nI k))]) dX8_countYearsOf_43 (by decide) rfl ?_
    refine J_iload_n dX8_countYearsOf_45 rfl 5 rfl ?_
    refine J_bipush (x := 9) dX8_countYearsOf_46 (by decide) ?_
    refine J_icmp_ne (tgt := 56) dX8_countYearsOf_48 (by decide) (fun c2 => ?_) (fun c2 => ?_)
    · refine J_iload dX8_countYearsOf_56 1 rfl ?_
      refine J_iload dX8_countYearsOf_58 0 rfl ?_
      refine J_bipush (x := 18) dX8_countYearsOf_60 (by decide) ?_
      refine J_iadd dX8_countYearsOf_62 ?_
      refine J_mmin dX8_countYearsOf_63 ml_X8_61 (by decide) (Nat.le_of_ble_eq_true rfl) ?_
      refine J_istore (lv' := [(7, .int (if (((v 501 x1.toNatClampNeg) + (20 * (nI g))) + 18) < (if (nI k) < (v 110 x1.toNatClampNeg) then (nI k) else (v 110 x1.toNatClampNeg)) then (((v 501 x1.toNatClampNeg) + (20 * (nI g))) + 18) else (if (nI k) < (v 110 x1.toNatClampNeg) then (nI k) else (v 110 x1.toNatClampNeg)))), (6, .int ((v 501 x1.toNatClampNeg) + (20 * (nI g)))), (5, .int (if (nI k) < (v 110 x1.toNatClampNeg) then (nI k) else (v 110 x1.toNatClampNeg))), (4, .int (v 110 x1.toNatClampNeg)), (0, .ref 900), (1, .int x1), (2, .int (nI g)), (3, .int (nI k))]) dX8_countYearsOf_66 (by decide) rfl ?_
      refine J_iload dX8_countYearsOf_68 1 rfl ?_
      refine J_istore (lv' := [(8, .int ((v 501 x1.toNatClampNeg) + (20 * (nI g)))), (7, .int (if (((v 501 x1.toNatClampNeg) + (20 * (nI g))) + 18) < (if (nI k) < (v 110 x1.toNatClampNeg) then (nI k) else (v 110 x1.toNatClampNeg)) then (((v 501 x1.toNatClampNeg) + (20 * (nI g))) + 18) else (if (nI k) < (v 110 x1.toNatClampNeg) then (nI k) else (v 110 x1.toNatClampNeg)))), (6, .int ((v 501 x1.toNatClampNeg) + (20 * (nI g)))), (5, .int (if (nI k) < (v 110 x1.toNatClampNeg) then (nI k) else (v 110 x1.toNatClampNeg))), (4, .int (v 110 x1.toNatClampNeg)), (0, .ref 900), (1, .int x1), (2, .int (nI g)), (3, .int (nI k))]) dX8_countYearsOf_70 (by decide) rfl ?_
      refine J_lv [5, 6, 7, 8, 4, 3, 2, 1, 0] rfl ?_
      have e1 := cyLast_le (dd := v 110 x1.toNatClampNeg) hk
      have e2 := cyStart (b := v 501 x1.toNatClampNeg) (g := g) hb1 hb2 hg
      have e3 := cyStop_lt (b := v 501 x1.toNatClampNeg) hb1 hb2 hg e1
      have e0 := cyLast (v 110 x1.toNatClampNeg) (nI k)
      refine J_ve (up34 v).symm ?_
      unfold f_cyo cyO1
      unfold cyLast at e3 ⊢
      rw [if_neg c1] at e3 ⊢
      unfold cyStop at e3 ⊢
      rw [if_neg c2] at e3 ⊢
      exact cy_L hI v u x1 (nI k) _ _ _ _ g (yrN g) (by have := yrN_le g; omega) (by omega) (by omega) e3 (v 900 3, v 900 4) (yrN g + 1) 0 _ _ _ (by omega) (by omega) (by rw [show nI (2 * 0) = 0 from rfl, Int32.add_zero]) rfl
    · refine J_iload dX8_countYearsOf_51 1 rfl ?_
      refine J_goto (tgt := 66) dX8_countYearsOf_53 (by decide) ?_
      refine J_istore (lv' := [(7, .int (if (nI k) < (v 110 x1.toNatClampNeg) then (nI k) else (v 110 x1.toNatClampNeg))), (6, .int ((v 501 x1.toNatClampNeg) + (20 * (nI g)))), (5, .int (if (nI k) < (v 110 x1.toNatClampNeg) then (nI k) else (v 110 x1.toNatClampNeg))), (4, .int (v 110 x1.toNatClampNeg)), (0, .ref 900), (1, .int x1), (2, .int (nI g)), (3, .int (nI k))]) dX8_countYearsOf_66 (by decide) rfl ?_
      refine J_iload dX8_countYearsOf_68 1 rfl ?_
      refine J_istore (lv' := [(8, .int ((v 501 x1.toNatClampNeg) + (20 * (nI g)))), (7, .int (if (nI k) < (v 110 x1.toNatClampNeg) then (nI k) else (v 110 x1.toNatClampNeg))), (6, .int ((v 501 x1.toNatClampNeg) + (20 * (nI g)))), (5, .int (if (nI k) < (v 110 x1.toNatClampNeg) then (nI k) else (v 110 x1.toNatClampNeg))), (4, .int (v 110 x1.toNatClampNeg)), (0, .ref 900), (1, .int x1), (2, .int (nI g)), (3, .int (nI k))]) dX8_countYearsOf_70 (by decide) rfl ?_
      refine J_lv [5, 6, 7, 8, 4, 3, 2, 1, 0] rfl ?_
      have e1 := cyLast_le (dd := v 110 x1.toNatClampNeg) hk
      have e2 := cyStart (b := v 501 x1.toNatClampNeg) (g := g) hb1 hb2 hg
      have e3 := cyStop_lt (b := v 501 x1.toNatClampNeg) hb1 hb2 hg e1
      have e0 := cyLast (v 110 x1.toNatClampNeg) (nI k)
      refine J_ve (up34 v).symm ?_
      unfold f_cyo cyO1
      unfold cyLast at e3 ⊢
      rw [if_neg c1] at e3 ⊢
      unfold cyStop at e3 ⊢
      rw [if_pos c2] at e3 ⊢
      exact cy_L hI v u x1 (nI k) _ _ _ _ g (yrN g) (by have := yrN_le g; omega) (by omega) (by omega) e3 (v 900 3, v 900 4) (yrN g + 1) 0 _ _ _ (by omega) (by omega) (by rw [show nI (2 * 0) = 0 from rfl, Int32.add_zero]) rfl
  · refine J_iload_n dX8_countYearsOf_17 rfl 4 rfl ?_
    refine J_goto (tgt := 27) dX8_countYearsOf_18 (by decide) ?_
    refine J_istore (lv' := [(5, .int (nI k)), (4, .int (v 110 x1.toNatClampNeg)), (0, .ref 900), (1, .int x1), (2, .int (nI g)), (3, .int (nI k))]) dX8_countYearsOf_27 (by decide) rfl ?_
    refine J_aload_n dX8_countYearsOf_29 rfl 2 rfl ?_
    refine J_getr (ci := 8) (j := 0) (t := 500) dX8_countYearsOf_30 fl_X8_23 (i900 hI) rfl rfl rfl ?_
    refine J_getr (ci := 5) (j := 0) (t := 501) dX8_countYearsOf_33 fl_X8_67 (i500 hI) rfl rfl rfl ?_
    refine J_iload_n dX8_countYearsOf_36 rfl 3 rfl ?_
    refine J_iale (x := v 501 x1.toNatClampNeg) dX8_countYearsOf_37 (i501 hI) rfl h1 rfl ?_
    refine J_bipush (x := 20) dX8_countYearsOf_38 (by decide) ?_
    refine J_iload_n dX8_countYearsOf_40 rfl 4 rfl ?_
    refine J_imul dX8_countYearsOf_41 ?_
    refine J_iadd dX8_countYearsOf_42 ?_
    refine J_istore (lv' := [(6, .int ((v 501 x1.toNatClampNeg) + (20 * (nI g)))), (5, .int (nI k)), (4, .int (v 110 x1.toNatClampNeg)), (0, .ref 900), (1, .int x1), (2, .int (nI g)), (3, .int (nI k))]) dX8_countYearsOf_43 (by decide) rfl ?_
    refine J_iload_n dX8_countYearsOf_45 rfl 5 rfl ?_
    refine J_bipush (x := 9) dX8_countYearsOf_46 (by decide) ?_
    refine J_icmp_ne (tgt := 56) dX8_countYearsOf_48 (by decide) (fun c3 => ?_) (fun c3 => ?_)
    · refine J_iload dX8_countYearsOf_56 1 rfl ?_
      refine J_iload dX8_countYearsOf_58 0 rfl ?_
      refine J_bipush (x := 18) dX8_countYearsOf_60 (by decide) ?_
      refine J_iadd dX8_countYearsOf_62 ?_
      refine J_mmin dX8_countYearsOf_63 ml_X8_61 (by decide) (Nat.le_of_ble_eq_true rfl) ?_
      refine J_istore (lv' := [(7, .int (if (((v 501 x1.toNatClampNeg) + (20 * (nI g))) + 18) < (nI k) then (((v 501 x1.toNatClampNeg) + (20 * (nI g))) + 18) else (nI k))), (6, .int ((v 501 x1.toNatClampNeg) + (20 * (nI g)))), (5, .int (nI k)), (4, .int (v 110 x1.toNatClampNeg)), (0, .ref 900), (1, .int x1), (2, .int (nI g)), (3, .int (nI k))]) dX8_countYearsOf_66 (by decide) rfl ?_
      refine J_iload dX8_countYearsOf_68 1 rfl ?_
      refine J_istore (lv' := [(8, .int ((v 501 x1.toNatClampNeg) + (20 * (nI g)))), (7, .int (if (((v 501 x1.toNatClampNeg) + (20 * (nI g))) + 18) < (nI k) then (((v 501 x1.toNatClampNeg) + (20 * (nI g))) + 18) else (nI k))), (6, .int ((v 501 x1.toNatClampNeg) + (20 * (nI g)))), (5, .int (nI k)), (4, .int (v 110 x1.toNatClampNeg)), (0, .ref 900), (1, .int x1), (2, .int (nI g)), (3, .int (nI k))]) dX8_countYearsOf_70 (by decide) rfl ?_
      refine J_lv [5, 6, 7, 8, 4, 3, 2, 1, 0] rfl ?_
      have e1 := cyLast_le (dd := v 110 x1.toNatClampNeg) hk
      have e2 := cyStart (b := v 501 x1.toNatClampNeg) (g := g) hb1 hb2 hg
      have e3 := cyStop_lt (b := v 501 x1.toNatClampNeg) hb1 hb2 hg e1
      have e0 := cyLast (v 110 x1.toNatClampNeg) (nI k)
      refine J_ve (up34 v).symm ?_
      unfold f_cyo cyO1
      unfold cyLast at e3 ⊢
      rw [if_pos c1] at e3 ⊢
      unfold cyStop at e3 ⊢
      rw [if_neg c3] at e3 ⊢
      exact cy_L hI v u x1 (nI k) _ _ _ _ g (yrN g) (by have := yrN_le g; omega) (by omega) (by omega) e3 (v 900 3, v 900 4) (yrN g + 1) 0 _ _ _ (by omega) (by omega) (by rw [show nI (2 * 0) = 0 from rfl, Int32.add_zero]) rfl
    · refine J_iload dX8_countYearsOf_51 1 rfl ?_
      refine J_goto (tgt := 66) dX8_countYearsOf_53 (by decide) ?_
      refine J_istore (lv' := [(7, .int (nI k)), (6, .int ((v 501 x1.toNatClampNeg) + (20 * (nI g)))), (5, .int (nI k)), (4, .int (v 110 x1.toNatClampNeg)), (0, .ref 900), (1, .int x1), (2, .int (nI g)), (3, .int (nI k))]) dX8_countYearsOf_66 (by decide) rfl ?_
      refine J_iload dX8_countYearsOf_68 1 rfl ?_
      refine J_istore (lv' := [(8, .int ((v 501 x1.toNatClampNeg) + (20 * (nI g)))), (7, .int (nI k)), (6, .int ((v 501 x1.toNatClampNeg) + (20 * (nI g)))), (5, .int (nI k)), (4, .int (v 110 x1.toNatClampNeg)), (0, .ref 900), (1, .int x1), (2, .int (nI g)), (3, .int (nI k))]) dX8_countYearsOf_70 (by decide) rfl ?_
      refine J_lv [5, 6, 7, 8, 4, 3, 2, 1, 0] rfl ?_
      have e1 := cyLast_le (dd := v 110 x1.toNatClampNeg) hk
      have e2 := cyStart (b := v 501 x1.toNatClampNeg) (g := g) hb1 hb2 hg
      have e3 := cyStop_lt (b := v 501 x1.toNatClampNeg) hb1 hb2 hg e1
      have e0 := cyLast (v 110 x1.toNatClampNeg) (nI k)
      refine J_ve (up34 v).symm ?_
      unfold f_cyo cyO1
      unfold cyLast at e3 ⊢
      rw [if_pos c1] at e3 ⊢
      unfold cyStop at e3 ⊢
      rw [if_pos c3] at e3 ⊢
      exact cy_L hI v u x1 (nI k) _ _ _ _ g (yrN g) (by have := yrN_le g; omega) (by omega) (by omega) e3 (v 900 3, v 900 4) (yrN g + 1) 0 _ _ _ (by omega) (by omega) (by rw [show nI (2 * 0) = 0 from rfl, Int32.add_zero]) rfl
def cyO (v : fr_V) (x1 : Int32) (g : Nat) (x3 : Int32) (p : Int32 × Int32) : Nat → Int32 × Int32
  | 0 => p
  | i + 1 => if v 502 i = x1 then cyO1 v (nI i) g x3 (cyO v x1 g x3 p i) else cyO v x1 g x3 p i
theorem cyO_s (v : fr_V) (x1 : Int32) (g : Nat) (x3 : Int32) (p : Int32 × Int32) (i : Nat) : cyO v x1 g x3 p (i + 1) = if v 502 i = x1 then cyO1 v (nI i) g x3 (cyO v x1 g x3 p i) else cyO v x1 g x3 p i := rfl
def f_cy (v : fr_V) (n : Nat) (x1 : Int32) (g : Nat) (x3 : Int32) : Int32 × Int32 := cyO v x1 g x3 (0, 0) n
def w_cy (v : fr_V) (q : Int32 × Int32) : fr_V := up2 (up2 v 900 3 q.1) 900 4 q.2
def lf8 (n : Nat) (v : fr_V) : Prop := n ≤ 12 ∧ v 500 2 = nI n ∧ ∀ i, i < n → (-160 ≤ (v 501 i).toInt ∧ (v 501 i).toInt ≤ 79)
theorem cyo_w {v : fr_V} {x1 x3 p q : Int32} {g : Nat} : f_cyo (up2 (up2 v 900 3 p) 900 4 q) x1 g x3 = up2 (up2 v 900 3 (cyO1 v x1 g x3 (p, q)).1) 900 4 (cyO1 v x1 g x3 (p, q)).2 := by
  unfold f_cyo
  rw [y_b, y_e]
  rfl
theorem cyO_L {l : Launch} {I : List Nat} (hI : fr_I I) (v : fr_V) (u : fr_U) (x1 : Int32) (g k n : Nat) (hg : g ≤ 9) (hk : k < 80) (hv : lf8 n v) (hn : n ≤ 12) : ∀ (d i : Nat) (p q : Int32) (hd : n - i < d) (hj : i ≤ n) (hpq : (p, q) = cyO v x1 g (nI k) (0, 0) i), J l mX8_countYears I (up2 (up2 v 900 3 p) 900 4 q) u 13 [(0, .ref 900), (1, .int x1), (2, .int (nI g)), (3, .int (nI k)), (4, .int (nI i))] [] (QN u (fun a => a = w_cy v (f_cy v n x1 g (nI k)))) := by
  intro d
  induction d with
  | zero => intros; omega
  | succ d ih =>
    intro i p q hd hj hpq
    refine J_iload dX8_countYears_13 4 rfl ?_
    refine J_aload_n dX8_countYears_15 rfl 0 rfl ?_
    refine J_getr (ci := 8) (j := 0) (t := 500) dX8_countYears_16 fl_X8_23 (i900 hI) rfl rfl rfl ?_
    refine J_gete (ci := 5) (j := 2) (x := nI n) dX8_countYears_19 fl_X8_44 (i500 hI) rfl rfl hv.2.1 ?_
    refine J_icmp_ge (tgt := 53) dX8_countYears_22 (by decide) (fun c1 => ?_) (fun c1 => ?_)
    · exact J_vret dX8_countYears_53 rfl ⟨rfl, rfl, by have e : i = n := by {have := nz_le (by omega) (by omega) c1; omega}; unfold w_cy f_cy; rw [← e, ← hpq]⟩
    · have hin : i < n := nz_nle (by omega) (by omega) c1
      refine J_aload_n dX8_countYears_25 rfl 0 rfl ?_
      refine J_getr (ci := 8) (j := 0) (t := 500) dX8_countYears_26 fl_X8_23 (i900 hI) rfl rfl rfl ?_
      refine J_getr (ci := 5) (j := 1) (t := 502) dX8_countYears_29 fl_X8_49 (i500 hI) rfl rfl rfl ?_
      refine J_iload dX8_countYears_32 4 rfl ?_
      refine J_iale (x := v 502 i) dX8_countYears_34 (i502 hI) rfl (ix_in (j := i) rfl (by omega) (by omega)) ((congrArg _ (ix_cl (j := i) rfl (by omega))).trans rfl) ?_
      refine J_iload_n dX8_countYears_35 rfl 1 rfl ?_
      refine J_icmp_ne (tgt := 47) dX8_countYears_36 (by decide) (fun c2 => ?_) (fun c2 => ?_)
      · refine J_iinc (q := 4) (z := nI (i + 1)) (lv' := [(4, .int (nI (i + 1))), (0, .ref 900), (1, .int x1), (2, .int (nI g)), (3, .int (nI k))]) dX8_countYears_47 rfl (nI_1 i) (by decide) rfl ?_
        refine J_goto (tgt := 13) dX8_countYears_50 (by decide) ?_
        refine J_lv [1, 2, 3, 4, 0] rfl ?_
        exact ih (i + 1) _ _ (by omega) (by omega) (by rw [cyO_s, ← hpq, if_neg c2])
      · refine J_aload_n dX8_countYears_39 rfl 0 rfl ?_
        refine J_iload dX8_countYears_40 4 rfl ?_
        refine J_iload_n dX8_countYears_42 rfl 2 rfl ?_
        refine J_iload_n dX8_countYears_43 rfl 3 rfl ?_
        refine J_eVN (z := mX8_countYearsOf) (As := [.int (nI i), .int (nI g), .int (nI k)]) (rest := []) (ci := 8) (w := up2 (up2 v 900 3 (cyO1 v (nI i) g (nI k) (p, q)).1) 900 4 (cyO1 v (nI i) g (nI k) (p, q)).2) dX8_countYears_44 ml_X8_52 ok_X8_countYearsOf iv_X8_countYearsOf (by decide) (i900 hI) rfl rfl rfl rfl (Nat.le_of_ble_eq_true rfl) ((cyo_w (v := v) (x1 := nI i) (x3 := nI k) (p := p) (q := q) (g := g)) ▸ k_X8_countYearsOf hI (up2 (up2 v 900 3 p) 900 4 q) u (nI i) g k (vp_in_nI (by omega) (by omega)) hg hk (by rw [nI_clamp (by omega)]; exact (hv.2.2 i hin).1) (by rw [nI_clamp (by omega)]; exact (hv.2.2 i hin).2)) ?_
        refine J_iinc (q := 4) (z := nI (i + 1)) (lv' := [(4, .int (nI (i + 1))), (0, .ref 900), (1, .int x1), (2, .int (nI g)), (3, .int (nI k))]) dX8_countYears_47 rfl (nI_1 i) (by decide) rfl ?_
        refine J_goto (tgt := 13) dX8_countYears_50 (by decide) ?_
        refine J_lv [1, 2, 3, 4, 0] rfl ?_
        exact ih (i + 1) _ _ (by omega) (by omega) (by rw [cyO_s, ← hpq, if_pos c2])
theorem k_X8_countYears {l : Launch} {I : List Nat} (hI : fr_I I) (v : fr_V) (u : fr_U) (x1 : Int32) (g k n : Nat) (hg : g ≤ 9) (hk : k < 80) (hv : lf8 n v) : Con l mX8_countYears I v u [.ref 900, .int x1, .int (nI g), .int (nI k)] (QN u (fun a => a = w_cy v (f_cy v n x1 g (nI k)))) := by
  refine Con.of (by decide) (Nat.le_of_ble_eq_true rfl) ?_
  show J l mX8_countYears I v u 0 [(0, .ref 900), (1, .int x1), (2, .int (nI g)), (3, .int (nI k))] [] _
  refine J_aload_n dX8_countYears_0 rfl 0 rfl ?_
  refine J_iconst (x := 0) dX8_countYears_1 (by decide) ?_
  refine J_puti (ci := 8) (j := 3) dX8_countYears_2 fl_X8_37 (i900 hI) rfl rfl (fun q h => by cases h; rfl) rfl ?_
  refine J_aload_n dX8_countYears_5 rfl 0 rfl ?_
  refine J_iconst (x := 0) dX8_countYears_6 (by decide) ?_
  refine J_puti (ci := 8) (j := 4) dX8_countYears_7 fl_X8_41 (i900 hI) rfl rfl (fun q h => by cases h; rfl) rfl ?_
  refine J_iconst (x := 0) dX8_countYears_10 (by decide) ?_
  refine J_istore (lv' := [(4, .int 0), (0, .ref 900), (1, .int x1), (2, .int (nI g)), (3, .int (nI k))]) dX8_countYears_11 (by decide) rfl ?_
  refine J_lv [1, 2, 3, 4, 0] rfl ?_
  exact cyO_L hI v u x1 g k n hg hk hv hv.1 (n + 1) 0 _ _ (by omega) (by omega) rfl
